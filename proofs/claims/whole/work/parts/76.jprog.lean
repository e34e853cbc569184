/-! ===== programs: class and model read the same ===== -/
/-- the model's code: its head, and the rules behind it -/
def xHd (hd body : List Int32) (RS : List xRu) : Prop := hd.length = 7 ∧ hd.getD 0 0 = nI RS.length ∧ RS.length ≤ 6 ∧ ∀ k, k < RS.length → ∃ st, hd.getD (k + 1) 0 = nI (7 + st) ∧ st + (mrule (RS.getD k ([], []))).length ≤ body.length ∧ ∀ t, t < (mrule (RS.getD k ([], []))).length → body.getD (st + t) 0 = (mrule (RS.getD k ([], []))).getD t 0
theorem xHd_step {hd body : List Int32} {RS : List xRu} {R : xRu} (h : xHd hd body RS) (hl : RS.length < 6) : xHd (xhd hd RS.length (7 + body.length)) (body ++ mrule R) (RS ++ [R]) := by
  obtain ⟨h1, h2, h3, h4⟩ := h
  have l0 : (hd.set 0 (nI (RS.length + 1))).length = 7 := by rw [List.length_set, h1]
  have lR : (RS ++ [R]).length = RS.length + 1 := by simp
  refine ⟨by unfold xhd; rw [List.length_set, l0], ?_, by rw [lR]; omega, fun k hk => ?_⟩
  · unfold xhd
    rw [gd_set (by omega), if_neg (by omega), gd_set (by omega), if_pos rfl, lR]
  · rw [lR] at hk
    by_cases e : k = RS.length
    · refine ⟨body.length, ?_, ?_, fun t ht => ?_⟩
      · unfold xhd
        rw [gd_set (by omega), if_pos (by omega)]
      · rw [e, gd_mid, List.length_append]
        exact Nat.le_refl _
      · rw [e, gd_mid, gd_r (by omega), Nat.add_sub_cancel_left]
    · obtain ⟨st, a1, a2, a3⟩ := h4 k (by omega)
      rw [gd_l (show k < RS.length by omega)]
      refine ⟨st, ?_, ?_, fun t ht => ?_⟩
      · unfold xhd
        rw [gd_set (by omega), if_neg (by omega), gd_set (by omega), if_neg (by omega)]
        exact a1
      · rw [List.length_append]
        omega
      · rw [gd_l (by omega)]
        exact a3 t ht
def xGp (T i c : Nat) (o : Nat ⊕ (List xRu × Nat × Nat)) : Prop := match o with
  | .inl j => j < T
  | .inr (RS, i', _) => i' < T ∧ (xrs (c + 1) RS).length + i + 1 ≤ i' + RS.length ∧ (∀ r ∈ RS, xWr r) ∧ c + RS.length ≤ 6
def xCg (G : xG) (nx sl B n : Nat) (tb : Nat → Nat) (T dd : Nat) (em : List (Nat × Int32)) (c : Nat) (h : xH) (o : Nat ⊕ (List xRu × Nat × Nat)) : Prop := match o with
  | .inl j => ∃ h', xRun G dd 23 (36, [some (.ref (B + 3)), some (.int 1), some (.int (nI (c + 1)))], [], (h, nx, sl)) (some (.int (nI (tP n tb j))), (h', nx, sl)) ∧ xfr B h h' ∧ ∃ em' i' p' ft', xCs B n tb T em' i' p' ft' h'
  | .inr (RS, i', p') => ∃ h', xRun G dd 23 (36, [some (.ref (B + 3)), some (.int 1), some (.int (nI (c + 1)))], [], (h, nx, sl)) (some (.int (-2)), (h', nx, sl)) ∧ xfr B h h' ∧ xCs B n tb T (em ++ xrs (c + 1) RS) i' p' (-2) h'
def xMg (G : xG) (nx sl M n : Nat) (tb : Nat → Nat) (tn tk rk : Int32) (lt : Value) (pc od : Int32) (dd : Nat) (RS0 : List xRu) (h : xH) (o : Nat ⊕ (List xRu × Nat × Nat)) : Prop := match o with
  | .inl j => ∃ x h1 h2, xRun G (dd - 1) 88 (0, [some (.ref M), none, none, none], [], (h, nx, sl)) (some (.int x), (h1, nx, sl)) ∧ (∃ fs, h1 M = some (.inr (10, fs))) ∧ xRun G dd 83 (50, [some (.ref M), some (.int x)], [], (h1, nx, sl)) (some (.int (nI (tP n tb j))), (h2, nx, sl)) ∧ xfm M h h2 ∧ xMq M n tb tn tk rk lt pc od (nI (tP n tb j)) h2
  | .inr (RS, i', p') => ∃ x h1 h2, xRun G (dd - 1) 88 (0, [some (.ref M), none, none, none], [], (h, nx, sl)) (some (.int x), (h1, nx, sl)) ∧ (∃ fs, h1 M = some (.inr (10, fs))) ∧ (∀ res, xRun G dd 83 (103, [some (.ref M), some (.int 1)], [], (h2, nx, sl)) res → xRun G dd 83 (50, [some (.ref M), some (.int x)], [], (h1, nx, sl)) res) ∧ xfm M h h2 ∧ ∃ hd' body', xHd hd' body' (RS0 ++ RS) ∧ body'.length ≤ 3 * i' + 2 * (RS0 ++ RS).length ∧ xMp M n tb tn tk rk lt pc od (hd' ++ body') i' p' (-1) h2
section XJPROG
variable {G : xG} {d nx sl B M n : Nat} {tb : Nat → Nat} {T : Nat} {tn tk rk : Int32} {lt : Value} {pc od : Int32} {i p : Nat} {h : xH} {em : List (Nat × Int32)} {ft : Int32}
theorem mp_fault {x : Nat} (hM : xMq M n tb tn tk rk lt pc od (nI x) h) (hx : x < 2 ^ 31) (L1 : Int32) : xRun G d 83 (91, [some (.ref M), some (.int L1)], [], (h, nx, sl)) (some (.int (nI x)), (h, nx, sl)) := by
  obtain ⟨⟨_, _, _, _, _, _, _, hO⟩, -⟩ := hM
  refine xr_go i83_91 rfl ?_
  refine xr_get i83_92 xf83_149 (by assumption) rfl rfl ?_
  refine xr_if_ltF i83_95 (t := 103) (by decide) (nI_pos hx) ?_
  refine xr_go i83_98 rfl ?_
  refine xr_get i83_99 xf83_149 (by assumption) rfl rfl ?_
  exact xr_iret i83_102 xt_83 rfl
theorem mp_fault0 {x : Nat} (hM : xMq M n tb tn tk rk lt pc od (nI x) h) (hx : x < 2 ^ 31) : xRun G d 83 (50, [some (.ref M), some (.int 0)], [], (h, nx, sl)) (some (.int (nI x)), (h, nx, sl)) := by
  have r := mp_fault (G := G) (d := d) (nx := nx) (sl := sl) hM hx 0
  refine xr_go i83_50 rfl ?_
  refine xr_if_eqT i83_51 (t := 75) (by decide) rfl ?_
  refine xr_go i83_75 rfl ?_
  refine xr_if_eqT i83_76 (t := 91) (by decide) rfl ?_
  exact r
set_option maxHeartbeats 8000000 in
theorem j_prog (ht : xTok G n tb T) : ∀ m i p (RS0 : List xRu), T ≤ i + m → i < T → p ≤ 80 → RS0.length ≤ 6 → ∃ o, xGp T i RS0.length o ∧ (∀ dd h em, 31 ≤ dd → em.length ≤ i + RS0.length → xCs B n tb T em i p (-2) h → xCg G nx sl B n tb T dd em RS0.length h o) ∧ ∀ nx sl dd h hd body, 32 ≤ dd → xHd hd body RS0 → body.length ≤ 3 * i + 2 * RS0.length → xMp M n tb tn tk rk lt pc od (hd ++ body) i p (-1) h → xMg G nx sl M n tb tn tk rk lt pc od dd RS0 h o := by
  intro m
  induction m with
  | zero => intro i p RS0 h1 h2; omega
  | succ m ih =>
    intro i p RS0 hm hi hp hc6
    have ht0 := ht
    obtain ⟨hG, hn, hb, hT, hT4⟩ := ht
    have tPl : ∀ j, tP n tb j < 2 ^ 31 := fun j => by have := tP_le (n := n) (tb := tb) j; omega
    by_cases e6 : RS0.length = 6
    · refine ⟨.inl i, hi, fun dd h em hdd he hC => ?_, fun nx sl dd h hd body hdd hH hbl hM => ?_⟩
      · obtain ⟨h1, r1, a1, a2⟩ := c_fail_ok (G := G) (d := dd - 1) (nx := nx) (sl := sl) hC hi hT
        have h3 := hC.2.1
        have a23 := a2.2.1
        rw [e6]
        refine ⟨h1, ?_, a1, em, i, p, _, a2⟩
        refine xr_go i23_36 rfl ?_
        refine xr_if_eqF i23_37 (t := 80) (by decide) (by first | exact (show ¬ (1 : Int32) = 0 by decide) | decide) ?_
        refine xr_go i23_40 rfl ?_
        refine xr_go i23_41 rfl ?_
        refine xr_icmp_gtT i23_43 (t := 80) (by decide) (by decide) ?_
        refine xr_go i23_80 rfl ?_
        refine xr_if_neT i23_81 (t := 91) (by decide) (by first | exact (show ¬ (1 : Int32) = 0 by decide) | decide) ?_
        refine xr_go i23_91 rfl ?_
        refine xr_V i23_92 xc23_68 ⟨rfl, rfl⟩ xa_30 rfl (by assumption) rfl (Nat.le_of_ble_eq_true rfl) (by omega) ⟨Nat.le_of_ble_eq_true rfl, Nat.le_of_ble_eq_true rfl⟩ (r1) ?_
        refine xr_go i23_95 rfl ?_
        refine xr_get i23_96 xf23_35 (by assumption) rfl rfl ?_
        exact xr_iret i23_99 xt_23 rfl
      · obtain ⟨h1, r1, a1, a2⟩ := m_badP (G := G) (d := dd - 1 - 1) (nx := nx) (sl := sl) hM
        obtain ⟨f, hf0, hf1, hf2⟩ := xMp_arr hM
        obtain ⟨hh7, hh0, -⟩ := hH
        have hfc : f 0 = nI 6 := by rw [hf1 0 (by rw [List.length_append]; omega), gd_l (by omega), hh0, e6]
        obtain ⟨⟨nu, -, hO⟩, -⟩ := hM
        have a20 := a2
        obtain ⟨⟨_, _, _, _, _, _, _, hO1⟩, -⟩ := a20
        refine ⟨0, h1, h1, ?_, ⟨_, hO1⟩, mp_fault0 a2 (tPl i), a1, a2⟩
        refine xr_go i88_0 rfl ?_
        refine xr_get i88_1 xf88_55 (by assumption) rfl rfl ?_
        refine xr_go i88_4 rfl ?_
        refine xr_iald i88_5 (by assumption) (show (0 : Int32) = nI 0 from rfl) (by omega) (by omega) ?_
        rw [hfc]
        refine xr_go i88_6 rfl ?_
        refine xr_icmp_neF i88_8 (t := 16) (by decide) rfl ?_
        refine xr_go i88_11 rfl ?_
        refine xr_V i88_12 xc88_152 ⟨rfl, rfl⟩ xa_89 rfl (by assumption) rfl (Nat.le_of_ble_eq_true rfl) (by omega) ⟨Nat.le_of_ble_eq_true rfl, Nat.le_of_ble_eq_true rfl⟩ (r1) ?_
        exact xr_iret i88_15 xt_88 rfl
    have hc : RS0.length < 6 := by omega
    obtain ⟨o1, g1, c1, m1⟩ := j_rule (G := G) (nx := nx) (sl := sl) (B := B) (M := M) (tn := tn) (tk := tk) (rk := rk) (lt := lt) (pc := pc) (od := od) ht0 hi hp
    have headC : ∀ dd (h : xH) (res : Option Value × xW), xRun G dd 23 (46, [some (.ref (B + 3)), some (.int 1), some (.int (nI (RS0.length + 1)))], [], (h, nx, sl)) res → xRun G dd 23 (36, [some (.ref (B + 3)), some (.int 1), some (.int (nI (RS0.length + 1)))], [], (h, nx, sl)) res := by
      intro dd h res r
      refine xr_go i23_36 rfl ?_
      refine xr_if_eqF i23_37 (t := 80) (by decide) (by first | exact (show ¬ (1 : Int32) = 0 by decide) | decide) ?_
      refine xr_go i23_40 rfl ?_
      refine xr_go i23_41 rfl ?_
      refine xr_icmp_gtF i23_43 (t := 80) (by decide) (show ¬ nI 6 < nI (RS0.length + 1) from nI_nlt (by omega) (by omega)) ?_
      exact r
    cases o1 with
    | inl j =>
      have g' : i ≤ j ∧ j < T := g1
      refine ⟨.inl j, g'.2, fun dd h em hdd he hC => ?_, fun nx sl dd h hd body hdd hH hbl hM => ?_⟩
      · obtain ⟨h1, r1, a1, em', p', a2, a3⟩ := c1 dd h em (RS0.length + 1) (by omega) (by omega) hC
        exact ⟨h1, headC dd h _ r1, a1, em', j, p', _, a3⟩
      · obtain ⟨h1, r1, a1, a2⟩ := m1 nx sl (dd - 1) h hd body RS0.length (by omega) hH.1 hH.2.1 hc (by omega) hM
        have a20 : xMq M n tb tn tk rk lt pc od (nI (tP n tb j)) h1 := a2
        have a21 := a20
        obtain ⟨⟨_, _, _, _, _, _, _, hO1⟩, -⟩ := a21
        exact ⟨0, h1, h1, r1, ⟨_, hO1⟩, mp_fault0 a20 (tPl j), a1, a20⟩
    | inr v =>
      obtain ⟨R, i1, p1⟩ := v
      have g' : i + 1 ≤ i1 ∧ i1 < T ∧ (xru R).length + i + 2 ≤ i1 ∧ (mrule R).length + 3 * i ≤ 3 * i1 + 2 ∧ p1 ≤ 80 ∧ xWr R := g1
      obtain ⟨q1, q2, q3, q3', q4, q5⟩ := g'
      have lR : (RS0 ++ [R]).length = RS0.length + 1 := by simp
      have ruleM : ∀ nx sl dd h hd body, 32 ≤ dd → xHd hd body RS0 → body.length ≤ 3 * i + 2 * RS0.length → xMp M n tb tn tk rk lt pc od (hd ++ body) i p (-1) h → ∃ h1 hd1 body1, xRun G (dd - 1) 88 (0, [some (.ref M), none, none, none], [], (h, nx, sl)) (some (.int 1), (h1, nx, sl)) ∧ xfm M h h1 ∧ xHd hd1 body1 (RS0 ++ [R]) ∧ body1.length ≤ 3 * i1 + 2 * (RS0 ++ [R]).length ∧ xMp M n tb tn tk rk lt pc od (hd1 ++ body1) i1 p1 (-1) h1 := by
        intro nx sl dd h hd body hdd hH hbl hM
        obtain ⟨h1, r1, a1, a2⟩ := m1 nx sl (dd - 1) h hd body RS0.length (by omega) hH.1 hH.2.1 hc (by omega) hM
        exact ⟨h1, _, _, r1, a1, xHd_step (R := R) hH hc, by rw [List.length_append, lR]; omega, a2⟩
      by_cases h4 : tK n tb (tP n tb i1) = 4
      · have hi1 := tok_next hT4 q2 (by omega)
        obtain ⟨o2, g2, c2, m2⟩ := ih (i1 + 1) p1 (RS0 ++ [R]) (by omega) hi1 q4 (by omega)
        rw [lR] at g2
        have runC : ∀ dd h em, 31 ≤ dd → em.length ≤ i + RS0.length → xCs B n tb T em i p (-2) h → ∃ h2, (∀ res, xRun G dd 23 (36, [some (.ref (B + 3)), some (.int 1), some (.int (nI (RS0.length + 1 + 1)))], [], (h2, nx, sl)) res → xRun G dd 23 (36, [some (.ref (B + 3)), some (.int 1), some (.int (nI (RS0.length + 1)))], [], (h, nx, sl)) res) ∧ xfr B h h2 ∧ xCg G nx sl B n tb T dd (em ++ (xru R ++ [(99, nI (RS0.length + 1))])) (RS0.length + 1) h2 o2 := by
          intro dd h em hdd he hC
          obtain ⟨h1, r1, a1, a2⟩ := c1 dd h em (RS0.length + 1) (by omega) (by omega) hC
          have a2' : xCs B n tb T (em ++ (xru R ++ [(99, nI (RS0.length + 1))])) i1 p1 (-2) h1 := a2
          obtain ⟨h2, r2, b1, b2⟩ := c_acc_yes (G := G) (d := dd - 1) (nx := nx) (sl := sl) a2' hi1 hT h4
          have d1 := c2 dd h2 _ hdd (by simp only [List.length_append, List.length_singleton]; omega) b2
          rw [lR] at d1
          have a23 := a2'.2.1
          refine ⟨h2, fun res r => headC dd h _ (r1 _ ?_), a1.trans b1, d1⟩
          refine xr_go i23_68 rfl ?_
          refine xr_go i23_69 rfl ?_
          refine xr_V i23_70 xc23_48 ⟨rfl, rfl⟩ xa_24 rfl (by assumption) rfl (Nat.le_of_ble_eq_true rfl) (by omega) ⟨Nat.le_of_ble_eq_true rfl, Nat.le_of_ble_eq_true rfl⟩ (r2) ?_
          refine xr_go i23_73 rfl ?_
          refine xr_inc1 i23_74 rfl rfl ?_
          refine xr_goto i23_77 (t := 36) (by decide) ?_
          exact r
        have runM : ∀ nx sl dd h hd body, 32 ≤ dd → xHd hd body RS0 → body.length ≤ 3 * i + 2 * RS0.length → xMp M n tb tn tk rk lt pc od (hd ++ body) i p (-1) h → ∃ h1 h2, xRun G (dd - 1) 88 (0, [some (.ref M), none, none, none], [], (h, nx, sl)) (some (.int 1), (h1, nx, sl)) ∧ (∃ fs, h1 M = some (.inr (10, fs))) ∧ xfm M h h2 ∧ (∀ x h3 res, xRun G (dd - 1) 88 (0, [some (.ref M), none, none, none], [], (h2, nx, sl)) (some (.int x), (h3, nx, sl)) → xRun G dd 83 (50, [some (.ref M), some (.int x)], [], (h3, nx, sl)) res → xRun G dd 83 (50, [some (.ref M), some (.int 1)], [], (h1, nx, sl)) res) ∧ xMg G nx sl M n tb tn tk rk lt pc od dd (RS0 ++ [R]) h2 o2 := by
          intro nx sl dd h hd body hdd hH hbl hM
          obtain ⟨h1, hd1, body1, r1, a1, a2, a3, a4⟩ := ruleM nx sl dd h hd body hdd hH hbl hM
          have qa := m_isP (G := G) (d := dd - 1) (nx := nx) (sl := sl) (s := 3) hG (by omega) a4 hn hb (by omega)
          rw [decide_eq_true (show tK n tb (tP n tb i1) = tkind.getD 3 0 from h4)] at qa
          obtain ⟨h2, r2, b1, b2⟩ := m_stepP (G := G) (d := dd - 1) (nx := nx) (sl := sl) hG a4 hn hb (by omega)
          have d1 := m2 nx sl dd h2 hd1 body1 hdd a2 (by omega) b2
          obtain ⟨⟨nu, -, hO⟩, -⟩ := a4
          obtain ⟨⟨nu2, -, hO2⟩, -⟩ := b2
          refine ⟨h1, h2, r1, ⟨_, hO⟩, a1.trans b1, fun x h3 res r3 r => ?_, d1⟩
          refine xr_go i83_50 rfl ?_
          refine xr_if_eqF i83_51 (t := 75) (by decide) (by first | exact (show ¬ (1 : Int32) = 0 by decide) | decide) ?_
          refine xr_go i83_54 rfl ?_
          refine xr_ldc i83_55 xd83_108 rfl rfl ?_
          refine xr_V i83_57 xc83_102 ⟨rfl, rfl⟩ xa_86 rfl (by assumption) rfl (Nat.le_of_ble_eq_true rfl) (by omega) ⟨Nat.le_of_ble_eq_true rfl, Nat.le_of_ble_eq_true rfl⟩ (qa) ?_
          refine xr_if_eqF i83_60 (t := 75) (by decide) (by first | exact (show ¬ (1 : Int32) = 0 by decide) | decide) ?_
          refine xr_go i83_63 rfl ?_
          refine xr_V i83_64 xc83_156 ⟨rfl, rfl⟩ xa_84 rfl (by assumption) rfl (Nat.le_of_ble_eq_true rfl) (by omega) ⟨Nat.le_of_ble_eq_true rfl, Nat.le_of_ble_eq_true rfl⟩ (r2) ?_
          refine xr_go i83_67 rfl ?_
          refine xr_V i83_68 xc83_165 ⟨rfl, rfl⟩ xa_88 rfl (by assumption) rfl (Nat.le_of_ble_eq_true rfl) (by omega) ⟨Nat.le_of_ble_eq_true rfl, Nat.le_of_ble_eq_true rfl⟩ (r3) ?_
          refine xr_go i83_71 rfl ?_
          refine xr_goto i83_72 (t := 50) (by decide) ?_
          exact r
        cases o2 with
        | inl j =>
          refine ⟨.inl j, g2, fun dd h em hdd he hC => ?_, fun nx sl dd h hd body hdd hH hbl hM => ?_⟩
          · obtain ⟨h2, r2, b1, h3, r3, b2, b3⟩ := runC dd h em hdd he hC
            exact ⟨h3, r2 _ r3, b1.trans b2, b3⟩
          · obtain ⟨h1, h2, r1, a1, a2, a3, x, h3, h4, b1, b2, b3, b4, b5⟩ := runM nx sl dd h hd body hdd hH hbl hM
            exact ⟨1, h1, h4, r1, a1, a3 x h3 _ b1 b3, a2.trans b4, b5⟩
        | inr v =>
          obtain ⟨RS, i2, p2⟩ := v
          have g'' : i2 < T ∧ (xrs (RS0.length + 1 + 1) RS).length + (i1 + 1) + 1 ≤ i2 + RS.length ∧ (∀ r ∈ RS, xWr r) ∧ RS0.length + 1 + RS.length ≤ 6 := g2
          obtain ⟨s1, s2, s3, s4⟩ := g''
          refine ⟨.inr (R :: RS, i2, p2), ⟨s1, ?_, ?_, by rw [List.length_cons]; omega⟩, fun dd h em hdd he hC => ?_, fun nx sl dd h hd body hdd hH hbl hM => ?_⟩
          · unfold xrs
            rw [List.length_append, List.length_cons, List.length_cons]
            omega
          · intro z hz
            rcases List.mem_cons.mp hz with rfl | hz
            · exact q5
            · exact s3 z hz
          · obtain ⟨h2, r2, b1, h3, r3, b2, b3⟩ := runC dd h em hdd he hC
            refine ⟨h3, r2 _ r3, b1.trans b2, ?_⟩
            rw [List.append_assoc, List.append_assoc] at b3
            exact b3
          · obtain ⟨h1, h2, r1, a1, a2, a3, x, h3, h4, b1, b2, b3, b4, hd', body', b5, b6, b7⟩ := runM nx sl dd h hd body hdd hH hbl hM
            rw [List.append_assoc] at b5 b6
            exact ⟨1, h1, h4, r1, a1, fun res r => a3 x h3 _ b1 (b3 _ r), a2.trans b4, hd', body', b5, b6, b7⟩
      · have exitC : ∀ dd h em, 31 ≤ dd → em.length ≤ i + RS0.length → xCs B n tb T em i p (-2) h → ∃ h1, (∀ res, xRun G dd 23 (88, [some (.ref (B + 3)), some (.int 0), some (.int (nI (RS0.length + 1 + 1)))], [.int (nI (tK n tb (tP n tb i1)))], (h1, nx, sl)) res → xRun G dd 23 (36, [some (.ref (B + 3)), some (.int 1), some (.int (nI (RS0.length + 1)))], [], (h, nx, sl)) res) ∧ xfr B h h1 ∧ xCs B n tb T (em ++ (xru R ++ [(99, nI (RS0.length + 1))])) i1 p1 (-2) h1 := by
          intro dd h em hdd he hC
          obtain ⟨h1, r1, a1, a2⟩ := c1 dd h em (RS0.length + 1) (by omega) (by omega) hC
          have a2' : xCs B n tb T (em ++ (xru R ++ [(99, nI (RS0.length + 1))])) i1 p1 (-2) h1 := a2
          have r2 := c_acc_no (G := G) (d := dd - 1) (nx := nx) (sl := sl) (K := 4) a2' q2 hT (by omega) (Or.inr h4)
          have r3 := c_kind (G := G) (d := dd - 1) (nx := nx) (sl := sl) a2' q2 hT
          have a23 := a2'.2.1
          refine ⟨h1, fun res r => headC dd h _ (r1 _ ?_), a1, a2'⟩
          refine xr_go i23_68 rfl ?_
          refine xr_go i23_69 rfl ?_
          refine xr_V i23_70 xc23_48 ⟨rfl, rfl⟩ xa_24 rfl (by assumption) rfl (Nat.le_of_ble_eq_true rfl) (by omega) ⟨Nat.le_of_ble_eq_true rfl, Nat.le_of_ble_eq_true rfl⟩ (r2) ?_
          refine xr_go i23_73 rfl ?_
          refine xr_inc1 i23_74 rfl rfl ?_
          refine xr_goto i23_77 (t := 36) (by decide) ?_
          refine xr_go i23_36 rfl ?_
          refine xr_if_eqT i23_37 (t := 80) (by decide) rfl ?_
          refine xr_go i23_80 rfl ?_
          refine xr_if_neF i23_81 (t := 91) (by decide) rfl ?_
          refine xr_go i23_84 rfl ?_
          refine xr_V i23_85 xc23_64 ⟨rfl, rfl⟩ xa_31 rfl (by assumption) rfl (Nat.le_of_ble_eq_true rfl) (by omega) ⟨Nat.le_of_ble_eq_true rfl, Nat.le_of_ble_eq_true rfl⟩ (r3) ?_
          exact r
        have exitM : ∀ nx sl dd h hd body, 32 ≤ dd → xHd hd body RS0 → body.length ≤ 3 * i + 2 * RS0.length → xMp M n tb tn tk rk lt pc od (hd ++ body) i p (-1) h → ∃ h1 hd1 body1, xRun G (dd - 1) 88 (0, [some (.ref M), none, none, none], [], (h, nx, sl)) (some (.int 1), (h1, nx, sl)) ∧ xfm M h h1 ∧ xHd hd1 body1 (RS0 ++ [R]) ∧ body1.length ≤ 3 * i1 + 2 * (RS0 ++ [R]).length ∧ xMp M n tb tn tk rk lt pc od (hd1 ++ body1) i1 p1 (-1) h1 ∧ ∀ res, xRun G dd 83 (83, [some (.ref M), some (.int 1)], [.int (nI (tmk (tK n tb (tP n tb i1))))], (h1, nx, sl)) res → xRun G dd 83 (50, [some (.ref M), some (.int 1)], [], (h1, nx, sl)) res := by
          intro nx sl dd h hd body hdd hH hbl hM
          obtain ⟨h1, hd1, body1, r1, a1, a2, a3, a4⟩ := ruleM nx sl dd h hd body hdd hH hbl hM
          have qa := m_isP (G := G) (d := dd - 1) (nx := nx) (sl := sl) (s := 3) hG (by omega) a4 hn hb (by omega)
          rw [decide_eq_false (show ¬ tK n tb (tP n tb i1) = tkind.getD 3 0 from h4)] at qa
          have a40 := a4
          obtain ⟨⟨nu, -, hO⟩, -⟩ := a40
          refine ⟨h1, hd1, body1, r1, a1, a2, a3, a4, fun res r => ?_⟩
          refine xr_go i83_50 rfl ?_
          refine xr_if_eqF i83_51 (t := 75) (by decide) (by first | exact (show ¬ (1 : Int32) = 0 by decide) | decide) ?_
          refine xr_go i83_54 rfl ?_
          refine xr_ldc i83_55 xd83_108 rfl rfl ?_
          refine xr_V i83_57 xc83_102 ⟨rfl, rfl⟩ xa_86 rfl (by assumption) rfl (Nat.le_of_ble_eq_true rfl) (by omega) ⟨Nat.le_of_ble_eq_true rfl, Nat.le_of_ble_eq_true rfl⟩ (qa) ?_
          refine xr_if_eqT i83_60 (t := 75) (by decide) rfl ?_
          refine xr_go i83_75 rfl ?_
          refine xr_if_eqF i83_76 (t := 91) (by decide) (by first | exact (show ¬ (1 : Int32) = 0 by decide) | decide) ?_
          refine xr_go i83_79 rfl ?_
          refine xr_get i83_80 xf83_90 (by assumption) rfl rfl ?_
          exact r
        by_cases h0 : tK n tb (tP n tb i1) = 0
        · refine ⟨.inr ([R], i1, p1), ⟨q2, ?_, ?_, by rw [List.length_singleton]; omega⟩, fun dd h em hdd he hC => ?_, fun nx sl dd h hd body hdd hH hbl hM => ?_⟩
          · unfold xrs xrs
            rw [List.length_append, List.length_singleton, List.length_singleton]
            omega
          · intro z hz
            rw [List.mem_singleton] at hz
            rw [hz]
            exact q5
          · obtain ⟨h1, r1, a1, a2⟩ := exitC dd h em hdd he hC
            have a23 := a2.2.1
            refine ⟨h1, r1 _ ?_, a1, a2⟩
            refine xr_if_eqT i23_88 (t := 95) (by decide) (by rw [h0]; rfl) ?_
            refine xr_go i23_95 rfl ?_
            refine xr_get i23_96 xf23_35 (by assumption) rfl rfl ?_
            exact xr_iret i23_99 xt_23 rfl
          · obtain ⟨h1, hd1, body1, r1, a1, a2, a3, a4, r5⟩ := exitM nx sl dd h hd body hdd hH hbl hM
            have a40 := a4
            obtain ⟨⟨nu, -, hO⟩, -⟩ := a40
            refine ⟨1, h1, h1, r1, ⟨_, hO⟩, fun res r => r5 _ ?_, a1, hd1, body1, a2, a3, a4⟩
            refine xr_if_eqT i83_83 (t := 91) (by decide) (by rw [h0]; rfl) ?_
            refine xr_go i83_91 rfl ?_
            refine xr_get i83_92 xf83_149 (by assumption) rfl rfl ?_
            refine xr_if_ltT i83_95 (t := 103) (by decide) (by decide) ?_
            exact r
        · refine ⟨.inl i1, q2, fun dd h em hdd he hC => ?_, fun nx sl dd h hd body hdd hH hbl hM => ?_⟩
          · obtain ⟨h1, r1, a1, a2⟩ := exitC dd h em hdd he hC
            obtain ⟨h2, r2, b1, b2⟩ := c_fail_ok (G := G) (d := dd - 1) (nx := nx) (sl := sl) a2 q2 hT
            have a23 := a2.2.1
            have b23 := b2.2.1
            have hKl := tK_le (n := n) (p := tP n tb i1) (tb := tb)
            refine ⟨h2, r1 _ ?_, a1.trans b1, _, _, _, _, b2⟩
            refine xr_if_eqF i23_88 (t := 95) (by decide) (nI_ne0 (by omega) (by omega)) ?_
            refine xr_go i23_91 rfl ?_
            refine xr_V i23_92 xc23_68 ⟨rfl, rfl⟩ xa_30 rfl (by assumption) rfl (Nat.le_of_ble_eq_true rfl) (by omega) ⟨Nat.le_of_ble_eq_true rfl, Nat.le_of_ble_eq_true rfl⟩ (r2) ?_
            refine xr_go i23_95 rfl ?_
            refine xr_get i23_96 xf23_35 (by assumption) rfl rfl ?_
            exact xr_iret i23_99 xt_23 rfl
          · obtain ⟨h1, hd1, body1, r1, a1, a2, a3, a4, r5⟩ := exitM nx sl dd h hd body hdd hH hbl hM
            obtain ⟨h2, r2, b1, b2⟩ := m_badP (G := G) (d := dd - 1) (nx := nx) (sl := sl) a4
            have r6 := mp_fault (G := G) (d := dd) (nx := nx) (sl := sl) b2 (tPl i1) 1
            obtain ⟨⟨nu, -, hO⟩, -⟩ := a4
            have kl := tmk_le (K := tK n tb (tP n tb i1))
            have kn : tmk (tK n tb (tP n tb i1)) ≠ 0 := by
              unfold tmk
              rw [if_neg h0]
              repeat' split
              all_goals omega
            refine ⟨1, h1, h2, r1, ⟨_, hO⟩, r5 _ ?_, a1.trans b1, b2⟩
            refine xr_if_eqF i83_83 (t := 91) (by decide) (nI_ne0 (by omega) (by omega)) ?_
            refine xr_go i83_86 rfl ?_
            refine xr_V i83_87 xc83_152 ⟨rfl, rfl⟩ xa_89 rfl (by assumption) rfl (Nat.le_of_ble_eq_true rfl) (by omega) ⟨Nat.le_of_ble_eq_true rfl, Nat.le_of_ble_eq_true rfl⟩ (r2) ?_
            refine xr_go i83_90 rfl ?_
            exact r6
end XJPROG

