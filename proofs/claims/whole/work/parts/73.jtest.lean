/-! ===== tests: class and model read the same ===== -/
def xGt (T i : Nat) (o : Nat ⊕ (List xCmp × Nat × Nat)) : Prop := match o with
  | .inl j => i ≤ j ∧ j < T
  | .inr (Q, i', p') => i + 1 ≤ i' ∧ i' < T ∧ (Q.flatMap xcs).length + i ≤ i' ∧ (Q.flatMap mcmp).length + 3 * i ≤ 3 * i' ∧ p' ≤ 80 ∧ (∀ q ∈ Q, xWc q) ∧ Q ≠ []
def xCtt (B n : Nat) (tb : Nat → Nat) (T : Nat) (em : List (Nat × Int32)) (h' : xH) (o : Nat ⊕ (List xCmp × Nat × Nat)) : Prop := match o with
  | .inl j => ∃ em' p', p' ≤ 80 ∧ xCs B n tb T em' j p' (nI (tP n tb j)) h'
  | .inr (Q, i', p') => xCs B n tb T (em ++ Q.flatMap xcs) i' p' (-2) h'
def xMtt (G : xG) (nx sl M n : Nat) (tb : Nat → Nat) (tn tk rk : Int32) (lt : Value) (pc od : Int32) (dd : Nat) (pre : List Int32) (c : Nat) (body : List Int32) (h : xH) (o : Nat ⊕ (List xCmp × Nat × Nat)) : Prop := match o with
  | .inl j => ∃ h', xRun G dd 88 (71, [some (.ref M), some (.int (nI pre.length)), none, none], [], (h, nx, sl)) (some (.int 0), (h', nx, sl)) ∧ xfm M h h' ∧ xMq M n tb tn tk rk lt pc od (nI (tP n tb j)) h'
  | .inr (Q, i', p') => ∃ h', (∀ res, xRun G dd 88 (110, [some (.ref M), some (.int (nI pre.length)), none, none], [], (h', nx, sl)) res → xRun G dd 88 (71, [some (.ref M), some (.int (nI pre.length)), none, none], [], (h, nx, sl)) res) ∧ xfm M h h' ∧ xMp M n tb tn tk rk lt pc od (pre ++ nI (c + Q.length) :: (body ++ Q.flatMap mcmp)) i' p' (-1) h'
theorem gd_mid {α : Type} {l X : List α} {a z : α} : (l ++ a :: X).getD l.length z = a := by
  rw [gd_r (Nat.le_refl _), Nat.sub_self]
  rfl
section XJTEST
variable {G : xG} {nx sl B M n : Nat} {tb : Nat → Nat} {T : Nat} {tn tk rk : Int32} {lt : Value} {pc od : Int32}
set_option maxHeartbeats 4000000 in
theorem j_test (ht : xTok G n tb T) : ∀ m i p, T ≤ i + m → i < T → p ≤ 80 → ∃ o, xGt T i o ∧ (∀ dd h em k L, 28 ≤ dd → em.length ≤ i + 5 → k + 1 ≤ i → xCs B n tb T em i p (-2) h → ∃ h', xRun G dd 25 (4, [some (.ref (B + 3)), some (.int 1), some (.int (nI k)), L], [], (h, nx, sl)) (none, (h', nx, sl)) ∧ xfr B h h' ∧ xCtt B n tb T em h' o) ∧ ∀ nx sl dd h pre c body, 30 ≤ dd → pre.length + body.length ≤ 3 * i + 60 → c ≤ i → xMp M n tb tn tk rk lt pc od (pre ++ nI c :: body) i p (-1) h → xMtt G nx sl M n tb tn tk rk lt pc od dd pre c body h o := by
  intro m
  induction m with
  | zero => intro i p h1 h2; omega
  | succ m ih =>
    intro i p hm hi hp
    obtain ⟨o1, g1, c1, m1⟩ := j_cmp (G := G) (nx := nx) (sl := sl) (B := B) (M := M) (tn := tn) (tk := tk) (rk := rk) (lt := lt) (pc := pc) (od := od) ht hi hp
    obtain ⟨hG, hn, hb, hT, hT4⟩ := ht
    have headC : ∀ dd (h : xH) k L (res : Option Value × xW), k < 400 → xRun G dd 25 (15, [some (.ref (B + 3)), some (.int 1), some (.int (nI k)), L], [], (h, nx, sl)) res → xRun G dd 25 (4, [some (.ref (B + 3)), some (.int 1), some (.int (nI k)), L], [], (h, nx, sl)) res := by
      intro dd h k L res hk r
      refine xr_go i25_4 rfl ?_
      refine xr_if_eqF i25_5 (t := 85) (by decide) (by first | exact (show ¬ (1 : Int32) = 0 by decide) | decide) ?_
      refine xr_go i25_8 rfl ?_
      refine xr_go i25_9 rfl ?_
      refine xr_icmp_geF i25_12 (t := 85) (by decide) (show ¬ nI 400 ≤ nI k from nI_ge hk (by omega)) ?_
      exact r
    have headM : ∀ nx sl dd h pre c body, 30 ≤ dd → pre.length + body.length ≤ 3 * i + 60 → c ≤ i → xMp M n tb tn tk rk lt pc od (pre ++ nI c :: body) i p (-1) h → ∃ k1, (∀ res, xRun G dd 88 (82, [some (.ref M), some (.int (nI pre.length)), none, none], [.ref M], (k1, nx, sl)) res → xRun G dd 88 (71, [some (.ref M), some (.int (nI pre.length)), none, none], [], (h, nx, sl)) res) ∧ xfm M h k1 ∧ xMp M n tb tn tk rk lt pc od (pre ++ nI (c + 1) :: body) i p (-1) k1 := by
      intro nx sl dd h pre c body hdd hl hc hM
      obtain ⟨f, hf0, hf1, hf2⟩ := xMp_arr hM
      obtain ⟨k1, ek1⟩ : ∃ y : xH, y = xup h (M + 35) (.inl (0, 1600, .inl (upd f pre.length (nI (c + 1))))) := ⟨_, rfl⟩
      obtain ⟨d1, d2⟩ := hf2 pre.length (nI (c + 1)) k1 (by simp) ek1
      rw [set_mid] at d1
      have hfc : f pre.length = nI c := by rw [hf1 pre.length (by simp)]; exact gd_mid
      obtain ⟨⟨nu, -, hO⟩, -⟩ := hM
      refine ⟨k1, fun res r => ?_, d2, d1⟩
      refine xr_go i88_71 rfl ?_
      refine xr_get i88_72 xf88_55 (by assumption) rfl rfl ?_
      refine xr_go i88_75 rfl ?_
      refine xr_go i88_76 rfl ?_
      refine xr_iald i88_77 (by assumption) rfl (by omega) (by omega) ?_
      rw [hfc]
      refine xr_go i88_78 rfl ?_
      refine xr_go i88_79 rfl ?_
      refine xr_top (show _ = nI (c + 1) from nI_add c 1) ?_
      refine xr_iast i88_80 (by assumption) rfl (by omega) (by omega) (fun z1 ez1 => ?_)
      obtain rfl : z1 = k1 := ez1.trans ek1.symm
      refine xr_go i88_81 rfl ?_
      exact r
    cases o1 with
    | inl j =>
      have g' : i ≤ j ∧ j < T := g1
      refine ⟨.inl j, g', fun dd h em k L hdd he hk hC => ?_, fun nx sl dd h pre c body hdd hl hc hM => ?_⟩
      · obtain ⟨h', r, a1, a2⟩ := c1 dd h em k L hdd he (by omega) hC
        exact ⟨h', headC dd h k L _ (by omega) r, a1, a2⟩
      · obtain ⟨k1, hd, a1, a2⟩ := headM nx sl dd h pre c body hdd hl hc hM
        obtain ⟨h', r, b1, b2⟩ := m1 nx sl (dd - 1) k1 _ (by omega) (by simp only [List.length_append, List.length_cons]; omega) a2
        obtain ⟨⟨nu, -, hO⟩, -⟩ := a2
        refine ⟨h', hd _ ?_, a1.trans b1, b2⟩
        refine xr_V i88_82 xc88_181 ⟨rfl, rfl⟩ xa_91 rfl (by assumption) rfl (Nat.le_of_ble_eq_true rfl) (by omega) ⟨Nat.le_of_ble_eq_true rfl, Nat.le_of_ble_eq_true rfl⟩ (r) ?_
        refine xr_if_neF i88_85 (t := 90) (by decide) rfl ?_
        refine xr_go i88_88 rfl ?_
        exact xr_iret i88_89 xt_88 rfl
    | inr v =>
      obtain ⟨q, i1, p1⟩ := v
      have g' : i + 1 ≤ i1 ∧ i1 < T ∧ (xcs q).length + i ≤ i1 ∧ (mcmp q).length + 3 * i ≤ 3 * i1 ∧ p1 ≤ 80 ∧ xWc q := g1
      obtain ⟨q1, q2, q3, q3', q4, q5⟩ := g'
      have stepM : ∀ nx sl dd h pre c body, 30 ≤ dd → pre.length + body.length ≤ 3 * i + 60 → c ≤ i → xMp M n tb tn tk rk lt pc od (pre ++ nI c :: body) i p (-1) h → ∃ h1, (∀ res, xRun G dd 88 (90, [some (.ref M), some (.int (nI pre.length)), none, none], [], (h1, nx, sl)) res → xRun G dd 88 (71, [some (.ref M), some (.int (nI pre.length)), none, none], [], (h, nx, sl)) res) ∧ xfm M h h1 ∧ xMp M n tb tn tk rk lt pc od (pre ++ nI (c + 1) :: (body ++ mcmp q)) i1 p1 (-1) h1 := by
        intro nx sl dd h pre c body hdd hl hc hM
        obtain ⟨k1, hd, a1, a2⟩ := headM nx sl dd h pre c body hdd hl hc hM
        obtain ⟨h', r, b1, b2⟩ := m1 nx sl (dd - 1) k1 _ (by omega) (by simp only [List.length_append, List.length_cons]; omega) a2
        obtain ⟨⟨nu, -, hO⟩, -⟩ := a2
        have b2' : xMp M n tb tn tk rk lt pc od (pre ++ nI (c + 1) :: body ++ mcmp q) i1 p1 (-1) h' := b2
        rw [List.append_assoc] at b2'
        refine ⟨h', fun res r' => hd _ ?_, a1.trans b1, b2'⟩
        refine xr_V i88_82 xc88_181 ⟨rfl, rfl⟩ xa_91 rfl (by assumption) rfl (Nat.le_of_ble_eq_true rfl) (by omega) ⟨Nat.le_of_ble_eq_true rfl, Nat.le_of_ble_eq_true rfl⟩ (r) ?_
        refine xr_if_neT i88_85 (t := 90) (by decide) (by first | exact (show ¬ (1 : Int32) = 0 by decide) | decide) ?_
        exact r'
      by_cases h5 : tK n tb (tP n tb i1) = 5
      · have hi1 := tok_next hT4 q2 (by omega)
        obtain ⟨o2, g2, c2, m2⟩ := ih (i1 + 1) p1 (by omega) hi1 q4
        have runC : ∀ dd h em k L, 28 ≤ dd → em.length ≤ i + 5 → k + 1 ≤ i → xCs B n tb T em i p (-2) h → ∃ h', xRun G dd 25 (4, [some (.ref (B + 3)), some (.int 1), some (.int (nI k)), L], [], (h, nx, sl)) (none, (h', nx, sl)) ∧ xfr B h h' ∧ xCtt B n tb T (em ++ xcs q) h' o2 := by
          intro dd h em k L hdd he hk hC
          obtain ⟨h1, r1, a1, a2⟩ := c1 dd h em k L hdd he (by omega) hC
          have a2' : xCs B n tb T (em ++ xcs q) i1 p1 (-2) h1 := a2
          obtain ⟨h2, r2, b1, b2⟩ := c_acc_yes (G := G) (d := dd - 1) (nx := nx) (sl := sl) a2' hi1 hT h5
          obtain ⟨h3, r3, d1, d2⟩ := c2 dd h2 (em ++ xcs q) (k + 1) (some (.int (nI q.1))) hdd (by rw [List.length_append]; omega) (by omega) b2
          have a23 := a2'.2.1
          refine ⟨h3, headC dd h k L _ (by omega) (r1 _ ?_), (a1.trans b1).trans d1, d2⟩
          refine xr_go i25_73 rfl ?_
          refine xr_go i25_74 rfl ?_
          refine xr_V i25_75 xc25_48 ⟨rfl, rfl⟩ xa_24 rfl (by assumption) rfl (Nat.le_of_ble_eq_true rfl) (by omega) ⟨Nat.le_of_ble_eq_true rfl, Nat.le_of_ble_eq_true rfl⟩ (r2) ?_
          refine xr_go i25_78 rfl ?_
          refine xr_inc1 i25_79 rfl rfl ?_
          refine xr_goto i25_82 (t := 4) (by decide) ?_
          exact r3
        have runM : ∀ nx sl dd h pre c body, 30 ≤ dd → pre.length + body.length ≤ 3 * i + 60 → c ≤ i → xMp M n tb tn tk rk lt pc od (pre ++ nI c :: body) i p (-1) h → ∃ h2, (∀ res, xRun G dd 88 (71, [some (.ref M), some (.int (nI pre.length)), none, none], [], (h2, nx, sl)) res → xRun G dd 88 (71, [some (.ref M), some (.int (nI pre.length)), none, none], [], (h, nx, sl)) res) ∧ xfm M h h2 ∧ xMtt G nx sl M n tb tn tk rk lt pc od dd pre (c + 1) (body ++ mcmp q) h2 o2 := by
          intro nx sl dd h pre c body hdd hl hc hM
          obtain ⟨h1, r1, a1, a2⟩ := stepM nx sl dd h pre c body hdd hl hc hM
          have qa := m_isP (G := G) (d := dd - 1) (nx := nx) (sl := sl) (s := 4) hG (by omega) a2 hn hb (by omega)
          rw [decide_eq_true (show tK n tb (tP n tb i1) = tkind.getD 4 0 from h5)] at qa
          obtain ⟨h2, r2, b1, b2⟩ := m_stepP (G := G) (d := dd - 1) (nx := nx) (sl := sl) hG a2 hn hb (by omega)
          have d1 := m2 nx sl dd h2 pre (c + 1) (body ++ mcmp q) hdd (by rw [List.length_append]; omega) (by omega) b2
          obtain ⟨⟨nu, -, hO⟩, -⟩ := a2
          refine ⟨h2, fun res r => r1 _ ?_, a1.trans b1, d1⟩
          refine xr_go i88_90 rfl ?_
          refine xr_ldc i88_91 xd88_110 rfl rfl ?_
          refine xr_V i88_93 xc88_102 ⟨rfl, rfl⟩ xa_86 rfl (by assumption) rfl (Nat.le_of_ble_eq_true rfl) (by omega) ⟨Nat.le_of_ble_eq_true rfl, Nat.le_of_ble_eq_true rfl⟩ (qa) ?_
          refine xr_if_neT i88_96 (t := 67) (by decide) (by first | exact (show ¬ (1 : Int32) = 0 by decide) | decide) ?_
          refine xr_go i88_67 rfl ?_
          refine xr_V i88_68 xc88_156 ⟨rfl, rfl⟩ xa_84 rfl (by assumption) rfl (Nat.le_of_ble_eq_true rfl) (by omega) ⟨Nat.le_of_ble_eq_true rfl, Nat.le_of_ble_eq_true rfl⟩ (r2) ?_
          exact r
        cases o2 with
        | inl j =>
          have g'' : i1 + 1 ≤ j ∧ j < T := g2
          refine ⟨.inl j, ⟨by omega, g''.2⟩, fun dd h em k L hdd he hk hC => runC dd h em k L hdd he hk hC, fun nx sl dd h pre c body hdd hl hc hM => ?_⟩
          obtain ⟨h2, r2, b1, h3, r3, b2, b3⟩ := runM nx sl dd h pre c body hdd hl hc hM
          exact ⟨h3, r2 _ r3, b1.trans b2, b3⟩
        | inr v =>
          obtain ⟨Q, i2, p2⟩ := v
          have g'' : i1 + 1 + 1 ≤ i2 ∧ i2 < T ∧ (Q.flatMap xcs).length + (i1 + 1) ≤ i2 ∧ (Q.flatMap mcmp).length + 3 * (i1 + 1) ≤ 3 * i2 ∧ p2 ≤ 80 ∧ (∀ q ∈ Q, xWc q) ∧ Q ≠ [] := g2
          obtain ⟨s1, s2, s3, s3', s4, s5, s6⟩ := g''
          refine ⟨.inr (q :: Q, i2, p2), ⟨by omega, s2, by rw [List.flatMap_cons, List.length_append]; omega, by rw [List.flatMap_cons, List.length_append]; omega, s4, ?_, by simp⟩, fun dd h em k L hdd he hk hC => ?_, fun nx sl dd h pre c body hdd hl hc hM => ?_⟩
          · intro z hz
            rcases List.mem_cons.mp hz with rfl | hz
            · exact q5
            · exact s5 z hz
          · obtain ⟨h', r, a1, a2⟩ := runC dd h em k L hdd he hk hC
            refine ⟨h', r, a1, ?_⟩
            have a2' : xCs B n tb T (em ++ xcs q ++ Q.flatMap xcs) i2 p2 (-2) h' := a2
            rw [List.append_assoc] at a2'
            show xCs B n tb T (em ++ (q :: Q).flatMap xcs) i2 p2 (-2) h'
            rw [List.flatMap_cons]
            exact a2'
          · obtain ⟨h2, r2, b1, h3, r3, b2, b3⟩ := runM nx sl dd h pre c body hdd hl hc hM
            refine ⟨h3, fun res r => r2 _ (r3 _ r), b1.trans b2, ?_⟩
            show xMp M n tb tn tk rk lt pc od (pre ++ nI (c + (q :: Q).length) :: (body ++ (q :: Q).flatMap mcmp)) i2 p2 (-1) h3
            rw [List.flatMap_cons, List.length_cons, ← List.append_assoc body, show c + (Q.length + 1) = c + 1 + Q.length by omega]
            exact b3
      · have exitC : ∀ dd h em k L, 28 ≤ dd → em.length ≤ i + 5 → k + 1 ≤ i → xCs B n tb T em i p (-2) h → ∃ h1, (∀ res, xRun G dd 25 (85, [some (.ref (B + 3)), some (.int 0), some (.int (nI (k + 1))), some (.int (nI q.1))], [], (h1, nx, sl)) res → xRun G dd 25 (4, [some (.ref (B + 3)), some (.int 1), some (.int (nI k)), L], [], (h, nx, sl)) res) ∧ xfr B h h1 ∧ xCs B n tb T (em ++ xcs q) i1 p1 (-2) h1 := by
          intro dd h em k L hdd he hk hC
          obtain ⟨h1, r1, a1, a2⟩ := c1 dd h em k L hdd he (by omega) hC
          have a2' : xCs B n tb T (em ++ xcs q) i1 p1 (-2) h1 := a2
          have r2 := c_acc_no (G := G) (d := dd - 1) (nx := nx) (sl := sl) (K := 5) a2' q2 hT (by omega) (Or.inr h5)
          have a23 := a2'.2.1
          refine ⟨h1, fun res r => headC dd h k L _ (by omega) (r1 _ ?_), a1, a2'⟩
          refine xr_go i25_73 rfl ?_
          refine xr_go i25_74 rfl ?_
          refine xr_V i25_75 xc25_48 ⟨rfl, rfl⟩ xa_24 rfl (by assumption) rfl (Nat.le_of_ble_eq_true rfl) (by omega) ⟨Nat.le_of_ble_eq_true rfl, Nat.le_of_ble_eq_true rfl⟩ (r2) ?_
          refine xr_go i25_78 rfl ?_
          refine xr_inc1 i25_79 rfl rfl ?_
          refine xr_goto i25_82 (t := 4) (by decide) ?_
          refine xr_go i25_4 rfl ?_
          refine xr_if_eqT i25_5 (t := 85) (by decide) rfl ?_
          exact r
        have exitM : ∀ nx sl dd h pre c body, 30 ≤ dd → pre.length + body.length ≤ 3 * i + 60 → c ≤ i → xMp M n tb tn tk rk lt pc od (pre ++ nI c :: body) i p (-1) h → ∃ h1, (∀ res, xRun G dd 88 (99, [some (.ref M), some (.int (nI pre.length)), none, none], [], (h1, nx, sl)) res → xRun G dd 88 (71, [some (.ref M), some (.int (nI pre.length)), none, none], [], (h, nx, sl)) res) ∧ xfm M h h1 ∧ xMp M n tb tn tk rk lt pc od (pre ++ nI (c + 1) :: (body ++ mcmp q)) i1 p1 (-1) h1 := by
          intro nx sl dd h pre c body hdd hl hc hM
          obtain ⟨h1, r1, a1, a2⟩ := stepM nx sl dd h pre c body hdd hl hc hM
          have qa := m_isP (G := G) (d := dd - 1) (nx := nx) (sl := sl) (s := 4) hG (by omega) a2 hn hb (by omega)
          rw [decide_eq_false (show ¬ tK n tb (tP n tb i1) = tkind.getD 4 0 from h5)] at qa
          have a20 := a2
          obtain ⟨⟨nu, -, hO⟩, -⟩ := a20
          refine ⟨h1, fun res r => r1 _ ?_, a1, a2⟩
          refine xr_go i88_90 rfl ?_
          refine xr_ldc i88_91 xd88_110 rfl rfl ?_
          refine xr_V i88_93 xc88_102 ⟨rfl, rfl⟩ xa_86 rfl (by assumption) rfl (Nat.le_of_ble_eq_true rfl) (by omega) ⟨Nat.le_of_ble_eq_true rfl, Nat.le_of_ble_eq_true rfl⟩ (qa) ?_
          refine xr_if_neF i88_96 (t := 67) (by decide) rfl ?_
          exact r
        by_cases h3 : tK n tb (tP n tb i1) = 3
        · have hi1 := tok_next hT4 q2 (by omega)
          refine ⟨.inr ([q], i1 + 1, p1), ⟨by omega, hi1, by simp only [List.flatMap_cons, List.flatMap_nil, List.append_nil]; omega, by simp only [List.flatMap_cons, List.flatMap_nil, List.append_nil]; omega, q4, ?_, by simp⟩, fun dd h em k L hdd he hk hC => ?_, fun nx sl dd h pre c body hdd hl hc hM => ?_⟩
          · intro z hz
            rw [List.mem_singleton] at hz
            rw [hz]
            exact q5
          · obtain ⟨h1, r1, a1, a2⟩ := exitC dd h em k L hdd he hk hC
            obtain ⟨h2, r2, b1, b2⟩ := c_req_yes (G := G) (d := dd - 1) (nx := nx) (sl := sl) a2 hi1 hT h3 (by omega)
            have a23 := a2.2.1
            refine ⟨h2, r1 _ ?_, a1.trans b1, ?_⟩
            · refine xr_go i25_85 rfl ?_
              refine xr_go i25_86 rfl ?_
              refine xr_V i25_87 xc25_84 ⟨rfl, rfl⟩ xa_29 rfl (by assumption) rfl (Nat.le_of_ble_eq_true rfl) (by omega) ⟨Nat.le_of_ble_eq_true rfl, Nat.le_of_ble_eq_true rfl⟩ (r2) ?_
              exact xr_end i25_90 rfl
            · show xCs B n tb T (em ++ [q].flatMap xcs) (i1 + 1) p1 (-2) h2
              rw [List.flatMap_cons, List.flatMap_nil, List.append_nil]
              exact b2
          · obtain ⟨h1, r1, a1, a2⟩ := exitM nx sl dd h pre c body hdd hl hc hM
            obtain ⟨h2, r2, b1, b2⟩ := m_take_yes (G := G) (d := dd - 1) (nx := nx) (sl := sl) (s := 2) hG (by omega) a2 hn hb (by omega) h3
            obtain ⟨⟨nu, -, hO⟩, -⟩ := a2
            refine ⟨h2, fun res r => r1 _ ?_, a1.trans b1, ?_⟩
            · refine xr_go i88_99 rfl ?_
              refine xr_ldc i88_100 xd88_106 rfl rfl ?_
              refine xr_V i88_102 xc88_184 ⟨rfl, rfl⟩ xa_96 rfl (by assumption) rfl (Nat.le_of_ble_eq_true rfl) (by omega) ⟨Nat.le_of_ble_eq_true rfl, Nat.le_of_ble_eq_true rfl⟩ (r2) ?_
              refine xr_if_neT i88_105 (t := 110) (by decide) (by first | exact (show ¬ (1 : Int32) = 0 by decide) | decide) ?_
              exact r
            · show xMp M n tb tn tk rk lt pc od (pre ++ nI (c + 1) :: (body ++ [q].flatMap mcmp)) (i1 + 1) p1 (-1) h2
              rw [List.flatMap_cons, List.flatMap_nil, List.append_nil]
              exact b2
        · refine ⟨.inl i1, ⟨by omega, q2⟩, fun dd h em k L hdd he hk hC => ?_, fun nx sl dd h pre c body hdd hl hc hM => ?_⟩
          · obtain ⟨h1, r1, a1, a2⟩ := exitC dd h em k L hdd he hk hC
            obtain ⟨h2, r2, b1, b2⟩ := c_req_bad (G := G) (d := dd - 1) (nx := nx) (sl := sl) (K := 3) a2 q2 hT (by omega) h3 (by omega)
            have a23 := a2.2.1
            refine ⟨h2, r1 _ ?_, a1.trans b1, _, p1, q4, b2⟩
            refine xr_go i25_85 rfl ?_
            refine xr_go i25_86 rfl ?_
            refine xr_V i25_87 xc25_84 ⟨rfl, rfl⟩ xa_29 rfl (by assumption) rfl (Nat.le_of_ble_eq_true rfl) (by omega) ⟨Nat.le_of_ble_eq_true rfl, Nat.le_of_ble_eq_true rfl⟩ (r2) ?_
            exact xr_end i25_90 rfl
          · obtain ⟨h1, r1, a1, a2⟩ := exitM nx sl dd h pre c body hdd hl hc hM
            obtain ⟨h2, r2, b1, b2⟩ := m_take_no (G := G) (d := dd - 1) (nx := nx) (sl := sl) (s := 2) hG (by omega) a2 hn hb (by omega) h3
            obtain ⟨⟨nu, -, hO⟩, -⟩ := a2
            refine ⟨h2, r1 _ ?_, a1.trans b1, b2⟩
            refine xr_go i88_99 rfl ?_
            refine xr_ldc i88_100 xd88_106 rfl rfl ?_
            refine xr_V i88_102 xc88_184 ⟨rfl, rfl⟩ xa_96 rfl (by assumption) rfl (Nat.le_of_ble_eq_true rfl) (by omega) ⟨Nat.le_of_ble_eq_true rfl, Nat.le_of_ble_eq_true rfl⟩ (r2) ?_
            refine xr_if_neF i88_105 (t := 110) (by decide) rfl ?_
            refine xr_go i88_108 rfl ?_
            exact xr_iret i88_109 xt_88 rfl
end XJTEST

