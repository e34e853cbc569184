/-! ===== rules: class and model read the same ===== -/
def xGr (T i : Nat) (o : Nat ⊕ (xRu × Nat × Nat)) : Prop := match o with
  | .inl j => i ≤ j ∧ j < T
  | .inr (R, i', p') => i + 1 ≤ i' ∧ i' < T ∧ (xru R).length + i + 2 ≤ i' ∧ (mrule R).length + 3 * i ≤ 3 * i' + 2 ∧ p' ≤ 80 ∧ xWr R
def xCr (G : xG) (nx sl B n : Nat) (tb : Nat → Nat) (T dd : Nat) (em : List (Nat × Int32)) (r : Nat) (h : xH) (o : Nat ⊕ (xRu × Nat × Nat)) : Prop := match o with
  | .inl j => ∃ h', xRun G dd 23 (46, [some (.ref (B + 3)), some (.int 1), some (.int (nI r))], [], (h, nx, sl)) (some (.int (nI (tP n tb j))), (h', nx, sl)) ∧ xfr B h h' ∧ ∃ em' p', p' ≤ 80 ∧ xCs B n tb T em' j p' (nI (tP n tb j)) h'
  | .inr (R, i', p') => ∃ h', (∀ res, xRun G dd 23 (68, [some (.ref (B + 3)), some (.int 1), some (.int (nI r))], [], (h', nx, sl)) res → xRun G dd 23 (46, [some (.ref (B + 3)), some (.int 1), some (.int (nI r))], [], (h, nx, sl)) res) ∧ xfr B h h' ∧ xCs B n tb T (em ++ (xru R ++ [(99, nI r)])) i' p' (-2) h'
def xhd (hd : List Int32) (c len : Nat) : List Int32 := (hd.set 0 (nI (c + 1))).set (c + 1) (nI len)
def xMr1 (M n : Nat) (tb : Nat → Nat) (tn tk rk : Int32) (lt : Value) (pc od : Int32) (hd body : List Int32) (c : Nat) (h' : xH) (o : Nat ⊕ (xRu × Nat × Nat)) : Prop := match o with
  | .inl j => xMq M n tb tn tk rk lt pc od (nI (tP n tb j)) h'
  | .inr (R, i', p') => xMp M n tb tn tk rk lt pc od (xhd hd c (7 + body.length) ++ (body ++ mrule R)) i' p' (-1) h'
theorem set_at {α : Type} {l : List α} {a x : α} {k : Nat} (hk : l.length = k) : (l ++ [a]).set k x = l ++ x :: [] := by
  subst hk
  exact set_mid
section XJRULE
variable {G : xG} {d nx sl B M n : Nat} {tb : Nat → Nat} {T : Nat} {tn tk rk : Int32} {lt : Value} {pc od : Int32} {i p : Nat} {h : xH} {em : List (Nat × Int32)} {ft : Int32}
theorem cf_prog80 {L2 : Option Value} (hC : xCs B n tb T em i p ft h) (hft : ¬ ft = -2) (hi : i < T) (hT : T ≤ 401) (hd : 1 ≤ d) : xRun G d 23 (80, [some (.ref (B + 3)), some (.int 0), L2], [], (h, nx, sl)) (some (.int ft), (h, nx, sl)) := by
  have rk := c_kind (G := G) (d := d - 1) (nx := nx) (sl := sl) hC hi hT
  have rf := c_fail_no (G := G) (d := d - 1) (nx := nx) (sl := sl) hC hft
  obtain ⟨-, h3, -⟩ := hC
  have at95 : xRun G d 23 (95, [some (.ref (B + 3)), some (.int 0), L2], [], (h, nx, sl)) (some (.int ft), (h, nx, sl)) := by
    refine xr_go i23_95 rfl ?_
    refine xr_get i23_96 xf23_35 (by assumption) rfl rfl ?_
    exact xr_iret i23_99 xt_23 rfl
  refine xr_go i23_80 rfl ?_
  refine xr_if_neF i23_81 (t := 91) (by decide) rfl ?_
  refine xr_go i23_84 rfl ?_
  refine xr_V i23_85 xc23_64 ⟨rfl, rfl⟩ xa_31 rfl (by assumption) rfl (Nat.le_of_ble_eq_true rfl) (by omega) ⟨Nat.le_of_ble_eq_true rfl, Nat.le_of_ble_eq_true rfl⟩ (rk) ?_
  refine xr_stk (st' := [.int (nI (tK n tb (tP n tb i)))]) rfl ?_
  by_cases e : nI (tK n tb (tP n tb i)) = 0
  · refine xr_if_eqT i23_88 (t := 95) (by decide) e ?_
    exact at95
  · refine xr_if_eqF i23_88 (t := 95) (by decide) e ?_
    refine xr_go i23_91 rfl ?_
    refine xr_V i23_92 xc23_68 ⟨rfl, rfl⟩ xa_30 rfl (by assumption) rfl (Nat.le_of_ble_eq_true rfl) (by omega) ⟨Nat.le_of_ble_eq_true rfl, Nat.le_of_ble_eq_true rfl⟩ (rf) ?_
    exact at95
theorem cf_prog62 {r : Nat} (hC : xCs B n tb T em i p ft h) (hft : ¬ ft = -2) (hi : i < T) (hT : T ≤ 401) (hd : 1 ≤ d) : xRun G d 23 (62, [some (.ref (B + 3)), some (.int 1), some (.int (nI r))], [], (h, nx, sl)) (some (.int ft), (h, nx, sl)) := by
  have re := c_emit_no (G := G) (d := d - 1) (nx := nx) (sl := sl) (x := -1) (v := nI r) hC hft
  have ra := c_acc_no (G := G) (d := d - 1) (nx := nx) (sl := sl) (K := 4) hC hi hT (by omega) (Or.inl hft)
  have r80 := cf_prog80 (G := G) (d := d) (nx := nx) (sl := sl) (L2 := some (.int (nI (r + 1)))) hC hft hi hT hd
  obtain ⟨-, h3, -⟩ := hC
  refine xr_go i23_62 rfl ?_
  refine xr_go i23_63 rfl ?_
  refine xr_go i23_64 rfl ?_
  refine xr_V i23_65 xc23_60 ⟨rfl, rfl⟩ xa_33 rfl (by assumption) rfl (Nat.le_of_ble_eq_true rfl) (by omega) ⟨Nat.le_of_ble_eq_true rfl, Nat.le_of_ble_eq_true rfl⟩ (re) ?_
  refine xr_go i23_68 rfl ?_
  refine xr_go i23_69 rfl ?_
  refine xr_V i23_70 xc23_48 ⟨rfl, rfl⟩ xa_24 rfl (by assumption) rfl (Nat.le_of_ble_eq_true rfl) (by omega) ⟨Nat.le_of_ble_eq_true rfl, Nat.le_of_ble_eq_true rfl⟩ (ra) ?_
  refine xr_go i23_73 rfl ?_
  refine xr_inc1 i23_74 rfl rfl ?_
  refine xr_goto i23_77 (t := 36) (by decide) ?_
  refine xr_go i23_36 rfl ?_
  refine xr_if_eqT i23_37 (t := 80) (by decide) rfl ?_
  exact r80
theorem cf_prog58 {r : Nat} (hC : xCs B n tb T em i p ft h) (hft : ¬ ft = -2) (hi : i < T) (hT : T ≤ 401) (hp : p ≤ 80) (hd : 6 ≤ d) : ∃ h', xRun G d 23 (58, [some (.ref (B + 3)), some (.int 1), some (.int (nI r))], [], (h, nx, sl)) (some (.int ft), (h', nx, sl)) ∧ xfr B h h' ∧ ∃ p', p' ≤ 80 ∧ xCs B n tb T em i p' ft h' := by
  obtain ⟨h1, r1, a1, p', a2, a3⟩ := cf_eff (G := G) (d := d - 1) (nx := nx) (sl := sl) hC hft hi hT hp (by omega)
  obtain ⟨-, h3, -⟩ := hC
  refine ⟨h1, ?_, a1, p', a2, a3⟩
  refine xr_go i23_58 rfl ?_
  refine xr_V i23_59 xc23_55 ⟨rfl, rfl⟩ xa_34 rfl (by assumption) rfl (Nat.le_of_ble_eq_true rfl) (by omega) ⟨Nat.le_of_ble_eq_true rfl, Nat.le_of_ble_eq_true rfl⟩ (r1) ?_
  exact cf_prog62 a3 hft hi hT (by omega)
/-- from the effects on -/
theorem j_rule2 (ht : xTok G n tb T) (Q : List xCmp) (hQ : ∀ q ∈ Q, xWc q) (hi : i < T) (hp : p ≤ 80) : ∃ o : Nat ⊕ (List xEfx × Nat × Nat), xGe T i 0 o ∧ (∀ dd h em r, 30 ≤ dd → em.length ≤ i + 5 → xCs B n tb T em i p (-2) h → match o with
    | .inl j => ∃ h', xRun G dd 23 (58, [some (.ref (B + 3)), some (.int 1), some (.int (nI r))], [], (h, nx, sl)) (some (.int (nI (tP n tb j))), (h', nx, sl)) ∧ xfr B h h' ∧ ∃ em' p', p' ≤ 80 ∧ xCs B n tb T em' j p' (nI (tP n tb j)) h'
    | .inr (ES, i', p') => ∃ h', (∀ res, xRun G dd 23 (68, [some (.ref (B + 3)), some (.int 1), some (.int (nI r))], [], (h', nx, sl)) res → xRun G dd 23 (58, [some (.ref (B + 3)), some (.int 1), some (.int (nI r))], [], (h, nx, sl)) res) ∧ xfr B h h' ∧ xCs B n tb T (em ++ (ES.flatMap xes ++ [(99, nI r)])) i' p' (-2) h') ∧ ∀ nx sl dd h cs (L1 : Int32), 30 ≤ dd → cs.length ≤ 3 * i + 60 → xMp M n tb tn tk rk lt pc od cs i p (-1) h → ∃ h', xRun G dd 88 (110, [some (.ref M), some (.int L1), none, none], [], (h, nx, sl)) (some (.int (xev' o)), (h', nx, sl)) ∧ xfm M h h' ∧ xMe M n tb tn tk rk lt pc od cs 0 [] h' o := by
  have hT := ht.2.2.2.1
  have hn := ht.2.1
  obtain ⟨o, g, c1, m1⟩ := j_eff (G := G) (nx := nx) (sl := sl) (B := B) (M := M) (tn := tn) (tk := tk) (rk := rk) (lt := lt) (pc := pc) (od := od) ht T i p 0 (by omega) hi hp (by omega)
  refine ⟨o, g, fun dd h em r hdd he hC => ?_, fun nx sl dd h cs L1 hdd hcl hM => ?_⟩
  · obtain ⟨h1, r1, a1, a2⟩ := c1 (dd - 1) h em none (by omega) he hC
    have h3 := hC.2.1
    have r1' : xRun G (dd - 1) 34 (0, [some (.ref (B + 3)), none, none, none], [], (h, nx, sl)) (none, (h1, nx, sl)) := by
      refine xr_go i34_0 rfl ?_
      refine xr_go i34_1 rfl ?_
      refine xr_go i34_2 rfl ?_
      refine xr_go i34_3 rfl ?_
      exact r1
    cases o with
    | inl j =>
      have g' : i ≤ j ∧ j < T := g
      obtain ⟨em', p', a3, a4⟩ := a2
      refine ⟨h1, ?_, a1, em', p', a3, a4⟩
      refine xr_go i23_58 rfl ?_
      refine xr_V i23_59 xc23_55 ⟨rfl, rfl⟩ xa_34 rfl (by assumption) rfl (Nat.le_of_ble_eq_true rfl) (by omega) ⟨Nat.le_of_ble_eq_true rfl, Nat.le_of_ble_eq_true rfl⟩ (r1') ?_
      exact cf_prog62 a4 (tP_nn hn) g'.2 hT (by omega)
    | inr v =>
      obtain ⟨ES, i', p'⟩ := v
      have g' : i + 1 ≤ i' ∧ i' < T ∧ (ES.flatMap xes).length + i + 2 ≤ i' ∧ (ES.flatMap meff).length + 3 * i ≤ 3 * i' ∧ p' ≤ 80 ∧ (∀ q ∈ ES, xWe q) ∧ 0 + ES.length ≤ 8 := g
      have a2' : xCs B n tb T (em ++ ES.flatMap xes) i' p' (-2) h1 := a2
      obtain ⟨h2, r2, b1, b2⟩ := c_emit_ok (G := G) (d := dd - 1) (nx := nx) (sl := sl) (K := 99) (x := -1) (v := nI r) rfl a2' (by rw [List.length_append]; omega)
      have a23 := a2'.2.1
      rw [List.append_assoc] at b2
      refine ⟨h2, fun res r' => ?_, a1.trans b1, b2⟩
      refine xr_go i23_58 rfl ?_
      refine xr_V i23_59 xc23_55 ⟨rfl, rfl⟩ xa_34 rfl (by assumption) rfl (Nat.le_of_ble_eq_true rfl) (by omega) ⟨Nat.le_of_ble_eq_true rfl, Nat.le_of_ble_eq_true rfl⟩ (r1') ?_
      refine xr_go i23_62 rfl ?_
      refine xr_go i23_63 rfl ?_
      refine xr_go i23_64 rfl ?_
      refine xr_V i23_65 xc23_60 ⟨rfl, rfl⟩ xa_33 rfl (by assumption) rfl (Nat.le_of_ble_eq_true rfl) (by omega) ⟨Nat.le_of_ble_eq_true rfl, Nat.le_of_ble_eq_true rfl⟩ (r2) ?_
      exact r'
  · obtain ⟨h1, r1, a1, a2⟩ := m_putP (G := G) (d := dd - 1) (nx := nx) (sl := sl) 0 hM (by omega)
    obtain ⟨h2, r2, b1, b2⟩ := m1 nx sl dd h1 cs [] L1 hdd (by simpa using hcl) a2
    obtain ⟨⟨nu, -, hO⟩, -⟩ := hM
    refine ⟨h2, ?_, a1.trans b1, b2⟩
    refine xr_go i88_110 rfl ?_
    refine xr_get i88_111 xf88_159 (by assumption) rfl rfl ?_
    refine xr_go i88_114 rfl ?_
    refine xr_go i88_115 rfl ?_
    refine xr_go i88_116 rfl ?_
    refine xr_V i88_117 xc88_177 ⟨rfl, rfl⟩ xa_90 rfl (by assumption) rfl (Nat.le_of_ble_eq_true rfl) (by omega) ⟨Nat.le_of_ble_eq_true rfl, Nat.le_of_ble_eq_true rfl⟩ (r1) ?_
    refine xr_go i88_120 rfl ?_
    refine xr_go i88_121 rfl ?_
    refine xr_go i88_122 rfl ?_
    refine xr_if_eqF i88_123 (t := 195) (by decide) (by first | exact (show ¬ (1 : Int32) = 0 by decide) | decide) ?_
    exact r2
set_option maxHeartbeats 4000000 in
theorem j_rule (ht : xTok G n tb T) (hi : i < T) (hp : p ≤ 80) : ∃ o, xGr T i o ∧ (∀ dd h em r, 30 ≤ dd → em.length ≤ i + 5 → xCs B n tb T em i p (-2) h → xCr G nx sl B n tb T dd em r h o) ∧ ∀ nx sl dd h hd body c, 31 ≤ dd → hd.length = 7 → hd.getD 0 0 = nI c → c < 6 → body.length ≤ 3 * i + 20 → xMp M n tb tn tk rk lt pc od (hd ++ body) i p (-1) h → ∃ h', xRun G dd 88 (0, [some (.ref M), none, none, none], [], (h, nx, sl)) (some (.int (xev' o)), (h', nx, sl)) ∧ xfm M h h' ∧ xMr1 M n tb tn tk rk lt pc od hd body c h' o := by
  have ht0 := ht
  obtain ⟨hG, hn, hb, hT, hT4⟩ := ht
  /- the model's head: the count of rules, where this one begins, and a place for its compares -/
  have headM : ∀ nx sl dd h hd body c, 31 ≤ dd → hd.length = 7 → hd.getD 0 0 = nI c → c < 6 → body.length ≤ 3 * i + 20 → xMp M n tb tn tk rk lt pc od (hd ++ body) i p (-1) h → ∃ h2, (∀ res, xRun G dd 88 (51, [some (.ref M), some (.int (nI (7 + body.length))), none, none], [], (h2, nx, sl)) res → xRun G dd 88 (0, [some (.ref M), none, none, none], [], (h, nx, sl)) res) ∧ xfm M h h2 ∧ xMp M n tb tn tk rk lt pc od (xhd hd c (7 + body.length) ++ body ++ [-1]) i p (-1) h2 := by
    intro nx sl dd h hd body c hdd hh7 hh0 hc hbl hM
    have len : (hd ++ body).length = 7 + body.length := by rw [List.length_append, hh7]
    obtain ⟨f, hf0, hf1, hf2⟩ := xMp_arr hM
    obtain ⟨k1, ek1⟩ : ∃ y : xH, y = xup h (M + 35) (.inl (0, 1600, .inl (upd f 0 (nI (c + 1))))) := ⟨_, rfl⟩
    obtain ⟨a1, a2⟩ := hf2 0 (nI (c + 1)) k1 (by omega) ek1
    rw [List.set_append_left 0 (nI (c + 1)) (by omega)] at a1
    have hfc : f 0 = nI c := by rw [hf1 0 (by omega), gd_l (by omega), hh0]
    have hu0 : upd f 0 (nI (c + 1)) 0 = nI (c + 1) := by simp [upd]
    have k135 := xup_at ek1
    have len1 : (hd.set 0 (nI (c + 1)) ++ body).length = 7 + body.length := by rw [List.length_append, List.length_set, hh7]
    obtain ⟨g, hg0, hg1, hg2⟩ := xMp_arr a1
    have egf : g = upd f 0 (nI (c + 1)) := by
      rw [k135] at hg0
      cases hg0
      rfl
    obtain ⟨k2, ek2⟩ : ∃ y : xH, y = xup k1 (M + 35) (.inl (0, 1600, .inl (upd g (c + 1) (nI (7 + body.length))))) := ⟨_, rfl⟩
    obtain ⟨b1, b2⟩ := hg2 (c + 1) (nI (7 + body.length)) k2 (by omega) ek2
    rw [List.set_append_left (c + 1) _ (by rw [List.length_set]; omega)] at b1
    obtain ⟨h3, r3, d1, d2⟩ := m_putP (G := G) (d := dd - 1) (nx := nx) (sl := sl) (-1) b1 (by rw [List.length_append, List.length_set, List.length_set, hh7]; omega)
    obtain ⟨⟨nu, -, hO⟩, -⟩ := hM
    obtain ⟨⟨nu1, -, hO1⟩, -⟩ := a1
    obtain ⟨⟨nu2, -, hO2⟩, -⟩ := b1
    rw [len] at hO
    rw [len1] at hO1
    rw [List.length_append, List.length_set, List.length_set, hh7] at hO2
    refine ⟨h3, fun res r => ?_, (a2.trans b2).trans d1, d2⟩
    refine xr_go i88_0 rfl ?_
    refine xr_get i88_1 xf88_55 (by assumption) rfl rfl ?_
    refine xr_go i88_4 rfl ?_
    refine xr_iald i88_5 (by assumption) (show (0 : Int32) = nI 0 from rfl) (by omega) (by omega) ?_
    rw [hfc]
    refine xr_go i88_6 rfl ?_
    refine xr_icmp_neT i88_8 (t := 16) (by decide) (fun z => by have := (nI_eq (b := 6) (by omega) (by omega)).mp z; omega) ?_
    refine xr_go i88_16 rfl ?_
    refine xr_get i88_17 xf88_55 (by assumption) rfl rfl ?_
    refine xr_go i88_20 rfl ?_
    refine xr_go i88_21 rfl ?_
    refine xr_iald i88_22 (by assumption) (show (0 : Int32) = nI 0 from rfl) (by omega) (by omega) ?_
    rw [hfc]
    refine xr_go i88_23 rfl ?_
    refine xr_go i88_24 rfl ?_
    refine xr_top (show _ = nI (c + 1) from nI_add c 1) ?_
    refine xr_iast i88_25 (by assumption) (show (0 : Int32) = nI 0 from rfl) (by omega) (by omega) (fun z1 ez1 => ?_)
    obtain rfl : z1 = k1 := ez1.trans ek1.symm
    refine xr_go i88_26 rfl ?_
    refine xr_get i88_27 xf88_55 (by assumption) rfl rfl ?_
    refine xr_go i88_30 rfl ?_
    refine xr_get i88_31 xf88_55 (by assumption) rfl rfl ?_
    refine xr_go i88_34 rfl ?_
    refine xr_iald i88_35 (by assumption) (show (0 : Int32) = nI 0 from rfl) (by omega) (by omega) ?_
    rw [egf, hu0]
    refine xr_go i88_36 rfl ?_
    refine xr_get i88_37 xf88_159 (by assumption) rfl rfl ?_
    refine xr_iast i88_40 hg0 rfl (by omega) (by omega) (fun z2 ez2 => ?_)
    obtain rfl : z2 = k2 := ez2.trans ek2.symm
    refine xr_go i88_41 rfl ?_
    refine xr_get i88_42 xf88_159 (by assumption) rfl rfl ?_
    refine xr_go i88_45 rfl ?_
    refine xr_go i88_46 rfl ?_
    refine xr_go i88_47 rfl ?_
    refine xr_V i88_48 xc88_177 ⟨rfl, rfl⟩ xa_90 rfl (by assumption) rfl (Nat.le_of_ble_eq_true rfl) (by omega) ⟨Nat.le_of_ble_eq_true rfl, Nat.le_of_ble_eq_true rfl⟩ (r3) ?_
    exact r
  have noIf : ∀ dd h em r res, 30 ≤ dd → ¬ tK n tb (tP n tb i) = 2 → xCs B n tb T em i p (-2) h → xRun G dd 23 (58, [some (.ref (B + 3)), some (.int 1), some (.int (nI r))], [], (h, nx, sl)) res → xRun G dd 23 (46, [some (.ref (B + 3)), some (.int 1), some (.int (nI r))], [], (h, nx, sl)) res := by
    intro dd h em r res hdd h2 hC r'
    have ra := c_acc_no (G := G) (d := dd - 1) (nx := nx) (sl := sl) (K := 2) hC hi hT (by omega) (Or.inr h2)
    obtain ⟨-, h3, -⟩ := hC
    refine xr_go i23_46 rfl ?_
    refine xr_go i23_47 rfl ?_
    refine xr_V i23_48 xc23_48 ⟨rfl, rfl⟩ xa_24 rfl (by assumption) rfl (Nat.le_of_ble_eq_true rfl) (by omega) ⟨Nat.le_of_ble_eq_true rfl, Nat.le_of_ble_eq_true rfl⟩ (ra) ?_
    refine xr_if_eqT i23_51 (t := 58) (by decide) rfl ?_
    exact r'
  by_cases h2 : tK n tb (tP n tb i) = 2
  · have hi1 := tok_next hT4 hi (by omega)
    obtain ⟨o1, g1, c1, m1⟩ := j_test (G := G) (nx := nx) (sl := sl) (B := B) (M := M) (tn := tn) (tk := tk) (rk := rk) (lt := lt) (pc := pc) (od := od) ht0 T (i + 1) p (by omega) hi1 hp
    have testC : ∀ dd h em r, 30 ≤ dd → em.length ≤ i + 5 → xCs B n tb T em i p (-2) h → ∃ h2, (∀ res, xRun G dd 23 (58, [some (.ref (B + 3)), some (.int 1), some (.int (nI r))], [], (h2, nx, sl)) res → xRun G dd 23 (46, [some (.ref (B + 3)), some (.int 1), some (.int (nI r))], [], (h, nx, sl)) res) ∧ xfr B h h2 ∧ xCtt B n tb T em h2 o1 := by
      intro dd h em r hdd he hC
      obtain ⟨h1, r1, a1, a2⟩ := c_acc_yes (G := G) (d := dd - 1) (nx := nx) (sl := sl) hC hi1 hT h2
      obtain ⟨h3, r3, b1, b2⟩ := c1 (dd - 1) h1 em 0 none (by omega) (by omega) (by omega) a2
      have h3' := hC.2.1
      have a23 := a2.2.1
      have r3' : xRun G (dd - 1) 25 (0, [some (.ref (B + 3)), none, none, none], [], (h1, nx, sl)) (none, (h3, nx, sl)) := by
        refine xr_go i25_0 rfl ?_
        refine xr_go i25_1 rfl ?_
        refine xr_go i25_2 rfl ?_
        refine xr_go i25_3 rfl ?_
        exact r3
      refine ⟨h3, fun res r' => ?_, a1.trans b1, b2⟩
      refine xr_go i23_46 rfl ?_
      refine xr_go i23_47 rfl ?_
      refine xr_V i23_48 xc23_48 ⟨rfl, rfl⟩ xa_24 rfl (by assumption) rfl (Nat.le_of_ble_eq_true rfl) (by omega) ⟨Nat.le_of_ble_eq_true rfl, Nat.le_of_ble_eq_true rfl⟩ (r1) ?_
      refine xr_if_eqF i23_51 (t := 58) (by decide) (by first | exact (show ¬ (1 : Int32) = 0 by decide) | decide) ?_
      refine xr_go i23_54 rfl ?_
      refine xr_V i23_55 xc23_52 ⟨rfl, rfl⟩ xa_25 rfl (by assumption) rfl (Nat.le_of_ble_eq_true rfl) (by omega) ⟨Nat.le_of_ble_eq_true rfl, Nat.le_of_ble_eq_true rfl⟩ (r3') ?_
      exact r'
    have testM : ∀ nx sl dd h hd body c, 31 ≤ dd → hd.length = 7 → hd.getD 0 0 = nI c → c < 6 → body.length ≤ 3 * i + 20 → xMp M n tb tn tk rk lt pc od (hd ++ body) i p (-1) h → ∃ h2, (∀ res, xRun G dd 88 (71, [some (.ref M), some (.int (nI (xhd hd c (7 + body.length) ++ body).length)), none, none], [], (h2, nx, sl)) res → xRun G dd 88 (0, [some (.ref M), none, none, none], [], (h, nx, sl)) res) ∧ xfm M h h2 ∧ xMtt G nx sl M n tb tn tk rk lt pc od dd (xhd hd c (7 + body.length) ++ body) 0 [] h2 o1 := by
      intro nx sl dd h hd body c hdd hh7 hh0 hc hbl hM
      obtain ⟨h1, r1, a1, a2⟩ := headM nx sl dd h hd body c hdd hh7 hh0 hc hbl hM
      have lx : (xhd hd c (7 + body.length) ++ body).length = 7 + body.length := by unfold xhd; rw [List.length_append, List.length_set, List.length_set, hh7]
      have qa := m_isP (G := G) (d := dd - 1) (nx := nx) (sl := sl) (s := 1) hG (by omega) a2 hn hb (by omega)
      rw [decide_eq_true (show tK n tb (tP n tb i) = tkind.getD 1 0 from h2)] at qa
      obtain ⟨f, hf0, hf1, hf2⟩ := xMp_arr a2
      obtain ⟨k1, ek1⟩ : ∃ y : xH, y = xup h1 (M + 35) (.inl (0, 1600, .inl (upd f (7 + body.length) (nI 0)))) := ⟨_, rfl⟩
      obtain ⟨b1, b2⟩ := hf2 (7 + body.length) (nI 0) k1 (by rw [List.length_append, lx, List.length_singleton]; omega) ek1
      rw [set_at lx] at b1
      obtain ⟨h3, r3, d1, d2⟩ := m_stepP (G := G) (d := dd - 1) (nx := nx) (sl := sl) hG b1 hn hb (by omega)
      have e1 := m1 nx sl dd h3 (xhd hd c (7 + body.length) ++ body) 0 [] (by omega) (by rw [lx, List.length_nil]; omega) (by omega) d2
      obtain ⟨⟨nu, -, hO⟩, -⟩ := a2
      obtain ⟨⟨nu1, -, hO1⟩, -⟩ := b1
      refine ⟨h3, fun res r => r1 _ ?_, (a1.trans b2).trans d1, e1⟩
      rw [lx] at r
      refine xr_go i88_51 rfl ?_
      refine xr_ldc i88_52 xd88_100 rfl rfl ?_
      refine xr_V i88_54 xc88_102 ⟨rfl, rfl⟩ xa_86 rfl (by assumption) rfl (Nat.le_of_ble_eq_true rfl) (by omega) ⟨Nat.le_of_ble_eq_true rfl, Nat.le_of_ble_eq_true rfl⟩ (qa) ?_
      refine xr_if_eqF i88_57 (t := 110) (by decide) (by first | exact (show ¬ (1 : Int32) = 0 by decide) | decide) ?_
      refine xr_go i88_60 rfl ?_
      refine xr_get i88_61 xf88_55 (by assumption) rfl rfl ?_
      refine xr_go i88_64 rfl ?_
      refine xr_go i88_65 rfl ?_
      refine xr_iast i88_66 (by assumption) rfl (by omega) (by omega) (fun z1 ez1 => ?_)
      obtain rfl : z1 = k1 := ez1.trans ek1.symm
      refine xr_go i88_67 rfl ?_
      refine xr_V i88_68 xc88_156 ⟨rfl, rfl⟩ xa_84 rfl (by assumption) rfl (Nat.le_of_ble_eq_true rfl) (by omega) ⟨Nat.le_of_ble_eq_true rfl, Nat.le_of_ble_eq_true rfl⟩ (r3) ?_
      exact r
    cases o1 with
    | inl j =>
      have g' : i + 1 ≤ j ∧ j < T := g1
      refine ⟨.inl j, ⟨by omega, g'.2⟩, fun dd h em r hdd he hC => ?_, fun nx sl dd h hd body c hdd hh7 hh0 hc hbl hM => ?_⟩
      · obtain ⟨h2, r2, a1, em', p', a2, a3⟩ := testC dd h em r hdd he hC
        obtain ⟨h3, r3, b1, p2, b2, b3⟩ := cf_prog58 (G := G) (d := dd) (nx := nx) (sl := sl) (r := r) a3 (tP_nn hn) g'.2 hT a2 (by omega)
        exact ⟨h3, r2 _ r3, a1.trans b1, em', p2, b2, b3⟩
      · obtain ⟨h2, r2, a1, h3, r3, a2, a3⟩ := testM nx sl dd h hd body c hdd hh7 hh0 hc hbl hM
        exact ⟨h3, r2 _ r3, a1.trans a2, a3⟩
    | inr v =>
      obtain ⟨Q, i1, p1⟩ := v
      have g' : i + 1 + 1 ≤ i1 ∧ i1 < T ∧ (Q.flatMap xcs).length + (i + 1) ≤ i1 ∧ (Q.flatMap mcmp).length + 3 * (i + 1) ≤ 3 * i1 ∧ p1 ≤ 80 ∧ (∀ q ∈ Q, xWc q) ∧ Q ≠ [] := g1
      obtain ⟨q1, q2, q3, q3', q4, q5, q6⟩ := g'
      obtain ⟨o2, g2, c2, m2⟩ := j_rule2 (G := G) (nx := nx) (sl := sl) (B := B) (M := M) (tn := tn) (tk := tk) (rk := rk) (lt := lt) (pc := pc) (od := od) ht0 Q q5 q2 q4
      have runM : ∀ nx sl dd h hd body c, 31 ≤ dd → hd.length = 7 → hd.getD 0 0 = nI c → c < 6 → body.length ≤ 3 * i + 20 → xMp M n tb tn tk rk lt pc od (hd ++ body) i p (-1) h → ∃ h', xRun G dd 88 (0, [some (.ref M), none, none, none], [], (h, nx, sl)) (some (.int (xev' o2)), (h', nx, sl)) ∧ xfm M h h' ∧ xMe M n tb tn tk rk lt pc od (xhd hd c (7 + body.length) ++ body ++ nI (0 + Q.length) :: ([] ++ Q.flatMap mcmp)) 0 [] h' o2 := by
        intro nx sl dd h hd body c hdd hh7 hh0 hc hbl hM
        have lx : (xhd hd c (7 + body.length) ++ body).length = 7 + body.length := by unfold xhd; rw [List.length_append, List.length_set, List.length_set, hh7]
        obtain ⟨h2, r2, a1, h3, r3, a2, a3⟩ := testM nx sl dd h hd body c hdd hh7 hh0 hc hbl hM
        obtain ⟨h4, r4, b1, b2⟩ := m2 nx sl dd h3 _ (nI (xhd hd c (7 + body.length) ++ body).length) (by omega) (by rw [List.length_append, lx, List.length_cons, List.nil_append]; omega) a3
        exact ⟨h4, r2 _ (r3 _ r4), (a1.trans a2).trans b1, b2⟩
      cases o2 with
      | inl j =>
        have g'' : i1 ≤ j ∧ j < T := g2
        refine ⟨.inl j, ⟨by omega, g''.2⟩, fun dd h em r hdd he hC => ?_, fun nx sl dd h hd body c hdd hh7 hh0 hc hbl hM => runM nx sl dd h hd body c hdd hh7 hh0 hc hbl hM⟩
        obtain ⟨h2, r2, a1, a2⟩ := testC dd h em r hdd he hC
        obtain ⟨h3, r3, b1, b2⟩ := c2 dd h2 (em ++ Q.flatMap xcs) r hdd (by rw [List.length_append]; omega) a2
        exact ⟨h3, r2 _ r3, a1.trans b1, b2⟩
      | inr v =>
        obtain ⟨ES, i2, p2⟩ := v
        have g'' : i1 + 1 ≤ i2 ∧ i2 < T ∧ (ES.flatMap xes).length + i1 + 2 ≤ i2 ∧ (ES.flatMap meff).length + 3 * i1 ≤ 3 * i2 ∧ p2 ≤ 80 ∧ (∀ q ∈ ES, xWe q) ∧ 0 + ES.length ≤ 8 := g2
        obtain ⟨s1, s2, s3, s3', s4, s5, s6⟩ := g''
        refine ⟨.inr ((Q, ES), i2, p2), ⟨by omega, s2, ?_, ?_, s4, q5, s5, by show ES.length ≤ 8; omega⟩, fun dd h em r hdd he hC => ?_, fun nx sl dd h hd body c hdd hh7 hh0 hc hbl hM => ?_⟩
        · unfold xru
          dsimp only
          rw [List.length_append]
          omega
        · unfold mrule
          dsimp only
          rw [List.length_cons, List.length_append, List.length_cons]
          omega
        · obtain ⟨h2, r2, a1, a2⟩ := testC dd h em r hdd he hC
          obtain ⟨h3, r3, b1, b2⟩ := c2 dd h2 (em ++ Q.flatMap xcs) r hdd (by rw [List.length_append]; omega) a2
          refine ⟨h3, fun res r' => r2 _ (r3 _ r'), a1.trans b1, ?_⟩
          rw [List.append_assoc] at b2
          unfold xru
          rw [List.append_assoc (Q.flatMap xcs)]
          exact b2
        · obtain ⟨h', r, a1, a2⟩ := runM nx sl dd h hd body c hdd hh7 hh0 hc hbl hM
          refine ⟨h', r, a1, ?_⟩
          have a2' : xMp M n tb tn tk rk lt pc od (xhd hd c (7 + body.length) ++ body ++ nI (0 + Q.length) :: ([] ++ Q.flatMap mcmp) ++ nI (0 + ES.length) :: ([] ++ ES.flatMap meff)) i2 p2 (-1) h' := a2
          rw [Nat.zero_add, Nat.zero_add, List.nil_append, List.nil_append, List.append_assoc, List.append_assoc] at a2'
          show xMp M n tb tn tk rk lt pc od (xhd hd c (7 + body.length) ++ (body ++ mrule (Q, ES))) i2 p2 (-1) h'
          unfold mrule
          rw [if_neg q6]
          exact a2'
  · obtain ⟨o2, g2, c2, m2⟩ := j_rule2 (G := G) (nx := nx) (sl := sl) (B := B) (M := M) (tn := tn) (tk := tk) (rk := rk) (lt := lt) (pc := pc) (od := od) ht0 [] (by simp) hi hp
    have runM : ∀ nx sl dd h hd body c, 31 ≤ dd → hd.length = 7 → hd.getD 0 0 = nI c → c < 6 → body.length ≤ 3 * i + 20 → xMp M n tb tn tk rk lt pc od (hd ++ body) i p (-1) h → ∃ h', xRun G dd 88 (0, [some (.ref M), none, none, none], [], (h, nx, sl)) (some (.int (xev' o2)), (h', nx, sl)) ∧ xfm M h h' ∧ xMe M n tb tn tk rk lt pc od (xhd hd c (7 + body.length) ++ body ++ [-1]) 0 [] h' o2 := by
      intro nx sl dd h hd body c hdd hh7 hh0 hc hbl hM
      have lx : (xhd hd c (7 + body.length) ++ body).length = 7 + body.length := by unfold xhd; rw [List.length_append, List.length_set, List.length_set, hh7]
      obtain ⟨h1, r1, a1, a2⟩ := headM nx sl dd h hd body c hdd hh7 hh0 hc hbl hM
      have qa := m_isP (G := G) (d := dd - 1) (nx := nx) (sl := sl) (s := 1) hG (by omega) a2 hn hb (by omega)
      rw [decide_eq_false (show ¬ tK n tb (tP n tb i) = tkind.getD 1 0 from h2)] at qa
      obtain ⟨h4, r4, b1, b2⟩ := m2 nx sl dd h1 _ (nI (7 + body.length)) (by omega) (by rw [List.length_append, lx, List.length_singleton]; omega) a2
      obtain ⟨⟨nu, -, hO⟩, -⟩ := a2
      refine ⟨h4, r1 _ ?_, a1.trans b1, b2⟩
      refine xr_go i88_51 rfl ?_
      refine xr_ldc i88_52 xd88_100 rfl rfl ?_
      refine xr_V i88_54 xc88_102 ⟨rfl, rfl⟩ xa_86 rfl (by assumption) rfl (Nat.le_of_ble_eq_true rfl) (by omega) ⟨Nat.le_of_ble_eq_true rfl, Nat.le_of_ble_eq_true rfl⟩ (qa) ?_
      refine xr_if_eqT i88_57 (t := 110) (by decide) rfl ?_
      exact r4
    cases o2 with
    | inl j =>
      have g'' : i ≤ j ∧ j < T := g2
      refine ⟨.inl j, g'', fun dd h em r hdd he hC => ?_, fun nx sl dd h hd body c hdd hh7 hh0 hc hbl hM => runM nx sl dd h hd body c hdd hh7 hh0 hc hbl hM⟩
      obtain ⟨h3, r3, b1, b2⟩ := c2 dd h em r hdd he hC
      exact ⟨h3, noIf dd h em r _ hdd h2 hC r3, b1, b2⟩
    | inr v =>
      obtain ⟨ES, i2, p2⟩ := v
      have g'' : i + 1 ≤ i2 ∧ i2 < T ∧ (ES.flatMap xes).length + i + 2 ≤ i2 ∧ (ES.flatMap meff).length + 3 * i ≤ 3 * i2 ∧ p2 ≤ 80 ∧ (∀ q ∈ ES, xWe q) ∧ 0 + ES.length ≤ 8 := g2
      obtain ⟨s1, s2, s3, s3', s4, s5, s6⟩ := g''
      refine ⟨.inr (([], ES), i2, p2), ⟨s1, s2, ?_, ?_, s4, by simp, s5, by show ES.length ≤ 8; omega⟩, fun dd h em r hdd he hC => ?_, fun nx sl dd h hd body c hdd hh7 hh0 hc hbl hM => ?_⟩
      · unfold xru
        dsimp only
        rw [List.length_append, List.flatMap_nil, List.length_nil]
        omega
      · unfold mrule
        dsimp only
        rw [List.length_cons, List.length_append, List.length_cons, List.flatMap_nil, List.length_nil]
        omega
      · obtain ⟨h3, r3, b1, b2⟩ := c2 dd h em r hdd he hC
        refine ⟨h3, fun res r' => noIf dd h em r _ hdd h2 hC (r3 _ r'), b1, ?_⟩
        unfold xru
        rw [List.flatMap_nil, List.nil_append]
        exact b2
      · obtain ⟨h', r, a1, a2⟩ := runM nx sl dd h hd body c hdd hh7 hh0 hc hbl hM
        refine ⟨h', r, a1, ?_⟩
        have a2' : xMp M n tb tn tk rk lt pc od (xhd hd c (7 + body.length) ++ body ++ [-1] ++ nI (0 + ES.length) :: ([] ++ ES.flatMap meff)) i2 p2 (-1) h' := a2
        rw [Nat.zero_add, List.nil_append, List.append_assoc, List.append_assoc] at a2'
        show xMp M n tb tn tk rk lt pc od (xhd hd c (7 + body.length) ++ (body ++ mrule ([], ES))) i2 p2 (-1) h'
        unfold mrule
        rw [if_pos rfl, List.flatMap_nil]
        exact a2'
end XJRULE

