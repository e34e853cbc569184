/-! ===== the model: reading a program, its small steps ===== -/
abbrev xMk (M n : Nat) (tb : Nat → Nat) (tn tk rk : Int32) (lt : Value) (i : Nat) (ft pt : Int32) (nu : Int64) (mn pc od : Int32) : xE := .inr (10, xMf M tn tk rk lt (nI (ta n tb (i + 1))) (nI n) (nI (tmk (tK n tb (tP n tb i)))) (nI (tP n tb i)) (nI (ta n tb (i + 1))) ft pt nu mn pc od)
/-- the model at token i: what is written of the code, parts, fault -/
def xMp (M n : Nat) (tb : Nat → Nat) (tn tk rk : Int32) (lt : Value) (pc od : Int32) (cs : List Int32) (i p : Nat) (ft : Int32) (h : xH) : Prop := (∃ nu, (tK n tb (tP n tb i) = 9 → nu = Int64.ofNat (tN n tb (tP n tb i))) ∧ h M = some (xMk M n tb tn tk rk lt i ft (nI p) nu (nI cs.length) pc od)) ∧ xMt M n tb h ∧ ∃ f, h (M + 35) = some (.inl (0, 1600, .inl f)) ∧ ∀ k, k < cs.length → f k = cs.getD k 0
/-- the model with a fault -/
def xMq (M n : Nat) (tb : Nat → Nat) (tn tk rk : Int32) (lt : Value) (pc od : Int32) (ft : Int32) (h : xH) : Prop := (∃ at_ kd fr to_ pt nu mn, h M = some (.inr (10, xMf M tn tk rk lt at_ (nI n) kd fr to_ ft pt nu mn pc od))) ∧ xMt M n tb h ∧ ∃ f, h (M + 35) = some (.inl (0, 1600, .inl f))
def xfm (M : Nat) (h h' : xH) : Prop := ∀ q, q ≠ M → q ≠ M + 35 → h' q = h q
theorem xfm.refl {M : Nat} {h : xH} : xfm M h h := fun _ _ _ => rfl
theorem xfm.trans {M : Nat} {h h1 h2 : xH} (a : xfm M h h1) (b : xfm M h1 h2) : xfm M h h2 := fun q g1 g2 => (b q g1 g2).trans (a q g1 g2)
theorem gd_l {α : Type} {l l' : List α} {z : α} {k : Nat} (h : k < l.length) : (l ++ l').getD k z = l.getD k z := by
  rw [List.getD_eq_getElem?_getD, List.getD_eq_getElem?_getD, List.getElem?_append_left h]
theorem gd_r {α : Type} {l l' : List α} {z : α} {k : Nat} (h : l.length ≤ k) : (l ++ l').getD k z = l'.getD (k - l.length) z := by
  rw [List.getD_eq_getElem?_getD, List.getD_eq_getElem?_getD, List.getElem?_append_right h]
theorem gd_set {α : Type} {l : List α} {z x : α} {j k : Nat} (hk : k < l.length) : (l.set j x).getD k z = if k = j then x else l.getD k z := by
  rw [List.getD_eq_getElem?_getD, List.getD_eq_getElem?_getD, List.getElem?_set]
  by_cases e : j = k
  · rw [if_pos e, if_pos e.symm, if_pos (by omega)]
    rfl
  · rw [if_neg e, if_neg (fun z => e z.symm)]
section XMLEAF
variable {G : xG} {d : Nat} {h h' : xH} {nx sl M n : Nat} {tb : Nat → Nat} {tn tk rk : Int32} {lt : Value} {ft pc od : Int32} {cs : List Int32} {i p : Nat}
theorem xMp_q (hM : xMp M n tb tn tk rk lt pc od cs i p ft h) : xMq M n tb tn tk rk lt pc od ft h := by
  obtain ⟨⟨nu, -, h1⟩, h2, f, h3, -⟩ := hM
  exact ⟨⟨_, _, _, _, _, _, _, h1⟩, h2, f, h3⟩
theorem xMt_fm (ht : xMt M n tb h) (e : h' (M + 1) = h (M + 1)) : xMt M n tb h' := by
  obtain ⟨f, h1, h2⟩ := ht
  exact ⟨f, e.trans h1, h2⟩
theorem m_isP {s : Nat} (hG : xGok G) (hs : s < 18) (hM : xMp M n tb tn tk rk lt pc od cs i p ft h) (hn : n ≤ 400) (hb : ∀ j, j < n → tb j < 256) (hd : 1 ≤ d) : xRun G d 86 (0, [some (.ref M), some (.ref (G.1 s)), none], [], (h, nx, sl)) (some (.int (xbi (decide (tK n tb (tP n tb i) = tkind.getD s 0)))), (h, nx, sl)) := by
  obtain ⟨⟨nu, -, hO⟩, hT, -⟩ := hM
  have hpl := tP_le (n := n) (tb := tb) i
  have he := tE_le (tb := tb) hpl
  have r := m_is (G := G) (d := d) (nx := nx) (sl := sl) (K := tmk (tK n tb (tP n tb i))) (p := tP n tb i) (e := tE n tb (tP n tb i)) hG hs hO hT hn hb he.1 he.2.1 tmk_le hd
  have ee : ((decide (tmk (tK n tb (tP n tb i)) = 1) || decide (tmk (tK n tb (tP n tb i)) = 3)) && tmt tb (xSt.getD s []) (tP n tb i) (tE n tb (tP n tb i))) = decide (tK n tb (tP n tb i) = tkind.getD s 0) := by
    rw [Bool.eq_iff_iff]
    simp only [Bool.and_eq_true, Bool.or_eq_true, decide_eq_true_eq]
    exact tK_is hs
  rw [ee] at r
  exact r
theorem m_stepP (hG : xGok G) (hM : xMp M n tb tn tk rk lt pc od cs i p ft h) (hn : n ≤ 400) (hb : ∀ j, j < n → tb j < 256) (hd : 2 ≤ d) : ∃ h', xRun G d 84 (0, [some (.ref M), none, none], [], (h, nx, sl)) (none, (h', nx, sl)) ∧ xfm M h h' ∧ xMp M n tb tn tk rk lt pc od cs (i + 1) p ft h' := by
  obtain ⟨⟨nu, -, hO⟩, hT, f, hc, hf⟩ := hM
  obtain ⟨nu', h1, r⟩ := m_step0 (G := G) (d := d) (nx := nx) (sl := sl) (a := ta n tb (i + 1)) hG (ta_le (i + 1)) hn hb hO hT hd
  rw [← tP_ta] at h1 r
  exact ⟨_, r, fun q a1 a2 => xup_n a1, ⟨nu', h1, xup_s⟩, xMt_fm hT (xup_n (by omega)), f, (xup_n (by omega)).trans hc, hf⟩
theorem m_badP (hM : xMp M n tb tn tk rk lt pc od cs i p (-1) h) : ∃ h', xRun G d 89 (0, [some (.ref M)], [], (h, nx, sl)) (some (.int 0), (h', nx, sl)) ∧ xfm M h h' ∧ xMq M n tb tn tk rk lt pc od (nI (tP n tb i)) h' := by
  obtain ⟨⟨nu, -, hO⟩, hT, f, hc, hf⟩ := hM
  obtain ⟨k1, ek1⟩ : ∃ y : xH, y = xup h M (xMk M n tb tn tk rk lt i (nI (tP n tb i)) (nI p) nu (nI cs.length) pc od) := ⟨_, rfl⟩
  refine ⟨k1, ?_, fun q a1 a2 => by rw [ek1]; exact xup_n a1, ⟨_, _, _, _, _, _, _, xup_at ek1⟩, xMt_up hT ek1, f, by rw [ek1, xup_n (by omega)]; exact hc⟩
  refine xr_go i89_0 rfl ?_
  refine xr_get i89_1 xf89_149 (by assumption) rfl rfl ?_
  refine xr_if_geF i89_4 (t := 15) (by decide) (by decide) ?_
  refine xr_go i89_7 rfl ?_
  refine xr_go i89_8 rfl ?_
  refine xr_get i89_9 xf89_87 (by assumption) rfl rfl ?_
  refine xr_put i89_12 xf89_149 (by assumption) ⟨rfl, Nat.le_of_ble_eq_true rfl, rfl, rfl, Or.inl rfl⟩ (fun z1 ez1 => ?_)
  obtain rfl : z1 = k1 := ez1.trans ek1.symm
  refine xr_go i89_15 rfl ?_
  exact xr_iret i89_16 xt_89 rfl
theorem m_putP (x : Int32) (hM : xMp M n tb tn tk rk lt pc od cs i p ft h) (hl : cs.length < 1600) : ∃ h', xRun G d 90 (0, [some (.ref M), some (.int x)], [], (h, nx, sl)) (none, (h', nx, sl)) ∧ xfm M h h' ∧ xMp M n tb tn tk rk lt pc od (cs ++ [x]) i p ft h' := by
  obtain ⟨⟨nu, hnu, hO⟩, hT, f, hc, hf⟩ := hM
  obtain ⟨k1, ek1⟩ : ∃ y : xH, y = xup h (M + 35) (.inl (0, 1600, .inl (upd f cs.length x))) := ⟨_, rfl⟩
  have k1n : ∀ q, q ≠ M + 35 → k1 q = h q := fun q hq => by rw [ek1]; exact xup_n hq
  have k1O := (k1n M (by omega)).trans hO
  have el : (cs ++ [x]).length = cs.length + 1 := by simp
  obtain ⟨k2, ek2⟩ : ∃ y : xH, y = xup k1 M (xMk M n tb tn tk rk lt i ft (nI p) nu (nI (cs.length + 1)) pc od) := ⟨_, rfl⟩
  have k2n : ∀ q, q ≠ M → k2 q = k1 q := fun q hq => by rw [ek2]; exact xup_n hq
  refine ⟨k2, ?_, fun q a1 a2 => (k2n q a1).trans (k1n q a2), ⟨nu, hnu, by rw [el]; exact xup_at ek2⟩, xMt_fm hT ((k2n _ (by omega)).trans (k1n _ (by omega))), upd f cs.length x, (k2n _ (by omega)).trans (xup_at ek1), fun k hk => ?_⟩
  · refine xr_go i90_0 rfl ?_
    refine xr_get i90_1 xf90_55 (by assumption) rfl rfl ?_
    refine xr_go i90_4 rfl ?_
    refine xr_get i90_5 xf90_159 (by assumption) rfl rfl ?_
    refine xr_go i90_8 rfl ?_
    refine xr_iast i90_9 (by assumption) rfl (by omega) (by omega) (fun z1 ez1 => ?_)
    obtain rfl : z1 = k1 := ez1.trans ek1.symm
    refine xr_go i90_10 rfl ?_
    refine xr_go i90_11 rfl ?_
    refine xr_get i90_12 xf90_159 (by assumption) rfl rfl ?_
    refine xr_go i90_15 rfl ?_
    refine xr_go i90_16 rfl ?_
    refine xr_top (show _ = nI (cs.length + 1) from nI_add cs.length 1) ?_
    refine xr_put i90_17 xf90_159 (by assumption) ⟨rfl, Nat.le_of_ble_eq_true rfl, rfl, rfl, Or.inl rfl⟩ (fun z2 ez2 => ?_)
    obtain rfl : z2 = k2 := ez2.trans ek2.symm
    exact xr_end i90_20 rfl
  · unfold upd
    by_cases e : k = cs.length
    · rw [if_pos e, e, gd_r (Nat.le_refl _), Nat.sub_self]
      rfl
    · rw [if_neg e, gd_l (by omega)]
      exact hf k (by omega)
theorem m_take_yes {s : Nat} (hG : xGok G) (hs : s < 18) (hM : xMp M n tb tn tk rk lt pc od cs i p ft h) (hn : n ≤ 400) (hb : ∀ j, j < n → tb j < 256) (hd : 3 ≤ d) (hk : tK n tb (tP n tb i) = tkind.getD s 0) : ∃ h', xRun G d 96 (0, [some (.ref M), some (.ref (G.1 s))], [], (h, nx, sl)) (some (.int 1), (h', nx, sl)) ∧ xfm M h h' ∧ xMp M n tb tn tk rk lt pc od cs (i + 1) p ft h' := by
  have q := m_isP (G := G) (d := d - 1) (nx := nx) (sl := sl) hG hs hM hn hb (by omega)
  rw [decide_eq_true hk] at q
  obtain ⟨h', r, a1, a2⟩ := m_stepP (G := G) (d := d - 1) (nx := nx) (sl := sl) hG hM hn hb (by omega)
  obtain ⟨⟨nu, -, hO⟩, -⟩ := hM
  refine ⟨h', ?_, a1, a2⟩
  refine xr_go i96_0 rfl ?_
  refine xr_go i96_1 rfl ?_
  refine xr_V i96_2 xc96_102 ⟨rfl, rfl⟩ xa_86 rfl (by assumption) rfl (Nat.le_of_ble_eq_true rfl) (by omega) ⟨Nat.le_of_ble_eq_true rfl, Nat.le_of_ble_eq_true rfl⟩ (q) ?_
  refine xr_if_neT i96_5 (t := 13) (by decide) (by decide) ?_
  refine xr_go i96_13 rfl ?_
  refine xr_V i96_14 xc96_156 ⟨rfl, rfl⟩ xa_84 rfl (by assumption) rfl (Nat.le_of_ble_eq_true rfl) (by omega) ⟨Nat.le_of_ble_eq_true rfl, Nat.le_of_ble_eq_true rfl⟩ (r) ?_
  refine xr_go i96_17 rfl ?_
  exact xr_iret i96_18 xt_96 rfl
theorem m_take_no {s : Nat} (hG : xGok G) (hs : s < 18) (hM : xMp M n tb tn tk rk lt pc od cs i p (-1) h) (hn : n ≤ 400) (hb : ∀ j, j < n → tb j < 256) (hd : 3 ≤ d) (hk : ¬ tK n tb (tP n tb i) = tkind.getD s 0) : ∃ h', xRun G d 96 (0, [some (.ref M), some (.ref (G.1 s))], [], (h, nx, sl)) (some (.int 0), (h', nx, sl)) ∧ xfm M h h' ∧ xMq M n tb tn tk rk lt pc od (nI (tP n tb i)) h' := by
  have q := m_isP (G := G) (d := d - 1) (nx := nx) (sl := sl) hG hs hM hn hb (by omega)
  rw [decide_eq_false hk] at q
  obtain ⟨h', r, a1, a2⟩ := m_badP (G := G) (d := d - 1) (nx := nx) (sl := sl) hM
  obtain ⟨⟨nu, -, hO⟩, -⟩ := hM
  refine ⟨h', ?_, a1, a2⟩
  refine xr_go i96_0 rfl ?_
  refine xr_go i96_1 rfl ?_
  refine xr_V i96_2 xc96_102 ⟨rfl, rfl⟩ xa_86 rfl (by assumption) rfl (Nat.le_of_ble_eq_true rfl) (by omega) ⟨Nat.le_of_ble_eq_true rfl, Nat.le_of_ble_eq_true rfl⟩ (q) ?_
  refine xr_if_neF i96_5 (t := 13) (by decide) (by decide) ?_
  refine xr_go i96_8 rfl ?_
  refine xr_V i96_9 xc96_152 ⟨rfl, rfl⟩ xa_89 rfl (by assumption) rfl (Nat.le_of_ble_eq_true rfl) (by omega) ⟨Nat.le_of_ble_eq_true rfl, Nat.le_of_ble_eq_true rfl⟩ (r) ?_
  exact xr_iret i96_12 xt_96 rfl
theorem tmk_2 {K : Nat} : tmk K = 2 ↔ K = 9 := by
  unfold tmk
  repeat' split
  all_goals omega
theorem m_cell_no (hG : xGok G) (hM : xMp M n tb tn tk rk lt pc od cs i p (-1) h) (hn : n ≤ 400) (hb : ∀ j, j < n → tb j < 256) (hd : 4 ≤ d) (hk : ¬ tK n tb (tP n tb i) = 8) : ∃ h', xRun G d 97 (0, [some (.ref M)], [], (h, nx, sl)) (some (.int 0), (h', nx, sl)) ∧ xfm M h h' ∧ xMq M n tb tn tk rk lt pc od (nI (tP n tb i)) h' := by
  obtain ⟨h', r, a1, a2⟩ := m_take_no (G := G) (d := d - 1) (nx := nx) (sl := sl) (s := 0) hG (by omega) hM hn hb (by omega) hk
  obtain ⟨⟨nu, -, hO⟩, -⟩ := hM
  refine ⟨h', ?_, a1, a2⟩
  refine xr_go i97_0 rfl ?_
  refine xr_ldc i97_1 xd97_114 rfl rfl ?_
  refine xr_V i97_3 xc97_184 ⟨rfl, rfl⟩ xa_96 rfl (by assumption) rfl (Nat.le_of_ble_eq_true rfl) (by omega) ⟨Nat.le_of_ble_eq_true rfl, Nat.le_of_ble_eq_true rfl⟩ (r) ?_
  refine xr_if_neF i97_6 (t := 11) (by decide) (by decide) ?_
  refine xr_go i97_9 rfl ?_
  exact xr_iret i97_10 xt_97 rfl
theorem m_cell_bad (hG : xGok G) (hM : xMp M n tb tn tk rk lt pc od cs i p (-1) h) (hn : n ≤ 400) (hb : ∀ j, j < n → tb j < 256) (hd : 4 ≤ d) (hk : tK n tb (tP n tb i) = 8) (hk2 : ¬ (tK n tb (tP n tb (i + 1)) = 9 ∧ tN n tb (tP n tb (i + 1)) < 32)) : ∃ h', xRun G d 97 (0, [some (.ref M)], [], (h, nx, sl)) (some (.int 0), (h', nx, sl)) ∧ xfm M h h' ∧ xMq M n tb tn tk rk lt pc od (nI (tP n tb (i + 1))) h' := by
  obtain ⟨h1, r1, a1, a2⟩ := m_take_yes (G := G) (d := d - 1) (nx := nx) (sl := sl) (s := 0) hG (by omega) hM hn hb (by omega) hk
  obtain ⟨h2, r2, b1, b2⟩ := m_badP (G := G) (d := d - 1) (nx := nx) (sl := sl) a2
  obtain ⟨⟨nu, -, hO⟩, -⟩ := hM
  obtain ⟨⟨nu1, hnu1, hO1⟩, -⟩ := a2
  refine ⟨h2, ?_, a1.trans b1, b2⟩
  have tl := tN_lt (n := n) (p := tP n tb (i + 1)) (tb := tb)
  have kl := tmk_le (K := tK n tb (tP n tb (i + 1)))
  have tail : xRun G d 97 (30, [some (.ref M)], [], (h1, nx, sl)) (some (.int 0), (h2, nx, sl)) := by
    refine xr_go i97_30 rfl ?_
    refine xr_V i97_31 xc97_152 ⟨rfl, rfl⟩ xa_89 rfl (by assumption) rfl (Nat.le_of_ble_eq_true rfl) (by omega) ⟨Nat.le_of_ble_eq_true rfl, Nat.le_of_ble_eq_true rfl⟩ (r2) ?_
    exact xr_iret i97_34 xt_97 rfl
  refine xr_go i97_0 rfl ?_
  refine xr_ldc i97_1 xd97_114 rfl rfl ?_
  refine xr_V i97_3 xc97_184 ⟨rfl, rfl⟩ xa_96 rfl (by assumption) rfl (Nat.le_of_ble_eq_true rfl) (by omega) ⟨Nat.le_of_ble_eq_true rfl, Nat.le_of_ble_eq_true rfl⟩ (r1) ?_
  refine xr_if_neT i97_6 (t := 11) (by decide) (by decide) ?_
  refine xr_go i97_11 rfl ?_
  refine xr_get i97_12 xf97_90 (by assumption) rfl rfl ?_
  refine xr_go i97_15 rfl ?_
  by_cases e9 : tK n tb (tP n tb (i + 1)) = 9
  · have e2 := tmk_2.mpr e9
    have enu := hnu1 e9
    have eN : ¬ tN n tb (tP n tb (i + 1)) < 32 := fun z => hk2 ⟨e9, z⟩
    refine xr_icmp_neF i97_16 (t := 30) (by decide) (by rw [e2]; rfl) ?_
    refine xr_go i97_19 rfl ?_
    refine xr_get i97_20 xf97_119 (by assumption) rfl rfl ?_
    refine xr_ldc2 i97_23 xl97_197 rfl ?_
    refine xr_go i97_26 rfl ?_
    refine xr_if_ltF i97_27 (t := 35) (by decide) (fun z => by
      have := Int64.lt_iff_toInt_lt.mp ((lg_cmp_lt _ _).mp z)
      rw [enu, i64_toInt (by omega)] at this
      have e32 : (32 : Int64).toInt = 32 := rfl
      have this2 : ((tN n tb (tP n tb (i + 1)) : Nat) : Int) < (32 : Int64).toInt := this
      omega) ?_
    exact tail
  · refine xr_icmp_neT i97_16 (t := 30) (by decide) (fun z => e9 (tmk_2.mp ((nI_eq (b := 2) (by omega) (by omega)).mp z))) ?_
    exact tail
theorem m_cell_ok (hG : xGok G) (hM : xMp M n tb tn tk rk lt pc od cs i p ft h) (hl : cs.length < 1600) (hn : n ≤ 400) (hb : ∀ j, j < n → tb j < 256) (hd : 4 ≤ d) (hk : tK n tb (tP n tb i) = 8) (hk1 : tK n tb (tP n tb (i + 1)) = 9) (hk2 : tN n tb (tP n tb (i + 1)) < 32) : ∃ h', xRun G d 97 (0, [some (.ref M)], [], (h, nx, sl)) (some (.int 1), (h', nx, sl)) ∧ xfm M h h' ∧ xMp M n tb tn tk rk lt pc od (cs ++ [nI (tN n tb (tP n tb (i + 1)))]) (i + 2) p ft h' := by
  obtain ⟨h1, r1, a1, a2⟩ := m_take_yes (G := G) (d := d - 1) (nx := nx) (sl := sl) (s := 0) hG (by omega) hM hn hb (by omega) hk
  obtain ⟨h2, r2, b1, b2⟩ := m_putP (G := G) (d := d - 1) (nx := nx) (sl := sl) (nI (tN n tb (tP n tb (i + 1)))) a2 hl
  obtain ⟨h3, r3, c1, c2⟩ := m_stepP (G := G) (d := d - 1) (nx := nx) (sl := sl) hG b2 hn hb (by omega)
  obtain ⟨⟨nu, -, hO⟩, -⟩ := hM
  obtain ⟨⟨nu1, hnu1, hO1⟩, -⟩ := a2
  obtain ⟨⟨nu2, -, hO2⟩, -⟩ := b2
  refine ⟨h3, ?_, (a1.trans b1).trans c1, c2⟩
  have e2 := tmk_2.mpr hk1
  have enu := hnu1 hk1
  refine xr_go i97_0 rfl ?_
  refine xr_ldc i97_1 xd97_114 rfl rfl ?_
  refine xr_V i97_3 xc97_184 ⟨rfl, rfl⟩ xa_96 rfl (by assumption) rfl (Nat.le_of_ble_eq_true rfl) (by omega) ⟨Nat.le_of_ble_eq_true rfl, Nat.le_of_ble_eq_true rfl⟩ (r1) ?_
  refine xr_if_neT i97_6 (t := 11) (by decide) (by decide) ?_
  refine xr_go i97_11 rfl ?_
  refine xr_get i97_12 xf97_90 (by assumption) rfl rfl ?_
  refine xr_go i97_15 rfl ?_
  refine xr_icmp_neF i97_16 (t := 30) (by decide) (by rw [e2]; rfl) ?_
  refine xr_go i97_19 rfl ?_
  refine xr_get i97_20 xf97_119 (by assumption) rfl rfl ?_
  refine xr_ldc2 i97_23 xl97_197 rfl ?_
  refine xr_go i97_26 rfl ?_
  refine xr_if_ltT i97_27 (t := 35) (by decide) ((lg_cmp_lt _ _).mpr (Int64.lt_iff_toInt_lt.mpr (by
    rw [enu, i64_toInt (by omega)]
    show ((tN n tb (tP n tb (i + 1)) : Nat) : Int) < (32 : Int64).toInt
    have e32 : (32 : Int64).toInt = 32 := rfl
    omega))) ?_
  refine xr_go i97_35 rfl ?_
  refine xr_go i97_36 rfl ?_
  refine xr_get i97_37 xf97_119 (by assumption) rfl rfl ?_
  refine xr_go i97_40 rfl ?_
  refine xr_top (show _ = nI (tN n tb (tP n tb (i + 1))) from by rw [enu]; exact Int64.toInt32_ofNat') ?_
  refine xr_V i97_41 xc97_177 ⟨rfl, rfl⟩ xa_90 rfl (by assumption) rfl (Nat.le_of_ble_eq_true rfl) (by omega) ⟨Nat.le_of_ble_eq_true rfl, Nat.le_of_ble_eq_true rfl⟩ (r2) ?_
  refine xr_go i97_44 rfl ?_
  refine xr_V i97_45 xc97_156 ⟨rfl, rfl⟩ xa_84 rfl (by assumption) rfl (Nat.le_of_ble_eq_true rfl) (by omega) ⟨Nat.le_of_ble_eq_true rfl, Nat.le_of_ble_eq_true rfl⟩ (r3) ?_
  refine xr_go i97_48 rfl ?_
  exact xr_iret i97_49 xt_97 rfl
end XMLEAF

