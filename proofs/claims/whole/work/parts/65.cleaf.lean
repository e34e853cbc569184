/-! ===== the class: reading a program, its small steps ===== -/
/-- the compiler at token i: what it emitted, parts, fault -/
def xCs (B n : Nat) (tb : Nat → Nat) (T : Nat) (em : List (Nat × Int32)) (i p : Nat) (ft : Int32) (h : xH) : Prop := xTk B n tb T h ∧ h (B + 3) = some (.inr (2, [.ref (B + 1), .ref (B + 4), .ref (B + 8), .ref (B + 9), .int (nI em.length), .int (nI i), .int (nI p), .int ft])) ∧ ∃ fs fo, h (B + 8) = some (.inl (0, 406, .inl fs)) ∧ h (B + 9) = some (.inl (0, 406, .inl fo)) ∧ ∀ k, k < em.length → fs k = xkv (em.getD k (0, 0)).1 ∧ fo k = (em.getD k (0, 0)).2
/-- the compiler with a fault -/
def xCf (B n : Nat) (tb : Nat → Nat) (T : Nat) (ft : Int32) (h : xH) : Prop := ∃ em i p, xCs B n tb T em i p ft h ∧ i < T ∧ p ≤ 80
def xfr (B : Nat) (h h' : xH) : Prop := ∀ q, q ≠ B + 3 → q ≠ B + 8 → q ≠ B + 9 → h' q = h q
theorem xfr.refl {B : Nat} {h : xH} : xfr B h h := fun _ _ _ _ => rfl
theorem xfr.trans {B : Nat} {h h1 h2 : xH} (a : xfr B h h1) (b : xfr B h1 h2) : xfr B h h2 := fun q g1 g2 g3 => (b q g1 g2 g3).trans (a q g1 g2 g3)
theorem nI_n2 {x : Nat} (hx : x < 2 ^ 31) : ¬ nI x = -2 := fun z => nI_pos hx (by rw [z]; decide)
theorem xrng_no {n j : Nat} (hn : n < 2 ^ 31) (hj : j < 2 ^ 31) (h : n ≤ j) : xrng n (nI j) = false := by
  rw [← Bool.not_eq_true]
  intro z
  obtain ⟨k, hk, e⟩ := xrng_of hn z
  have := (nI_eq hj (by omega)).mp e
  omega
section XCLEAF
variable {G : xG} {d : Nat} {h h' : xH} {nx sl B n T : Nat} {tb : Nat → Nat} {ft : Int32} {em : List (Nat × Int32)} {i p : Nat}
theorem tok_next (hT4 : tK n tb (tP n tb (T - 1)) ≤ 1) (hi : i < T) (hk : 2 ≤ tK n tb (tP n tb i)) : i + 1 < T := by
  by_cases e : i + 1 = T
  · rw [← e, Nat.add_sub_cancel] at hT4
    omega
  · omega
theorem tP_nn (hn : n ≤ 400) : ¬ nI (tP n tb i) = -2 := by
  have := tP_le (n := n) (tb := tb) i
  exact nI_n2 (by omega)
theorem c_acc_no {K : Nat} (hC : xCs B n tb T em i p ft h) (hi : i < T) (hT : T ≤ 401) (hK : K ≤ 20) (hno : ¬ ft = -2 ∨ ¬ tK n tb (tP n tb i) = K) : xRun G d 24 (0, [some (.ref (B + 3)), some (.int (nI K))], [], (h, nx, sl)) (some (.int 0), (h, nx, sl)) := by
  obtain ⟨⟨h4, ⟨fk, h5, e5⟩, -, -⟩, h3, -⟩ := hC
  have hKl := tK_le (n := n) (p := tP n tb i) (tb := tb)
  refine xr_go i24_0 rfl ?_
  refine xr_get i24_1 xf24_35 (by assumption) rfl rfl ?_
  refine xr_go i24_4 rfl ?_
  by_cases e : ft = -2
  · refine xr_icmp_neF i24_6 (t := 41) (by decide) e ?_
    rcases hno with hno | hno
    · exact absurd e hno
    refine xr_go i24_9 rfl ?_
    refine xr_get i24_10 xf24_14 (by assumption) rfl rfl ?_
    refine xr_get i24_13 xf24_104 (by assumption) rfl rfl ?_
    refine xr_go i24_16 rfl ?_
    refine xr_get i24_17 xf24_29 (by assumption) rfl rfl ?_
    refine xr_iald i24_20 (by assumption) rfl (by omega) (by omega) ?_
    refine xr_go i24_21 rfl ?_
    rw [e5 i hi]
    refine xr_icmp_neT i24_22 (t := 41) (by decide) (fun z => hno ((nI_eq (by omega) (by omega)).mp z)) ?_
    refine xr_go i24_41 rfl ?_
    exact xr_iret i24_42 xt_24 rfl
  · refine xr_icmp_neT i24_6 (t := 41) (by decide) e ?_
    refine xr_go i24_41 rfl ?_
    exact xr_iret i24_42 xt_24 rfl
theorem c_acc_yes {K : Nat} (hC : xCs B n tb T em i p (-2) h) (hi : i + 1 < T) (hT : T ≤ 401) (hk : tK n tb (tP n tb i) = K) : ∃ h', xRun G d 24 (0, [some (.ref (B + 3)), some (.int (nI K))], [], (h, nx, sl)) (some (.int 1), (h', nx, sl)) ∧ xfr B h h' ∧ xCs B n tb T em (i + 1) p (-2) h' := by
  obtain ⟨hTk, h3, fs, fo, h8, h9, hem⟩ := hC
  have hTk0 := hTk
  obtain ⟨h4, ⟨fk, h5, e5⟩, -, -⟩ := hTk
  obtain ⟨k1, ek1⟩ : ∃ y : xH, y = xup h (B + 3) (.inr (2, [.ref (B + 1), .ref (B + 4), .ref (B + 8), .ref (B + 9), .int (nI em.length), .int (nI (i + 1)), .int (nI p), .int (-2)])) := ⟨_, rfl⟩
  have k1n : ∀ q, q ≠ B + 3 → k1 q = h q := fun q hq => by rw [ek1]; exact xup_n hq
  refine ⟨k1, ?_, fun q a1 a2 a3 => k1n q a1, xTk_kept hTk0 (fun q a1 a2 => k1n q (by omega)), xup_at ek1, fs, fo, (k1n _ (by omega)).trans h8, (k1n _ (by omega)).trans h9, hem⟩
  refine xr_go i24_0 rfl ?_
  refine xr_get i24_1 xf24_35 (by assumption) rfl rfl ?_
  refine xr_go i24_4 rfl ?_
  refine xr_icmp_neF i24_6 (t := 41) (by decide) rfl ?_
  refine xr_go i24_9 rfl ?_
  refine xr_get i24_10 xf24_14 (by assumption) rfl rfl ?_
  refine xr_get i24_13 xf24_104 (by assumption) rfl rfl ?_
  refine xr_go i24_16 rfl ?_
  refine xr_get i24_17 xf24_29 (by assumption) rfl rfl ?_
  refine xr_iald i24_20 (by assumption) rfl (by omega) (by omega) ?_
  refine xr_go i24_21 rfl ?_
  rw [e5 i (by omega), hk]
  refine xr_icmp_neF i24_22 (t := 41) (by decide) rfl ?_
  refine xr_go i24_25 rfl ?_
  refine xr_get i24_26 xf24_29 (by assumption) rfl rfl ?_
  refine xr_go i24_29 rfl ?_
  refine xr_go i24_30 rfl ?_
  refine xr_top (show _ = nI (i + 1) from nI_add i 1) ?_
  refine xr_go i24_31 rfl ?_
  refine xr_get i24_32 xf24_14 (by assumption) rfl rfl ?_
  refine xr_get i24_35 xf24_107 (by assumption) rfl rfl ?_
  refine xr_icmp_ltT i24_38 (t := 43) (by decide) (nI_lt (by omega) (by omega)) ?_
  refine xr_go i24_43 rfl ?_
  refine xr_go i24_44 rfl ?_
  refine xr_get i24_45 xf24_29 (by assumption) rfl rfl ?_
  refine xr_go i24_48 rfl ?_
  refine xr_go i24_49 rfl ?_
  refine xr_top (show _ = nI (i + 1) from nI_add i 1) ?_
  refine xr_put i24_50 xf24_29 (by assumption) ⟨rfl, Nat.le_of_ble_eq_true rfl, rfl, rfl, Or.inl rfl⟩ (fun z1 ez1 => ?_)
  obtain rfl : z1 = k1 := ez1.trans ek1.symm
  refine xr_go i24_53 rfl ?_
  exact xr_iret i24_54 xt_24 rfl
theorem c_kind (hC : xCs B n tb T em i p ft h) (hi : i < T) (hT : T ≤ 401) : xRun G d 31 (0, [some (.ref (B + 3))], [], (h, nx, sl)) (some (.int (nI (tK n tb (tP n tb i)))), (h, nx, sl)) := by
  obtain ⟨⟨h4, ⟨fk, h5, e5⟩, -, -⟩, h3, -⟩ := hC
  rw [← e5 i hi]
  refine xr_go i31_0 rfl ?_
  refine xr_get i31_1 xf31_14 (by assumption) rfl rfl ?_
  refine xr_get i31_4 xf31_104 (by assumption) rfl rfl ?_
  refine xr_go i31_7 rfl ?_
  refine xr_get i31_8 xf31_29 (by assumption) rfl rfl ?_
  refine xr_iald i31_11 (by assumption) rfl (by omega) (by omega) ?_
  exact xr_iret i31_12 xt_31 rfl
theorem c_fail_no (hC : xCs B n tb T em i p ft h) (hft : ¬ ft = -2) : xRun G d 30 (0, [some (.ref (B + 3))], [], (h, nx, sl)) (none, (h, nx, sl)) := by
  obtain ⟨-, h3, -⟩ := hC
  refine xr_go i30_0 rfl ?_
  refine xr_get i30_1 xf30_35 (by assumption) rfl rfl ?_
  refine xr_go i30_4 rfl ?_
  refine xr_icmp_neT i30_6 (t := 25) (by decide) hft ?_
  exact xr_end i30_25 rfl
theorem c_fail_ok (hC : xCs B n tb T em i p (-2) h) (hi : i < T) (hT : T ≤ 401) : ∃ h', xRun G d 30 (0, [some (.ref (B + 3))], [], (h, nx, sl)) (none, (h', nx, sl)) ∧ xfr B h h' ∧ xCs B n tb T em i p (nI (tP n tb i)) h' := by
  obtain ⟨hTk, h3, fs, fo, h8, h9, hem⟩ := hC
  have hTk0 := hTk
  obtain ⟨h4, -, ⟨fp, h6, e6⟩, -⟩ := hTk
  obtain ⟨k1, ek1⟩ : ∃ y : xH, y = xup h (B + 3) (.inr (2, [.ref (B + 1), .ref (B + 4), .ref (B + 8), .ref (B + 9), .int (nI em.length), .int (nI i), .int (nI p), .int (nI (tP n tb i))])) := ⟨_, rfl⟩
  have k1n : ∀ q, q ≠ B + 3 → k1 q = h q := fun q hq => by rw [ek1]; exact xup_n hq
  refine ⟨k1, ?_, fun q a1 a2 a3 => k1n q a1, xTk_kept hTk0 (fun q a1 a2 => k1n q (by omega)), xup_at ek1, fs, fo, (k1n _ (by omega)).trans h8, (k1n _ (by omega)).trans h9, hem⟩
  refine xr_go i30_0 rfl ?_
  refine xr_get i30_1 xf30_35 (by assumption) rfl rfl ?_
  refine xr_go i30_4 rfl ?_
  refine xr_icmp_neF i30_6 (t := 25) (by decide) rfl ?_
  refine xr_go i30_9 rfl ?_
  refine xr_go i30_10 rfl ?_
  refine xr_get i30_11 xf30_14 (by assumption) rfl rfl ?_
  refine xr_get i30_14 xf30_108 (by assumption) rfl rfl ?_
  refine xr_go i30_17 rfl ?_
  refine xr_get i30_18 xf30_29 (by assumption) rfl rfl ?_
  refine xr_iald i30_21 (by assumption) rfl (by omega) (by omega) ?_
  rw [e6 i hi]
  refine xr_put i30_22 xf30_35 (by assumption) ⟨rfl, Nat.le_of_ble_eq_true rfl, rfl, rfl, Or.inl rfl⟩ (fun z1 ez1 => ?_)
  obtain rfl : z1 = k1 := ez1.trans ek1.symm
  exact xr_end i30_25 rfl
theorem c_emit_no {x v : Int32} (hC : xCs B n tb T em i p ft h) (hft : ¬ ft = -2) : xRun G d 33 (0, [some (.ref (B + 3)), some (.int x), some (.int v)], [], (h, nx, sl)) (none, (h, nx, sl)) := by
  obtain ⟨-, h3, -⟩ := hC
  refine xr_go i33_0 rfl ?_
  refine xr_get i33_1 xf33_35 (by assumption) rfl rfl ?_
  refine xr_go i33_4 rfl ?_
  refine xr_icmp_neT i33_6 (t := 49) (by decide) hft ?_
  exact xr_end i33_49 rfl
theorem c_emit_ok {K : Nat} {x v : Int32} (hx : x = xkv K) (hC : xCs B n tb T em i p (-2) h) (hl : em.length < 406) : ∃ h', xRun G d 33 (0, [some (.ref (B + 3)), some (.int x), some (.int v)], [], (h, nx, sl)) (none, (h', nx, sl)) ∧ xfr B h h' ∧ xCs B n tb T (em ++ [(K, v)]) i p (-2) h' := by
  obtain ⟨hTk, h3, fs, fo, h8, h9, hem⟩ := hC
  have el : (em ++ [(K, v)]).length = em.length + 1 := by simp
  obtain ⟨k1, ek1⟩ : ∃ y : xH, y = xup h (B + 8) (.inl (0, 406, .inl (upd fs em.length x))) := ⟨_, rfl⟩
  have k1n : ∀ q, q ≠ B + 8 → k1 q = h q := fun q hq => by rw [ek1]; exact xup_n hq
  have k13 := (k1n (B + 3) (by omega)).trans h3
  have k19 := (k1n (B + 9) (by omega)).trans h9
  obtain ⟨k2, ek2⟩ : ∃ y : xH, y = xup k1 (B + 9) (.inl (0, 406, .inl (upd fo em.length v))) := ⟨_, rfl⟩
  have k2n : ∀ q, q ≠ B + 9 → k2 q = k1 q := fun q hq => by rw [ek2]; exact xup_n hq
  have k23 := (k2n (B + 3) (by omega)).trans k13
  obtain ⟨k3, ek3⟩ : ∃ y : xH, y = xup k2 (B + 3) (.inr (2, [.ref (B + 1), .ref (B + 4), .ref (B + 8), .ref (B + 9), .int (nI (em.length + 1)), .int (nI i), .int (nI p), .int (-2)])) := ⟨_, rfl⟩
  have k3n : ∀ q, q ≠ B + 3 → k3 q = k2 q := fun q hq => by rw [ek3]; exact xup_n hq
  have o3 : ∀ q, q ≠ B + 3 → q ≠ B + 8 → q ≠ B + 9 → k3 q = h q := fun q a1 a2 a3 => (k3n q a1).trans ((k2n q a3).trans (k1n q a2))
  refine ⟨k3, ?_, o3, xTk_kept hTk (fun q a1 a2 => o3 q (by omega) (by omega) (by omega)), by rw [el]; exact xup_at ek3, upd fs em.length x, upd fo em.length v, (k3n _ (by omega)).trans ((k2n _ (by omega)).trans (xup_at ek1)), (k3n _ (by omega)).trans (xup_at ek2), fun k hk => ?_⟩
  · refine xr_go i33_0 rfl ?_
    refine xr_get i33_1 xf33_35 (by assumption) rfl rfl ?_
    refine xr_go i33_4 rfl ?_
    refine xr_icmp_neF i33_6 (t := 49) (by decide) rfl ?_
    refine xr_go i33_9 rfl ?_
    refine xr_get i33_10 xf33_25 (by assumption) rfl rfl ?_
    refine xr_go i33_13 rfl ?_
    refine xr_icmp_geF i33_16 (t := 49) (by decide) (show ¬ nI 406 ≤ nI em.length from nI_ge (by omega) (by omega)) ?_
    refine xr_go i33_19 rfl ?_
    refine xr_get i33_20 xf33_18 (by assumption) rfl rfl ?_
    refine xr_go i33_23 rfl ?_
    refine xr_get i33_24 xf33_25 (by assumption) rfl rfl ?_
    refine xr_go i33_27 rfl ?_
    refine xr_iast i33_28 (by assumption) rfl (by omega) (by omega) (fun z1 ez1 => ?_)
    obtain rfl : z1 = k1 := ez1.trans ek1.symm
    refine xr_go i33_29 rfl ?_
    refine xr_get i33_30 xf33_22 (by assumption) rfl rfl ?_
    refine xr_go i33_33 rfl ?_
    refine xr_get i33_34 xf33_25 (by assumption) rfl rfl ?_
    refine xr_go i33_37 rfl ?_
    refine xr_iast i33_38 (by assumption) rfl (by omega) (by omega) (fun z2 ez2 => ?_)
    obtain rfl : z2 = k2 := ez2.trans ek2.symm
    refine xr_go i33_39 rfl ?_
    refine xr_go i33_40 rfl ?_
    refine xr_get i33_41 xf33_25 (by assumption) rfl rfl ?_
    refine xr_go i33_44 rfl ?_
    refine xr_go i33_45 rfl ?_
    refine xr_top (show _ = nI (em.length + 1) from nI_add em.length 1) ?_
    refine xr_put i33_46 xf33_25 (by assumption) ⟨rfl, Nat.le_of_ble_eq_true rfl, rfl, rfl, Or.inl rfl⟩ (fun z3 ez3 => ?_)
    obtain rfl : z3 = k3 := ez3.trans ek3.symm
    exact xr_end i33_49 rfl
  · unfold upd
    by_cases e : k = em.length
    · rw [if_pos e, if_pos e, e, gd_r (Nat.le_refl _), Nat.sub_self]
      exact ⟨hx, rfl⟩
    · rw [if_neg e, if_neg e, gd_l (by omega)]
      exact hem k (by omega)
theorem c_req_no {K : Nat} (hC : xCs B n tb T em i p ft h) (hi : i < T) (hT : T ≤ 401) (hK : K ≤ 20) (hft : ¬ ft = -2) (hd : 1 ≤ d) : xRun G d 29 (0, [some (.ref (B + 3)), some (.int (nI K))], [], (h, nx, sl)) (none, (h, nx, sl)) := by
  have r1 := c_acc_no (G := G) (d := d - 1) (nx := nx) (sl := sl) hC hi hT hK (Or.inl hft)
  have r2 := c_fail_no (G := G) (d := d - 1) (nx := nx) (sl := sl) hC hft
  obtain ⟨-, h3, -⟩ := hC
  refine xr_go i29_0 rfl ?_
  refine xr_go i29_1 rfl ?_
  refine xr_V i29_2 xc29_48 ⟨rfl, rfl⟩ xa_24 rfl (by assumption) rfl (Nat.le_of_ble_eq_true rfl) (by omega) ⟨Nat.le_of_ble_eq_true rfl, Nat.le_of_ble_eq_true rfl⟩ (r1) ?_
  refine xr_if_neF i29_5 (t := 12) (by decide) rfl ?_
  refine xr_go i29_8 rfl ?_
  refine xr_V i29_9 xc29_68 ⟨rfl, rfl⟩ xa_30 rfl (by assumption) rfl (Nat.le_of_ble_eq_true rfl) (by omega) ⟨Nat.le_of_ble_eq_true rfl, Nat.le_of_ble_eq_true rfl⟩ (r2) ?_
  exact xr_end i29_12 rfl
theorem c_req_yes {K : Nat} (hC : xCs B n tb T em i p (-2) h) (hi : i + 1 < T) (hT : T ≤ 401) (hk : tK n tb (tP n tb i) = K) (hd : 1 ≤ d) : ∃ h', xRun G d 29 (0, [some (.ref (B + 3)), some (.int (nI K))], [], (h, nx, sl)) (none, (h', nx, sl)) ∧ xfr B h h' ∧ xCs B n tb T em (i + 1) p (-2) h' := by
  obtain ⟨h', r1, a1, a2⟩ := c_acc_yes (G := G) (d := d - 1) (nx := nx) (sl := sl) hC hi hT hk
  obtain ⟨-, h3, -⟩ := hC
  refine ⟨h', ?_, a1, a2⟩
  refine xr_go i29_0 rfl ?_
  refine xr_go i29_1 rfl ?_
  refine xr_V i29_2 xc29_48 ⟨rfl, rfl⟩ xa_24 rfl (by assumption) rfl (Nat.le_of_ble_eq_true rfl) (by omega) ⟨Nat.le_of_ble_eq_true rfl, Nat.le_of_ble_eq_true rfl⟩ (r1) ?_
  refine xr_if_neT i29_5 (t := 12) (by decide) (by decide) ?_
  exact xr_end i29_12 rfl
theorem c_req_bad {K : Nat} (hC : xCs B n tb T em i p (-2) h) (hi : i < T) (hT : T ≤ 401) (hK : K ≤ 20) (hk : ¬ tK n tb (tP n tb i) = K) (hd : 1 ≤ d) : ∃ h', xRun G d 29 (0, [some (.ref (B + 3)), some (.int (nI K))], [], (h, nx, sl)) (none, (h', nx, sl)) ∧ xfr B h h' ∧ xCs B n tb T em i p (nI (tP n tb i)) h' := by
  have r1 := c_acc_no (G := G) (d := d - 1) (nx := nx) (sl := sl) hC hi hT hK (Or.inr hk)
  obtain ⟨h', r2, a1, a2⟩ := c_fail_ok (G := G) (d := d - 1) (nx := nx) (sl := sl) hC hi hT
  obtain ⟨-, h3, -⟩ := hC
  refine ⟨h', ?_, a1, a2⟩
  refine xr_go i29_0 rfl ?_
  refine xr_go i29_1 rfl ?_
  refine xr_V i29_2 xc29_48 ⟨rfl, rfl⟩ xa_24 rfl (by assumption) rfl (Nat.le_of_ble_eq_true rfl) (by omega) ⟨Nat.le_of_ble_eq_true rfl, Nat.le_of_ble_eq_true rfl⟩ (r1) ?_
  refine xr_if_neF i29_5 (t := 12) (by decide) rfl ?_
  refine xr_go i29_8 rfl ?_
  refine xr_V i29_9 xc29_68 ⟨rfl, rfl⟩ xa_30 rfl (by assumption) rfl (Nat.le_of_ble_eq_true rfl) (by omega) ⟨Nat.le_of_ble_eq_true rfl, Nat.le_of_ble_eq_true rfl⟩ (r2) ?_
  exact xr_end i29_12 rfl
theorem c_cn_no (hC : xCs B n tb T em i p ft h) (hi : i < T) (hT : T ≤ 401) (hft : ¬ ft = -2) (hd : 1 ≤ d) : xRun G d 32 (0, [some (.ref (B + 3)), none], [], (h, nx, sl)) (some (.int 0), (h, nx, sl)) := by
  have r1 := c_acc_no (G := G) (d := d - 1) (nx := nx) (sl := sl) (K := 9) hC hi hT (by omega) (Or.inl hft)
  have r2 := c_fail_no (G := G) (d := d - 1) (nx := nx) (sl := sl) hC hft
  obtain ⟨⟨h4, -, -, ⟨fn, h7, e7⟩⟩, h3, -⟩ := hC
  have tail : ∀ L1 : Option Value, xRun G d 32 (29, [some (.ref (B + 3)), L1], [], (h, nx, sl)) (some (.int 0), (h, nx, sl)) := by
    intro L1
    refine xr_go i32_29 rfl ?_
    refine xr_V i32_30 xc32_68 ⟨rfl, rfl⟩ xa_30 rfl (by assumption) rfl (Nat.le_of_ble_eq_true rfl) (by omega) ⟨Nat.le_of_ble_eq_true rfl, Nat.le_of_ble_eq_true rfl⟩ (r2) ?_
    refine xr_go i32_33 rfl ?_
    exact xr_iret i32_34 xt_32 rfl
  refine xr_go i32_0 rfl ?_
  refine xr_get i32_1 xf32_14 (by assumption) rfl rfl ?_
  refine xr_get i32_4 xf32_98 (by assumption) rfl rfl ?_
  refine xr_go i32_7 rfl ?_
  refine xr_get i32_8 xf32_29 (by assumption) rfl rfl ?_
  refine xr_iald i32_11 (by assumption) rfl (by omega) (by omega) ?_
  refine xr_go i32_12 rfl ?_
  refine xr_go i32_13 rfl ?_
  refine xr_S i32_14 xc32_101 ⟨by first | exact Or.inl rfl | exact Or.inr rfl, rfl⟩ xa_4 (Nat.le_of_ble_eq_true rfl) (Nat.le_of_ble_eq_true rfl) (by omega) ⟨Nat.le_of_ble_eq_true rfl, Nat.le_of_ble_eq_true rfl⟩ ((s_isCell (fn i))) ?_
  by_cases e : xrng 32 (fn i) = true
  · refine xr_if_eqF i32_17 (t := 29) (by decide) (xbi_1 e) ?_
    refine xr_go i32_20 rfl ?_
    refine xr_go i32_21 rfl ?_
    refine xr_V i32_23 xc32_48 ⟨rfl, rfl⟩ xa_24 rfl (by assumption) rfl (Nat.le_of_ble_eq_true rfl) (by omega) ⟨Nat.le_of_ble_eq_true rfl, Nat.le_of_ble_eq_true rfl⟩ (r1) ?_
    refine xr_if_neF i32_26 (t := 35) (by decide) rfl ?_
    exact tail _
  · refine xr_if_eqT i32_17 (t := 29) (by decide) (xbi_f (by simpa using e)) ?_
    exact tail _
theorem c_cn_bad (hC : xCs B n tb T em i p (-2) h) (hi : i < T) (hT : T ≤ 401) (hk : ¬ (tK n tb (tP n tb i) = 9 ∧ tN n tb (tP n tb i) < 32)) (hd : 1 ≤ d) : ∃ h', xRun G d 32 (0, [some (.ref (B + 3)), none], [], (h, nx, sl)) (some (.int 0), (h', nx, sl)) ∧ xfr B h h' ∧ xCs B n tb T em i p (nI (tP n tb i)) h' := by
  have hC0 := hC
  obtain ⟨h', r2, a1, a2⟩ := c_fail_ok (G := G) (d := d - 1) (nx := nx) (sl := sl) hC hi hT
  obtain ⟨⟨h4, -, -, ⟨fn, h7, e7⟩⟩, h3, -⟩ := hC
  have tl := tN_lt (n := n) (p := tP n tb i) (tb := tb)
  refine ⟨h', ?_, a1, a2⟩
  have tail : ∀ L1 : Option Value, xRun G d 32 (29, [some (.ref (B + 3)), L1], [], (h, nx, sl)) (some (.int 0), (h', nx, sl)) := by
    intro L1
    refine xr_go i32_29 rfl ?_
    refine xr_V i32_30 xc32_68 ⟨rfl, rfl⟩ xa_30 rfl (by assumption) rfl (Nat.le_of_ble_eq_true rfl) (by omega) ⟨Nat.le_of_ble_eq_true rfl, Nat.le_of_ble_eq_true rfl⟩ (r2) ?_
    refine xr_go i32_33 rfl ?_
    exact xr_iret i32_34 xt_32 rfl
  refine xr_go i32_0 rfl ?_
  refine xr_get i32_1 xf32_14 (by assumption) rfl rfl ?_
  refine xr_get i32_4 xf32_98 (by assumption) rfl rfl ?_
  refine xr_go i32_7 rfl ?_
  refine xr_get i32_8 xf32_29 (by assumption) rfl rfl ?_
  refine xr_iald i32_11 (by assumption) rfl (by omega) (by omega) ?_
  refine xr_go i32_12 rfl ?_
  refine xr_go i32_13 rfl ?_
  refine xr_S i32_14 xc32_101 ⟨by first | exact Or.inl rfl | exact Or.inr rfl, rfl⟩ xa_4 (Nat.le_of_ble_eq_true rfl) (Nat.le_of_ble_eq_true rfl) (by omega) ⟨Nat.le_of_ble_eq_true rfl, Nat.le_of_ble_eq_true rfl⟩ ((s_isCell (fn i))) ?_
  by_cases e : xrng 32 (fn i) = true
  · have e9 : ¬ tK n tb (tP n tb i) = 9 := fun z => hk ⟨z, by
      rw [e7 i hi] at e
      by_cases q : tN n tb (tP n tb i) < 32
      · exact q
      · rw [xrng_no (by omega) tl (by omega)] at e
        cases e⟩
    have r1 := c_acc_no (G := G) (d := d - 1) (nx := nx) (sl := sl) (K := 9) hC0 hi hT (by omega) (Or.inr e9)
    refine xr_if_eqF i32_17 (t := 29) (by decide) (xbi_1 e) ?_
    refine xr_go i32_20 rfl ?_
    refine xr_go i32_21 rfl ?_
    refine xr_V i32_23 xc32_48 ⟨rfl, rfl⟩ xa_24 rfl (by assumption) rfl (Nat.le_of_ble_eq_true rfl) (by omega) ⟨Nat.le_of_ble_eq_true rfl, Nat.le_of_ble_eq_true rfl⟩ (r1) ?_
    refine xr_if_neF i32_26 (t := 35) (by decide) rfl ?_
    exact tail _
  · refine xr_if_eqT i32_17 (t := 29) (by decide) (xbi_f (by simpa using e)) ?_
    exact tail _
theorem c_cn_ok (hC : xCs B n tb T em i p (-2) h) (hi : i + 1 < T) (hT : T ≤ 401) (hk : tK n tb (tP n tb i) = 9) (hk2 : tN n tb (tP n tb i) < 32) (hd : 1 ≤ d) : ∃ h', xRun G d 32 (0, [some (.ref (B + 3)), none], [], (h, nx, sl)) (some (.int (nI (tN n tb (tP n tb i)))), (h', nx, sl)) ∧ xfr B h h' ∧ xCs B n tb T em (i + 1) p (-2) h' := by
  obtain ⟨h', r1, a1, a2⟩ := c_acc_yes (G := G) (d := d - 1) (nx := nx) (sl := sl) hC hi hT hk
  obtain ⟨⟨h4, -, -, ⟨fn, h7, e7⟩⟩, h3, -⟩ := hC
  have e : xrng 32 (fn i) = true := by rw [e7 i (by omega)]; exact xrng_nI (by omega) hk2
  refine ⟨h', ?_, a1, a2⟩
  rw [← e7 i (by omega)]
  refine xr_go i32_0 rfl ?_
  refine xr_get i32_1 xf32_14 (by assumption) rfl rfl ?_
  refine xr_get i32_4 xf32_98 (by assumption) rfl rfl ?_
  refine xr_go i32_7 rfl ?_
  refine xr_get i32_8 xf32_29 (by assumption) rfl rfl ?_
  refine xr_iald i32_11 (by assumption) rfl (by omega) (by omega) ?_
  refine xr_go i32_12 rfl ?_
  refine xr_go i32_13 rfl ?_
  refine xr_S i32_14 xc32_101 ⟨by first | exact Or.inl rfl | exact Or.inr rfl, rfl⟩ xa_4 (Nat.le_of_ble_eq_true rfl) (Nat.le_of_ble_eq_true rfl) (by omega) ⟨Nat.le_of_ble_eq_true rfl, Nat.le_of_ble_eq_true rfl⟩ ((s_isCell (fn i))) ?_
  refine xr_if_eqF i32_17 (t := 29) (by decide) (xbi_1 e) ?_
  refine xr_go i32_20 rfl ?_
  refine xr_go i32_21 rfl ?_
  refine xr_V i32_23 xc32_48 ⟨rfl, rfl⟩ xa_24 rfl (by assumption) rfl (Nat.le_of_ble_eq_true rfl) (by omega) ⟨Nat.le_of_ble_eq_true rfl, Nat.le_of_ble_eq_true rfl⟩ (r1) ?_
  refine xr_if_neT i32_26 (t := 35) (by decide) (by decide) ?_
  refine xr_go i32_35 rfl ?_
  exact xr_iret i32_36 xt_32 rfl
end XCLEAF

