/-! ===== the class's small methods ===== -/
def xrng (n : Nat) (x : Int32) : Bool := decide (0 ≤ x) && decide (x < nI n)
theorem xrng_of {n : Nat} {x : Int32} (hn : n < 2 ^ 31) (h : xrng n x = true) : ∃ j, j < n ∧ x = nI j := by
  unfold xrng at h
  simp only [Bool.and_eq_true, decide_eq_true_eq] at h
  obtain ⟨j, hj, rfl⟩ := nI_of (Int32.not_lt.mpr h.1)
  exact ⟨j, (nI_ltI hj hn).mp h.2, rfl⟩
theorem xrng_nI {n j : Nat} (hn : n < 2 ^ 31) (h : j < n) : xrng n (nI j) = true := by
  unfold xrng
  simp only [Bool.and_eq_true, decide_eq_true_eq]
  exact ⟨nI_pos' (by omega), nI_lt h hn⟩
theorem xbi_t {t : Bool} (h : t = true) : xbi t = 1 := by rw [h]; rfl
theorem xbi_f {t : Bool} (h : t = false) : xbi t = 0 := by rw [h]; rfl
theorem xbi_n (t : Bool) : narrow .boolean (.int (xbi t)) = .int (xbi t) := by cases t <;> rfl
theorem xbi_0 {t : Bool} : xbi t = 0 ↔ t = false := by cases t <;> decide
section XLEAF
variable {G : xG} {d : Nat} {h : xH} {nx sl : Nat}
theorem s_isCell (x : Int32) : xRun G d 4 (0, [some (.int x)], [], (h, nx, sl)) (some (.int (xbi (xrng 32 x))), (h, nx, sl)) := by
  refine xr_go i4_0 rfl ?_
  refine xr_if_lt i4_1 (t := 14) (by decide) (fun hc => ?_) (fun hc => ?_)
  · rw [xbi_f (show xrng 32 x = false by unfold xrng; rw [decide_eq_false (fun z => Int32.not_lt.mpr z hc)]; rfl)]
    refine xr_go i4_14 rfl ?_
    exact xr_iret i4_15 xt_4 rfl
  · refine xr_go i4_4 rfl ?_
    refine xr_go i4_5 rfl ?_
    refine xr_icmp_ge i4_7 (t := 14) (by decide) (fun hc2 => ?_) (fun hc2 => ?_)
    · rw [xbi_f (show xrng 32 x = false by unfold xrng; rw [decide_eq_false (p := x < nI 32) (fun z => Int32.not_lt.mpr hc2 z)]; simp)]
      refine xr_go i4_14 rfl ?_
      exact xr_iret i4_15 xt_4 rfl
    · rw [xbi_t (show xrng 32 x = true by unfold xrng; rw [decide_eq_true (Int32.not_lt.mp hc), decide_eq_true (p := x < nI 32) (Int32.not_le.mp hc2)]; rfl)]
      refine xr_go i4_10 rfl ?_
      refine xr_goto i4_11 (t := 15) (by decide) ?_
      exact xr_iret i4_15 xt_4 rfl
theorem s_isServer (x : Int32) : xRun G d 6 (0, [some (.int x)], [], (h, nx, sl)) (some (.int (xbi (xrng 5 x))), (h, nx, sl)) := by
  refine xr_go i6_0 rfl ?_
  refine xr_if_lt i6_1 (t := 13) (by decide) (fun hc => ?_) (fun hc => ?_)
  · rw [xbi_f (show xrng 5 x = false by unfold xrng; rw [decide_eq_false (fun z => Int32.not_lt.mpr z hc)]; rfl)]
    refine xr_go i6_13 rfl ?_
    exact xr_iret i6_14 xt_6 rfl
  · refine xr_go i6_4 rfl ?_
    refine xr_go i6_5 rfl ?_
    refine xr_icmp_ge i6_6 (t := 13) (by decide) (fun hc2 => ?_) (fun hc2 => ?_)
    · rw [xbi_f (show xrng 5 x = false by unfold xrng; rw [decide_eq_false (p := x < nI 5) (fun z => Int32.not_lt.mpr hc2 z)]; simp)]
      refine xr_go i6_13 rfl ?_
      exact xr_iret i6_14 xt_6 rfl
    · rw [xbi_t (show xrng 5 x = true by unfold xrng; rw [decide_eq_true (Int32.not_lt.mp hc), decide_eq_true (p := x < nI 5) (Int32.not_le.mp hc2)]; rfl)]
      refine xr_go i6_9 rfl ?_
      refine xr_goto i6_10 (t := 14) (by decide) ?_
      exact xr_iret i6_14 xt_6 rfl
theorem s_isSession (x : Int32) : xRun G d 7 (0, [some (.int x)], [], (h, nx, sl)) (some (.int (xbi (xrng 8 x))), (h, nx, sl)) := by
  refine xr_go i7_0 rfl ?_
  refine xr_if_lt i7_1 (t := 14) (by decide) (fun hc => ?_) (fun hc => ?_)
  · rw [xbi_f (show xrng 8 x = false by unfold xrng; rw [decide_eq_false (fun z => Int32.not_lt.mpr z hc)]; rfl)]
    refine xr_go i7_14 rfl ?_
    exact xr_iret i7_15 xt_7 rfl
  · refine xr_go i7_4 rfl ?_
    refine xr_go i7_5 rfl ?_
    refine xr_icmp_ge i7_7 (t := 14) (by decide) (fun hc2 => ?_) (fun hc2 => ?_)
    · rw [xbi_f (show xrng 8 x = false by unfold xrng; rw [decide_eq_false (p := x < nI 8) (fun z => Int32.not_lt.mpr hc2 z)]; simp)]
      refine xr_go i7_14 rfl ?_
      exact xr_iret i7_15 xt_7 rfl
    · rw [xbi_t (show xrng 8 x = true by unfold xrng; rw [decide_eq_true (Int32.not_lt.mp hc), decide_eq_true (p := x < nI 8) (Int32.not_le.mp hc2)]; rfl)]
      refine xr_go i7_10 rfl ?_
      refine xr_goto i7_11 (t := 15) (by decide) ?_
      exact xr_iret i7_15 xt_7 rfl
/-- one write comes before another -/
def xbef (sv sp sv' sp' : Int32) : Bool := decide (sp < sp') || (decide (sp = sp') && decide (sv < sv'))
theorem s_before {a b : Nat} {sv sp sv' sp' : Int32} {x2 x3 y2 y3 : Value} (ha : h a = some (.inr (9, [.int sv, .int sp, x2, x3]))) (hb : h b = some (.inr (9, [.int sv', .int sp', y2, y3]))) : xRun G d 78 (0, [some (.ref a), some (.ref b)], [], (h, nx, sl)) (some (.int (xbi (xbef sv sp sv' sp'))), (h, nx, sl)) := by
  unfold xbef
  refine xr_go i78_0 rfl ?_
  refine xr_get i78_1 xf78_16 (by assumption) rfl rfl ?_
  refine xr_go i78_4 rfl ?_
  refine xr_get i78_5 xf78_16 (by assumption) rfl rfl ?_
  refine xr_icmp_lt i78_8 (t := 33) (by decide) (fun hc => ?_) (fun hc => ?_)
  · rw [decide_eq_true hc, Bool.true_or]
    refine xr_go i78_33 rfl ?_
    refine xr_goto i78_34 (t := 38) (by decide) ?_
    exact xr_iret i78_38 xt_78 rfl
  · rw [decide_eq_false hc, Bool.false_or]
    refine xr_go i78_11 rfl ?_
    refine xr_get i78_12 xf78_16 (by assumption) rfl rfl ?_
    refine xr_go i78_15 rfl ?_
    refine xr_get i78_16 xf78_16 (by assumption) rfl rfl ?_
    refine xr_icmp_ne i78_19 (t := 37) (by decide) (fun hc2 => ?_) (fun hc2 => ?_)
    · rw [decide_eq_false hc2, Bool.false_and]
      refine xr_go i78_37 rfl ?_
      exact xr_iret i78_38 xt_78 rfl
    · rw [decide_eq_true hc2, Bool.true_and]
      refine xr_go i78_22 rfl ?_
      refine xr_get i78_23 xf78_13 (by assumption) rfl rfl ?_
      refine xr_go i78_26 rfl ?_
      refine xr_get i78_27 xf78_13 (by assumption) rfl rfl ?_
      refine xr_icmp_ge i78_30 (t := 37) (by decide) (fun hc3 => ?_) (fun hc3 => ?_)
      · rw [decide_eq_false (Int32.not_lt.mpr hc3)]
        refine xr_go i78_37 rfl ?_
        exact xr_iret i78_38 xt_78 rfl
      · rw [decide_eq_true (Int32.not_le.mp hc3)]
        refine xr_go i78_33 rfl ?_
        refine xr_goto i78_34 (t := 38) (by decide) ?_
        exact xr_iret i78_38 xt_78 rfl
theorem s_has {a k : Nat} {x : Int32} {v0 v1 v3 : Value} (ha : h a = some (.inr (4, [v0, v1, .int (nI k), v3]))) : xRun G d 48 (0, [some (.ref a), some (.int x)], [], (h, nx, sl)) (some (.int (xbi (xrng k x))), (h, nx, sl)) := by
  unfold xrng
  refine xr_go i48_0 rfl ?_
  refine xr_if_lt i48_1 (t := 16) (by decide) (fun hc => ?_) (fun hc => ?_)
  · rw [decide_eq_false (fun z => Int32.not_lt.mpr z hc), Bool.false_and]
    refine xr_go i48_16 rfl ?_
    exact xr_iret i48_17 xt_48 rfl
  · rw [decide_eq_true (Int32.not_lt.mp hc), Bool.true_and]
    refine xr_go i48_4 rfl ?_
    refine xr_go i48_5 rfl ?_
    refine xr_get i48_6 xf48_21 (by assumption) rfl rfl ?_
    refine xr_icmp_ge i48_9 (t := 16) (by decide) (fun hc2 => ?_) (fun hc2 => ?_)
    · rw [decide_eq_false (Int32.not_lt.mpr hc2)]
      refine xr_go i48_16 rfl ?_
      exact xr_iret i48_17 xt_48 rfl
    · rw [decide_eq_true (Int32.not_le.mp hc2)]
      refine xr_go i48_12 rfl ?_
      refine xr_goto i48_13 (t := 17) (by decide) ?_
      exact xr_iret i48_17 xt_48 rfl
theorem s_add {a wa b k : Nat} {v1 v3 : Value} {f : Nat → Option Nat} {ew : List Value} (ha : h a = some (.inr (4, [.ref b, v1, .int (nI k), v3]))) (hb : h b = some (.inl (3, 500, .inr (.inr (.inr (.inr f)))))) (hw : h wa = some (.inr (9, ew))) (hab : a ≠ b) (hk : k < 500) : xRun G d 46 (0, [some (.ref a), some (.ref wa)], [], (h, nx, sl)) (some (.int (nI k)), (xup (xup h b (.inl (3, 500, .inr (.inr (.inr (.inr (va_up f k (some wa)))))))) a (.inr (4, [.ref b, v1, .int (nI (k + 1)), v3])), nx, sl)) := by
  refine xr_go i46_0 rfl ?_
  refine xr_get i46_1 xf46_11 (by assumption) rfl rfl ?_
  refine xr_go i46_4 rfl ?_
  refine xr_get i46_5 xf46_21 (by assumption) rfl rfl ?_
  refine xr_go i46_8 rfl ?_
  refine xr_aast i46_9 (by assumption) rfl (by omega) (by omega) (by assumption) rfl (fun g1 eg1 => ?_)
  have k0 : g1 a = some (.inr (4, [.ref b, v1, .int (nI k), v3])) := by rw [eg1, xup_n hab]; exact ha
  refine xr_go i46_10 rfl ?_
  refine xr_go i46_11 rfl ?_
  refine xr_get i46_12 xf46_21 (by assumption) rfl rfl ?_
  refine xr_go i46_15 rfl ?_
  refine xr_go i46_16 rfl ?_
  refine xr_put i46_17 xf46_21 (by assumption) ⟨rfl, Nat.le_of_ble_eq_true rfl, rfl, rfl, Or.inl rfl⟩ (fun g2 eg2 => ?_)
  have hg : g2 = xup (xup h b (.inl (3, 500, .inr (.inr (.inr (.inr (va_up f k (some wa)))))))) a (.inr (4, [.ref b, v1, .int (nI (k + 1)), v3])) := by
    rw [eg2, eg1]
    show xup _ a (.inr (4, [.ref b, v1, .int (nI k + 1), v3])) = _
    rw [nI_1]
  have k2 : g2 a = some (.inr (4, [.ref b, v1, .int (nI (k + 1)), v3])) := by rw [hg]; exact xup_s
  refine xr_go i46_20 rfl ?_
  refine xr_get i46_21 xf46_21 (by assumption) rfl rfl ?_
  refine xr_go i46_24 rfl ?_
  refine xr_go i46_25 rfl ?_
  rw [← hg]
  refine xr_top (nI_pred k) ?_
  exact xr_iret i46_26 xt_46 rfl
theorem s_commitNext {a wa b c k j : Nat} {v2 : Value} {f : Nat → Option Nat} {cm : Nat → Int32} {x0 x1 x2 x3 : Value} (ha : h a = some (.inr (4, [.ref b, .ref c, v2, .int (nI k)]))) (hb : h b = some (.inl (3, 500, .inr (.inr (.inr (.inr f)))))) (hc : h c = some (.inl (0, 500, .inl cm))) (hw : h wa = some (.inr (9, [x0, x1, x2, x3]))) (hf : f j = some wa) (hj : j < 500) (hk : k < 500) (hac : a ≠ c) (hbc : b ≠ c) (hab : a ≠ b) (hwa : wa ≠ a ∧ wa ≠ c ∧ wa ≠ b) : xRun G d 47 (0, [some (.ref a), some (.int (nI j))], [], (h, nx, sl)) (none, (xup (xup (xup h c (.inl (0, 500, .inl (upd cm k (nI j))))) a (.inr (4, [.ref b, .ref c, v2, .int (nI (k + 1))]))) wa (.inr (9, [x0, x1, x2, .int (nI (k + 1))])), nx, sl)) := by
  refine xr_go i47_0 rfl ?_
  refine xr_get i47_1 xf47_17 (by assumption) rfl rfl ?_
  refine xr_go i47_4 rfl ?_
  refine xr_get i47_5 xf47_25 (by assumption) rfl rfl ?_
  refine xr_go i47_8 rfl ?_
  refine xr_iast i47_9 (by assumption) rfl (by omega) (by omega) (fun g1 eg1 => ?_)
  have k0 : g1 a = some (.inr (4, [.ref b, .ref c, v2, .int (nI k)])) := by rw [eg1, xup_n hac]; exact ha
  have k1 : g1 b = some (.inl (3, 500, .inr (.inr (.inr (.inr f))))) := by rw [eg1, xup_n hbc]; exact hb
  have k2 : g1 wa = some (.inr (9, [x0, x1, x2, x3])) := by rw [eg1, xup_n hwa.2.1]; exact hw
  refine xr_go i47_10 rfl ?_
  refine xr_go i47_11 rfl ?_
  refine xr_get i47_12 xf47_25 (by assumption) rfl rfl ?_
  refine xr_go i47_15 rfl ?_
  refine xr_go i47_16 rfl ?_
  refine xr_put i47_17 xf47_25 (by assumption) ⟨rfl, Nat.le_of_ble_eq_true rfl, rfl, rfl, Or.inl rfl⟩ (fun g2 eg2 => ?_)
  have eg2 : g2 = xup g1 a (.inr (4, [.ref b, .ref c, v2, .int (nI (k + 1))])) := by
    rw [eg2]
    show xup _ a (.inr (4, [.ref b, .ref c, v2, .int (nI k + 1)])) = _
    rw [nI_1]
  have j0 : g2 a = some (.inr (4, [.ref b, .ref c, v2, .int (nI (k + 1))])) := by rw [eg2]; exact xup_s
  have j1 : g2 b = some (.inl (3, 500, .inr (.inr (.inr (.inr f))))) := by rw [eg2, xup_n (Ne.symm hab)]; exact k1
  have j2 : g2 wa = some (.inr (9, [x0, x1, x2, x3])) := by rw [eg2, xup_n hwa.1]; exact k2
  refine xr_go i47_20 rfl ?_
  refine xr_get i47_21 xf47_11 (by assumption) rfl rfl ?_
  refine xr_go i47_24 rfl ?_
  refine xr_aald i47_25 (by assumption) (by decide) rfl (by omega) (by omega) (by assumption) ?_
  refine xr_go i47_26 rfl ?_
  refine xr_get i47_27 xf47_25 (by assumption) rfl rfl ?_
  refine xr_put i47_30 xf47_28 (by assumption) ⟨rfl, Nat.le_of_ble_eq_true rfl, rfl, rfl, Or.inl rfl⟩ (fun g3 eg3 => ?_)
  have hg : g3 = xup (xup (xup h c (.inl (0, 500, .inl (upd cm k (nI j))))) a (.inr (4, [.ref b, .ref c, v2, .int (nI (k + 1))]))) wa (.inr (9, [x0, x1, x2, .int (nI (k + 1))])) := by
    rw [eg3, eg2, eg1]
    rfl
  rw [hg]
  exact xr_end i47_33 rfl
theorem s_assures {a : Nat} {v0 v1 : Value} {bits x : Int32} (ha : h a = some (.inr (7, [v0, v1, .int bits]))) : xRun G d 71 (0, [some (.ref a), some (.int x)], [], (h, nx, sl)) (some (.int (xbi (decide (¬ bits &&& x = 0)))), (h, nx, sl)) := by
  refine xr_go i71_0 rfl ?_
  refine xr_get i71_1 xf71_18 (by assumption) rfl rfl ?_
  refine xr_go i71_4 rfl ?_
  refine xr_go i71_5 rfl ?_
  refine xr_if_eq i71_6 (t := 13) (by decide) (fun hc => ?_) (fun hc => ?_)
  · rw [decide_eq_false (fun z => z hc)]
    refine xr_go i71_13 rfl ?_
    exact xr_iret i71_14 xt_71 rfl
  · rw [decide_eq_true hc]
    refine xr_go i71_9 rfl ?_
    refine xr_goto i71_10 (t := 14) (by decide) ?_
    exact xr_iret i71_14 xt_71 rfl
/-- five numbers are at least five others -/
def xatl (f g : Nat → Int32) : Nat → Bool
  | 0 => true
  | n + 1 => xatl f g n && decide (g n ≤ f n)
theorem xatl_iff {f g : Nat → Int32} {n : Nat} : xatl f g n = true ↔ ∀ j, j < n → g j ≤ f j := by
  induction n with
  | zero => simp [xatl]
  | succ n ih =>
    simp only [xatl, Bool.and_eq_true, decide_eq_true_eq, ih]
    constructor
    · intro hz j hj
      rcases Nat.lt_succ_iff_lt_or_eq.mp hj with hj | rfl
      · exact hz.1 j hj
      · exact hz.2
    · exact fun hz => ⟨fun j hj => hz j (by omega), hz n (by omega)⟩
theorem s_atLeast_loop {a b : Nat} {f g : Nat → Int32} (ha : h a = some (.inl (0, 5, .inl f))) (hb : h b = some (.inl (0, 5, .inl g))) : ∀ n i, i + n = 5 → (∀ j, j < i → g j ≤ f j) → xRun G d 72 (2, [some (.ref a), some (.ref b), some (.int (nI i))], [], (h, nx, sl)) (some (.int (xbi (xatl f g 5))), (h, nx, sl)) := by
  intro n
  induction n with
  | zero =>
    intro i hi hj
    rw [xbi_t (xatl_iff.mpr (fun j h9 => hj j (by omega)))]
    refine xr_go i72_2 rfl ?_
    refine xr_go i72_3 rfl ?_
    refine xr_icmp_geT i72_4 (t := 24) (by decide) (nI_le (a := 5) (by omega) (by omega)) ?_
    refine xr_go i72_24 rfl ?_
    exact xr_iret i72_25 xt_72 rfl
  | succ n ih =>
    intro i hi hj
    refine xr_go i72_2 rfl ?_
    refine xr_go i72_3 rfl ?_
    refine xr_icmp_geF i72_4 (t := 24) (by decide) (nI_ge (b := 5) (by omega) (by omega)) ?_
    refine xr_go i72_7 rfl ?_
    refine xr_go i72_8 rfl ?_
    refine xr_iald i72_9 (by assumption) rfl (by omega) (by omega) ?_
    refine xr_go i72_10 rfl ?_
    refine xr_go i72_11 rfl ?_
    refine xr_iald i72_12 (by assumption) rfl (by omega) (by omega) ?_
    refine xr_icmp_ge i72_13 (t := 18) (by decide) (fun hc => ?_) (fun hc => ?_)
    · refine xr_inc1 i72_18 rfl rfl ?_
      refine xr_goto i72_21 (t := 2) (by decide) ?_
      refine ih (i + 1) (by omega) (fun j h9 => ?_)
      rcases Nat.lt_succ_iff_lt_or_eq.mp h9 with h9 | rfl
      · exact hj j h9
      · exact hc
    · rw [xbi_f (show xatl f g 5 = false by
        cases hz : xatl f g 5 with
        | false => rfl
        | true => exact absurd (xatl_iff.mp hz i (by omega)) hc)]
      refine xr_go i72_16 rfl ?_
      exact xr_iret i72_17 xt_72 rfl
theorem s_atLeast {a b : Nat} {f g : Nat → Int32} (ha : h a = some (.inl (0, 5, .inl f))) (hb : h b = some (.inl (0, 5, .inl g))) : xRun G d 72 (0, [some (.ref a), some (.ref b), none], [], (h, nx, sl)) (some (.int (xbi (xatl f g 5))), (h, nx, sl)) := by
  refine xr_go i72_0 rfl ?_
  refine xr_go i72_1 rfl ?_
  exact s_atLeast_loop ha hb 5 0 rfl (fun j hj => by omega)
theorem s_mayWrite {a sa rv wv vv : Nat} {bits : Int32} {fr fw fv : Nat → Int32} {u0 u1 : Value} {us : List Value} (ha : h a = some (.inr (7, [.ref rv, .ref wv, .int bits]))) (hs : h sa = some (.inr (6, u0 :: u1 :: .ref vv :: us))) (h1 : h rv = some (.inl (0, 5, .inl fr))) (h2 : h wv = some (.inl (0, 5, .inl fw))) (h3 : h vv = some (.inl (0, 5, .inl fv))) (hd : 1 ≤ d) : xRun G d 70 (0, [some (.ref a), some (.ref sa)], [], (h, nx, sl)) (some (.int (xbi ((!decide (¬ bits &&& 4 = 0) || xatl fv fr 5) && (!decide (¬ bits &&& 8 = 0) || xatl fv fw 5)))), (h, nx, sl)) := by
  have r4 := s_assures (G := G) (d := d - 1) (nx := nx) (sl := sl) (x := 4) ha
  have r8 := s_assures (G := G) (d := d - 1) (nx := nx) (sl := sl) (x := 8) ha
  have ra := s_atLeast (G := G) (d := d - 1) (nx := nx) (sl := sl) h3 h1
  have rb := s_atLeast (G := G) (d := d - 1) (nx := nx) (sl := sl) h3 h2
  generalize decide (¬ bits &&& 4 = 0) = t1 at r4 ⊢
  generalize decide (¬ bits &&& 8 = 0) = t2 at r8 ⊢
  generalize xatl fv fr 5 = t3 at ra ⊢
  generalize xatl fv fw 5 = t4 at rb ⊢
  have second : xRun G d 70 (22, [some (.ref a), some (.ref sa)], [], (h, nx, sl)) (some (.int (xbi (!t2 || t4))), (h, nx, sl)) := by
    refine xr_go i70_22 rfl ?_
    refine xr_go i70_23 rfl ?_
    refine xr_V i70_25 xc70_22 ⟨rfl, rfl⟩ xa_71 rfl (by assumption) rfl (Nat.le_of_ble_eq_true rfl) (by omega) ⟨Nat.le_of_ble_eq_true rfl, Nat.le_of_ble_eq_true rfl⟩ (r8) ?_
    cases t2 with
    | false =>
      refine xr_if_eqT i70_28 (t := 45) (by decide) rfl ?_
      refine xr_go i70_45 rfl ?_
      refine xr_goto i70_46 (t := 50) (by decide) ?_
      exact xr_iret i70_50 xt_70 rfl
    | true =>
      refine xr_if_eqF i70_28 (t := 45) (by decide) (by decide) ?_
      refine xr_go i70_31 rfl ?_
      refine xr_get i70_32 xf70_26 (by assumption) rfl rfl ?_
      refine xr_go i70_35 rfl ?_
      refine xr_get i70_36 xf70_15 (by assumption) rfl rfl ?_
      refine xr_S i70_39 xc70_31 ⟨by first | exact Or.inl rfl | exact Or.inr rfl, rfl⟩ xa_72 (Nat.le_of_ble_eq_true rfl) (Nat.le_of_ble_eq_true rfl) (by omega) ⟨Nat.le_of_ble_eq_true rfl, Nat.le_of_ble_eq_true rfl⟩ (rb) ?_
      cases t4 with
      | false =>
        refine xr_if_eqT i70_42 (t := 49) (by decide) rfl ?_
        refine xr_go i70_49 rfl ?_
        exact xr_iret i70_50 xt_70 rfl
      | true =>
        refine xr_if_eqF i70_42 (t := 49) (by decide) (by decide) ?_
        refine xr_go i70_45 rfl ?_
        refine xr_goto i70_46 (t := 50) (by decide) ?_
        exact xr_iret i70_50 xt_70 rfl
  refine xr_go i70_0 rfl ?_
  refine xr_go i70_1 rfl ?_
  refine xr_V i70_2 xc70_22 ⟨rfl, rfl⟩ xa_71 rfl (by assumption) rfl (Nat.le_of_ble_eq_true rfl) (by omega) ⟨Nat.le_of_ble_eq_true rfl, Nat.le_of_ble_eq_true rfl⟩ (r4) ?_
  cases t1 with
  | false =>
    refine xr_if_eqT i70_5 (t := 22) (by decide) rfl ?_
    exact second
  | true =>
    refine xr_if_eqF i70_5 (t := 22) (by decide) (by decide) ?_
    refine xr_go i70_8 rfl ?_
    refine xr_get i70_9 xf70_26 (by assumption) rfl rfl ?_
    refine xr_go i70_12 rfl ?_
    refine xr_get i70_13 xf70_9 (by assumption) rfl rfl ?_
    refine xr_S i70_16 xc70_31 ⟨by first | exact Or.inl rfl | exact Or.inr rfl, rfl⟩ xa_72 (Nat.le_of_ble_eq_true rfl) (Nat.le_of_ble_eq_true rfl) (by omega) ⟨Nat.le_of_ble_eq_true rfl, Nat.le_of_ble_eq_true rfl⟩ (ra) ?_
    cases t3 with
    | false =>
      refine xr_if_eqT i70_19 (t := 49) (by decide) rfl ?_
      refine xr_go i70_49 rfl ?_
      exact xr_iret i70_50 xt_70 rfl
    | true =>
      refine xr_if_eqF i70_19 (t := 49) (by decide) (by decide) ?_
      exact second
theorem s_mayRead {a sa rv wv vv : Nat} {bits : Int32} {fr fw fv : Nat → Int32} {u0 u1 : Value} {us : List Value} (ha : h a = some (.inr (7, [.ref rv, .ref wv, .int bits]))) (hs : h sa = some (.inr (6, u0 :: u1 :: .ref vv :: us))) (h1 : h rv = some (.inl (0, 5, .inl fr))) (h2 : h wv = some (.inl (0, 5, .inl fw))) (h3 : h vv = some (.inl (0, 5, .inl fv))) (hd : 1 ≤ d) : xRun G d 73 (0, [some (.ref a), some (.ref sa)], [], (h, nx, sl)) (some (.int (xbi ((!decide (¬ bits &&& 1 = 0) || xatl fv fw 5) && (!decide (¬ bits &&& 2 = 0) || xatl fv fr 5)))), (h, nx, sl)) := by
  have r4 := s_assures (G := G) (d := d - 1) (nx := nx) (sl := sl) (x := 1) ha
  have r8 := s_assures (G := G) (d := d - 1) (nx := nx) (sl := sl) (x := 2) ha
  have ra := s_atLeast (G := G) (d := d - 1) (nx := nx) (sl := sl) h3 h2
  have rb := s_atLeast (G := G) (d := d - 1) (nx := nx) (sl := sl) h3 h1
  generalize decide (¬ bits &&& 1 = 0) = t1 at r4 ⊢
  generalize decide (¬ bits &&& 2 = 0) = t2 at r8 ⊢
  generalize xatl fv fw 5 = t3 at ra ⊢
  generalize xatl fv fr 5 = t4 at rb ⊢
  have second : xRun G d 73 (22, [some (.ref a), some (.ref sa)], [], (h, nx, sl)) (some (.int (xbi (!t2 || t4))), (h, nx, sl)) := by
    refine xr_go i73_22 rfl ?_
    refine xr_go i73_23 rfl ?_
    refine xr_V i73_24 xc73_22 ⟨rfl, rfl⟩ xa_71 rfl (by assumption) rfl (Nat.le_of_ble_eq_true rfl) (by omega) ⟨Nat.le_of_ble_eq_true rfl, Nat.le_of_ble_eq_true rfl⟩ (r8) ?_
    cases t2 with
    | false =>
      refine xr_if_eqT i73_27 (t := 44) (by decide) rfl ?_
      refine xr_go i73_44 rfl ?_
      refine xr_goto i73_45 (t := 49) (by decide) ?_
      exact xr_iret i73_49 xt_73 rfl
    | true =>
      refine xr_if_eqF i73_27 (t := 44) (by decide) (by decide) ?_
      refine xr_go i73_30 rfl ?_
      refine xr_get i73_31 xf73_26 (by assumption) rfl rfl ?_
      refine xr_go i73_34 rfl ?_
      refine xr_get i73_35 xf73_9 (by assumption) rfl rfl ?_
      refine xr_S i73_38 xc73_31 ⟨by first | exact Or.inl rfl | exact Or.inr rfl, rfl⟩ xa_72 (Nat.le_of_ble_eq_true rfl) (Nat.le_of_ble_eq_true rfl) (by omega) ⟨Nat.le_of_ble_eq_true rfl, Nat.le_of_ble_eq_true rfl⟩ (rb) ?_
      cases t4 with
      | false =>
        refine xr_if_eqT i73_41 (t := 48) (by decide) rfl ?_
        refine xr_go i73_48 rfl ?_
        exact xr_iret i73_49 xt_73 rfl
      | true =>
        refine xr_if_eqF i73_41 (t := 48) (by decide) (by decide) ?_
        refine xr_go i73_44 rfl ?_
        refine xr_goto i73_45 (t := 49) (by decide) ?_
        exact xr_iret i73_49 xt_73 rfl
  refine xr_go i73_0 rfl ?_
  refine xr_go i73_1 rfl ?_
  refine xr_V i73_2 xc73_22 ⟨rfl, rfl⟩ xa_71 rfl (by assumption) rfl (Nat.le_of_ble_eq_true rfl) (by omega) ⟨Nat.le_of_ble_eq_true rfl, Nat.le_of_ble_eq_true rfl⟩ (r4) ?_
  cases t1 with
  | false =>
    refine xr_if_eqT i73_5 (t := 22) (by decide) rfl ?_
    exact second
  | true =>
    refine xr_if_eqF i73_5 (t := 22) (by decide) (by decide) ?_
    refine xr_go i73_8 rfl ?_
    refine xr_get i73_9 xf73_26 (by assumption) rfl rfl ?_
    refine xr_go i73_12 rfl ?_
    refine xr_get i73_13 xf73_15 (by assumption) rfl rfl ?_
    refine xr_S i73_16 xc73_31 ⟨by first | exact Or.inl rfl | exact Or.inr rfl, rfl⟩ xa_72 (Nat.le_of_ble_eq_true rfl) (Nat.le_of_ble_eq_true rfl) (by omega) ⟨Nat.le_of_ble_eq_true rfl, Nat.le_of_ble_eq_true rfl⟩ (ra) ?_
    cases t3 with
    | false =>
      refine xr_if_eqT i73_19 (t := 48) (by decide) rfl ?_
      refine xr_go i73_48 rfl ?_
      exact xr_iret i73_49 xt_73 rfl
    | true =>
      refine xr_if_eqF i73_19 (t := 48) (by decide) (by decide) ?_
      exact second
def xmaxi (x y : Int32) : Int32 := if x < y then y else x
/-- the greater of two, at the first n places -/
def xmaxs (f g : Nat → Int32) (n : Nat) : Nat → Int32 := fun j => if j < n then xmaxi (f j) (g j) else f j
theorem s_hasRead_loop {a sa rv vv : Nat} {fr fv : Nat → Int32} {v1 v2 u0 u1 : Value} {us : List Value} (ha : h a = some (.inr (7, [.ref rv, v1, v2]))) (hs : h sa = some (.inr (6, u0 :: u1 :: .ref vv :: us))) (h3 : h vv = some (.inl (0, 5, .inl fv))) (h0 : a ≠ rv ∧ sa ≠ rv ∧ vv ≠ rv) (hd : 1 ≤ d) : ∀ n i g, i + n = 5 → g = xup h rv (.inl (0, 5, .inl (xmaxs fr fv i))) → xRun G d 74 (2, [some (.ref a), some (.ref sa), some (.int (nI i))], [], (g, nx, sl)) (none, (xup h rv (.inl (0, 5, .inl (xmaxs fr fv 5))), nx, sl)) := by
  intro n
  induction n with
  | zero =>
    intro i g hi eg
    have : i = 5 := by omega
    subst this
    refine xr_go i74_2 rfl ?_
    refine xr_go i74_3 rfl ?_
    refine xr_icmp_geT i74_4 (t := 34) (by decide) (nI_le (a := 5) (by omega) (by omega)) ?_
    rw [eg]
    exact xr_end i74_34 rfl
  | succ n ih =>
    intro i g hi eg
    have k0 : g a = some (.inr (7, [.ref rv, v1, v2])) := by rw [eg, xup_n h0.1]; exact ha
    have k1 : g sa = some (.inr (6, u0 :: u1 :: .ref vv :: us)) := by rw [eg, xup_n h0.2.1]; exact hs
    have k2 : g vv = some (.inl (0, 5, .inl fv)) := by rw [eg, xup_n h0.2.2]; exact h3
    have k3 : g rv = some (.inl (0, 5, .inl (xmaxs fr fv i))) := by rw [eg]; exact xup_s
    refine xr_go i74_2 rfl ?_
    refine xr_go i74_3 rfl ?_
    refine xr_icmp_geF i74_4 (t := 34) (by decide) (nI_ge (b := 5) (by omega) (by omega)) ?_
    refine xr_go i74_7 rfl ?_
    refine xr_get i74_8 xf74_9 (by assumption) rfl rfl ?_
    refine xr_go i74_11 rfl ?_
    refine xr_go i74_12 rfl ?_
    refine xr_get i74_13 xf74_9 (by assumption) rfl rfl ?_
    refine xr_go i74_16 rfl ?_
    refine xr_iald i74_17 (by assumption) rfl (by omega) (by omega) ?_
    refine xr_go i74_18 rfl ?_
    refine xr_get i74_19 xf74_26 (by assumption) rfl rfl ?_
    refine xr_go i74_22 rfl ?_
    refine xr_iald i74_23 (by assumption) rfl (by omega) (by omega) ?_
    refine xr_max i74_24 xc74_35 rfl (by omega) (Nat.le_of_ble_eq_true rfl) (rfl) ?_
    refine xr_iast i74_27 (by assumption) rfl (by omega) (by omega) (fun g1 eg1 => ?_)
    refine xr_inc1 i74_28 rfl rfl ?_
    refine xr_goto i74_31 (t := 2) (by decide) ?_
    refine ih (i + 1) g1 (by omega) ?_
    rw [eg1, eg, xup_same]
    congr 5
    funext j
    unfold upd xmaxs
    by_cases hj : j = i
    · subst hj
      simp [xmaxi]
    · by_cases hl : j < i
      · simp [hj, hl, Nat.lt_succ_of_lt hl]
      · rw [if_neg hj, if_neg hl, if_neg (by omega)]
theorem s_hasRead {a sa rv vv : Nat} {fr fv : Nat → Int32} {v1 v2 u0 u1 : Value} {us : List Value} (ha : h a = some (.inr (7, [.ref rv, v1, v2]))) (hs : h sa = some (.inr (6, u0 :: u1 :: .ref vv :: us))) (h1 : h rv = some (.inl (0, 5, .inl fr))) (h3 : h vv = some (.inl (0, 5, .inl fv))) (h0 : a ≠ rv ∧ sa ≠ rv ∧ vv ≠ rv) (hd : 1 ≤ d) : xRun G d 74 (0, [some (.ref a), some (.ref sa), none], [], (h, nx, sl)) (none, (xup h rv (.inl (0, 5, .inl (xmaxs fr fv 5))), nx, sl)) := by
  refine xr_go i74_0 rfl ?_
  refine xr_go i74_1 rfl ?_
  refine s_hasRead_loop ha hs h3 h0 hd 5 0 h rfl ?_
  funext q
  by_cases hq : q = rv
  · subst hq
    rw [xup_s, h1]
    rfl
  · rw [xup_n hq]
def xfill (f : Nat → Int32) (n : Nat) (v : Int32) : Nat → Int32 := fun j => if j < n then v else f j
theorem s_fill_loop {a m : Nat} {f : Nat → Int32} {v : Int32} (hm : m < 2 ^ 31) : ∀ n i g, i + n = m → g = xup h a (.inl (0, m, .inl (xfill f i v))) → xRun G d 122 (5, [some (.ref a), some (.int v), some (.int (nI i)), some (.int (nI m))], [], (g, nx, sl)) (none, (xup h a (.inl (0, m, .inl (xfill f m v))), nx, sl)) := by
  intro n
  induction n with
  | zero =>
    intro i g hi eg
    have : i = m := by omega
    subst this
    refine xr_go i122_5 rfl ?_
    refine xr_go i122_6 rfl ?_
    refine xr_icmp_geT i122_7 (t := 20) (by decide) (nI_le (by omega) (by omega)) ?_
    rw [eg]
    exact xr_end i122_20 rfl
  | succ n ih =>
    intro i g hi eg
    have k0 : g a = some (.inl (0, m, .inl (xfill f i v))) := by rw [eg]; exact xup_s
    refine xr_go i122_5 rfl ?_
    refine xr_go i122_6 rfl ?_
    refine xr_icmp_geF i122_7 (t := 20) (by decide) (nI_ge (by omega) (by omega)) ?_
    refine xr_go i122_10 rfl ?_
    refine xr_go i122_11 rfl ?_
    refine xr_go i122_12 rfl ?_
    refine xr_iast i122_13 (by assumption) rfl (by omega) (by omega) (fun g1 eg1 => ?_)
    refine xr_inc1 i122_14 rfl rfl ?_
    refine xr_goto i122_17 (t := 5) (by decide) ?_
    refine ih (i + 1) g1 (by omega) ?_
    rw [eg1, eg, xup_same]
    congr 5
    funext j
    unfold upd xfill
    by_cases hj : j = i
    · subst hj
      simp
    · by_cases hl : j < i
      · simp [hj, hl, Nat.lt_succ_of_lt hl]
      · rw [if_neg hj, if_neg hl, if_neg (by omega)]
theorem s_fill {a m : Nat} {f : Nat → Int32} {v : Int32} (ha : h a = some (.inl (0, m, .inl f))) (hm : m < 2 ^ 31) : xRun G d 122 (0, [some (.ref a), some (.int v), none, none], [], (h, nx, sl)) (none, (xup h a (.inl (0, m, .inl (xfill f m v))), nx, sl)) := by
  refine xr_go i122_0 rfl ?_
  refine xr_go i122_1 rfl ?_
  refine xr_go i122_2 rfl ?_
  refine xr_alen i122_3 (by assumption) (by decide) ?_
  refine xr_go i122_4 rfl ?_
  refine s_fill_loop hm m 0 h (by omega) ?_
  funext q
  by_cases hq : q = a
  · subst hq
    rw [xup_s, ha]
    rfl
  · rw [xup_n hq]
theorem s_clear {a rv wv : Nat} {fr fw : Nat → Int32} {v2 : Value} (ha : h a = some (.inr (7, [.ref rv, .ref wv, v2]))) (h1 : h rv = some (.inl (0, 5, .inl fr))) (h2 : h wv = some (.inl (0, 5, .inl fw))) (h0 : a ≠ rv ∧ wv ≠ rv) (hd : 1 ≤ d) : xRun G d 75 (0, [some (.ref a)], [], (h, nx, sl)) (none, (xup (xup h rv (.inl (0, 5, .inl (xfill fr 5 0)))) wv (.inl (0, 5, .inl (xfill fw 5 0))), nx, sl)) := by
  refine xr_go i75_0 rfl ?_
  refine xr_get i75_1 xf75_9 (by assumption) rfl rfl ?_
  refine xr_go i75_4 rfl ?_
  refine xr_S i75_5 xc75_41 ⟨by first | exact Or.inl rfl | exact Or.inr rfl, rfl⟩ xa_122 (Nat.le_of_ble_eq_true rfl) (Nat.le_of_ble_eq_true rfl) (by omega) ⟨Nat.le_of_ble_eq_true rfl, Nat.le_of_ble_eq_true rfl⟩ (s_fill h1 (by omega)) ?_
  have k0 : xup h rv (.inl (0, 5, .inl (xfill fr 5 0))) a = some (.inr (7, [.ref rv, .ref wv, v2])) := by rw [xup_n h0.1]; exact ha
  have k2 : xup h rv (.inl (0, 5, .inl (xfill fr 5 0))) wv = some (.inl (0, 5, .inl fw)) := by rw [xup_n h0.2]; exact h2
  refine xr_go i75_8 rfl ?_
  refine xr_get i75_9 xf75_15 (by assumption) rfl rfl ?_
  refine xr_go i75_12 rfl ?_
  refine xr_S i75_13 xc75_41 ⟨by first | exact Or.inl rfl | exact Or.inr rfl, rfl⟩ xa_122 (Nat.le_of_ble_eq_true rfl) (Nat.le_of_ble_eq_true rfl) (by omega) ⟨Nat.le_of_ble_eq_true rfl, Nat.le_of_ble_eq_true rfl⟩ (s_fill k2 (by omega)) ?_
  exact xr_end i75_16 rfl
/-- the byte of an int that is shift bits up -/
def xbyte (x s : Int32) : Int32 := (x.toUInt32 >>> (s.toUInt32 &&& Int32.toUInt32 31)).toInt32 &&& 255
theorem s_addInt1 {a n : Nat} {f : Nat → Int32} {x s : Int32} {res : Option Value × xW} (ha : h a = some (.inr (1, [.ref (a + 1), .int (nI n)]))) (hb : h (a + 1) = some (.inl (0, 400, .inl f))) (hn : n < 400) (hs : ¬ s < 0) (k : ∀ h', h' = xup (xup h (a + 1) (.inl (0, 400, .inl (upd f n (xbyte x s))))) a (.inr (1, [.ref (a + 1), .int (nI (n + 1))])) → xRun G d 21 (3, [some (.ref a), some (.int x), some (.int (s + Int32.ofInt (-8)))], [], (h', nx, sl)) res) : xRun G d 21 (3, [some (.ref a), some (.int x), some (.int s)], [], (h, nx, sl)) res := by
  refine xr_go i21_3 rfl ?_
  refine xr_if_ltF i21_4 (t := 49) (by decide) hs ?_
  refine xr_go i21_7 rfl ?_
  refine xr_get i21_8 xf21_15 (by assumption) rfl rfl ?_
  refine xr_go i21_11 rfl ?_
  refine xr_icmp_geF i21_14 (t := 49) (by decide) (nI_ge (b := 400) hn (by omega)) ?_
  refine xr_go i21_17 rfl ?_
  refine xr_get i21_18 xf21_9 (by assumption) rfl rfl ?_
  refine xr_go i21_21 rfl ?_
  refine xr_get i21_22 xf21_15 (by assumption) rfl rfl ?_
  refine xr_go i21_25 rfl ?_
  refine xr_go i21_26 rfl ?_
  refine xr_go i21_27 rfl ?_
  refine xr_go i21_28 rfl ?_
  refine xr_go i21_31 rfl ?_
  refine xr_iast i21_32 (by assumption) rfl (by omega) (by omega) (fun g1 eg1 => ?_)
  have k0 : g1 a = some (.inr (1, [.ref (a + 1), .int (nI n)])) := by rw [eg1, xup_n (by omega)]; exact ha
  refine xr_go i21_33 rfl ?_
  refine xr_go i21_34 rfl ?_
  refine xr_get i21_35 xf21_15 (by assumption) rfl rfl ?_
  refine xr_go i21_38 rfl ?_
  refine xr_go i21_39 rfl ?_
  refine xr_put i21_40 xf21_15 (by assumption) ⟨rfl, Nat.le_of_ble_eq_true rfl, rfl, rfl, Or.inl rfl⟩ (fun g2 eg2 => ?_)
  have eg2 : g2 = xup (xup h (a + 1) (.inl (0, 400, .inl (upd f n (xbyte x s))))) a (.inr (1, [.ref (a + 1), .int (nI (n + 1))])) := by
    rw [eg2, eg1]
    show xup _ a (.inr (1, [.ref (a + 1), .int (nI n + 1)])) = _
    rw [nI_1]
    rfl
  refine xr_go i21_43 rfl ?_
  refine xr_goto i21_46 (t := 3) (by decide) ?_
  exact k g2 eg2
/-- four bytes more -/
def xfour (f : Nat → Int32) (n : Nat) (x : Int32) : Nat → Int32 := upd (upd (upd (upd f n (xbyte x 24)) (n + 1) (xbyte x 16)) (n + 2) (xbyte x 8)) (n + 3) (xbyte x 0)
theorem s_addInt {a n : Nat} {f : Nat → Int32} (x : Int32) (ha : h a = some (.inr (1, [.ref (a + 1), .int (nI n)]))) (hb : h (a + 1) = some (.inl (0, 400, .inl f))) (hn : n + 4 ≤ 400) : ∃ h', xRun G d 21 (0, [some (.ref a), some (.int x), none], [], (h, nx, sl)) (none, (h', nx, sl)) ∧ h' a = some (.inr (1, [.ref (a + 1), .int (nI (n + 4))])) ∧ h' (a + 1) = some (.inl (0, 400, .inl (xfour f n x))) ∧ xsame a (a + 1) h h' := by
  let up : xH → Nat → (Nat → Int32) → xH := fun g n f => xup (xup g (a + 1) (.inl (0, 400, .inl f))) a (.inr (1, [.ref (a + 1), .int (nI n)]))
  have u0 : ∀ g n f, up g n f a = some (.inr (1, [.ref (a + 1), .int (nI n)])) := fun g n f => xup_s
  have u1 : ∀ g n f, up g n f (a + 1) = some (.inl (0, 400, .inl f)) := fun g n f => by
    show xup _ a _ (a + 1) = _
    rw [xup_n (by omega)]
    exact xup_s
  have us : ∀ g n f, xsame a (a + 1) g (up g n f) := fun g n f => (xsame.up (c := a + 1) (by omega) rfl).trans (xsame.up (c := a) (by omega) rfl)
  refine ⟨up (up (up (up h (n + 1) (upd f n (xbyte x 24))) (n + 2) (upd (upd f n (xbyte x 24)) (n + 1) (xbyte x 16))) (n + 3) (upd (upd (upd f n (xbyte x 24)) (n + 1) (xbyte x 16)) (n + 2) (xbyte x 8))) (n + 4) (xfour f n x), ?_, u0 _ _ _, u1 _ _ _, (((us _ _ _).trans (us _ _ _)).trans (us _ _ _)).trans (us _ _ _)⟩
  refine xr_go i21_0 rfl ?_
  refine xr_go i21_2 rfl ?_
  refine s_addInt1 (s := 24) ha hb (by omega) (by decide) (fun g1 e1 => ?_)
  refine s_addInt1 (s := 16) (n := n + 1) (f := upd f n (xbyte x 24)) (by rw [e1]; exact u0 _ _ _) (by rw [e1]; exact u1 _ _ _) (by omega) (by decide) (fun g2 e2 => ?_)
  refine s_addInt1 (s := 8) (n := n + 2) (f := upd (upd f n (xbyte x 24)) (n + 1) (xbyte x 16)) (by rw [e2]; exact u0 _ _ _) (by rw [e2]; exact u1 _ _ _) (by omega) (by decide) (fun g3 e3 => ?_)
  refine s_addInt1 (s := 0) (n := n + 3) (f := upd (upd (upd f n (xbyte x 24)) (n + 1) (xbyte x 16)) (n + 2) (xbyte x 8)) (by rw [e3]; exact u0 _ _ _) (by rw [e3]; exact u1 _ _ _) (by omega) (by decide) (fun g4 e4 => ?_)
  rw [e4, e3, e2, e1]
  refine xr_go i21_3 rfl ?_
  refine xr_if_ltT i21_4 (t := 49) (by decide) (by decide) ?_
  exact xr_end i21_49 rfl
end XLEAF

