/-! ===== the class: scanning ===== -/
theorem nI_64 {v : Nat} (h : v < 2 ^ 31) : (nI v).toInt64 = Int64.ofNat v := by
  apply Int64.toInt_inj.mp
  rw [Int32.toInt_toInt64, nI_toInt h, Int64.toInt_ofNat_of_lt (by omega)]
theorem i64_toInt {v : Nat} (h : v < 2 ^ 62) : (Int64.ofNat v).toInt = (v : Int) := Int64.toInt_ofNat_of_lt (by omega)
/-- the class's number: once too large it stays so -/
def tcv (tb : Nat → Nat) : Nat → Nat → Nat → Nat
  | 0, _, v => v
  | k + 1, a, v => if tD tb a = true then tcv tb k (a + 1) (if v ≤ 2147483647 then v * 10 + (tb a - 48) else v) else v
theorem tcv_tdv {tb : Nat → Nat} : ∀ k a v w, (w ≤ 2147483647 → v = w) → (2147483647 < w → 2147483647 < v) → (tdv tb k a w ≤ 2147483647 → tcv tb k a v = tdv tb k a w) ∧ (2147483647 < tdv tb k a w → 2147483647 < tcv tb k a v) := by
  intro k
  induction k with
  | zero => intro a v w h1 h2; exact ⟨h1, h2⟩
  | succ k ih =>
    intro a v w h1 h2
    unfold tcv tdv
    split
    · refine ih (a + 1) _ _ (fun z => ?_) (fun z => ?_)
      · have := h1 (by omega)
        rw [if_pos (by omega), this]
      · by_cases e : v ≤ 2147483647
        · rw [if_pos e]
          by_cases e2 : w ≤ 2147483647
          · have := h1 e2
            omega
          · have := h2 (by omega)
            omega
        · rw [if_neg e]
          omega
    · exact ⟨h1, h2⟩
section XSCAN
variable {G : xG} {d : Nat} {h : xH} {nx sl B n : Nat} {tb : Nat → Nat}
theorem c_sign {b : Nat} (hb : b < 256) : xRun G d 44 (0, [some (.int (nI b))], [], (h, nx, sl)) (some (.int (nI (tS b))), (h, nx, sl)) := by
  by_cases hr : 35 ≤ b ∧ b ≤ 62
  · have hc : b = 35 ∨ b = 36 ∨ b = 37 ∨ b = 38 ∨ b = 39 ∨ b = 40 ∨ b = 41 ∨ b = 42 ∨ b = 43 ∨ b = 44 ∨ b = 45 ∨ b = 46 ∨ b = 47 ∨ b = 48 ∨ b = 49 ∨ b = 50 ∨ b = 51 ∨ b = 52 ∨ b = 53 ∨ b = 54 ∨ b = 55 ∨ b = 56 ∨ b = 57 ∨ b = 58 ∨ b = 59 ∨ b = 60 ∨ b = 61 ∨ b = 62 := by omega
    refine xr_go i44_0 rfl ?_
    rcases hc with rfl | rfl | rfl | rfl | rfl | rfl | rfl | rfl | rfl | rfl | rfl | rfl | rfl | rfl | rfl | rfl | rfl | rfl | rfl | rfl | rfl | rfl | rfl | rfl | rfl | rfl | rfl | rfl
    · refine xr_go i44_1 rfl ?_
      refine xr_go i44_131 rfl ?_
      exact xr_iret i44_133 xt_44 rfl
    · refine xr_go i44_1 rfl ?_
      refine xr_go i44_158 rfl ?_
      exact xr_iret i44_159 xt_44 rfl
    · refine xr_go i44_1 rfl ?_
      refine xr_go i44_158 rfl ?_
      exact xr_iret i44_159 xt_44 rfl
    · refine xr_go i44_1 rfl ?_
      refine xr_go i44_158 rfl ?_
      exact xr_iret i44_159 xt_44 rfl
    · refine xr_go i44_1 rfl ?_
      refine xr_go i44_158 rfl ?_
      exact xr_iret i44_159 xt_44 rfl
    · refine xr_go i44_1 rfl ?_
      refine xr_go i44_152 rfl ?_
      exact xr_iret i44_154 xt_44 rfl
    · refine xr_go i44_1 rfl ?_
      refine xr_go i44_155 rfl ?_
      exact xr_iret i44_157 xt_44 rfl
    · refine xr_go i44_1 rfl ?_
      refine xr_go i44_146 rfl ?_
      exact xr_iret i44_148 xt_44 rfl
    · refine xr_go i44_1 rfl ?_
      refine xr_go i44_140 rfl ?_
      exact xr_iret i44_142 xt_44 rfl
    · refine xr_go i44_1 rfl ?_
      refine xr_go i44_149 rfl ?_
      exact xr_iret i44_151 xt_44 rfl
    · refine xr_go i44_1 rfl ?_
      refine xr_go i44_143 rfl ?_
      exact xr_iret i44_145 xt_44 rfl
    · refine xr_go i44_1 rfl ?_
      refine xr_go i44_158 rfl ?_
      exact xr_iret i44_159 xt_44 rfl
    · refine xr_go i44_1 rfl ?_
      refine xr_go i44_158 rfl ?_
      exact xr_iret i44_159 xt_44 rfl
    · refine xr_go i44_1 rfl ?_
      refine xr_go i44_158 rfl ?_
      exact xr_iret i44_159 xt_44 rfl
    · refine xr_go i44_1 rfl ?_
      refine xr_go i44_158 rfl ?_
      exact xr_iret i44_159 xt_44 rfl
    · refine xr_go i44_1 rfl ?_
      refine xr_go i44_158 rfl ?_
      exact xr_iret i44_159 xt_44 rfl
    · refine xr_go i44_1 rfl ?_
      refine xr_go i44_158 rfl ?_
      exact xr_iret i44_159 xt_44 rfl
    · refine xr_go i44_1 rfl ?_
      refine xr_go i44_158 rfl ?_
      exact xr_iret i44_159 xt_44 rfl
    · refine xr_go i44_1 rfl ?_
      refine xr_go i44_158 rfl ?_
      exact xr_iret i44_159 xt_44 rfl
    · refine xr_go i44_1 rfl ?_
      refine xr_go i44_158 rfl ?_
      exact xr_iret i44_159 xt_44 rfl
    · refine xr_go i44_1 rfl ?_
      refine xr_go i44_158 rfl ?_
      exact xr_iret i44_159 xt_44 rfl
    · refine xr_go i44_1 rfl ?_
      refine xr_go i44_158 rfl ?_
      exact xr_iret i44_159 xt_44 rfl
    · refine xr_go i44_1 rfl ?_
      refine xr_go i44_158 rfl ?_
      exact xr_iret i44_159 xt_44 rfl
    · refine xr_go i44_1 rfl ?_
      refine xr_go i44_158 rfl ?_
      exact xr_iret i44_159 xt_44 rfl
    · refine xr_go i44_1 rfl ?_
      refine xr_go i44_158 rfl ?_
      exact xr_iret i44_159 xt_44 rfl
    · refine xr_go i44_1 rfl ?_
      refine xr_go i44_134 rfl ?_
      exact xr_iret i44_136 xt_44 rfl
    · refine xr_go i44_1 rfl ?_
      refine xr_go i44_128 rfl ?_
      exact xr_iret i44_130 xt_44 rfl
    · refine xr_go i44_1 rfl ?_
      refine xr_go i44_137 rfl ?_
      exact xr_iret i44_139 xt_44 rfl
  · have e : tS b = 1 := by
      unfold tS
      rw [if_neg (by omega), if_neg (by omega), if_neg (by omega), if_neg (by omega), if_neg (by omega), if_neg (by omega), if_neg (by omega), if_neg (by omega), if_neg (by omega), if_neg (by omega)]
    rw [e]
    refine xr_go i44_0 rfl ?_
    refine xr_tsw i44_1 (t := 158) (by rw [nI_toInt (by omega)]; omega) (by decide) ?_
    refine xr_go i44_158 rfl ?_
    exact xr_iret i44_159 xt_44 rfl
theorem c_word_loop {f : Nat → Int32} {p : Nat} (h1 : h (B + 1) = some (.inr (1, [.ref (B + 2), .int (nI n)]))) (h2 : h (B + 2) = some (.inl (0, 400, .inl f))) (hn : n ≤ 400) (hf : ∀ j, j < n → f j = nI (tb j) ∧ tb j < 256) : ∀ k a, a + k = n → ∀ res, xRun G d 40 (38, [some (.ref (B + 4)), some (.ref (B + 1)), some (.int (nI p)), some (.int (nI (trun (tL tb) k a)))], [], (h, nx, sl)) res → xRun G d 40 (2, [some (.ref (B + 4)), some (.ref (B + 1)), some (.int (nI p)), some (.int (nI a))], [], (h, nx, sl)) res := by
  intro k
  induction k with
  | zero =>
    intro a ha res r
    refine xr_go i40_2 rfl ?_
    refine xr_go i40_3 rfl ?_
    refine xr_get i40_4 xf40_34 (by assumption) rfl rfl ?_
    refine xr_icmp_geT i40_7 (t := 38) (by decide) (nI_le (by omega) (by omega)) ?_
    exact r
  | succ k ih =>
    intro a ha res r
    obtain ⟨g1, g2⟩ := hf a (by omega)
    have exf : ¬ tL tb a = true → trun (tL tb) (k + 1) a = a := fun e => by
      show (if tL tb a = true then _ else _) = _
      rw [if_neg e]
    have ext : tL tb a = true → trun (tL tb) (k + 1) a = trun (tL tb) k (a + 1) := fun e => by
      show (if tL tb a = true then _ else _) = _
      rw [if_pos e]
    refine xr_go i40_2 rfl ?_
    refine xr_go i40_3 rfl ?_
    refine xr_get i40_4 xf40_34 (by assumption) rfl rfl ?_
    refine xr_icmp_geF i40_7 (t := 38) (by decide) (nI_ge (by omega) (by omega)) ?_
    refine xr_go i40_10 rfl ?_
    refine xr_get i40_11 xf40_39 (by assumption) rfl rfl ?_
    refine xr_go i40_14 rfl ?_
    refine xr_iald i40_15 (by assumption) rfl (by omega) (by omega) ?_
    refine xr_go i40_16 rfl ?_
    rw [g1]
    by_cases e1 : 97 ≤ tb a
    · refine xr_icmp_ltF i40_18 (t := 38) (by decide) (nI_nlt (b := 97) e1 (by omega)) ?_
      refine xr_go i40_21 rfl ?_
      refine xr_get i40_22 xf40_39 (by assumption) rfl rfl ?_
      refine xr_go i40_25 rfl ?_
      refine xr_iald i40_26 (by assumption) rfl (by omega) (by omega) ?_
      refine xr_go i40_27 rfl ?_
      rw [g1]
      by_cases e2 : tb a ≤ 122
      · refine xr_icmp_gtF i40_29 (t := 38) (by decide) (nI_nlt (a := 122) e2 (by omega)) ?_
        rw [ext (by unfold tL; rw [decide_eq_true e1, decide_eq_true e2]; rfl)] at r
        refine xr_inc1 i40_32 rfl rfl ?_
        refine xr_goto i40_35 (t := 2) (by decide) ?_
        exact ih (a + 1) (by omega) res r
      · refine xr_icmp_gtT i40_29 (t := 38) (by decide) (nI_lt (a := 122) (by omega) (by omega)) ?_
        rw [exf (by unfold tL; rw [decide_eq_false e2]; simp)] at r
        exact r
    · refine xr_icmp_ltT i40_18 (t := 38) (by decide) (nI_lt (b := 97) (by omega) (by omega)) ?_
      rw [exf (by unfold tL; rw [decide_eq_false e1]; simp)] at r
      exact r
theorem c_word {p z : Nat} {fk : Nat → Int32} (hG : xGok G) (hT : xTp B n tb h) (h4 : h (B + 4) = some (.inr (3, [.ref (B + 5), .ref (B + 6), .ref (B + 7), .int (nI z)]))) (h5 : h (B + 5) = some (.inl (0, 401, .inl fk))) (hz : z < 401) (hp : p < n) (hL : tL tb p = true) (hd : 3 ≤ d) : xRun G d 40 (0, [some (.ref (B + 4)), some (.ref (B + 1)), some (.int (nI p)), none], [], (h, nx, sl)) (some (.int (nI (trun (tL tb) (n - p) p))), (xup h (B + 5) (.inl (0, 401, .inl (upd fk z (nI (tW tb p (trun (tL tb) (n - p) p)))))), nx, sl)) := by
  have hT0 := hT
  obtain ⟨f, h1, h2, h3, h6⟩ := hT
  have hg := trun_ge (p := tL tb) (n - p) p
  have rk := c_kindOfWord (G := G) (d := d - 1) (nx := nx) (sl := sl) (p := p) (e := trun (tL tb) (n - p) p) hG hT0 (by omega) (by omega) (by omega)
  refine xr_go i40_0 rfl ?_
  refine xr_go i40_1 rfl ?_
  refine c_word_loop h1 h2 h3 h6 (n - p) p (by omega) _ ?_
  refine xr_go i40_38 rfl ?_
  refine xr_get i40_39 xf40_9 (by assumption) rfl rfl ?_
  refine xr_go i40_42 rfl ?_
  refine xr_get i40_43 xf40_21 (by assumption) rfl rfl ?_
  refine xr_go i40_46 rfl ?_
  refine xr_go i40_47 rfl ?_
  refine xr_go i40_48 rfl ?_
  refine xr_S i40_49 xc40_52 ⟨by first | exact Or.inl rfl | exact Or.inr rfl, rfl⟩ xa_41 (Nat.le_of_ble_eq_true rfl) (Nat.le_of_ble_eq_true rfl) (by omega) ⟨Nat.le_of_ble_eq_true rfl, Nat.le_of_ble_eq_true rfl⟩ (rk) ?_
  refine xr_iast i40_52 (by assumption) rfl (by omega) (by omega) (fun z1 ez1 => ?_)
  rw [ez1]
  refine xr_go i40_53 rfl ?_
  exact xr_iret i40_54 xt_40 rfl
theorem c_num_loop {f : Nat → Int32} {p : Nat} (h1 : h (B + 1) = some (.inr (1, [.ref (B + 2), .int (nI n)]))) (h2 : h (B + 2) = some (.inl (0, 400, .inl f))) (hn : n ≤ 400) (hf : ∀ j, j < n → f j = nI (tb j) ∧ tb j < 256) : ∀ k a v, a + k = n → v < 2 ^ 35 → tcv tb k a v < 2 ^ 35 ∧ ∀ res, xRun G d 43 (70, [some (.ref (B + 4)), some (.ref (B + 1)), some (.int (nI p)), some (.long (Int64.ofNat (tcv tb k a v))), none, some (.int (nI (trun (tD tb) k a))), none], [], (h, nx, sl)) res → xRun G d 43 (5, [some (.ref (B + 4)), some (.ref (B + 1)), some (.int (nI p)), some (.long (Int64.ofNat v)), none, some (.int (nI a)), none], [], (h, nx, sl)) res := by
  intro k
  induction k with
  | zero =>
    intro a v ha hv
    refine ⟨hv, fun res r => ?_⟩
    refine xr_go i43_5 rfl ?_
    refine xr_go i43_7 rfl ?_
    refine xr_get i43_8 xf43_34 (by assumption) rfl rfl ?_
    refine xr_icmp_geT i43_11 (t := 70) (by decide) (nI_le (by omega) (by omega)) ?_
    exact r
  | succ k ih =>
    intro a v ha hv
    obtain ⟨g1, g2⟩ := hf a (by omega)
    by_cases e : tD tb a = true
    · have e' := e
      unfold tD at e'
      simp only [Bool.and_eq_true, decide_eq_true_eq] at e'
      have ext : trun (tD tb) (k + 1) a = trun (tD tb) k (a + 1) := by
        show (if tD tb a = true then _ else _) = _
        rw [if_pos e]
      have exv : tcv tb (k + 1) a v = tcv tb k (a + 1) (if v ≤ 2147483647 then v * 10 + (tb a - 48) else v) := by
        show (if tD tb a = true then _ else _) = _
        rw [if_pos e]
      have hb : (if v ≤ 2147483647 then v * 10 + (tb a - 48) else v) < 2 ^ 35 := by
        split <;> omega
      obtain ⟨i1, i2⟩ := ih (a + 1) _ (by omega) hb
      rw [exv, ext]
      refine ⟨i1, fun res r => ?_⟩
      have rr := i2 res r
      refine xr_go i43_5 rfl ?_
      refine xr_go i43_7 rfl ?_
      refine xr_get i43_8 xf43_34 (by assumption) rfl rfl ?_
      refine xr_icmp_geF i43_11 (t := 70) (by decide) (nI_ge (by omega) (by omega)) ?_
      refine xr_go i43_14 rfl ?_
      refine xr_get i43_15 xf43_39 (by assumption) rfl rfl ?_
      refine xr_go i43_18 rfl ?_
      refine xr_iald i43_20 (by assumption) rfl (by omega) (by omega) ?_
      refine xr_go i43_21 rfl ?_
      rw [g1]
      refine xr_icmp_ltF i43_23 (t := 70) (by decide) (nI_nlt (b := 48) e'.1 (by omega)) ?_
      refine xr_go i43_26 rfl ?_
      refine xr_get i43_27 xf43_39 (by assumption) rfl rfl ?_
      refine xr_go i43_30 rfl ?_
      refine xr_iald i43_32 (by assumption) rfl (by omega) (by omega) ?_
      refine xr_go i43_33 rfl ?_
      rw [g1]
      refine xr_icmp_gtF i43_35 (t := 70) (by decide) (nI_nlt (a := 57) e'.2 (by omega)) ?_
      refine xr_go i43_38 rfl ?_
      refine xr_ldc2 i43_39 xl43_58 rfl ?_
      refine xr_go i43_42 rfl ?_
      by_cases hle : v ≤ 2147483647
      · rw [if_pos hle] at rr
        refine xr_if_gtF i43_43 (t := 64) (by decide) (fun z => by
          have := Int64.lt_iff_toInt_lt.mp ((lg_cmp_gt _ _).mp z)
          rw [i64_toInt (by omega)] at this
          have e9 : (2147483647 : Int64).toInt = 2147483647 := rfl
          have this2 : (2147483647 : Int64).toInt < (v : Int) := this
          omega) ?_
        refine xr_go i43_46 rfl ?_
        refine xr_ldc2 i43_47 xl43_60 rfl ?_
        refine xr_go i43_50 rfl ?_
        refine xr_go i43_51 rfl ?_
        refine xr_get i43_52 xf43_39 (by assumption) rfl rfl ?_
        refine xr_go i43_55 rfl ?_
        refine xr_iald i43_57 (by assumption) rfl (by omega) (by omega) ?_
        rw [g1]
        refine xr_go i43_58 rfl ?_
        refine xr_go i43_60 rfl ?_
        refine xr_top (show _ = nI (tb a - 48) from pk_sub (b := 48) (by omega)) ?_
        refine xr_go i43_61 rfl ?_
        refine xr_go i43_62 rfl ?_
        have e8 : (Int64.ofNat v * 10 + (nI (tb a - 48)).toInt64 : Int64) = Int64.ofNat (v * 10 + (tb a - 48)) := by
          rw [nI_64 (by omega), Int64.ofNat_add, Int64.ofNat_mul]
          rfl
        have e7 := e8
        refine xr_stk (st' := [.long (Int64.ofNat (v * 10 + (tb a - 48)))]) (congrArg (fun z => [Value.long z]) e7) ?_
        refine xr_go i43_63 rfl ?_
        refine xr_inc1 i43_64 rfl rfl ?_
        refine xr_goto i43_67 (t := 5) (by decide) ?_
        exact rr
      · rw [if_neg hle] at rr
        refine xr_if_gtT i43_43 (t := 64) (by decide) ((lg_cmp_gt _ _).mpr (Int64.lt_iff_toInt_lt.mpr (by
          rw [i64_toInt (by omega)]
          show (2147483647 : Int64).toInt < (v : Int)
          have e9 : (2147483647 : Int64).toInt = 2147483647 := rfl
          omega))) ?_
        refine xr_inc1 i43_64 rfl rfl ?_
        refine xr_goto i43_67 (t := 5) (by decide) ?_
        exact rr
    · have ext : trun (tD tb) (k + 1) a = a := by
        show (if tD tb a = true then _ else _) = _
        rw [if_neg e]
      have exv : tcv tb (k + 1) a v = v := by
        show (if tD tb a = true then _ else _) = _
        rw [if_neg e]
      rw [ext, exv]
      refine ⟨hv, fun res r => ?_⟩
      refine xr_go i43_5 rfl ?_
      refine xr_go i43_7 rfl ?_
      refine xr_get i43_8 xf43_34 (by assumption) rfl rfl ?_
      refine xr_icmp_geF i43_11 (t := 70) (by decide) (nI_ge (by omega) (by omega)) ?_
      refine xr_go i43_14 rfl ?_
      refine xr_get i43_15 xf43_39 (by assumption) rfl rfl ?_
      refine xr_go i43_18 rfl ?_
      refine xr_iald i43_20 (by assumption) rfl (by omega) (by omega) ?_
      refine xr_go i43_21 rfl ?_
      rw [g1]
      by_cases e1 : 48 ≤ tb a
      · refine xr_icmp_ltF i43_23 (t := 70) (by decide) (nI_nlt (b := 48) e1 (by omega)) ?_
        refine xr_go i43_26 rfl ?_
        refine xr_get i43_27 xf43_39 (by assumption) rfl rfl ?_
        refine xr_go i43_30 rfl ?_
        refine xr_iald i43_32 (by assumption) rfl (by omega) (by omega) ?_
        refine xr_go i43_33 rfl ?_
        rw [g1]
        have e2 : ¬ tb a ≤ 57 := fun z => e (by unfold tD; rw [decide_eq_true e1, decide_eq_true z]; rfl)
        refine xr_icmp_gtT i43_35 (t := 70) (by decide) (nI_lt (a := 57) (by omega) (by omega)) ?_
        exact r
      · refine xr_icmp_ltT i43_23 (t := 70) (by decide) (nI_lt (b := 48) (by omega) (by omega)) ?_
        exact r
theorem c_num {p z : Nat} {fk fn : Nat → Int32} (hT : xTp B n tb h) (h4 : h (B + 4) = some (.inr (3, [.ref (B + 5), .ref (B + 6), .ref (B + 7), .int (nI z)]))) (h5 : h (B + 5) = some (.inl (0, 401, .inl fk))) (h7 : h (B + 7) = some (.inl (0, 401, .inl fn))) (hz : z < 401) (hp : p < n) : xRun G d 43 (0, [some (.ref (B + 4)), some (.ref (B + 1)), some (.int (nI p)), none, none, none, none], [], (h, nx, sl)) (some (.int (nI (trun (tD tb) (n - p) p))), (xup (xup h (B + 5) (.inl (0, 401, .inl (upd fk z (nI (if tdv tb (n - p) p 0 ≤ 2147483647 then 9 else 1)))))) (B + 7) (.inl (0, 401, .inl (upd fn z (nI (if tdv tb (n - p) p 0 ≤ 2147483647 then tdv tb (n - p) p 0 else 0))))), nx, sl)) := by
  obtain ⟨f, h1, h2, h3, h6⟩ := hT
  obtain ⟨i1, i2⟩ := c_num_loop (G := G) (d := d) (nx := nx) (sl := sl) (p := p) h1 h2 h3 h6 (n - p) p 0 (by omega) (by omega)
  obtain ⟨r1, r2⟩ := tcv_tdv (tb := tb) (n - p) p 0 0 (fun _ => rfl) (fun z => z)
  generalize tcv tb (n - p) p 0 = v at *
  generalize tdv tb (n - p) p 0 = w at *
  obtain ⟨k1, ek1⟩ : ∃ y : xH, y = xup h (B + 5) (.inl (0, 401, .inl (upd fk z (nI (if w ≤ 2147483647 then 9 else 1))))) := ⟨_, rfl⟩
  rw [← ek1]
  have k1n : ∀ q, q ≠ B + 5 → k1 q = h q := fun q hq => by rw [ek1]; exact xup_n hq
  have k14 := (k1n (B + 4) (by omega)).trans h4
  have k17 := (k1n (B + 7) (by omega)).trans h7
  refine xr_go i43_0 rfl ?_
  refine xr_go i43_1 rfl ?_
  refine xr_go i43_2 rfl ?_
  refine xr_go i43_3 rfl ?_
  refine i2 _ ?_
  refine xr_go i43_70 rfl ?_
  refine xr_ldc2 i43_71 xl43_58 rfl ?_
  refine xr_go i43_74 rfl ?_
  by_cases hw : w ≤ 2147483647
  · have ev := r1 hw
    rw [if_pos hw] at ek1 ⊢
    refine xr_if_gtF i43_75 (t := 82) (by decide) (fun y => by
      have := Int64.lt_iff_toInt_lt.mp ((lg_cmp_gt _ _).mp y)
      rw [i64_toInt (by omega)] at this
      have e9 : (2147483647 : Int64).toInt = 2147483647 := rfl
      have this2 : (2147483647 : Int64).toInt < (v : Int) := this
      omega) ?_
    refine xr_go i43_78 rfl ?_
    refine xr_goto i43_79 (t := 83) (by decide) ?_
    refine xr_go i43_83 rfl ?_
    refine xr_go i43_85 rfl ?_
    refine xr_get i43_86 xf43_9 (by assumption) rfl rfl ?_
    refine xr_go i43_89 rfl ?_
    refine xr_get i43_90 xf43_21 (by assumption) rfl rfl ?_
    refine xr_go i43_93 rfl ?_
    refine xr_if_eqF i43_95 (t := 103) (by decide) (by decide) ?_
    refine xr_go i43_98 rfl ?_
    refine xr_goto i43_100 (t := 104) (by decide) ?_
    refine xr_iast i43_104 (by assumption) rfl (by omega) (by omega) (fun y1 ey1 => ?_)
    obtain rfl : y1 = k1 := ey1.trans ek1.symm
    refine xr_go i43_105 rfl ?_
    refine xr_get i43_106 xf43_18 (by assumption) rfl rfl ?_
    refine xr_go i43_109 rfl ?_
    refine xr_get i43_110 xf43_21 (by assumption) rfl rfl ?_
    refine xr_go i43_113 rfl ?_
    refine xr_if_eqF i43_115 (t := 123) (by decide) (by decide) ?_
    refine xr_go i43_118 rfl ?_
    refine xr_go i43_119 rfl ?_
    refine xr_top (show _ = nI w from by rw [ev, ← nI_64 (by omega)]; exact xl2i_nI) ?_
    refine xr_goto i43_120 (t := 124) (by decide) ?_
    refine xr_iast i43_124 (by assumption) rfl (by omega) (by omega) (fun y2 ey2 => ?_)
    rw [ey2]
    refine xr_go i43_125 rfl ?_
    exact xr_iret i43_127 xt_43 rfl
  · have ev := r2 (by omega)
    rw [if_neg hw] at ek1 ⊢
    refine xr_if_gtT i43_75 (t := 82) (by decide) ((lg_cmp_gt _ _).mpr (Int64.lt_iff_toInt_lt.mpr (by
      rw [i64_toInt (by omega)]
      show (2147483647 : Int64).toInt < (v : Int)
      have e9 : (2147483647 : Int64).toInt = 2147483647 := rfl
      omega))) ?_
    refine xr_go i43_82 rfl ?_
    refine xr_go i43_83 rfl ?_
    refine xr_go i43_85 rfl ?_
    refine xr_get i43_86 xf43_9 (by assumption) rfl rfl ?_
    refine xr_go i43_89 rfl ?_
    refine xr_get i43_90 xf43_21 (by assumption) rfl rfl ?_
    refine xr_go i43_93 rfl ?_
    refine xr_if_eqT i43_95 (t := 103) (by decide) (by decide) ?_
    refine xr_go i43_103 rfl ?_
    refine xr_iast i43_104 (by assumption) rfl (by omega) (by omega) (fun y1 ey1 => ?_)
    obtain rfl : y1 = k1 := ey1.trans ek1.symm
    refine xr_go i43_105 rfl ?_
    refine xr_get i43_106 xf43_18 (by assumption) rfl rfl ?_
    refine xr_go i43_109 rfl ?_
    refine xr_get i43_110 xf43_21 (by assumption) rfl rfl ?_
    refine xr_go i43_113 rfl ?_
    refine xr_if_eqT i43_115 (t := 123) (by decide) (by decide) ?_
    refine xr_go i43_123 rfl ?_
    refine xr_iast i43_124 (by assumption) rfl (by omega) (by omega) (fun y2 ey2 => ?_)
    rw [ey2]
    refine xr_go i43_125 rfl ?_
    exact xr_iret i43_127 xt_43 rfl
end XSCAN

