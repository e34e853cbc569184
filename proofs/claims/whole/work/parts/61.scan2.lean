/-! ===== the class: scanning the tape ===== -/
/-- where the scan stands before token i -/
def ta (n : Nat) (tb : Nat → Nat) : Nat → Nat
  | 0 => 0
  | i + 1 => tE n tb (tP n tb i)
theorem tP_ta {n : Nat} {tb : Nat → Nat} (i : Nat) : tP n tb i = tsk n tb (ta n tb i) := by cases i <;> rfl
theorem ta_le {n : Nat} {tb : Nat → Nat} (i : Nat) : ta n tb i ≤ n := by
  cases i with
  | zero => exact Nat.zero_le _
  | succ i => exact (tE_le (tb := tb) (tP_le (n := n) (tb := tb) i)).2.1
/-- the tokens of the tape, in the class -/
def xTk (B n : Nat) (tb : Nat → Nat) (T : Nat) (h : xH) : Prop := h (B + 4) = some (.inr (3, [.ref (B + 5), .ref (B + 6), .ref (B + 7), .int (nI T)])) ∧ (∃ fk, h (B + 5) = some (.inl (0, 401, .inl fk)) ∧ ∀ i, i < T → fk i = nI (tK n tb (tP n tb i))) ∧ (∃ fp, h (B + 6) = some (.inl (0, 401, .inl fp)) ∧ ∀ i, i < T → fp i = nI (tP n tb i)) ∧ ∃ fn, h (B + 7) = some (.inl (0, 401, .inl fn)) ∧ ∀ i, i < T → fn i = nI (tN n tb (tP n tb i))
theorem xTk_kept {B n T : Nat} {tb : Nat → Nat} {h h' : xH} (hT : xTk B n tb T h) (hk : ∀ q, B + 4 ≤ q → q ≤ B + 7 → h' q = h q) : xTk B n tb T h' := by
  obtain ⟨h1, ⟨fk, h2, h3⟩, ⟨fp, h4, h5⟩, ⟨fn, h6, h7⟩⟩ := hT
  exact ⟨(hk _ (by omega) (by omega)).trans h1, ⟨fk, (hk _ (by omega) (by omega)).trans h2, h3⟩, ⟨fp, (hk _ (by omega) (by omega)).trans h4, h5⟩, ⟨fn, (hk _ (by omega) (by omega)).trans h6, h7⟩⟩
theorem tN_lt {n p : Nat} {tb : Nat → Nat} : tN n tb p < 2 ^ 31 := by
  unfold tN
  repeat' split
  all_goals omega
theorem tK_le {n p : Nat} {tb : Nat → Nat} : tK n tb p ≤ 20 := by
  unfold tK
  split
  · omega
  split
  · rcases tW_cases (tb := tb) (p := p) (e := trun (tL tb) (n - p) p) with z | z <;> omega
  split
  · split <;> omega
  split
  · omega
  · rcases tS_cases (b := tb p) with z | z <;> omega
theorem upd_upd {f : Nat → Int32} {k : Nat} {x y : Int32} : upd (upd f k x) k y = upd f k y := by
  funext j
  unfold upd
  split <;> rfl
section XSCAN2
variable {G : xG} {d : Nat} {h : xH} {nx sl B n : Nat} {tb : Nat → Nat}
set_option maxHeartbeats 4000000 in
theorem c_scanToken {p z : Nat} {fk fn : Nat → Int32} (hG : xGok G) (hT : xTp B n tb h) (h4 : h (B + 4) = some (.inr (3, [.ref (B + 5), .ref (B + 6), .ref (B + 7), .int (nI z)]))) (h5 : h (B + 5) = some (.inl (0, 401, .inl fk))) (h7 : h (B + 7) = some (.inl (0, 401, .inl fn))) (hz : z < 401) (hp : p ≤ n) (hd : 4 ≤ d) : xRun G d 39 (0, [some (.ref (B + 4)), some (.ref (B + 1)), some (.int (nI p)), none, none], [], (h, nx, sl)) (some (.int (nI (tE n tb p))), (xup (xup h (B + 5) (.inl (0, 401, .inl (upd fk z (nI (tK n tb p)))))) (B + 7) (.inl (0, 401, .inl (upd fn z (nI (tN n tb p))))), nx, sl)) := by
  obtain ⟨k1, ek1⟩ : ∃ y : xH, y = xup h (B + 7) (.inl (0, 401, .inl (upd fn z (nI 0)))) := ⟨_, rfl⟩
  have k1n : ∀ q, q ≠ B + 7 → k1 q = h q := fun q hq => by rw [ek1]; exact xup_n hq
  have k17 : k1 (B + 7) = some (.inl (0, 401, .inl (upd fn z (nI 0)))) := by rw [ek1]; exact xup_s
  have k14 := (k1n (B + 4) (by omega)).trans h4
  have k15 := (k1n (B + 5) (by omega)).trans h5
  have hT1 : xTp B n tb k1 := xTp_kept hT (k1n _ (by omega)) (k1n _ (by omega))
  obtain ⟨f, h1, h2, h3, h6⟩ := hT
  have k11 := (k1n (B + 1) (by omega)).trans h1
  have k12 := (k1n (B + 2) (by omega)).trans h2
  /- the heap behind it, where the number is 0 -/
  have fin0 : ∀ x : Int32, xup k1 (B + 5) (.inl (0, 401, .inl (upd fk z x))) = xup (xup h (B + 5) (.inl (0, 401, .inl (upd fk z x)))) (B + 7) (.inl (0, 401, .inl (upd fn z (nI 0)))) := fun x => by
    rw [ek1, xup_comm (by omega)]
  have pre : ∀ res, xRun G d 39 (10, [some (.ref (B + 4)), some (.ref (B + 1)), some (.int (nI p)), none, none], [], (k1, nx, sl)) res → xRun G d 39 (0, [some (.ref (B + 4)), some (.ref (B + 1)), some (.int (nI p)), none, none], [], (h, nx, sl)) res := by
    intro res r
    refine xr_go i39_0 rfl ?_
    refine xr_get i39_1 xf39_18 (by assumption) rfl rfl ?_
    refine xr_go i39_4 rfl ?_
    refine xr_get i39_5 xf39_21 (by assumption) rfl rfl ?_
    refine xr_go i39_8 rfl ?_
    refine xr_iast i39_9 (by assumption) rfl (by omega) (by omega) (fun y ey => ?_)
    obtain rfl : y = k1 := ey.trans ek1.symm
    exact r
  refine pre _ ?_
  unfold tE tK tN
  by_cases h0 : n ≤ p
  · rw [if_pos h0, if_pos h0, if_pos h0, ← fin0]
    refine xr_go i39_10 rfl ?_
    refine xr_go i39_11 rfl ?_
    refine xr_get i39_12 xf39_34 (by assumption) rfl rfl ?_
    refine xr_icmp_ltF i39_15 (t := 30) (by decide) (nI_nlt (by omega) (by omega)) ?_
    refine xr_go i39_18 rfl ?_
    refine xr_get i39_19 xf39_9 (by assumption) rfl rfl ?_
    refine xr_go i39_22 rfl ?_
    refine xr_get i39_23 xf39_21 (by assumption) rfl rfl ?_
    refine xr_go i39_26 rfl ?_
    refine xr_iast i39_27 (by assumption) rfl (by omega) (by omega) (fun y ey => ?_)
    rw [ey]
    refine xr_go i39_28 rfl ?_
    exact xr_iret i39_29 xt_39 rfl
  rw [if_neg h0, if_neg h0, if_neg h0]
  obtain ⟨g1, g2⟩ := h6 p (by omega)
  have body : ∀ res, xRun G d 39 (37, [some (.ref (B + 4)), some (.ref (B + 1)), some (.int (nI p)), some (.int (nI (tb p))), none], [], (k1, nx, sl)) res → xRun G d 39 (10, [some (.ref (B + 4)), some (.ref (B + 1)), some (.int (nI p)), none, none], [], (k1, nx, sl)) res := by
    intro res r
    refine xr_go i39_10 rfl ?_
    refine xr_go i39_11 rfl ?_
    refine xr_get i39_12 xf39_34 (by assumption) rfl rfl ?_
    refine xr_icmp_ltT i39_15 (t := 30) (by decide) (nI_lt (by omega) (by omega)) ?_
    refine xr_go i39_30 rfl ?_
    refine xr_get i39_31 xf39_39 (by assumption) rfl rfl ?_
    refine xr_go i39_34 rfl ?_
    refine xr_iald i39_35 (by assumption) rfl (by omega) (by omega) ?_
    rw [g1]
    refine xr_go i39_36 rfl ?_
    exact r
  refine body _ ?_
  by_cases hL : tL tb p = true
  · rw [if_pos hL, if_pos hL, if_pos hL, ← fin0]
    have hL' := hL
    unfold tL at hL'
    simp only [Bool.and_eq_true, decide_eq_true_eq] at hL'
    have rw40 := c_word (G := G) (d := d - 1) (nx := nx) (sl := sl) (p := p) hG hT1 k14 k15 hz (by omega) hL (by omega)
    refine xr_go i39_37 rfl ?_
    refine xr_go i39_38 rfl ?_
    refine xr_icmp_ltF i39_40 (t := 56) (by decide) (nI_nlt (b := 97) hL'.1 (by omega)) ?_
    refine xr_go i39_43 rfl ?_
    refine xr_go i39_44 rfl ?_
    refine xr_icmp_gtF i39_46 (t := 56) (by decide) (nI_nlt (a := 122) hL'.2 (by omega)) ?_
    refine xr_go i39_49 rfl ?_
    refine xr_go i39_50 rfl ?_
    refine xr_go i39_51 rfl ?_
    refine xr_V i39_52 xc39_42 ⟨rfl, rfl⟩ xa_40 rfl (by assumption) rfl (Nat.le_of_ble_eq_true rfl) (by omega) ⟨Nat.le_of_ble_eq_true rfl, Nat.le_of_ble_eq_true rfl⟩ (rw40) ?_
    exact xr_iret i39_55 xt_39 rfl
  rw [if_neg hL, if_neg hL, if_neg hL]
  have notL : ∀ res, xRun G d 39 (56, [some (.ref (B + 4)), some (.ref (B + 1)), some (.int (nI p)), some (.int (nI (tb p))), none], [], (k1, nx, sl)) res → xRun G d 39 (37, [some (.ref (B + 4)), some (.ref (B + 1)), some (.int (nI p)), some (.int (nI (tb p))), none], [], (k1, nx, sl)) res := by
    intro res r
    refine xr_go i39_37 rfl ?_
    refine xr_go i39_38 rfl ?_
    by_cases e1 : 97 ≤ tb p
    · refine xr_icmp_ltF i39_40 (t := 56) (by decide) (nI_nlt (b := 97) e1 (by omega)) ?_
      refine xr_go i39_43 rfl ?_
      refine xr_go i39_44 rfl ?_
      have e2 : ¬ tb p ≤ 122 := fun y => hL (by unfold tL; rw [decide_eq_true e1, decide_eq_true y]; rfl)
      refine xr_icmp_gtT i39_46 (t := 56) (by decide) (nI_lt (a := 122) (by omega) (by omega)) ?_
      exact r
    · refine xr_icmp_ltT i39_40 (t := 56) (by decide) (nI_lt (b := 97) (by omega) (by omega)) ?_
      exact r
  refine notL _ ?_
  by_cases hD : tD tb p = true
  · rw [if_pos hD, if_pos hD, if_pos hD]
    have hD' := hD
    unfold tD at hD'
    simp only [Bool.and_eq_true, decide_eq_true_eq] at hD'
    have rn := c_num (G := G) (d := d - 1) (nx := nx) (sl := sl) (p := p) hT1 k14 k15 k17 hz (by omega)
    rw [upd_upd, fin0, xup_same] at rn
    refine xr_go i39_56 rfl ?_
    refine xr_go i39_57 rfl ?_
    refine xr_icmp_ltF i39_59 (t := 75) (by decide) (nI_nlt (b := 48) hD'.1 (by omega)) ?_
    refine xr_go i39_62 rfl ?_
    refine xr_go i39_63 rfl ?_
    refine xr_icmp_gtF i39_65 (t := 75) (by decide) (nI_nlt (a := 57) hD'.2 (by omega)) ?_
    refine xr_go i39_68 rfl ?_
    refine xr_go i39_69 rfl ?_
    refine xr_go i39_70 rfl ?_
    refine xr_V i39_71 xc39_45 ⟨rfl, rfl⟩ xa_43 rfl (by assumption) rfl (Nat.le_of_ble_eq_true rfl) (by omega) ⟨Nat.le_of_ble_eq_true rfl, Nat.le_of_ble_eq_true rfl⟩ (rn) ?_
    exact xr_iret i39_74 xt_39 rfl
  rw [if_neg hD, if_neg hD, if_neg hD]
  have notD : ∀ res, xRun G d 39 (75, [some (.ref (B + 4)), some (.ref (B + 1)), some (.int (nI p)), some (.int (nI (tb p))), none], [], (k1, nx, sl)) res → xRun G d 39 (56, [some (.ref (B + 4)), some (.ref (B + 1)), some (.int (nI p)), some (.int (nI (tb p))), none], [], (k1, nx, sl)) res := by
    intro res r
    refine xr_go i39_56 rfl ?_
    refine xr_go i39_57 rfl ?_
    by_cases e1 : 48 ≤ tb p
    · refine xr_icmp_ltF i39_59 (t := 75) (by decide) (nI_nlt (b := 48) e1 (by omega)) ?_
      refine xr_go i39_62 rfl ?_
      refine xr_go i39_63 rfl ?_
      have e2 : ¬ tb p ≤ 57 := fun y => hD (by unfold tD; rw [decide_eq_true e1, decide_eq_true y]; rfl)
      refine xr_icmp_gtT i39_65 (t := 75) (by decide) (nI_lt (a := 57) (by omega) (by omega)) ?_
      exact r
    · refine xr_icmp_ltT i39_59 (t := 75) (by decide) (nI_lt (b := 48) (by omega) (by omega)) ?_
      exact r
  refine notD _ ?_
  have colon : ∀ res, xRun G d 39 (109, [some (.ref (B + 4)), some (.ref (B + 1)), some (.int (nI p)), some (.int (nI (tb p))), none], [.int (xbi (tco n tb p))], (k1, nx, sl)) res → xRun G d 39 (75, [some (.ref (B + 4)), some (.ref (B + 1)), some (.int (nI p)), some (.int (nI (tb p))), none], [], (k1, nx, sl)) res := by
    intro res r
    unfold tco at r
    have no : xbi (decide (tb p = 58) && (decide (p + 1 < n) && decide (tb (p + 1) = 61))) = 0 → xRun G d 39 (108, [some (.ref (B + 4)), some (.ref (B + 1)), some (.int (nI p)), some (.int (nI (tb p))), none], [], (k1, nx, sl)) res := by
      intro e
      rw [e] at r
      refine xr_go i39_108 rfl ?_
      exact r
    refine xr_go i39_75 rfl ?_
    refine xr_go i39_76 rfl ?_
    by_cases e1 : tb p = 58
    · refine xr_icmp_neF i39_78 (t := 108) (by decide) (by rw [e1]; rfl) ?_
      refine xr_go i39_81 rfl ?_
      refine xr_go i39_82 rfl ?_
      refine xr_go i39_83 rfl ?_
      refine xr_top (show _ = nI (p + 1) from nI_add p 1) ?_
      refine xr_go i39_84 rfl ?_
      refine xr_get i39_85 xf39_34 (by assumption) rfl rfl ?_
      by_cases e2 : p + 1 < n
      · refine xr_icmp_geF i39_88 (t := 108) (by decide) (nI_ge e2 (by omega)) ?_
        obtain ⟨g3, g4⟩ := h6 (p + 1) e2
        refine xr_go i39_91 rfl ?_
        refine xr_get i39_92 xf39_39 (by assumption) rfl rfl ?_
        refine xr_go i39_95 rfl ?_
        refine xr_go i39_96 rfl ?_
        refine xr_go i39_97 rfl ?_
        refine xr_iald i39_98 (by assumption) (nI_add p 1) (by omega) (by omega) ?_
        rw [g3]
        refine xr_go i39_99 rfl ?_
        by_cases e3 : tb (p + 1) = 61
        · refine xr_icmp_neF i39_101 (t := 108) (by decide) (by rw [e3]; rfl) ?_
          rw [decide_eq_true e1, decide_eq_true e2, decide_eq_true e3] at r
          refine xr_go i39_104 rfl ?_
          refine xr_goto i39_105 (t := 109) (by decide) ?_
          exact r
        · refine xr_icmp_neT i39_101 (t := 108) (by decide) (fun y => e3 ((nI_eq (b := 61) (by omega) (by omega)).mp y)) ?_
          exact no (by rw [decide_eq_false e3]; simp [xbi])
      · refine xr_icmp_geT i39_88 (t := 108) (by decide) (nI_le (by omega) (by omega)) ?_
        exact no (by rw [decide_eq_false e2]; simp [xbi])
    · refine xr_icmp_neT i39_78 (t := 108) (by decide) (fun y => e1 ((nI_eq (b := 58) (by omega) (by omega)).mp y)) ?_
      exact no (by rw [decide_eq_false e1]; simp [xbi])
  refine colon _ ?_
  rw [← fin0]
  by_cases hC : tco n tb p = true
  · rw [if_pos hC, if_pos hC, hC]
    refine xr_go i39_109 rfl ?_
    refine xr_go i39_111 rfl ?_
    refine xr_get i39_112 xf39_9 (by assumption) rfl rfl ?_
    refine xr_go i39_115 rfl ?_
    refine xr_get i39_116 xf39_21 (by assumption) rfl rfl ?_
    refine xr_go i39_119 rfl ?_
    refine xr_if_eqF i39_121 (t := 129) (by decide) (by decide) ?_
    refine xr_go i39_124 rfl ?_
    refine xr_goto i39_126 (t := 133) (by decide) ?_
    refine xr_iast i39_133 (by assumption) rfl (by omega) (by omega) (fun y ey => ?_)
    rw [ey]
    refine xr_go i39_134 rfl ?_
    refine xr_if_eqF i39_136 (t := 145) (by decide) (by decide) ?_
    refine xr_go i39_139 rfl ?_
    refine xr_go i39_140 rfl ?_
    refine xr_go i39_141 rfl ?_
    refine xr_top (show _ = nI (p + 2) from nI_add p 2) ?_
    refine xr_goto i39_142 (t := 148) (by decide) ?_
    exact xr_iret i39_148 xt_39 rfl
  · rw [if_neg hC, if_neg hC]
    rw [Bool.not_eq_true] at hC
    rw [hC]
    refine xr_go i39_109 rfl ?_
    refine xr_go i39_111 rfl ?_
    refine xr_get i39_112 xf39_9 (by assumption) rfl rfl ?_
    refine xr_go i39_115 rfl ?_
    refine xr_get i39_116 xf39_21 (by assumption) rfl rfl ?_
    refine xr_go i39_119 rfl ?_
    refine xr_if_eqT i39_121 (t := 129) (by decide) (by decide) ?_
    refine xr_go i39_129 rfl ?_
    refine xr_S i39_130 xc39_48 ⟨by first | exact Or.inl rfl | exact Or.inr rfl, rfl⟩ xa_44 (Nat.le_of_ble_eq_true rfl) (Nat.le_of_ble_eq_true rfl) (by omega) ⟨Nat.le_of_ble_eq_true rfl, Nat.le_of_ble_eq_true rfl⟩ ((c_sign (b := tb p) g2)) ?_
    refine xr_iast i39_133 (by assumption) rfl (by omega) (by omega) (fun y ey => ?_)
    rw [ey]
    refine xr_go i39_134 rfl ?_
    refine xr_if_eqT i39_136 (t := 145) (by decide) (by decide) ?_
    refine xr_go i39_145 rfl ?_
    refine xr_go i39_146 rfl ?_
    refine xr_go i39_147 rfl ?_
    refine xr_top (show _ = nI (p + 1) from nI_add p 1) ?_
    exact xr_iret i39_148 xt_39 rfl
set_option maxHeartbeats 4000000 in
theorem c_scan_loop {T : Nat} (hG : xGok G) (hn : n ≤ 400) (hT1 : 0 < T) (hT2 : T ≤ n + 1) (hT3 : ∀ i, i + 1 < T → 2 ≤ tK n tb (tP n tb i)) (hT4 : tK n tb (tP n tb (T - 1)) ≤ 1) (hd : 5 ≤ d) : ∀ (m i : Nat) (h : xH) (L4 : Option Value), i + m + 1 = T → xTp B n tb h → xTk B n tb i h →
    ∃ h', xRun G d 37 (9, [some (.ref (B + 4)), some (.ref (B + 1)), some (.int (nI (ta n tb i))), some (.int 1), L4], [], (h, nx, sl)) (none, (h', nx, sl)) ∧ xTk B n tb T h' ∧ xsame (B + 4) (B + 7) h h' := by
  intro m
  induction m with
  | zero =>
    intro i h L4 hi hTp hTk
    obtain ⟨h4, ⟨fk, h5, e5⟩, ⟨fp, h6, e6⟩, ⟨fn, h7, e7⟩⟩ := hTk
    have eT : T - 1 = i := by omega
    rw [eT] at hT4
    have hpl := tP_le (n := n) (tb := tb) i
    have rs := c_skip (G := G) (d := d - 1) (nx := nx) (sl := sl) (a := ta n tb i) hTp (ta_le i)
    rw [← tP_ta] at rs
    have rt := c_scanToken (G := G) (d := d - 1) (nx := nx) (sl := sl) (p := tP n tb i) hG hTp h4 h5 h7 (by omega) hpl (by omega)
    obtain ⟨k1, ek1⟩ : ∃ y : xH, y = xup (xup h (B + 5) (.inl (0, 401, .inl (upd fk i (nI (tK n tb (tP n tb i))))))) (B + 7) (.inl (0, 401, .inl (upd fn i (nI (tN n tb (tP n tb i)))))) := ⟨_, rfl⟩
    rw [← ek1] at rt
    have k14 : k1 (B + 4) = some (.inr (3, [.ref (B + 5), .ref (B + 6), .ref (B + 7), .int (nI i)])) := by rw [ek1]; exact (xup_n (by omega)).trans ((xup_n (by omega)).trans h4)
    have k15 : k1 (B + 5) = some (.inl (0, 401, .inl (upd fk i (nI (tK n tb (tP n tb i)))))) := by rw [ek1]; exact (xup_n (by omega)).trans xup_s
    have k16 : k1 (B + 6) = some (.inl (0, 401, .inl fp)) := by rw [ek1]; exact (xup_n (by omega)).trans ((xup_n (by omega)).trans h6)
    have k17 : k1 (B + 7) = some (.inl (0, 401, .inl (upd fn i (nI (tN n tb (tP n tb i)))))) := by rw [ek1]; exact xup_s
    obtain ⟨k2, ek2⟩ : ∃ y : xH, y = xup k1 (B + 6) (.inl (0, 401, .inl (upd fp i (nI (tP n tb i))))) := ⟨_, rfl⟩
    have k2n : ∀ q, q ≠ B + 6 → k2 q = k1 q := fun q hq => by rw [ek2]; exact xup_n hq
    have k24 := (k2n (B + 4) (by omega)).trans k14
    have k25 := (k2n (B + 5) (by omega)).trans k15
    obtain ⟨k3, ek3⟩ : ∃ y : xH, y = xup k2 (B + 4) (.inr (3, [.ref (B + 5), .ref (B + 6), .ref (B + 7), .int (nI (i + 1))])) := ⟨_, rfl⟩
    have k3n : ∀ q, q ≠ B + 4 → k3 q = k2 q := fun q hq => by rw [ek3]; exact xup_n hq
    have k34 : k3 (B + 4) = some (.inr (3, [.ref (B + 5), .ref (B + 6), .ref (B + 7), .int (nI (i + 1))])) := by rw [ek3]; exact xup_s
    refine ⟨k3, ?_, ?_, fun q hq => ?_⟩
    · have hki : upd fk i (nI (tK n tb (tP n tb i))) i = nI (tK n tb (tP n tb i)) := by simp [upd]
      have tail : xRun G d 37 (78, [some (.ref (B + 4)), some (.ref (B + 1)), some (.int (nI (tE n tb (tP n tb i)))), some (.int 1), some (.int (nI (tP n tb i)))], [], (k2, nx, sl)) (none, (k3, nx, sl)) := by
        refine xr_go i37_78 rfl ?_
        refine xr_go i37_79 rfl ?_
        refine xr_go i37_80 rfl ?_
        refine xr_go i37_81 rfl ?_
        refine xr_get i37_82 xf37_21 (by assumption) rfl rfl ?_
        refine xr_go i37_85 rfl ?_
        refine xr_go i37_86 rfl ?_
        refine xr_top (show _ = nI (i + 1) from nI_add i 1) ?_
        refine xr_put i37_87 xf37_21 (by assumption) ⟨rfl, Nat.le_of_ble_eq_true rfl, rfl, rfl, Or.inl rfl⟩ (fun y3 ey3 => ?_)
        obtain rfl : y3 = k3 := ey3.trans ek3.symm
        refine xr_goto i37_90 (t := 9) (by decide) ?_
        refine xr_go i37_9 rfl ?_
        refine xr_if_eqT i37_10 (t := 93) (by decide) rfl ?_
        exact xr_end i37_93 rfl
      refine xr_go i37_9 rfl ?_
      refine xr_if_eqF i37_10 (t := 93) (by decide) (by decide) ?_
      refine xr_go i37_13 rfl ?_
      refine xr_get i37_14 xf37_21 (by assumption) rfl rfl ?_
      refine xr_go i37_17 rfl ?_
      refine xr_icmp_gtF i37_20 (t := 93) (by decide) (show ¬ nI 400 < nI i from nI_nlt (by omega) (by omega)) ?_
      refine xr_go i37_23 rfl ?_
      refine xr_go i37_24 rfl ?_
      refine xr_S i37_25 xc37_25 ⟨by first | exact Or.inl rfl | exact Or.inr rfl, rfl⟩ xa_38 (Nat.le_of_ble_eq_true rfl) (Nat.le_of_ble_eq_true rfl) (by omega) ⟨Nat.le_of_ble_eq_true rfl, Nat.le_of_ble_eq_true rfl⟩ (rs) ?_
      refine xr_go i37_28 rfl ?_
      refine xr_go i37_30 rfl ?_
      refine xr_go i37_31 rfl ?_
      refine xr_go i37_32 rfl ?_
      refine xr_V i37_34 xc37_29 ⟨rfl, rfl⟩ xa_39 rfl (by assumption) rfl (Nat.le_of_ble_eq_true rfl) (by omega) ⟨Nat.le_of_ble_eq_true rfl, Nat.le_of_ble_eq_true rfl⟩ (rt) ?_
      refine xr_go i37_37 rfl ?_
      refine xr_go i37_38 rfl ?_
      refine xr_get i37_39 xf37_15 (by assumption) rfl rfl ?_
      refine xr_go i37_42 rfl ?_
      refine xr_get i37_43 xf37_21 (by assumption) rfl rfl ?_
      refine xr_go i37_46 rfl ?_
      refine xr_iast i37_48 (by assumption) rfl (by omega) (by omega) (fun y2 ey2 => ?_)
      obtain rfl : y2 = k2 := ey2.trans ek2.symm
      refine xr_go i37_49 rfl ?_
      refine xr_get i37_50 xf37_9 (by assumption) rfl rfl ?_
      refine xr_go i37_53 rfl ?_
      refine xr_get i37_54 xf37_21 (by assumption) rfl rfl ?_
      refine xr_iald i37_57 (by assumption) rfl (by omega) (by omega) ?_
      rw [hki]
      by_cases e0 : tK n tb (tP n tb i) = 0
      · refine xr_if_eqT i37_58 (t := 78) (by decide) (by rw [e0]; rfl) ?_
        exact tail
      · refine xr_if_eqF i37_58 (t := 78) (by decide) (nI_ne0 (by omega) (by omega)) ?_
        refine xr_go i37_61 rfl ?_
        refine xr_get i37_62 xf37_9 (by assumption) rfl rfl ?_
        refine xr_go i37_65 rfl ?_
        refine xr_get i37_66 xf37_21 (by assumption) rfl rfl ?_
        refine xr_iald i37_69 (by assumption) rfl (by omega) (by omega) ?_
        refine xr_go i37_70 rfl ?_
        rw [hki]
        refine xr_icmp_eqT i37_71 (t := 78) (by decide) (by rw [show tK n tb (tP n tb i) = 1 by omega]; rfl) ?_
        exact tail
    · have eT2 : T = i + 1 := by omega
      rw [eT2]
      refine ⟨k34, ⟨_, (k3n _ (by omega)).trans k25, fun j hj => ?_⟩, ⟨_, (k3n _ (by omega)).trans (by rw [ek2]; exact xup_s), fun j hj => ?_⟩, ⟨_, (k3n _ (by omega)).trans ((k2n _ (by omega)).trans k17), fun j hj => ?_⟩⟩
      · unfold upd
        by_cases e : j = i
        · rw [if_pos e, e]
        · rw [if_neg e]
          exact e5 j (by omega)
      · unfold upd
        by_cases e : j = i
        · rw [if_pos e, e]
        · rw [if_neg e]
          exact e6 j (by omega)
      · unfold upd
        by_cases e : j = i
        · rw [if_pos e, e]
        · rw [if_neg e]
          exact e7 j (by omega)
    · rw [k3n q (by omega), k2n q (by omega), ek1, xup_n (by omega), xup_n (by omega)]
  | succ m ih =>
    intro i h L4 hi hTp hTk
    obtain ⟨h4, ⟨fk, h5, e5⟩, ⟨fp, h6, e6⟩, ⟨fn, h7, e7⟩⟩ := hTk
    have hK2 := hT3 i (by omega)
    have hK20 := tK_le (n := n) (p := tP n tb i) (tb := tb)
    have hpl := tP_le (n := n) (tb := tb) i
    have rs := c_skip (G := G) (d := d - 1) (nx := nx) (sl := sl) (a := ta n tb i) hTp (ta_le i)
    rw [← tP_ta] at rs
    have rt := c_scanToken (G := G) (d := d - 1) (nx := nx) (sl := sl) (p := tP n tb i) hG hTp h4 h5 h7 (by omega) hpl (by omega)
    obtain ⟨k1, ek1⟩ : ∃ y : xH, y = xup (xup h (B + 5) (.inl (0, 401, .inl (upd fk i (nI (tK n tb (tP n tb i))))))) (B + 7) (.inl (0, 401, .inl (upd fn i (nI (tN n tb (tP n tb i)))))) := ⟨_, rfl⟩
    rw [← ek1] at rt
    have k14 : k1 (B + 4) = some (.inr (3, [.ref (B + 5), .ref (B + 6), .ref (B + 7), .int (nI i)])) := by rw [ek1]; exact (xup_n (by omega)).trans ((xup_n (by omega)).trans h4)
    have k15 : k1 (B + 5) = some (.inl (0, 401, .inl (upd fk i (nI (tK n tb (tP n tb i)))))) := by rw [ek1]; exact (xup_n (by omega)).trans xup_s
    have k16 : k1 (B + 6) = some (.inl (0, 401, .inl fp)) := by rw [ek1]; exact (xup_n (by omega)).trans ((xup_n (by omega)).trans h6)
    have k17 : k1 (B + 7) = some (.inl (0, 401, .inl (upd fn i (nI (tN n tb (tP n tb i)))))) := by rw [ek1]; exact xup_s
    obtain ⟨k2, ek2⟩ : ∃ y : xH, y = xup k1 (B + 6) (.inl (0, 401, .inl (upd fp i (nI (tP n tb i))))) := ⟨_, rfl⟩
    have k2n : ∀ q, q ≠ B + 6 → k2 q = k1 q := fun q hq => by rw [ek2]; exact xup_n hq
    have k24 := (k2n (B + 4) (by omega)).trans k14
    have k25 := (k2n (B + 5) (by omega)).trans k15
    obtain ⟨k3, ek3⟩ : ∃ y : xH, y = xup k2 (B + 4) (.inr (3, [.ref (B + 5), .ref (B + 6), .ref (B + 7), .int (nI (i + 1))])) := ⟨_, rfl⟩
    have k3n : ∀ q, q ≠ B + 4 → k3 q = k2 q := fun q hq => by rw [ek3]; exact xup_n hq
    have k34 : k3 (B + 4) = some (.inr (3, [.ref (B + 5), .ref (B + 6), .ref (B + 7), .int (nI (i + 1))])) := by rw [ek3]; exact xup_s
    have o3 : ∀ q, (q < B + 4 ∨ B + 7 < q) → k3 q = h q := fun q hq => by rw [k3n q (by omega), k2n q (by omega), ek1, xup_n (by omega), xup_n (by omega)]
    obtain ⟨h', r, i1, i2⟩ := ih (i + 1) k3 (some (.int (nI (tP n tb i)))) (by omega) (xTp_kept hTp (o3 _ (by omega)) (o3 _ (by omega))) (by
      refine ⟨k34, ⟨_, (k3n _ (by omega)).trans k25, fun j hj => ?_⟩, ⟨_, (k3n _ (by omega)).trans (by rw [ek2]; exact xup_s), fun j hj => ?_⟩, ⟨_, (k3n _ (by omega)).trans ((k2n _ (by omega)).trans k17), fun j hj => ?_⟩⟩
      · unfold upd
        by_cases e : j = i
        · rw [if_pos e, e]
        · rw [if_neg e]
          exact e5 j (by omega)
      · unfold upd
        by_cases e : j = i
        · rw [if_pos e, e]
        · rw [if_neg e]
          exact e6 j (by omega)
      · unfold upd
        by_cases e : j = i
        · rw [if_pos e, e]
        · rw [if_neg e]
          exact e7 j (by omega))
    refine ⟨h', ?_, i1, fun q hq => (i2 q hq).trans (o3 q hq)⟩
    have hki : upd fk i (nI (tK n tb (tP n tb i))) i = nI (tK n tb (tP n tb i)) := by simp [upd]
    refine xr_go i37_9 rfl ?_
    refine xr_if_eqF i37_10 (t := 93) (by decide) (by decide) ?_
    refine xr_go i37_13 rfl ?_
    refine xr_get i37_14 xf37_21 (by assumption) rfl rfl ?_
    refine xr_go i37_17 rfl ?_
    refine xr_icmp_gtF i37_20 (t := 93) (by decide) (show ¬ nI 400 < nI i from nI_nlt (by omega) (by omega)) ?_
    refine xr_go i37_23 rfl ?_
    refine xr_go i37_24 rfl ?_
    refine xr_S i37_25 xc37_25 ⟨by first | exact Or.inl rfl | exact Or.inr rfl, rfl⟩ xa_38 (Nat.le_of_ble_eq_true rfl) (Nat.le_of_ble_eq_true rfl) (by omega) ⟨Nat.le_of_ble_eq_true rfl, Nat.le_of_ble_eq_true rfl⟩ (rs) ?_
    refine xr_go i37_28 rfl ?_
    refine xr_go i37_30 rfl ?_
    refine xr_go i37_31 rfl ?_
    refine xr_go i37_32 rfl ?_
    refine xr_V i37_34 xc37_29 ⟨rfl, rfl⟩ xa_39 rfl (by assumption) rfl (Nat.le_of_ble_eq_true rfl) (by omega) ⟨Nat.le_of_ble_eq_true rfl, Nat.le_of_ble_eq_true rfl⟩ (rt) ?_
    refine xr_go i37_37 rfl ?_
    refine xr_go i37_38 rfl ?_
    refine xr_get i37_39 xf37_15 (by assumption) rfl rfl ?_
    refine xr_go i37_42 rfl ?_
    refine xr_get i37_43 xf37_21 (by assumption) rfl rfl ?_
    refine xr_go i37_46 rfl ?_
    refine xr_iast i37_48 (by assumption) rfl (by omega) (by omega) (fun y2 ey2 => ?_)
    obtain rfl : y2 = k2 := ey2.trans ek2.symm
    refine xr_go i37_49 rfl ?_
    refine xr_get i37_50 xf37_9 (by assumption) rfl rfl ?_
    refine xr_go i37_53 rfl ?_
    refine xr_get i37_54 xf37_21 (by assumption) rfl rfl ?_
    refine xr_iald i37_57 (by assumption) rfl (by omega) (by omega) ?_
    rw [hki]
    refine xr_if_eqF i37_58 (t := 78) (by decide) (nI_ne0 (by omega) (by omega)) ?_
    refine xr_go i37_61 rfl ?_
    refine xr_get i37_62 xf37_9 (by assumption) rfl rfl ?_
    refine xr_go i37_65 rfl ?_
    refine xr_get i37_66 xf37_21 (by assumption) rfl rfl ?_
    refine xr_iald i37_69 (by assumption) rfl (by omega) (by omega) ?_
    refine xr_go i37_70 rfl ?_
    rw [hki]
    refine xr_icmp_eqF i37_71 (t := 78) (by decide) (fun y => by have := (nI_eq (b := 1) (by omega) (by omega)).mp y; omega) ?_
    refine xr_go i37_74 rfl ?_
    refine xr_goto i37_75 (t := 79) (by decide) ?_
    refine xr_go i37_79 rfl ?_
    refine xr_go i37_80 rfl ?_
    refine xr_go i37_81 rfl ?_
    refine xr_get i37_82 xf37_21 (by assumption) rfl rfl ?_
    refine xr_go i37_85 rfl ?_
    refine xr_go i37_86 rfl ?_
    refine xr_top (show _ = nI (i + 1) from nI_add i 1) ?_
    refine xr_put i37_87 xf37_21 (by assumption) ⟨rfl, Nat.le_of_ble_eq_true rfl, rfl, rfl, Or.inl rfl⟩ (fun y3 ey3 => ?_)
    obtain rfl : y3 = k3 := ey3.trans ek3.symm
    refine xr_goto i37_90 (t := 9) (by decide) ?_
    exact r
theorem c_scan {T : Nat} {s : Int32} {fk fp fn : Nat → Int32} (hG : xGok G) (hT1 : 0 < T) (hT2 : T ≤ n + 1) (hT3 : ∀ i, i + 1 < T → 2 ≤ tK n tb (tP n tb i)) (hT4 : tK n tb (tP n tb (T - 1)) ≤ 1) (hTp : xTp B n tb h) (h4 : h (B + 4) = some (.inr (3, [.ref (B + 5), .ref (B + 6), .ref (B + 7), .int s]))) (h5 : h (B + 5) = some (.inl (0, 401, .inl fk))) (h6 : h (B + 6) = some (.inl (0, 401, .inl fp))) (h7 : h (B + 7) = some (.inl (0, 401, .inl fn))) (hd : 5 ≤ d) : ∃ h', xRun G d 37 (0, [some (.ref (B + 4)), some (.ref (B + 1)), none, none, none], [], (h, nx, sl)) (none, (h', nx, sl)) ∧ xTk B n tb T h' ∧ xsame (B + 4) (B + 7) h h' := by
  have hn : n ≤ 400 := by
    obtain ⟨f, h1, h2, h3, h6⟩ := hTp
    exact h3
  obtain ⟨k1, ek1⟩ : ∃ y : xH, y = xup h (B + 4) (.inr (3, [.ref (B + 5), .ref (B + 6), .ref (B + 7), .int (nI 0)])) := ⟨_, rfl⟩
  have k1n : ∀ q, q ≠ B + 4 → k1 q = h q := fun q hq => by rw [ek1]; exact xup_n hq
  obtain ⟨h', r, i1, i2⟩ := c_scan_loop (G := G) (d := d) (nx := nx) (sl := sl) (B := B) hG hn hT1 hT2 hT3 hT4 hd (T - 1) 0 k1 none (by omega) (xTp_kept hTp (k1n _ (by omega)) (k1n _ (by omega))) ⟨by rw [ek1]; exact xup_s, ⟨fk, (k1n _ (by omega)).trans h5, fun i hi => by omega⟩, ⟨fp, (k1n _ (by omega)).trans h6, fun i hi => by omega⟩, ⟨fn, (k1n _ (by omega)).trans h7, fun i hi => by omega⟩⟩
  refine ⟨h', ?_, i1, fun q hq => (i2 q hq).trans (k1n q (by omega))⟩
  refine xr_go i37_0 rfl ?_
  refine xr_go i37_1 rfl ?_
  refine xr_go i37_2 rfl ?_
  refine xr_go i37_3 rfl ?_
  refine xr_go i37_4 rfl ?_
  refine xr_go i37_5 rfl ?_
  refine xr_put i37_6 xf37_21 (by assumption) ⟨rfl, Nat.le_of_ble_eq_true rfl, rfl, rfl, Or.inl rfl⟩ (fun y1 ey1 => ?_)
  obtain rfl : y1 = k1 := ey1.trans ek1.symm
  exact r
end XSCAN2

