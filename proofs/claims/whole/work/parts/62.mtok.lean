/-! ===== the model: tokens ===== -/
theorem xup_id {h : xH} {a : Nat} {e : xE} (g : h a = some e) : xup h a e = h := by
  funext q
  unfold xup
  split
  · rename_i z
    rw [z, g]
  · rfl
theorem xup_get {h k y : xH} {a : Nat} {e e' : xE} (ek : k = xup h a e) (ey : y = xup k a e') : y = xup h a e' := by rw [ey, ek, xup_same]
theorem xup_at {h k : xH} {a : Nat} {e : xE} (ek : k = xup h a e) : k a = some e := by rw [ek]; exact xup_s
theorem xMt_up {M n : Nat} {tb : Nat → Nat} {h k : xH} {e : xE} (ht : xMt M n tb h) (ek : k = xup h M e) : xMt M n tb k := by
  obtain ⟨f, h1, h2⟩ := ht
  exact ⟨f, by rw [ek, xup_n (by omega)]; exact h1, h2⟩
theorem xsb_toInt {b : Nat} (hb : b < 256) : (xsb b).toInt = if b < 128 then (b : Int) else (b : Int) - 256 := by
  have key : ∀ k : Fin 256, (xsb k.val).toInt = if k.val < 128 then (k.val : Int) else (k.val : Int) - 256 := by decide +kernel
  exact key ⟨b, hb⟩
theorem xsb_lt {b c : Nat} (hb : b < 256) (hc : c < 128) (h : b < c ∨ 128 ≤ b) : xsb b < nI c := by
  rw [Int32.lt_iff_toInt_lt, xsb_toInt hb, nI_toInt (by omega)]
  split <;> omega
theorem xsb_nlt {b c : Nat} (h : c ≤ b) (h2 : b < 128) : ¬ xsb b < nI c := by
  rw [Int32.lt_iff_toInt_lt, xsb_toInt (by omega), nI_toInt (by omega), if_pos h2]
  omega
theorem xsb_gt {b c : Nat} (h : c < b) (h2 : b < 128) : nI c < xsb b := by
  rw [Int32.lt_iff_toInt_lt, xsb_toInt (by omega), nI_toInt (by omega), if_pos h2]
  omega
theorem xsb_ngt {b c : Nat} (hb : b < 256) (hc : c < 128) (h : b ≤ c) : ¬ nI c < xsb b := by
  rw [Int32.lt_iff_toInt_lt, xsb_toInt hb, nI_toInt (by omega)]
  split <;> omega
theorem xsb_eq {b c : Nat} (hb : b < 256) (hc : c < 128) : xsb b = nI c ↔ b = c := by
  rw [← Int32.toInt_inj, xsb_toInt hb, nI_toInt (by omega)]
  split <;> omega
theorem tmk_le {K : Nat} : tmk K ≤ 4 := by
  unfold tmk
  repeat' split
  all_goals omega
/-- the model's number: never above 2 ^ 40 -/
def tmv (tb : Nat → Nat) : Nat → Nat → Nat → Nat
  | 0, _, v => v
  | k + 1, a, v => if tD tb a = true then tmv tb k (a + 1) (min 1099511627776 (10 * v + (tb a - 48))) else v
theorem tmv_tdv {tb : Nat → Nat} : ∀ k a v w, (w ≤ 2147483647 → v = w) → (2147483647 < w → 2147483647 < v) → (tdv tb k a w ≤ 2147483647 → tmv tb k a v = tdv tb k a w) ∧ (2147483647 < tdv tb k a w → 2147483647 < tmv tb k a v) := by
  intro k
  induction k with
  | zero => intro a v w h1 h2; exact ⟨h1, h2⟩
  | succ k ih =>
    intro a v w h1 h2
    unfold tmv tdv
    split
    · refine ih (a + 1) _ _ (fun z => ?_) (fun z => ?_)
      · have := h1 (by omega)
        omega
      · by_cases e2 : w ≤ 2147483647
        · have := h1 e2
          omega
        · have := h2 (by omega)
          omega
    · exact ⟨h1, h2⟩
section XMTOK
variable {G : xG} {d : Nat} {h : xH} {nx sl M n : Nat} {tb : Nat → Nat} {tn tk rk : Int32} {lt : Value} {at_ sz kd fr to_ ft pt mn pc od : Int32} {nu : Int64}
theorem m_isLetter {j : Nat} (hb : tb j < 256) : xRun G d 85 (0, [some (.int (xsb (tb j)))], [], (h, nx, sl)) (some (.int (xbi (tL tb j))), (h, nx, sl)) := by
  unfold tL
  refine xr_go i85_0 rfl ?_
  refine xr_go i85_1 rfl ?_
  by_cases e1 : 97 ≤ tb j
  · by_cases e0 : tb j < 128
    · refine xr_icmp_ltF i85_3 (t := 16) (by decide) (xsb_nlt (c := 97) e1 e0) ?_
      refine xr_go i85_6 rfl ?_
      refine xr_go i85_7 rfl ?_
      by_cases e2 : tb j ≤ 122
      · rw [decide_eq_true e1, decide_eq_true e2]
        refine xr_icmp_gtF i85_9 (t := 16) (by decide) (xsb_ngt (c := 122) hb (by omega) e2) ?_
        refine xr_go i85_12 rfl ?_
        refine xr_goto i85_13 (t := 17) (by decide) ?_
        exact xr_iret i85_17 xt_85 rfl
      · rw [decide_eq_false e2, Bool.and_false]
        refine xr_icmp_gtT i85_9 (t := 16) (by decide) (xsb_gt (c := 122) (by omega) e0) ?_
        refine xr_go i85_16 rfl ?_
        exact xr_iret i85_17 xt_85 rfl
    · rw [decide_eq_false (show ¬ tb j ≤ 122 by omega), Bool.and_false]
      refine xr_icmp_ltT i85_3 (t := 16) (by decide) (xsb_lt (c := 97) hb (by omega) (Or.inr (by omega))) ?_
      refine xr_go i85_16 rfl ?_
      exact xr_iret i85_17 xt_85 rfl
  · rw [decide_eq_false e1, Bool.false_and]
    refine xr_icmp_ltT i85_3 (t := 16) (by decide) (xsb_lt (c := 97) hb (by omega) (Or.inl (by omega))) ?_
    refine xr_go i85_16 rfl ?_
    exact xr_iret i85_17 xt_85 rfl
theorem m_isDigit {j : Nat} (hb : tb j < 256) : xRun G d 87 (0, [some (.int (xsb (tb j)))], [], (h, nx, sl)) (some (.int (xbi (tD tb j))), (h, nx, sl)) := by
  unfold tD
  refine xr_go i87_0 rfl ?_
  refine xr_go i87_1 rfl ?_
  by_cases e1 : 48 ≤ tb j
  · by_cases e0 : tb j < 128
    · refine xr_icmp_ltF i87_3 (t := 16) (by decide) (xsb_nlt (c := 48) e1 e0) ?_
      refine xr_go i87_6 rfl ?_
      refine xr_go i87_7 rfl ?_
      by_cases e2 : tb j ≤ 57
      · rw [decide_eq_true e1, decide_eq_true e2]
        refine xr_icmp_gtF i87_9 (t := 16) (by decide) (xsb_ngt (c := 57) hb (by omega) e2) ?_
        refine xr_go i87_12 rfl ?_
        refine xr_goto i87_13 (t := 17) (by decide) ?_
        exact xr_iret i87_17 xt_87 rfl
      · rw [decide_eq_false e2, Bool.and_false]
        refine xr_icmp_gtT i87_9 (t := 16) (by decide) (xsb_gt (c := 57) (by omega) e0) ?_
        refine xr_go i87_16 rfl ?_
        exact xr_iret i87_17 xt_87 rfl
    · rw [decide_eq_false (show ¬ tb j ≤ 57 by omega), Bool.and_false]
      refine xr_icmp_ltT i87_3 (t := 16) (by decide) (xsb_lt (c := 48) hb (by omega) (Or.inr (by omega))) ?_
      refine xr_go i87_16 rfl ?_
      exact xr_iret i87_17 xt_87 rfl
  · rw [decide_eq_false e1, Bool.false_and]
    refine xr_icmp_ltT i87_3 (t := 16) (by decide) (xsb_lt (c := 48) hb (by omega) (Or.inl (by omega))) ?_
    refine xr_go i87_16 rfl ?_
    exact xr_iret i87_17 xt_87 rfl
theorem m_is_loop {f : Nat → Int32} {s p : Nat} (hG : xGok G) (hs : s < 18) (hO : h M = some (.inr (10, xMf M tn tk rk lt at_ sz kd (nI p) to_ ft pt nu mn pc od))) (h1 : h (M + 1) = some (.inl (2, 400, .inl f))) (hn : n ≤ 400) (hf : ∀ j, j < n → f j = xsb (tb j)) (hb : ∀ j, j < n → tb j < 256) (hp : p + (xSt.getD s []).length ≤ n) (hd : 1 ≤ d) : ∀ k j, j + k = (xSt.getD s []).length → (∀ i, i < j → tb (p + i) = (xSt.getD s []).getD i 0) → xRun G d 86 (36, [some (.ref M), some (.ref (G.1 s)), some (.int (nI j))], [], (h, nx, sl)) (some (.int (xbi ((List.range (xSt.getD s []).length).all (fun k => decide (tb (p + k) = (xSt.getD s []).getD k 0))))), (h, nx, sl)) := by
  have hl := xSt_len hs
  intro k
  induction k with
  | zero =>
    intro j hj ha
    have e : ((List.range (xSt.getD s []).length).all (fun k => decide (tb (p + k) = (xSt.getD s []).getD k 0))) = true := by
      simp only [List.all_eq_true, List.mem_range, decide_eq_true_eq]
      exact fun i hi => ha i (by omega)
    rw [e]
    refine xr_go i86_36 rfl ?_
    refine xr_go i86_37 rfl ?_
    refine xr_slen i86_38 xc86_139 rfl (by omega) (hG s hs) (Nat.le_of_ble_eq_true rfl) rfl ?_
    refine xr_icmp_geT i86_41 (t := 71) (by decide) (nI_le (by omega) (by omega)) ?_
    refine xr_go i86_71 rfl ?_
    exact xr_iret i86_72 xt_86 rfl
  | succ k ih =>
    intro j hj ha
    have g1 := hf (p + j) (by omega)
    have g2 := hb (p + j) (by omega)
    have hch : (xSt.getD s []).getD j 0 < 128 := by
      have key : ∀ a : Fin 18, ∀ b : Fin 7, (xSt.getD a.val []).getD b.val 0 < 128 := by decide
      exact key ⟨s, hs⟩ ⟨j, by omega⟩
    refine xr_go i86_36 rfl ?_
    refine xr_go i86_37 rfl ?_
    refine xr_slen i86_38 xc86_139 rfl (by omega) (hG s hs) (Nat.le_of_ble_eq_true rfl) rfl ?_
    refine xr_icmp_geF i86_41 (t := 71) (by decide) (nI_ge (by omega) (by omega)) ?_
    refine xr_go i86_44 rfl ?_
    refine xr_get i86_45 xf86_9 (by assumption) rfl rfl ?_
    refine xr_go i86_48 rfl ?_
    refine xr_get i86_49 xf86_87 (by assumption) rfl rfl ?_
    refine xr_go i86_52 rfl ?_
    refine xr_go i86_53 rfl ?_
    refine xr_yald i86_54 (by assumption) (nI_add p j) (by omega) (by omega) ?_
    rw [g1]
    refine xr_go i86_55 rfl ?_
    refine xr_go i86_56 rfl ?_
    refine xr_sat i86_57 xc86_145 rfl (by omega) (hG s hs) (Nat.le_of_ble_eq_true rfl) rfl (by omega) (by omega) ?_
    by_cases e : tb (p + j) = (xSt.getD s []).getD j 0
    · refine xr_icmp_eqT i86_60 (t := 65) (by decide) ((xsb_eq g2 hch).mpr e) ?_
      refine xr_inc1 i86_65 rfl rfl ?_
      refine xr_goto i86_68 (t := 36) (by decide) ?_
      exact ih (j + 1) (by omega) (fun i hi => by
        by_cases z : i = j
        · rw [z]; exact e
        · exact ha i (by omega))
    · refine xr_icmp_eqF i86_60 (t := 65) (by decide) (fun z => e ((xsb_eq g2 hch).mp z)) ?_
      have ef : ((List.range (xSt.getD s []).length).all (fun k => decide (tb (p + k) = (xSt.getD s []).getD k 0))) = false := by
        rw [← Bool.not_eq_true]
        intro z
        simp only [List.all_eq_true, List.mem_range, decide_eq_true_eq] at z
        exact e (z j (by omega))
      rw [ef]
      refine xr_go i86_63 rfl ?_
      exact xr_iret i86_64 xt_86 rfl
theorem m_is {s p e K : Nat} (hG : xGok G) (hs : s < 18) (hO : h M = some (.inr (10, xMf M tn tk rk lt at_ sz (nI K) (nI p) (nI e) ft pt nu mn pc od))) (hT : xMt M n tb h) (hn : n ≤ 400) (hb : ∀ j, j < n → tb j < 256) (hpe : p ≤ e) (he : e ≤ n) (hK : K ≤ 4) (hd : 1 ≤ d) : xRun G d 86 (0, [some (.ref M), some (.ref (G.1 s)), none], [], (h, nx, sl)) (some (.int (xbi ((decide (K = 1) || decide (K = 3)) && tmt tb (xSt.getD s []) p e))), (h, nx, sl)) := by
  obtain ⟨f, h1, h2⟩ := hT
  have hl := xSt_len hs
  have main : xRun G d 86 (16, [some (.ref M), some (.ref (G.1 s)), none], [], (h, nx, sl)) (some (.int (xbi (tmt tb (xSt.getD s []) p e))), (h, nx, sl)) := by
    unfold tmt
    refine xr_go i86_16 rfl ?_
    refine xr_get i86_17 xf86_97 (by assumption) rfl rfl ?_
    refine xr_go i86_20 rfl ?_
    refine xr_get i86_21 xf86_87 (by assumption) rfl rfl ?_
    refine xr_go i86_24 rfl ?_
    refine xr_top (show _ = nI (e - p) from pk_sub hpe) ?_
    refine xr_go i86_25 rfl ?_
    refine xr_slen i86_26 xc86_139 rfl (by omega) (hG s hs) (Nat.le_of_ble_eq_true rfl) rfl ?_
    by_cases hlen : e - p = (xSt.getD s []).length
    · refine xr_icmp_eqT i86_29 (t := 34) (by decide) (by rw [hlen]) ?_
      rw [decide_eq_true hlen, Bool.true_and]
      refine xr_go i86_34 rfl ?_
      refine xr_go i86_35 rfl ?_
      exact m_is_loop hG hs hO h1 hn h2 hb (by omega) hd (xSt.getD s []).length 0 (by omega) (fun i hi => by omega)
    · refine xr_icmp_eqF i86_29 (t := 34) (by decide) (fun z => hlen ((nI_eq (by omega) (by omega)).mp z)) ?_
      rw [decide_eq_false hlen, Bool.false_and]
      refine xr_go i86_32 rfl ?_
      exact xr_iret i86_33 xt_86 rfl
  refine xr_go i86_0 rfl ?_
  refine xr_get i86_1 xf86_90 (by assumption) rfl rfl ?_
  refine xr_go i86_4 rfl ?_
  by_cases e1 : K = 1
  · refine xr_icmp_eqT i86_5 (t := 16) (by decide) (by rw [e1]; rfl) ?_
    rw [decide_eq_true e1, Bool.true_or, Bool.true_and]
    exact main
  · refine xr_icmp_eqF i86_5 (t := 16) (by decide) (fun z => e1 ((nI_eq (b := 1) (by omega) (by omega)).mp z)) ?_
    refine xr_go i86_8 rfl ?_
    refine xr_get i86_9 xf86_90 (by assumption) rfl rfl ?_
    refine xr_go i86_12 rfl ?_
    rw [decide_eq_false e1, Bool.false_or]
    by_cases e3 : K = 3
    · refine xr_icmp_neF i86_13 (t := 32) (by decide) (by rw [e3]; rfl) ?_
      rw [decide_eq_true e3, Bool.true_and]
      exact main
    · refine xr_icmp_neT i86_13 (t := 32) (by decide) (fun z => e3 ((nI_eq (b := 3) (by omega) (by omega)).mp z)) ?_
      rw [decide_eq_false e3, Bool.false_and]
      refine xr_go i86_32 rfl ?_
      exact xr_iret i86_33 xt_86 rfl
theorem m_skip (hn : n ≤ 400) (hb : ∀ j, j < n → tb j < 256) : ∀ k a (h : xH), a + k = n → h M = some (.inr (10, xMf M tn tk rk lt (nI a) (nI n) kd fr to_ ft pt nu mn pc od)) → xMt M n tb h → ∀ res, xRun G d 84 (38, [some (.ref M), none, none], [], (xup h M (.inr (10, xMf M tn tk rk lt (nI (trun (fun j => decide (tb j = 32)) k a)) (nI n) kd fr to_ ft pt nu mn pc od)), nx, sl)) res → xRun G d 84 (0, [some (.ref M), none, none], [], (h, nx, sl)) res := by
  intro k
  induction k with
  | zero =>
    intro a h ha hO hT res r
    unfold trun at r
    rw [xup_id hO] at r
    refine xr_go i84_0 rfl ?_
    refine xr_get i84_1 xf84_81 (by assumption) rfl rfl ?_
    refine xr_go i84_4 rfl ?_
    refine xr_get i84_5 xf84_84 (by assumption) rfl rfl ?_
    refine xr_icmp_geT i84_8 (t := 38) (by decide) (nI_le (by omega) (by omega)) ?_
    exact r
  | succ k ih =>
    intro a h ha hO hT res r
    have hT0 := hT
    obtain ⟨f, h1, h2⟩ := hT
    have g1 := h2 a (by omega)
    have g2 := hb a (by omega)
    refine xr_go i84_0 rfl ?_
    refine xr_get i84_1 xf84_81 (by assumption) rfl rfl ?_
    refine xr_go i84_4 rfl ?_
    refine xr_get i84_5 xf84_84 (by assumption) rfl rfl ?_
    refine xr_icmp_geF i84_8 (t := 38) (by decide) (nI_ge (by omega) (by omega)) ?_
    refine xr_go i84_11 rfl ?_
    refine xr_get i84_12 xf84_9 (by assumption) rfl rfl ?_
    refine xr_go i84_15 rfl ?_
    refine xr_get i84_16 xf84_81 (by assumption) rfl rfl ?_
    refine xr_yald i84_19 (by assumption) rfl (by omega) (by omega) ?_
    refine xr_go i84_20 rfl ?_
    rw [g1]
    by_cases e : tb a = 32
    · have ex : trun (fun j => decide (tb j = 32)) (k + 1) a = trun (fun j => decide (tb j = 32)) k (a + 1) := by
        show (if decide (tb a = 32) = true then _ else _) = _
        rw [decide_eq_true e, if_pos rfl]
      rw [ex] at r
      refine xr_icmp_neF i84_22 (t := 38) (by decide) ((xsb_eq (c := 32) g2 (by omega)).mpr e) ?_
      refine xr_go i84_25 rfl ?_
      refine xr_go i84_26 rfl ?_
      refine xr_get i84_27 xf84_81 (by assumption) rfl rfl ?_
      refine xr_go i84_30 rfl ?_
      refine xr_go i84_31 rfl ?_
      refine xr_top (show _ = nI (a + 1) from nI_add a 1) ?_
      refine xr_put i84_32 xf84_81 (by assumption) ⟨rfl, Nat.le_of_ble_eq_true rfl, rfl, rfl, Or.inl rfl⟩ (fun y ey => ?_)
      have ez : y = xup h M (.inr (10, xMf M tn tk rk lt (nI (a + 1)) (nI n) kd fr to_ ft pt nu mn pc od)) := ey
      refine xr_goto i84_35 (t := 0) (by decide) ?_
      refine ih (a + 1) y (by omega) (xup_at ez) (xMt_up hT0 ez) res ?_
      rw [ez, xup_same]
      exact r
    · have ex : trun (fun j => decide (tb j = 32)) (k + 1) a = a := by
        show (if decide (tb a = 32) = true then _ else _) = _
        rw [decide_eq_false e, if_neg (by simp)]
      rw [ex, xup_id hO] at r
      refine xr_icmp_neT i84_22 (t := 38) (by decide) (fun z => e ((xsb_eq (c := 32) g2 (by omega)).mp z)) ?_
      exact r
theorem m_word_loop (hn : n ≤ 400) (hb : ∀ j, j < n → tb j < 256) (hd : 1 ≤ d) : ∀ k a (h : xH), a + k = n → h M = some (.inr (10, xMf M tn tk rk lt (nI a) (nI n) kd fr to_ ft pt nu mn pc od)) → xMt M n tb h → ∀ res, xRun G d 84 (119, [some (.ref M), none, none], [], (xup h M (.inr (10, xMf M tn tk rk lt (nI (trun (tL tb) k a)) (nI n) kd fr to_ ft pt nu mn pc od)), nx, sl)) res → xRun G d 84 (80, [some (.ref M), none, none], [], (h, nx, sl)) res := by
  intro k
  induction k with
  | zero =>
    intro a h ha hO hT res r
    unfold trun at r
    rw [xup_id hO] at r
    refine xr_go i84_80 rfl ?_
    refine xr_get i84_81 xf84_81 (by assumption) rfl rfl ?_
    refine xr_go i84_84 rfl ?_
    refine xr_get i84_85 xf84_84 (by assumption) rfl rfl ?_
    refine xr_icmp_geT i84_88 (t := 119) (by decide) (nI_le (by omega) (by omega)) ?_
    exact r
  | succ k ih =>
    intro a h ha hO hT res r
    have hT0 := hT
    obtain ⟨f, h1, h2⟩ := hT
    have g1 := h2 a (by omega)
    have g2 := hb a (by omega)
    refine xr_go i84_80 rfl ?_
    refine xr_get i84_81 xf84_81 (by assumption) rfl rfl ?_
    refine xr_go i84_84 rfl ?_
    refine xr_get i84_85 xf84_84 (by assumption) rfl rfl ?_
    refine xr_icmp_geF i84_88 (t := 119) (by decide) (nI_ge (by omega) (by omega)) ?_
    refine xr_go i84_91 rfl ?_
    refine xr_get i84_92 xf84_9 (by assumption) rfl rfl ?_
    refine xr_go i84_95 rfl ?_
    refine xr_get i84_96 xf84_81 (by assumption) rfl rfl ?_
    refine xr_yald i84_99 (by assumption) rfl (by omega) (by omega) ?_
    rw [g1]
    refine xr_S i84_100 xc84_93 ⟨by first | exact Or.inl rfl | exact Or.inr rfl, rfl⟩ xa_85 (Nat.le_of_ble_eq_true rfl) (Nat.le_of_ble_eq_true rfl) (by omega) ⟨Nat.le_of_ble_eq_true rfl, Nat.le_of_ble_eq_true rfl⟩ ((m_isLetter g2)) ?_
    by_cases e : tL tb a = true
    · have ex : trun (tL tb) (k + 1) a = trun (tL tb) k (a + 1) := by
        show (if tL tb a = true then _ else _) = _
        rw [if_pos e]
      rw [ex] at r
      refine xr_if_eqF i84_103 (t := 119) (by decide) (xbi_1 e) ?_
      refine xr_go i84_106 rfl ?_
      refine xr_go i84_107 rfl ?_
      refine xr_get i84_108 xf84_81 (by assumption) rfl rfl ?_
      refine xr_go i84_111 rfl ?_
      refine xr_go i84_112 rfl ?_
      refine xr_top (show _ = nI (a + 1) from nI_add a 1) ?_
      refine xr_put i84_113 xf84_81 (by assumption) ⟨rfl, Nat.le_of_ble_eq_true rfl, rfl, rfl, Or.inl rfl⟩ (fun y ey => ?_)
      have ez : y = xup h M (.inr (10, xMf M tn tk rk lt (nI (a + 1)) (nI n) kd fr to_ ft pt nu mn pc od)) := ey
      refine xr_goto i84_116 (t := 80) (by decide) ?_
      refine ih (a + 1) y (by omega) (xup_at ez) (xMt_up hT0 ez) res ?_
      rw [ez, xup_same]
      exact r
    · have ex : trun (tL tb) (k + 1) a = a := by
        show (if tL tb a = true then _ else _) = _
        rw [if_neg e]
      rw [ex, xup_id hO] at r
      refine xr_if_eqT i84_103 (t := 119) (by decide) (xbi_f (by simpa using e)) ?_
      exact r
theorem m_num_loop (hn : n ≤ 400) (hb : ∀ j, j < n → tb j < 256) (hd : 1 ≤ d) : ∀ k a v (h : xH), a + k = n → v ≤ 1099511627776 → h M = some (.inr (10, xMf M tn tk rk lt (nI a) (nI n) kd fr to_ ft pt (Int64.ofNat v) mn pc od)) → xMt M n tb h → tmv tb k a v ≤ 1099511627776 ∧ ∀ res, xRun G d 84 (295, [some (.ref M), none, none], [], (xup h M (.inr (10, xMf M tn tk rk lt (nI (trun (tD tb) k a)) (nI n) kd fr to_ ft pt (Int64.ofNat (tmv tb k a v)) mn pc od)), nx, sl)) res → xRun G d 84 (223, [some (.ref M), none, none], [], (h, nx, sl)) res := by
  intro k
  induction k with
  | zero =>
    intro a v h ha hv hO hT
    refine ⟨hv, fun res r => ?_⟩
    unfold trun tmv at r
    rw [xup_id hO] at r
    refine xr_go i84_223 rfl ?_
    refine xr_get i84_224 xf84_81 (by assumption) rfl rfl ?_
    refine xr_go i84_227 rfl ?_
    refine xr_get i84_228 xf84_84 (by assumption) rfl rfl ?_
    refine xr_icmp_geT i84_231 (t := 295) (by decide) (nI_le (by omega) (by omega)) ?_
    exact r
  | succ k ih =>
    intro a v h ha hv hO hT
    have hT0 := hT
    obtain ⟨f, h1, h2⟩ := hT
    have g1 := h2 a (by omega)
    have g2 := hb a (by omega)
    by_cases e : tD tb a = true
    · have ex : trun (tD tb) (k + 1) a = trun (tD tb) k (a + 1) := by
        show (if tD tb a = true then _ else _) = _
        rw [if_pos e]
      have exv : tmv tb (k + 1) a v = tmv tb k (a + 1) (min 1099511627776 (10 * v + (tb a - 48))) := by
        show (if tD tb a = true then _ else _) = _
        rw [if_pos e]
      have e' := e
      unfold tD at e'
      simp only [Bool.and_eq_true, decide_eq_true_eq] at e'
      obtain ⟨y1, ey1⟩ : ∃ y : xH, y = xup h M (.inr (10, xMf M tn tk rk lt (nI a) (nI n) kd fr to_ ft pt (Int64.ofNat (min 1099511627776 (10 * v + (tb a - 48)))) mn pc od)) := ⟨_, rfl⟩
      obtain ⟨y2, ey2⟩ : ∃ y : xH, y = xup h M (.inr (10, xMf M tn tk rk lt (nI (a + 1)) (nI n) kd fr to_ ft pt (Int64.ofNat (min 1099511627776 (10 * v + (tb a - 48)))) mn pc od)) := ⟨_, rfl⟩
      have y1O := xup_at ey1
      obtain ⟨i1, i2⟩ := ih (a + 1) (min 1099511627776 (10 * v + (tb a - 48))) y2 (by omega) (by omega) (xup_at ey2) (xMt_up hT0 ey2)
      rw [exv, ex]
      refine ⟨i1, fun res r => ?_⟩
      have rr := i2 res (by rw [ey2, xup_same]; exact r)
      have eb : xsb (tb a) = nI (tb a) := by
        unfold xsb
        rw [if_pos (by omega)]
      have e8 : (10 * Int64.ofNat v + (nI (tb a)).toInt64 - 48 : Int64) = Int64.ofNat (10 * v + (tb a - 48)) := by
        obtain ⟨c, hc⟩ : ∃ c, tb a = c + 48 := ⟨tb a - 48, by omega⟩
        rw [nI_64 (by omega), hc, Nat.add_sub_cancel, Int64.ofNat_add, Int64.ofNat_add, Int64.ofNat_mul, ← Int64.add_assoc]
        exact Int64.add_sub_cancel _ _
      refine xr_go i84_223 rfl ?_
      refine xr_get i84_224 xf84_81 (by assumption) rfl rfl ?_
      refine xr_go i84_227 rfl ?_
      refine xr_get i84_228 xf84_84 (by assumption) rfl rfl ?_
      refine xr_icmp_geF i84_231 (t := 295) (by decide) (nI_ge (by omega) (by omega)) ?_
      refine xr_go i84_234 rfl ?_
      refine xr_get i84_235 xf84_9 (by assumption) rfl rfl ?_
      refine xr_go i84_238 rfl ?_
      refine xr_get i84_239 xf84_81 (by assumption) rfl rfl ?_
      refine xr_yald i84_242 (by assumption) rfl (by omega) (by omega) ?_
      rw [g1]
      refine xr_S i84_243 xc84_116 ⟨by first | exact Or.inl rfl | exact Or.inr rfl, rfl⟩ xa_87 (Nat.le_of_ble_eq_true rfl) (Nat.le_of_ble_eq_true rfl) (by omega) ⟨Nat.le_of_ble_eq_true rfl, Nat.le_of_ble_eq_true rfl⟩ ((m_isDigit g2)) ?_
      refine xr_if_eqF i84_246 (t := 295) (by decide) (xbi_1 e) ?_
      refine xr_go i84_249 rfl ?_
      refine xr_ldc2 i84_250 xl84_123 rfl ?_
      refine xr_ldc2 i84_253 xl84_125 rfl ?_
      refine xr_go i84_256 rfl ?_
      refine xr_get i84_257 xf84_119 (by assumption) rfl rfl ?_
      refine xr_go i84_260 rfl ?_
      refine xr_go i84_261 rfl ?_
      refine xr_get i84_262 xf84_9 (by assumption) rfl rfl ?_
      refine xr_go i84_265 rfl ?_
      refine xr_get i84_266 xf84_81 (by assumption) rfl rfl ?_
      refine xr_yald i84_269 (by assumption) rfl (by omega) (by omega) ?_
      rw [g1, eb]
      refine xr_go i84_270 rfl ?_
      refine xr_go i84_271 rfl ?_
      refine xr_ldc2 i84_272 xl84_127 rfl ?_
      refine xr_go i84_275 rfl ?_
      refine xr_stk (st' := [.long (Int64.ofNat (10 * v + (tb a - 48))), .long (1099511627776 : Int64), .ref M]) (congrArg (fun z => [Value.long z, Value.long (1099511627776 : Int64), Value.ref M]) e8) ?_
      have e9 : (1099511627776 : Int64).toInt = 1099511627776 := rfl
      have ecmp : (Int64.ofNat (10 * v + (tb a - 48)) < (1099511627776 : Int64)) ↔ 10 * v + (tb a - 48) < 1099511627776 := by
        rw [Int64.lt_iff_toInt_lt, i64_toInt (by omega), e9]
        omega
      have emin : (if Int64.ofNat (10 * v + (tb a - 48)) < (1099511627776 : Int64) then Int64.ofNat (10 * v + (tb a - 48)) else (1099511627776 : Int64)) = Int64.ofNat (min 1099511627776 (10 * v + (tb a - 48))) := by
        by_cases z : 10 * v + (tb a - 48) < 1099511627776
        · rw [if_pos (ecmp.mpr z), Nat.min_eq_right (by omega)]
        · rw [if_neg (fun q => z (ecmp.mp q)), Nat.min_eq_left (by omega)]
          rfl
      refine xr_minl i84_276 xc84_129 rfl (by omega) (Nat.le_of_ble_eq_true rfl) (emin) ?_
      refine xr_put i84_279 xf84_119 (by assumption) ⟨rfl, Nat.le_of_ble_eq_true rfl, rfl, rfl, Or.inl rfl⟩ (fun z1 ez1 => ?_)
      obtain rfl : z1 = y1 := ez1.trans ey1.symm
      refine xr_go i84_282 rfl ?_
      refine xr_go i84_283 rfl ?_
      refine xr_get i84_284 xf84_81 (by assumption) rfl rfl ?_
      refine xr_go i84_287 rfl ?_
      refine xr_go i84_288 rfl ?_
      refine xr_top (show _ = nI (a + 1) from nI_add a 1) ?_
      refine xr_put i84_289 xf84_81 (by assumption) ⟨rfl, Nat.le_of_ble_eq_true rfl, rfl, rfl, Or.inl rfl⟩ (fun z2 ez2 => ?_)
      obtain rfl : z2 = y2 := (xup_get ey1 ez2).trans ey2.symm
      refine xr_goto i84_292 (t := 223) (by decide) ?_
      exact rr
    · have ex : trun (tD tb) (k + 1) a = a := by
        show (if tD tb a = true then _ else _) = _
        rw [if_neg e]
      have exv : tmv tb (k + 1) a v = v := by
        show (if tD tb a = true then _ else _) = _
        rw [if_neg e]
      rw [ex, exv]
      refine ⟨hv, fun res r => ?_⟩
      rw [xup_id hO] at r
      refine xr_go i84_223 rfl ?_
      refine xr_get i84_224 xf84_81 (by assumption) rfl rfl ?_
      refine xr_go i84_227 rfl ?_
      refine xr_get i84_228 xf84_84 (by assumption) rfl rfl ?_
      refine xr_icmp_geF i84_231 (t := 295) (by decide) (nI_ge (by omega) (by omega)) ?_
      refine xr_go i84_234 rfl ?_
      refine xr_get i84_235 xf84_9 (by assumption) rfl rfl ?_
      refine xr_go i84_238 rfl ?_
      refine xr_get i84_239 xf84_81 (by assumption) rfl rfl ?_
      refine xr_yald i84_242 (by assumption) rfl (by omega) (by omega) ?_
      rw [g1]
      refine xr_S i84_243 xc84_116 ⟨by first | exact Or.inl rfl | exact Or.inr rfl, rfl⟩ xa_87 (Nat.le_of_ble_eq_true rfl) (Nat.le_of_ble_eq_true rfl) (by omega) ⟨Nat.le_of_ble_eq_true rfl, Nat.le_of_ble_eq_true rfl⟩ ((m_isDigit g2)) ?_
      refine xr_if_eqT i84_246 (t := 295) (by decide) (xbi_f (by simpa using e)) ?_
      exact r
end XMTOK

