/-! ===== tokens: kinds and texts ===== -/
theorem tS_is {b k : Nat} (hk : 7 ≤ k ∧ k < 18 ∧ k ≠ 16) : tS b = tkind.getD k 0 ↔ b = (xSt.getD k []).getD 0 0 := by
  obtain ⟨h1, h2, h3⟩ := hk
  have h4 : k = 7 ∨ k = 8 ∨ k = 9 ∨ k = 10 ∨ k = 11 ∨ k = 12 ∨ k = 13 ∨ k = 14 ∨ k = 15 ∨ k = 17 := by omega
  unfold tS
  rcases h4 with rfl | rfl | rfl | rfl | rfl | rfl | rfl | rfl | rfl | rfl
  · show _ = 19 ↔ b = 40
    repeat' split
    all_goals omega
  · show _ = 20 ↔ b = 41
    repeat' split
    all_goals omega
  · show _ = 16 ↔ b = 42
    repeat' split
    all_goals omega
  · show _ = 14 ↔ b = 43
    repeat' split
    all_goals omega
  · show _ = 15 ↔ b = 45
    repeat' split
    all_goals omega
  · show _ = 10 ↔ b = 61
    repeat' split
    all_goals omega
  · show _ = 11 ↔ b = 35
    repeat' split
    all_goals omega
  · show _ = 12 ↔ b = 60
    repeat' split
    all_goals omega
  · show _ = 13 ↔ b = 62
    repeat' split
    all_goals omega
  · show _ = 18 ↔ b = 44
    repeat' split
    all_goals omega
theorem tkind_ge {k : Nat} (hk : k < 18) : 2 ≤ tkind.getD k 0 ∧ tkind.getD k 0 ≠ 9 ∧ tkind.getD k 0 ≤ 20 := by
  have key : ∀ j : Fin 18, 2 ≤ tkind.getD j.val 0 ∧ tkind.getD j.val 0 ≠ 9 ∧ tkind.getD j.val 0 ≤ 20 := by decide
  exact key ⟨k, hk⟩
theorem tmk_ws {K : Nat} (h2 : 2 ≤ K) (h9 : K ≠ 9) : tmk K = 1 ∨ tmk K = 3 := by
  unfold tmk
  rw [if_neg (by omega), if_neg (by omega), if_neg h9]
  split
  · exact Or.inl rfl
  · exact Or.inr rfl
theorem tmk_01 {K : Nat} (h : K = 0 ∨ K = 1 ∨ K = 9) : ¬ (tmk K = 1 ∨ tmk K = 3) := by
  rcases h with rfl | rfl | rfl <;> decide
theorem xSt_len {k : Nat} (hk : k < 18) : 1 ≤ (xSt.getD k []).length ∧ (xSt.getD k []).length ≤ 6 := by
  have key : ∀ j : Fin 18, 1 ≤ (xSt.getD j.val []).length ∧ (xSt.getD j.val []).length ≤ 6 := by decide
  exact key ⟨k, hk⟩
/-- of a whole token: a text is found just where its kind is -/
theorem tK_is {n p k : Nat} {tb : Nat → Nat} (hk : k < 18) : ((tmk (tK n tb p) = 1 ∨ tmk (tK n tb p) = 3) ∧ tmt tb (xSt.getD k []) p (tE n tb p) = true) ↔ tK n tb p = tkind.getD k 0 := by
  have hk2 := tkind_ge hk
  have hback : tK n tb p = tkind.getD k 0 → (tmk (tK n tb p) = 1 ∨ tmk (tK n tb p) = 3) := fun h => by rw [h]; exact tmk_ws hk2.1 hk2.2.1
  have hlen := xSt_len hk
  unfold tK tE at *
  by_cases h0 : n ≤ p
  · rw [if_pos h0, if_pos h0] at *
    constructor
    · rintro ⟨a, -⟩
      exact absurd a (by decide)
    · intro h
      omega
  rw [if_neg h0, if_neg h0] at *
  by_cases hL : tL tb p = true
  · rw [if_pos hL, if_pos hL] at *
    by_cases k7 : k < 7
    · constructor
      · rintro ⟨-, b⟩
        exact (tW_is k7).mpr b
      · intro h
        exact ⟨hback h, (tW_is k7).mp h⟩
    · constructor
      · rintro ⟨-, b⟩
        exfalso
        have h9 := (tmt_iff.mp b).2 0 (by omega)
        rw [Nat.add_zero] at h9
        unfold tL at hL
        simp only [Bool.and_eq_true, decide_eq_true_eq] at hL
        have key : ∀ j : Fin 18, 7 ≤ j.val → (xSt.getD j.val []).getD 0 0 < 97 := by decide
        have := key ⟨k, hk⟩ (by show 7 ≤ k; omega)
        dsimp only at this
        omega
      · intro h
        exfalso
        have key : ∀ j : Fin 18, 7 ≤ j.val → 10 ≤ tkind.getD j.val 0 := by decide
        have := key ⟨k, hk⟩ (by show 7 ≤ k; omega)
        dsimp only at this
        rcases tW_cases (tb := tb) (p := p) (e := trun (tL tb) (n - p) p) with z | z <;> omega
  rw [if_neg hL, if_neg hL] at *
  by_cases hD : tD tb p = true
  · rw [if_pos hD, if_pos hD] at *
    constructor
    · rintro ⟨a, -⟩
      exfalso
      revert a
      split
      · decide
      · decide
    · intro h
      exfalso
      split at h
      · omega
      · omega
  rw [if_neg hD, if_neg hD] at *
  by_cases hC : tco n tb p = true
  · rw [if_pos hC, if_pos hC] at *
    have hC2 := hC
    unfold tco at hC2
    simp only [Bool.and_eq_true, decide_eq_true_eq] at hC2
    constructor
    · rintro ⟨-, b⟩
      obtain ⟨b1, b2⟩ := tmt_iff.mp b
      have h1 := b2 0 (by omega)
      rw [Nat.add_zero, hC2.1] at h1
      have key : ∀ j : Fin 18, (xSt.getD j.val []).getD 0 0 = 58 → 17 = tkind.getD j.val 0 := by decide
      exact key ⟨k, hk⟩ h1.symm
    · intro h
      refine ⟨Or.inr rfl, ?_⟩
      have key : ∀ j : Fin 18, 17 = tkind.getD j.val 0 → j.val = 16 := by decide
      have := key ⟨k, hk⟩ h
      dsimp only at this
      subst this
      refine tmt_iff.mpr ⟨by show p + 2 - p = 2; omega, fun i hi => ?_⟩
      have hi2 : i < 2 := hi
      match i, hi2 with
      | 0, _ => exact hC2.1
      | 1, _ => exact hC2.2.2
  rw [if_neg hC, if_neg hC] at *
  by_cases k7 : 7 ≤ k ∧ k ≠ 16
  · have l1 : (xSt.getD k []).length = 1 := by
      have key : ∀ j : Fin 18, (7 ≤ j.val ∧ j.val ≠ 16) → (xSt.getD j.val []).length = 1 := by decide
      exact key ⟨k, hk⟩ k7
    rw [tS_is ⟨k7.1, hk, k7.2⟩] at *
    constructor
    · rintro ⟨-, b⟩
      have := (tmt_iff.mp b).2 0 (by omega)
      rw [Nat.add_zero] at this
      exact this
    · intro h
      refine ⟨hback h, tmt_iff.mpr ⟨by omega, fun i hi => ?_⟩⟩
      have : i = 0 := by omega
      subst this
      exact h
  · constructor
    · rintro ⟨-, b⟩
      exfalso
      obtain ⟨b1, b2⟩ := tmt_iff.mp b
      by_cases e16 : k = 16
      · subst e16
        have : (xSt.getD 16 []).length = 2 := rfl
        omega
      · by_cases e0 : k = 0
        · subst e0
          have h1 := b2 0 (by omega)
          rw [Nat.add_zero] at h1
          have h2 : tb p = 99 := h1
          apply hL
          unfold tL
          rw [h2]
          rfl
        · have key : ∀ j : Fin 18, j.val < 7 → j.val ≠ 0 → 2 ≤ (xSt.getD j.val []).length := by decide
          have := key ⟨k, hk⟩ (by show k < 7; omega) e0
          dsimp only at this
          omega
    · intro h
      exfalso
      have key : ∀ j : Fin 18, ¬ (7 ≤ j.val ∧ j.val ≠ 16) → tkind.getD j.val 0 ≤ 8 ∨ tkind.getD j.val 0 = 17 := by decide
      have := key ⟨k, hk⟩ k7
      dsimp only at this
      rcases tS_cases (b := tb p) with z | z <;> omega
/-- the texts lie where their addresses say -/
def xGok (G : xG) : Prop := ∀ k, k < 18 → G.2.1 (G.1 k) = some k
section XTOK
variable {G : xG} {d : Nat} {h : xH} {nx sl B n : Nat} {tb : Nat → Nat}
theorem c_skip_loop {f : Nat → Int32} (b1 : Int32) (h1 : h (B + 1) = some (.inr (1, [.ref (B + 2), .int (nI n)]))) (h2 : h (B + 2) = some (.inl (0, 400, .inl f))) (hn : n ≤ 400) (hf : ∀ j, j < n → f j = nI (tb j) ∧ tb j < 256) : ∀ k a, a + k = n → xRun G d 38 (2, [some (.ref (B + 1)), some (.int b1), some (.int (nI a))], [], (h, nx, sl)) (some (.int (nI (trun (fun j => decide (tb j = 32)) k a))), (h, nx, sl)) := by
  intro k
  induction k with
  | zero =>
    intro a ha
    refine xr_go i38_2 rfl ?_
    refine xr_go i38_3 rfl ?_
    refine xr_get i38_4 xf38_34 (by assumption) rfl rfl ?_
    refine xr_icmp_geT i38_7 (t := 27) (by decide) (nI_le (by omega) (by omega)) ?_
    refine xr_go i38_27 rfl ?_
    exact xr_iret i38_28 xt_38 rfl
  | succ k ih =>
    intro a ha
    obtain ⟨g1, g2⟩ := hf a (by omega)
    refine xr_go i38_2 rfl ?_
    refine xr_go i38_3 rfl ?_
    refine xr_get i38_4 xf38_34 (by assumption) rfl rfl ?_
    refine xr_icmp_geF i38_7 (t := 27) (by decide) (nI_ge (by omega) (by omega)) ?_
    refine xr_go i38_10 rfl ?_
    refine xr_get i38_11 xf38_39 (by assumption) rfl rfl ?_
    refine xr_go i38_14 rfl ?_
    refine xr_iald i38_15 (by assumption) rfl (by omega) (by omega) ?_
    refine xr_go i38_16 rfl ?_
    rw [g1]
    by_cases e : tb a = 32
    · refine xr_icmp_neF i38_18 (t := 27) (by decide) (by rw [e]; rfl) ?_
      have ex : trun (fun j => decide (tb j = 32)) (k + 1) a = trun (fun j => decide (tb j = 32)) k (a + 1) := by
        show (if decide (tb a = 32) = true then _ else _) = _
        rw [decide_eq_true e, if_pos rfl]
      rw [ex]
      refine xr_inc1 i38_21 rfl rfl ?_
      refine xr_goto i38_24 (t := 2) (by decide) ?_
      exact ih (a + 1) (by omega)
    · refine xr_icmp_neT i38_18 (t := 27) (by decide) (fun z => e ((nI_eq (b := 32) (by omega) (by omega)).mp z)) ?_
      have ex : trun (fun j => decide (tb j = 32)) (k + 1) a = a := by
        show (if decide (tb a = 32) = true then _ else _) = _
        rw [decide_eq_false e, if_neg (by simp)]
      rw [ex]
      refine xr_go i38_27 rfl ?_
      exact xr_iret i38_28 xt_38 rfl
theorem c_skip {a : Nat} (hT : xTp B n tb h) (ha : a ≤ n) : xRun G d 38 (0, [some (.ref (B + 1)), some (.int (nI a)), none], [], (h, nx, sl)) (some (.int (nI (tsk n tb a))), (h, nx, sl)) := by
  obtain ⟨f, h1, h2, h3, h4⟩ := hT
  refine xr_go i38_0 rfl ?_
  refine xr_go i38_1 rfl ?_
  exact c_skip_loop _ h1 h2 h3 h4 (n - a) a (by omega)
theorem c_spells_loop {f : Nat → Int32} {s p : Nat} (hG : xGok G) (hs : s < 18) (h1 : h (B + 1) = some (.inr (1, [.ref (B + 2), .int (nI n)]))) (h2 : h (B + 2) = some (.inl (0, 400, .inl f))) (hn : n ≤ 400) (hf : ∀ j, j < n → f j = nI (tb j) ∧ tb j < 256) (hp : p + (xSt.getD s []).length ≤ n) (hd : 1 ≤ d) (L2 : Int32) : ∀ k j, j + k = (xSt.getD s []).length → (∀ i, i < j → tb (p + i) = (xSt.getD s []).getD i 0) → xRun G d 42 (15, [some (.ref (B + 1)), some (.int (nI p)), some (.int L2), some (.ref (G.1 s)), some (.int (nI j))], [], (h, nx, sl)) (some (.int (xbi ((List.range (xSt.getD s []).length).all (fun k => decide (tb (p + k) = (xSt.getD s []).getD k 0))))), (h, nx, sl)) := by
  have hl := xSt_len hs
  intro k
  induction k with
  | zero =>
    intro j hj ha
    have e : ((List.range (xSt.getD s []).length).all (fun k => decide (tb (p + k) = (xSt.getD s []).getD k 0))) = true := by
      simp only [List.all_eq_true, List.mem_range, decide_eq_true_eq]
      exact fun i hi => ha i (by omega)
    rw [e]
    refine xr_go i42_15 rfl ?_
    refine xr_go i42_17 rfl ?_
    refine xr_slen i42_18 xc42_80 rfl (by omega) (hG s hs) (Nat.le_of_ble_eq_true rfl) rfl ?_
    refine xr_icmp_geT i42_21 (t := 50) (by decide) (nI_le (by omega) (by omega)) ?_
    refine xr_go i42_50 rfl ?_
    exact xr_iret i42_51 xt_42 rfl
  | succ k ih =>
    intro j hj ha
    obtain ⟨g1, g2⟩ := hf (p + j) (by omega)
    have hch : (xSt.getD s []).getD j 0 < 128 := by
      have key : ∀ a : Fin 18, ∀ b : Fin 7, (xSt.getD a.val []).getD b.val 0 < 128 := by decide
      exact key ⟨s, hs⟩ ⟨j, by omega⟩
    refine xr_go i42_15 rfl ?_
    refine xr_go i42_17 rfl ?_
    refine xr_slen i42_18 xc42_80 rfl (by omega) (hG s hs) (Nat.le_of_ble_eq_true rfl) rfl ?_
    refine xr_icmp_geF i42_21 (t := 50) (by decide) (nI_ge (by omega) (by omega)) ?_
    refine xr_go i42_24 rfl ?_
    refine xr_get i42_25 xf42_39 (by assumption) rfl rfl ?_
    refine xr_go i42_28 rfl ?_
    refine xr_go i42_29 rfl ?_
    refine xr_go i42_31 rfl ?_
    refine xr_iald i42_32 (by assumption) (nI_add p j) (by omega) (by omega) ?_
    rw [g1]
    refine xr_go i42_33 rfl ?_
    refine xr_go i42_34 rfl ?_
    refine xr_sat i42_36 xc42_85 rfl (by omega) (hG s hs) (Nat.le_of_ble_eq_true rfl) rfl (by omega) (by omega) ?_
    by_cases e : tb (p + j) = (xSt.getD s []).getD j 0
    · refine xr_icmp_eqT i42_39 (t := 44) (by decide) (by rw [e]) ?_
      refine xr_inc1 i42_44 rfl rfl ?_
      refine xr_goto i42_47 (t := 15) (by decide) ?_
      exact ih (j + 1) (by omega) (fun i hi => by
        by_cases z : i = j
        · rw [z]; exact e
        · exact ha i (by omega))
    · refine xr_icmp_eqF i42_39 (t := 44) (by decide) (fun z => e ((nI_eq (by omega) (by omega)).mp z)) ?_
      have ef : ((List.range (xSt.getD s []).length).all (fun k => decide (tb (p + k) = (xSt.getD s []).getD k 0))) = false := by
        rw [← Bool.not_eq_true]
        intro z
        simp only [List.all_eq_true, List.mem_range, decide_eq_true_eq] at z
        exact e (z j (by omega))
      rw [ef]
      refine xr_go i42_42 rfl ?_
      exact xr_iret i42_43 xt_42 rfl
theorem c_spells {s p e : Nat} (hG : xGok G) (hs : s < 18) (hT : xTp B n tb h) (hpe : p ≤ e) (he : e ≤ n) (hd : 1 ≤ d) : xRun G d 42 (0, [some (.ref (B + 1)), some (.int (nI p)), some (.int (nI e)), some (.ref (G.1 s)), none], [], (h, nx, sl)) (some (.int (xbi (tmt tb (xSt.getD s []) p e))), (h, nx, sl)) := by
  obtain ⟨f, h1, h2, h3, h4⟩ := hT
  have hl := xSt_len hs
  unfold tmt
  refine xr_go i42_0 rfl ?_
  refine xr_go i42_1 rfl ?_
  refine xr_go i42_2 rfl ?_
  refine xr_top (show _ = nI (e - p) from pk_sub hpe) ?_
  refine xr_go i42_3 rfl ?_
  refine xr_slen i42_4 xc42_80 rfl (by omega) (hG s hs) (Nat.le_of_ble_eq_true rfl) rfl ?_
  by_cases hlen : e - p = (xSt.getD s []).length
  · refine xr_icmp_eqT i42_7 (t := 12) (by decide) (by rw [hlen]) ?_
    rw [decide_eq_true hlen, Bool.true_and]
    refine xr_go i42_12 rfl ?_
    refine xr_go i42_13 rfl ?_
    exact c_spells_loop hG hs h1 h2 h3 h4 (by omega) hd _ (xSt.getD s []).length 0 (by omega) (fun i hi => by omega)
  · refine xr_icmp_eqF i42_7 (t := 12) (by decide) (fun z => hlen ((nI_eq (by omega) (by omega)).mp z)) ?_
    rw [decide_eq_false hlen, Bool.false_and]
    refine xr_go i42_10 rfl ?_
    exact xr_iret i42_11 xt_42 rfl
theorem c_kindOfWord {p e : Nat} (hG : xGok G) (hT : xTp B n tb h) (hpe : p ≤ e) (he : e ≤ n) (hd : 2 ≤ d) : xRun G d 41 (0, [some (.ref (B + 1)), some (.int (nI p)), some (.int (nI e))], [], (h, nx, sl)) (some (.int (nI (tW tb p e))), (h, nx, sl)) := by
  unfold tW
  have sp : ∀ s, s < 18 → xRun G (d - 1) 42 (0, [some (.ref (B + 1)), some (.int (nI p)), some (.int (nI e)), some (.ref (G.1 s)), none], [], (h, nx, sl)) (some (.int (xbi (tmt tb (xSt.getD s []) p e))), (h, nx, sl)) := fun s hs => c_spells hG hs hT hpe he (by omega)
  refine xr_go i41_0 rfl ?_
  refine xr_go i41_1 rfl ?_
  refine xr_go i41_2 rfl ?_
  refine xr_ldc i41_3 xd41_62 rfl rfl ?_
  refine xr_S i41_5 xc41_64 ⟨by first | exact Or.inl rfl | exact Or.inr rfl, rfl⟩ xa_42 (Nat.le_of_ble_eq_true rfl) (Nat.le_of_ble_eq_true rfl) (by omega) ⟨Nat.le_of_ble_eq_true rfl, Nat.le_of_ble_eq_true rfl⟩ ((sp 0 (by omega))) ?_
  refine xr_stk (st' := [.int (xbi (tmt tb [99] p e))]) rfl ?_
  split
  · rename_i z
    refine xr_if_eqF i41_8 (t := 14) (by decide) (xbi_1 z) ?_
    refine xr_go i41_11 rfl ?_
    exact xr_iret i41_13 xt_41 rfl
  rename_i z0
  refine xr_if_eqT i41_8 (t := 14) (by decide) (xbi_f (by simpa using z0)) ?_
  refine xr_go i41_14 rfl ?_
  refine xr_go i41_15 rfl ?_
  refine xr_go i41_16 rfl ?_
  refine xr_ldc i41_17 xd41_68 rfl rfl ?_
  refine xr_S i41_19 xc41_64 ⟨by first | exact Or.inl rfl | exact Or.inr rfl, rfl⟩ xa_42 (Nat.le_of_ble_eq_true rfl) (Nat.le_of_ble_eq_true rfl) (by omega) ⟨Nat.le_of_ble_eq_true rfl, Nat.le_of_ble_eq_true rfl⟩ ((sp 1 (by omega))) ?_
  refine xr_stk (st' := [.int (xbi (tmt tb [105, 102] p e))]) rfl ?_
  split
  · rename_i z
    refine xr_if_eqF i41_22 (t := 27) (by decide) (xbi_1 z) ?_
    refine xr_go i41_25 rfl ?_
    exact xr_iret i41_26 xt_41 rfl
  rename_i z1
  refine xr_if_eqT i41_22 (t := 27) (by decide) (xbi_f (by simpa using z1)) ?_
  refine xr_go i41_27 rfl ?_
  refine xr_go i41_28 rfl ?_
  refine xr_go i41_29 rfl ?_
  refine xr_ldc i41_30 xd41_70 rfl rfl ?_
  refine xr_S i41_32 xc41_64 ⟨by first | exact Or.inl rfl | exact Or.inr rfl, rfl⟩ xa_42 (Nat.le_of_ble_eq_true rfl) (Nat.le_of_ble_eq_true rfl) (by omega) ⟨Nat.le_of_ble_eq_true rfl, Nat.le_of_ble_eq_true rfl⟩ ((sp 2 (by omega))) ?_
  refine xr_stk (st' := [.int (xbi (tmt tb [116, 104, 101, 110] p e))]) rfl ?_
  split
  · rename_i z
    refine xr_if_eqF i41_35 (t := 40) (by decide) (xbi_1 z) ?_
    refine xr_go i41_38 rfl ?_
    exact xr_iret i41_39 xt_41 rfl
  rename_i z2
  refine xr_if_eqT i41_35 (t := 40) (by decide) (xbi_f (by simpa using z2)) ?_
  refine xr_go i41_40 rfl ?_
  refine xr_go i41_41 rfl ?_
  refine xr_go i41_42 rfl ?_
  refine xr_ldc i41_43 xd41_72 rfl rfl ?_
  refine xr_S i41_45 xc41_64 ⟨by first | exact Or.inl rfl | exact Or.inr rfl, rfl⟩ xa_42 (Nat.le_of_ble_eq_true rfl) (Nat.le_of_ble_eq_true rfl) (by omega) ⟨Nat.le_of_ble_eq_true rfl, Nat.le_of_ble_eq_true rfl⟩ ((sp 3 (by omega))) ?_
  refine xr_stk (st' := [.int (xbi (tmt tb [101, 108, 115, 101] p e))]) rfl ?_
  split
  · rename_i z
    refine xr_if_eqF i41_48 (t := 53) (by decide) (xbi_1 z) ?_
    refine xr_go i41_51 rfl ?_
    exact xr_iret i41_52 xt_41 rfl
  rename_i z3
  refine xr_if_eqT i41_48 (t := 53) (by decide) (xbi_f (by simpa using z3)) ?_
  refine xr_go i41_53 rfl ?_
  refine xr_go i41_54 rfl ?_
  refine xr_go i41_55 rfl ?_
  refine xr_ldc i41_56 xd41_74 rfl rfl ?_
  refine xr_S i41_58 xc41_64 ⟨by first | exact Or.inl rfl | exact Or.inr rfl, rfl⟩ xa_42 (Nat.le_of_ble_eq_true rfl) (Nat.le_of_ble_eq_true rfl) (by omega) ⟨Nat.le_of_ble_eq_true rfl, Nat.le_of_ble_eq_true rfl⟩ ((sp 4 (by omega))) ?_
  refine xr_stk (st' := [.int (xbi (tmt tb [97, 110, 100] p e))]) rfl ?_
  split
  · rename_i z
    refine xr_if_eqF i41_61 (t := 66) (by decide) (xbi_1 z) ?_
    refine xr_go i41_64 rfl ?_
    exact xr_iret i41_65 xt_41 rfl
  rename_i z4
  refine xr_if_eqT i41_61 (t := 66) (by decide) (xbi_f (by simpa using z4)) ?_
  refine xr_go i41_66 rfl ?_
  refine xr_go i41_67 rfl ?_
  refine xr_go i41_68 rfl ?_
  refine xr_ldc i41_69 xd41_76 rfl rfl ?_
  refine xr_S i41_71 xc41_64 ⟨by first | exact Or.inl rfl | exact Or.inr rfl, rfl⟩ xa_42 (Nat.le_of_ble_eq_true rfl) (Nat.le_of_ble_eq_true rfl) (by omega) ⟨Nat.le_of_ble_eq_true rfl, Nat.le_of_ble_eq_true rfl⟩ ((sp 5 (by omega))) ?_
  refine xr_stk (st' := [.int (xbi (tmt tb [115, 101, 114, 118, 101, 114] p e))]) rfl ?_
  split
  · rename_i z
    refine xr_if_eqF i41_74 (t := 80) (by decide) (xbi_1 z) ?_
    refine xr_go i41_77 rfl ?_
    exact xr_iret i41_79 xt_41 rfl
  rename_i z5
  refine xr_if_eqT i41_74 (t := 80) (by decide) (xbi_f (by simpa using z5)) ?_
  refine xr_go i41_80 rfl ?_
  refine xr_go i41_81 rfl ?_
  refine xr_go i41_82 rfl ?_
  refine xr_ldc i41_83 xd41_78 rfl rfl ?_
  refine xr_S i41_85 xc41_64 ⟨by first | exact Or.inl rfl | exact Or.inr rfl, rfl⟩ xa_42 (Nat.le_of_ble_eq_true rfl) (Nat.le_of_ble_eq_true rfl) (by omega) ⟨Nat.le_of_ble_eq_true rfl, Nat.le_of_ble_eq_true rfl⟩ ((sp 6 (by omega))) ?_
  refine xr_stk (st' := [.int (xbi (tmt tb [115, 116, 97, 109, 112] p e))]) rfl ?_
  split
  · rename_i z
    refine xr_if_eqF i41_88 (t := 94) (by decide) (xbi_1 z) ?_
    refine xr_go i41_91 rfl ?_
    exact xr_iret i41_93 xt_41 rfl
  rename_i z6
  refine xr_if_eqT i41_88 (t := 94) (by decide) (xbi_f (by simpa using z6)) ?_
  refine xr_go i41_94 rfl ?_
  exact xr_iret i41_95 xt_41 rfl
end XTOK

