/-! ===== tokens: what bytes make ===== -/
def trun (p : Nat → Bool) : Nat → Nat → Nat
  | 0, at_ => at_
  | k + 1, at_ => if p at_ = true then trun p k (at_ + 1) else at_
theorem trun_ge {p : Nat → Bool} : ∀ k a, a ≤ trun p k a ∧ trun p k a ≤ a + k := by
  intro k
  induction k with
  | zero => intro a; exact ⟨Nat.le_refl _, Nat.le_refl _⟩
  | succ k ih =>
    intro a
    unfold trun
    split
    · have := ih (a + 1)
      omega
    · omega
theorem trun_gt {p : Nat → Bool} {k a : Nat} (h : p a = true) (hk : 0 < k) : a < trun p k a := by
  cases k with
  | zero => omega
  | succ k =>
    unfold trun
    rw [if_pos h]
    have := (trun_ge (p := p) k (a + 1)).1
    omega
theorem trun_all {p : Nat → Bool} : ∀ k a j, a ≤ j → j < trun p k a → p j = true := by
  intro k
  induction k with
  | zero => intro a j h1 h2; unfold trun at h2; omega
  | succ k ih =>
    intro a j h1 h2
    unfold trun at h2
    split at h2
    · rename_i hp
      by_cases e : j = a
      · rw [e]; exact hp
      · exact ih (a + 1) j (by omega) h2
    · omega
def tL (tb : Nat → Nat) (j : Nat) : Bool := decide (97 ≤ tb j) && decide (tb j ≤ 122)
def tD (tb : Nat → Nat) (j : Nat) : Bool := decide (48 ≤ tb j) && decide (tb j ≤ 57)
def tsk (n : Nat) (tb : Nat → Nat) (a : Nat) : Nat := trun (fun j => decide (tb j = 32)) (n - a) a
def tmt (tb : Nat → Nat) (s : List Nat) (p e : Nat) : Bool := decide (e - p = s.length) && (List.range s.length).all (fun k => decide (tb (p + k) = s.getD k 0))
theorem tmt_iff {tb : Nat → Nat} {s : List Nat} {p e : Nat} : tmt tb s p e = true ↔ (e - p = s.length ∧ ∀ k, k < s.length → tb (p + k) = s.getD k 0) := by
  unfold tmt
  simp only [Bool.and_eq_true, decide_eq_true_eq, List.all_eq_true, List.mem_range]
def tW (tb : Nat → Nat) (p e : Nat) : Nat := if tmt tb [99] p e = true then 8 else if tmt tb [105, 102] p e = true then 2 else if tmt tb [116, 104, 101, 110] p e = true then 3 else if tmt tb [101, 108, 115, 101] p e = true then 4 else if tmt tb [97, 110, 100] p e = true then 5 else if tmt tb [115, 101, 114, 118, 101, 114] p e = true then 6 else if tmt tb [115, 116, 97, 109, 112] p e = true then 7 else 1
/-- the number that digits make -/
def tdv (tb : Nat → Nat) : Nat → Nat → Nat → Nat
  | 0, _, v => v
  | k + 1, a, v => if tD tb a = true then tdv tb k (a + 1) (v * 10 + (tb a - 48)) else v
def tS (b : Nat) : Nat := if b = 61 then 10 else if b = 35 then 11 else if b = 60 then 12 else if b = 62 then 13 else if b = 43 then 14 else if b = 45 then 15 else if b = 42 then 16 else if b = 44 then 18 else if b = 40 then 19 else if b = 41 then 20 else 1
def tco (n : Nat) (tb : Nat → Nat) (p : Nat) : Bool := decide (tb p = 58) && (decide (p + 1 < n) && decide (tb (p + 1) = 61))
/-- the token that begins at p: its kind, its end, its number -/
def tK (n : Nat) (tb : Nat → Nat) (p : Nat) : Nat := if n ≤ p then 0 else if tL tb p = true then tW tb p (trun (tL tb) (n - p) p) else if tD tb p = true then (if tdv tb (n - p) p 0 ≤ 2147483647 then 9 else 1) else if tco n tb p = true then 17 else tS (tb p)
def tE (n : Nat) (tb : Nat → Nat) (p : Nat) : Nat := if n ≤ p then p else if tL tb p = true then trun (tL tb) (n - p) p else if tD tb p = true then trun (tD tb) (n - p) p else if tco n tb p = true then p + 2 else p + 1
def tN (n : Nat) (tb : Nat → Nat) (p : Nat) : Nat := if n ≤ p then 0 else if tL tb p = true then 0 else if tD tb p = true then (if tdv tb (n - p) p 0 ≤ 2147483647 then tdv tb (n - p) p 0 else 0) else 0
/-- where the tokens begin -/
def tP (n : Nat) (tb : Nat → Nat) : Nat → Nat
  | 0 => tsk n tb 0
  | i + 1 => tsk n tb (tE n tb (tP n tb i))
theorem tsk_ge {n a : Nat} {tb : Nat → Nat} (h : a ≤ n) : a ≤ tsk n tb a ∧ tsk n tb a ≤ n := by
  have := trun_ge (p := fun j => decide (tb j = 32)) (n - a) a
  unfold tsk
  omega
theorem tE_le {n p : Nat} {tb : Nat → Nat} (h : p ≤ n) : p ≤ tE n tb p ∧ tE n tb p ≤ n ∧ (p < n → p < tE n tb p) := by
  unfold tE
  split
  · omega
  · split
    · rename_i h1 h2
      have := trun_ge (p := tL tb) (n - p) p
      have := trun_gt (p := tL tb) (k := n - p) h2 (by omega)
      omega
    · split
      · rename_i h1 h2 h3
        have := trun_ge (p := tD tb) (n - p) p
        have := trun_gt (p := tD tb) (k := n - p) h3 (by omega)
        omega
      · split
        · rename_i h4
          unfold tco at h4
          simp only [Bool.and_eq_true, decide_eq_true_eq] at h4
          omega
        · omega
theorem tP_le {n : Nat} {tb : Nat → Nat} : ∀ i, tP n tb i ≤ n := by
  intro i
  induction i with
  | zero => exact (tsk_ge (Nat.zero_le _)).2
  | succ i ih => exact (tsk_ge (tE_le ih).2.1).2
theorem tP_ge {n : Nat} {tb : Nat → Nat} : ∀ i, tP n tb i < n → i ≤ tP n tb i := by
  intro i
  induction i with
  | zero => intro _; omega
  | succ i ih =>
    intro h
    have h1 := tE_le (tb := tb) (tP_le (n := n) (tb := tb) i)
    have h2 := tsk_ge (tb := tb) h1.2.1
    have h3 : tP n tb i < n := by
      have : tP n tb (i + 1) = tsk n tb (tE n tb (tP n tb i)) := rfl
      omega
    have h4 := ih h3
    have h5 := h1.2.2 h3
    show i + 1 ≤ tsk n tb (tE n tb (tP n tb i))
    omega
theorem tK_end {n p : Nat} {tb : Nat → Nat} (h : n ≤ p) : tK n tb p = 0 := by unfold tK; rw [if_pos h]
/-- how many tokens there are: the last is an end, or no token -/
theorem tT_ex (n : Nat) (tb : Nat → Nat) : ∃ T, 0 < T ∧ T ≤ n + 1 ∧ (∀ i, i + 1 < T → 2 ≤ tK n tb (tP n tb i)) ∧ tK n tb (tP n tb (T - 1)) ≤ 1 := by
  have key : ∀ m i, i + m = n → (∀ j, j < i → 2 ≤ tK n tb (tP n tb j)) → ∃ T, 0 < T ∧ T ≤ n + 1 ∧ (∀ i, i + 1 < T → 2 ≤ tK n tb (tP n tb i)) ∧ tK n tb (tP n tb (T - 1)) ≤ 1 := by
    intro m
    induction m with
    | zero =>
      intro i hi hj
      refine ⟨n + 1, by omega, by omega, fun j h => hj j (by omega), ?_⟩
      rw [Nat.add_sub_cancel]
      by_cases h : tP n tb n < n
      · have := tP_ge n h
        omega
      · rw [tK_end (by omega)]
        omega
    | succ m ih =>
      intro i hi hj
      by_cases h : 2 ≤ tK n tb (tP n tb i)
      · exact ih (i + 1) (by omega) (fun j h2 => by
          by_cases e : j = i
          · rw [e]; exact h
          · exact hj j (by omega))
      · exact ⟨i + 1, by omega, by omega, fun j h2 => hj j (by omega), by rw [Nat.add_sub_cancel]; omega⟩
  exact key n 0 (by omega) (fun j h => by omega)
/-- the kind that a text names -/
def tkind : List Nat := [8, 2, 3, 4, 5, 6, 7, 19, 20, 16, 14, 15, 10, 11, 12, 13, 17, 18]
/-- the model's kinds -/
def tmk (K : Nat) : Nat := if K = 0 then 0 else if K = 1 then 4 else if K = 9 then 2 else if K ≤ 8 then 1 else 3
theorem tW_cases {tb : Nat → Nat} {p e : Nat} : tW tb p e = 1 ∨ (2 ≤ tW tb p e ∧ tW tb p e ≤ 8) := by
  unfold tW
  repeat' split
  all_goals omega
theorem tS_cases {b : Nat} : tS b = 1 ∨ (10 ≤ tS b ∧ tS b ≤ 20 ∧ tS b ≠ 17) := by
  unfold tS
  repeat' split
  all_goals omega
theorem tmt_len {tb : Nat → Nat} {s : List Nat} {p e : Nat} (h : tmt tb s p e = true) : e - p = s.length := (tmt_iff.mp h).1
/-- words: each text is found just where its kind is -/
theorem tW_is {tb : Nat → Nat} {p e k : Nat} (hk : k < 7) : tW tb p e = tkind.getD k 0 ↔ tmt tb (xSt.getD k []) p e = true := by
  have ne : ∀ s s' : List Nat, s ≠ s' → tmt tb s p e = true → ¬ tmt tb s' p e = true := by
    intro s s' hne h1 h2
    obtain ⟨a1, a2⟩ := tmt_iff.mp h1
    obtain ⟨b1, b2⟩ := tmt_iff.mp h2
    apply hne
    apply List.ext_getElem (by omega)
    intro i hi1 hi2
    have := (a2 i hi1).symm.trans (b2 i hi2)
    rw [List.getD_eq_getElem?_getD, List.getD_eq_getElem?_getD, List.getElem?_eq_getElem hi1, List.getElem?_eq_getElem hi2] at this
    exact this
  constructor
  · intro h
    match k, hk with
    | 0, _ | 1, _ | 2, _ | 3, _ | 4, _ | 5, _ | 6, _ =>
      unfold tW at h
      repeat' split at h
      all_goals first | assumption | (exfalso; revert h; decide)
  · intro h
    match k, hk with
    | 0, _ | 1, _ | 2, _ | 3, _ | 4, _ | 5, _ | 6, _ =>
      unfold tW
      repeat' split
      all_goals first | rfl | (rename_i z; exact absurd h z) | (rename_i z; exact absurd h (ne _ _ (by decide) z)) | (exfalso; rename_i z; exact ne _ _ (by decide) z h) | (exfalso; contradiction)

