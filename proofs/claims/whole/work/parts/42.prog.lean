/-! ===== programs: what is written, and what it does ===== -/
def xev1 (m : Nat) (x y : Int32) (c : Nat → Int32) (k : Nat) (o : Int32) (b : List Int32) : Option (List Int32) :=
  if k = 9 then (if b.length < m then some (o :: b) else none)
  else if k = 8 then (if ¬ o < 0 ∧ o.toNatClampNeg < 32 then (if b.length < m then some (c o.toNatClampNeg :: b) else none) else none)
  else if k = 6 then (if b.length < m then some (x :: b) else none)
  else if k = 7 then (if b.length < m then some (y :: b) else none)
  else (match b with
    | r :: l :: b' => if k = 14 then some ((l + r) :: b') else if k = 15 then some ((l - r) :: b') else if k = 16 then some ((l * r) :: b') else none
    | _ => none)
/-- sums: values before what is done with them, on a stack of at most m -/
def xev (m : Nat) (x y : Int32) (c : Nat → Int32) : List (Nat × Int32) → List Int32 → Option (List Int32)
  | [], b => some b
  | q :: E, b => (match xev1 m x y c q.1 q.2 b with
    | some b' => xev m x y c E b'
    | none => none)
theorem xev_app {m : Nat} {x y : Int32} {c : Nat → Int32} : ∀ (E1 E2 : List (Nat × Int32)) (b : List Int32), xev m x y c (E1 ++ E2) b = (match xev m x y c E1 b with
    | some b' => xev m x y c E2 b'
    | none => none) := by
  intro E1
  induction E1 with
  | nil => intro E2 b; rfl
  | cons q E1 ih =>
    intro E2 b
    show (match xev1 m x y c q.1 q.2 b with
      | some b' => xev m x y c (E1 ++ E2) b'
      | none => none) = (match (match xev1 m x y c q.1 q.2 b with
      | some b' => xev m x y c E1 b'
      | none => none) with
      | some b' => xev m x y c E2 b'
      | none => none)
    cases xev1 m x y c q.1 q.2 b with
    | none => rfl
    | some b' => exact ih E2 b'
/-- a sum that needs k places -/
def xQ1 (E : List (Nat × Int32)) (k : Nat) : Prop := ∃ V : Int32 → Int32 → (Nat → Int32) → Int32, ∀ m x y c b, b.length + k ≤ m → xev m x y c E b = some (V x y c :: b)
theorem xQ1_le {E : List (Nat × Int32)} {k j : Nat} (h : xQ1 E k) (hk : k ≤ j) : xQ1 E j := by
  obtain ⟨V, hV⟩ := h
  exact ⟨V, fun m x y c b hb => hV m x y c b (by omega)⟩
theorem xQ1_num {n : Int32} : xQ1 [(9, n)] 1 := ⟨fun _ _ _ => n, fun m x y c b hb => by
  show (match (if b.length < m then some (n :: b) else none) with
    | some b' => some b'
    | none => none) = _
  rw [if_pos (by omega)]⟩
theorem xQ1_cell {n : Nat} (hn : n < 32) : xQ1 [(8, nI n)] 1 := ⟨fun _ _ c => c n, fun m x y c b hb => by
  show (match (if ¬ nI n < 0 ∧ (nI n).toNatClampNeg < 32 then (if b.length < m then some (c (nI n).toNatClampNeg :: b) else none) else none) with
    | some b' => some b'
    | none => none) = _
  rw [if_pos ⟨nI_pos (by omega), by rw [nI_clamp (by omega)]; exact hn⟩, if_pos (by omega), nI_clamp (by omega)]⟩
theorem xQ1_srv {n : Int32} : xQ1 [(6, n)] 1 := ⟨fun x _ _ => x, fun m x y c b hb => by
  show (match (if b.length < m then some (x :: b) else none) with
    | some b' => some b'
    | none => none) = _
  rw [if_pos (by omega)]⟩
theorem xQ1_stp {n : Int32} : xQ1 [(7, n)] 1 := ⟨fun _ y _ => y, fun m x y c b hb => by
  show (match (if b.length < m then some (y :: b) else none) with
    | some b' => some b'
    | none => none) = _
  rw [if_pos (by omega)]⟩
theorem xQ1_bin {E1 E2 : List (Nat × Int32)} {k1 k2 op : Nat} {o : Int32} (h1 : xQ1 E1 k1) (h2 : xQ1 E2 k2) (ho : op = 14 ∨ op = 15 ∨ op = 16) : xQ1 (E1 ++ E2 ++ [(op, o)]) (max k1 (k2 + 1)) := by
  obtain ⟨V1, hV1⟩ := h1
  obtain ⟨V2, hV2⟩ := h2
  have two : ∀ m x y c b, b.length + max k1 (k2 + 1) ≤ m → xev m x y c (E1 ++ E2) b = some (V2 x y c :: V1 x y c :: b) := fun m x y c b hb => by
    rw [xev_app, hV1 m x y c b (by omega)]
    exact hV2 m x y c (V1 x y c :: b) (by simp only [List.length_cons]; omega)
  rcases ho with rfl | rfl | rfl
  · exact ⟨fun x y c => V1 x y c + V2 x y c, fun m x y c b hb => by rw [xev_app, two m x y c b hb]; rfl⟩
  · exact ⟨fun x y c => V1 x y c - V2 x y c, fun m x y c b hb => by rw [xev_app, two m x y c b hb]; rfl⟩
  · exact ⟨fun x y c => V1 x y c * V2 x y c, fun m x y c b hb => by rw [xev_app, two m x y c b hb]; rfl⟩
/-- the value of a sum -/
def xval (E : List (Nat × Int32)) (x y : Int32) (c : Nat → Int32) : Int32 := match xev 1000 x y c E [] with
  | some (v :: _) => v
  | _ => 0
theorem xQ1_val {E : List (Nat × Int32)} {k m : Nat} {x y : Int32} {c : Nat → Int32} {b : List Int32} (h : xQ1 E k) (hk : k ≤ 1000) (hm : b.length + k ≤ m) : xev m x y c E b = some (xval E x y c :: b) := by
  obtain ⟨V, hV⟩ := h
  have e : xval E x y c = V x y c := by
    unfold xval
    rw [hV 1000 x y c [] (by simpa using hk)]
  rw [e]
  exact hV m x y c b hm
/-- kinds of steps in a sum -/
theorem xev_kinds {m : Nat} {x y : Int32} {c : Nat → Int32} : ∀ (E : List (Nat × Int32)) (b b' : List Int32), xev m x y c E b = some b' → ∀ q ∈ E, (q.1 = 6 ∨ q.1 = 7 ∨ q.1 = 8 ∨ q.1 = 9 ∨ q.1 = 14 ∨ q.1 = 15 ∨ q.1 = 16) := by
  intro E
  induction E with
  | nil => intro b b' _ q hq; simp at hq
  | cons p E ih =>
    intro b b' h q hq
    unfold xev at h
    cases h1 : xev1 m x y c p.1 p.2 b with
    | none => rw [h1] at h; cases h
    | some b1 =>
      rw [h1] at h
      rcases List.mem_cons.mp hq with rfl | hq
      · unfold xev1 at h1
        by_cases e9 : q.1 = 9
        · omega
        by_cases e8 : q.1 = 8
        · omega
        by_cases e6 : q.1 = 6
        · omega
        by_cases e7 : q.1 = 7
        · omega
        rw [if_neg e9, if_neg e8, if_neg e6, if_neg e7] at h1
        split at h1
        · by_cases e14 : q.1 = 14
          · omega
          by_cases e15 : q.1 = 15
          · omega
          by_cases e16 : q.1 = 16
          · omega
          rw [if_neg e14, if_neg e15, if_neg e16] at h1
          cases h1
        · cases h1
      · exact ih _ _ h q hq
theorem xQ1_kinds {E : List (Nat × Int32)} {k : Nat} (h : xQ1 E k) : ∀ q ∈ E, (q.1 = 6 ∨ q.1 = 7 ∨ q.1 = 8 ∨ q.1 = 9 ∨ q.1 = 14 ∨ q.1 = 15 ∨ q.1 = 16) := by
  obtain ⟨V, hV⟩ := h
  exact xev_kinds E [] _ (hV k 0 0 (fun _ => 0) [] (by simp))
theorem xev1_step {x y : Int32} {c : Nat → Int32} {k : Nat} {o : Int32} {b b' : List Int32} {e : List (Nat × Int32)} {t : Bool} (h : xev1 16 x y c k o b = some b') : xstep x y c k o (b, e, t) = some (b', e, t) := by
  unfold xev1 at h
  unfold xstep xspush
  by_cases e9 : k = 9
  · rw [if_pos e9] at h ⊢
    split at h
    · rename_i hl
      rw [if_pos hl]
      cases h
      rfl
    · cases h
  rw [if_neg e9] at h ⊢
  by_cases e8 : k = 8
  · rw [if_pos e8] at h ⊢
    split at h
    · rename_i ho
      rw [if_pos ho]
      split at h
      · rename_i hl
        rw [if_pos hl]
        cases h
        rfl
      · cases h
    · cases h
  rw [if_neg e8] at h ⊢
  by_cases e6 : k = 6
  · rw [if_pos e6] at h ⊢
    split at h
    · rename_i hl
      rw [if_pos hl]
      cases h
      rfl
    · cases h
  rw [if_neg e6] at h ⊢
  by_cases e7 : k = 7
  · rw [if_pos e7] at h ⊢
    split at h
    · rename_i hl
      rw [if_pos hl]
      cases h
      rfl
    · cases h
  rw [if_neg e7] at h ⊢
  split at h
  · have e17 : k ≠ 17 := fun z => by
      subst z
      simp at h
    rw [if_neg e17]
    dsimp only
    unfold xcomb
    by_cases e14 : k = 14
    · rw [if_pos e14] at h ⊢
      cases h
      rfl
    rw [if_neg e14] at h ⊢
    by_cases e15 : k = 15
    · rw [if_pos e15] at h ⊢
      cases h
      rfl
    rw [if_neg e15] at h ⊢
    by_cases e16 : k = 16
    · rw [if_pos e16] at h ⊢
      cases h
      rfl
    rw [if_neg e16] at h
    cases h
  · cases h
/-- a sum within a program -/
theorem xperf_sum {x y : Int32} {c : Nat → Int32} {e : List (Nat × Int32)} {rest : List (Nat × Int32)} : ∀ (E : List (Nat × Int32)) (b b' : List Int32), xev 16 x y c E b = some b' → xperf x y c (E ++ rest) (b, e, true) = xperf x y c rest (b', e, true) := by
  intro E
  induction E with
  | nil =>
    intro b b' h
    cases h
    rfl
  | cons q E ih =>
    intro b b' h
    have hk := xev_kinds (q :: E) b b' h q List.mem_cons_self
    unfold xev at h
    cases h1 : xev1 16 x y c q.1 q.2 b with
    | none => rw [h1] at h; cases h
    | some b1 =>
      rw [h1] at h
      rw [List.cons_append]
      show (if q.1 = 99 then _ else if q.1 ≤ 20 then _ else _) = _
      rw [if_neg (by omega), if_pos (by omega), if_pos rfl, xev1_step h1]
      exact ih b1 b' h
theorem xperf_skip {x y : Int32} {c : Nat → Int32} {rest : List (Nat × Int32)} {b : List Int32} {e : List (Nat × Int32)} : ∀ (E : List (Nat × Int32)), (∀ q ∈ E, q.1 ≤ 20) → xperf x y c (E ++ rest) (b, e, false) = xperf x y c rest (b, e, false) := by
  intro E
  induction E with
  | nil => intro _; rfl
  | cons q E ih =>
    intro h
    have hk := h q List.mem_cons_self
    rw [List.cons_append]
    show (if q.1 = 99 then _ else if q.1 ≤ 20 then _ else _) = _
    rw [if_neg (by omega), if_pos hk, if_neg (by simp)]
    exact ih (fun p hp => h p (List.mem_cons_of_mem _ hp))
/-- a rule: its compares (sign, left, right), its effects (cell, sum) -/
abbrev xRu : Type := List (Nat × List (Nat × Int32) × List (Nat × Int32)) × List (Nat × List (Nat × Int32))
def xcs (q : Nat × List (Nat × Int32) × List (Nat × Int32)) : List (Nat × Int32) := q.2.1 ++ q.2.2 ++ [(q.1, 0)]
def xes (e : Nat × List (Nat × Int32)) : List (Nat × Int32) := e.2 ++ [(17, nI e.1)]
def xru (r : xRu) : List (Nat × Int32) := r.1.flatMap xcs ++ r.2.flatMap xes
def xrs : Nat → List xRu → List (Nat × Int32)
  | _, [] => []
  | k, r :: R => xru r ++ (99, nI k) :: xrs (k + 1) R
def xcmpv (k : Nat) (l r : Int32) : Bool := if k = 10 then decide (l = r) else if k = 11 then decide (¬ l = r) else if k = 12 then decide (l < r) else decide (r < l)
def xch (x y : Int32) (c : Nat → Int32) (q : Nat × List (Nat × Int32) × List (Nat × Int32)) : Bool := xcmpv q.1 (xval q.2.1 x y c) (xval q.2.2 x y c)
def xrh (x y : Int32) (c : Nat → Int32) (r : xRu) : Bool := r.1.all (xch x y c)
def xre (x y : Int32) (c : Nat → Int32) (l : List (Nat × List (Nat × Int32))) : List (Nat × Int32) := l.map (fun e => (e.1, xval e.2 x y c))
def xrw (x y : Int32) (c : Nat → Int32) : Nat → List xRu → Nat × (Nat → Int32)
  | _, [] => (0, c)
  | k, r :: R => if xrh x y c r = true then (k, xchg (xre x y c r.2) c) else xrw x y c (k + 1) R
def xWc (q : Nat × List (Nat × Int32) × List (Nat × Int32)) : Prop := 10 ≤ q.1 ∧ q.1 ≤ 13 ∧ xQ1 q.2.1 15 ∧ xQ1 q.2.2 15
def xWe (e : Nat × List (Nat × Int32)) : Prop := e.1 < 32 ∧ xQ1 e.2 15
def xWr (r : xRu) : Prop := (∀ q ∈ r.1, xWc q) ∧ (∀ e ∈ r.2, xWe e) ∧ r.2.length ≤ 8
theorem xcs_le {q : Nat × List (Nat × Int32) × List (Nat × Int32)} (h : xWc q) : ∀ p ∈ xcs q, p.1 ≤ 20 := by
  obtain ⟨h1, h2, h3, h4⟩ := h
  intro p hp
  unfold xcs at hp
  rcases List.mem_append.mp hp with hp | hp
  · rcases List.mem_append.mp hp with hp | hp
    · have := xQ1_kinds h3 p hp
      omega
    · have := xQ1_kinds h4 p hp
      omega
  · rw [List.mem_singleton] at hp
    rw [hp]
    dsimp only
    omega
theorem xes_le {e : Nat × List (Nat × Int32)} (h : xWe e) : ∀ p ∈ xes e, p.1 ≤ 20 := by
  intro p hp
  unfold xes at hp
  rcases List.mem_append.mp hp with hp | hp
  · have := xQ1_kinds h.2 p hp
    omega
  · rw [List.mem_singleton] at hp
    rw [hp]
    dsimp only
    omega
theorem xperf_cmp {x y : Int32} {c : Nat → Int32} {rest : List (Nat × Int32)} {q : Nat × List (Nat × Int32) × List (Nat × Int32)} (h : xWc q) : xperf x y c (xcs q ++ rest) ([], [], true) = xperf x y c rest ([], [], xch x y c q) := by
  obtain ⟨h1, h2, h3, h4⟩ := h
  unfold xcs
  rw [List.append_assoc, List.append_assoc, xperf_sum q.2.1 [] _ (xQ1_val h3 (by omega) (by simp)), xperf_sum q.2.2 [xval q.2.1 x y c] _ (xQ1_val h4 (by omega) (by simp))]
  show (if q.1 = 99 then _ else if q.1 ≤ 20 then _ else _) = _
  rw [if_neg (by omega), if_pos (by omega), if_pos rfl]
  have e : xstep x y c q.1 0 ([xval q.2.2 x y c, xval q.2.1 x y c], [], true) = some ([], [], xch x y c q) := by
    unfold xstep xch xcmpv
    rw [if_neg (by omega), if_neg (by omega), if_neg (by omega), if_neg (by omega), if_neg (by omega)]
    dsimp only
    unfold xcomb
    rw [if_neg (by omega), if_neg (by omega), if_neg (by omega)]
    have hq : q.1 = 10 ∨ q.1 = 11 ∨ q.1 = 12 ∨ q.1 = 13 := by omega
    rcases hq with e | e | e | e <;> rw [e] <;> rfl
  rw [e]
  rfl
theorem xperf_cmps {x y : Int32} {c : Nat → Int32} {rest : List (Nat × Int32)} : ∀ (l : List (Nat × List (Nat × Int32) × List (Nat × Int32))), (∀ q ∈ l, xWc q) → xperf x y c (l.flatMap xcs ++ rest) ([], [], true) = xperf x y c rest ([], [], l.all (xch x y c)) := by
  intro l
  induction l with
  | nil => intro _; rfl
  | cons q l ih =>
    intro h
    have ht := fun p hp => h p (List.mem_cons_of_mem _ hp)
    rw [List.flatMap_cons, List.append_assoc, xperf_cmp (h q List.mem_cons_self), List.all_cons]
    cases hq : xch x y c q with
    | true =>
      rw [Bool.true_and]
      exact ih ht
    | false =>
      rw [Bool.false_and]
      exact xperf_skip _ (fun p hp => by
        obtain ⟨z, hz, hp⟩ := List.mem_flatMap.mp hp
        exact xcs_le (ht z hz) p hp)
theorem xperf_effs {x y : Int32} {c : Nat → Int32} {rest : List (Nat × Int32)} : ∀ (l : List (Nat × List (Nat × Int32))) (e : List (Nat × Int32)), (∀ q ∈ l, xWe q) → e.length + l.length ≤ 8 → xperf x y c (l.flatMap xes ++ rest) ([], e, true) = xperf x y c rest ([], e ++ xre x y c l, true) := by
  intro l
  induction l with
  | nil =>
    intro e _ _
    show xperf x y c rest ([], e, true) = xperf x y c rest ([], e ++ [], true)
    rw [List.append_nil]
  | cons q l ih =>
    intro e h hl
    have hq := h q List.mem_cons_self
    simp only [List.length_cons] at hl
    rw [List.flatMap_cons, List.append_assoc]
    unfold xes
    rw [List.append_assoc, xperf_sum q.2 [] _ (xQ1_val hq.2 (by omega) (by simp))]
    show xperf x y c ((17, nI q.1) :: (l.flatMap xes ++ rest)) ([xval q.2 x y c], e, true) = _
    show (if (17 : Nat) = 99 then _ else if (17 : Nat) ≤ 20 then _ else _) = _
    rw [if_neg (by omega), if_pos (by omega), if_pos rfl]
    have es : xstep x y c 17 (nI q.1) ([xval q.2 x y c], e, true) = some ([], e ++ [(q.1, xval q.2 x y c)], true) := by
      unfold xstep
      rw [if_neg (by omega), if_neg (by omega), if_neg (by omega), if_neg (by omega), if_pos rfl]
      dsimp only
      have := hq.1
      rw [nI_clamp (by omega), if_pos ⟨by omega, nI_pos (by omega), hq.1⟩]
    rw [es]
    dsimp only
    rw [ih _ (fun p hp => h p (List.mem_cons_of_mem _ hp)) (by simp only [List.length_append, List.length_singleton]; omega)]
    unfold xre
    rw [List.map_cons, List.append_assoc]
    rfl
/-- a program does what its rules say -/
theorem xperf_rules {x y : Int32} {c : Nat → Int32} : ∀ (R : List xRu) (k : Nat), (∀ r ∈ R, xWr r) → xperf x y c (xrs k R) ([], [], true) = some (nI (xrw x y c k R).1, (xrw x y c k R).2) := by
  intro R
  induction R with
  | nil => intro k _; rfl
  | cons r R ih =>
    intro k h
    obtain ⟨h1, h2, h3⟩ := h r List.mem_cons_self
    unfold xrs xru
    rw [List.append_assoc, xperf_cmps r.1 h1]
    show _ = some (nI (if xrh x y c r = true then _ else _ : Nat × (Nat → Int32)).1, (if xrh x y c r = true then _ else _ : Nat × (Nat → Int32)).2)
    have er : r.1.all (xch x y c) = xrh x y c r := rfl
    rw [er]
    cases hr : xrh x y c r with
    | true =>
      rw [xperf_effs r.2 [] h2 (by simpa using h3), if_pos rfl]
      show (if (99 : Nat) = 99 then _ else _) = _
      rw [if_pos rfl, if_pos rfl]
      have ha : (([] ++ xre x y c r.2).all (fun q => decide (q.1 < 32))) = true := by
        rw [List.nil_append, List.all_eq_true]
        intro q hq
        unfold xre at hq
        obtain ⟨e, he, rfl⟩ := List.mem_map.mp hq
        exact decide_eq_true (h2 e he).1
      rw [if_pos ha]
      rfl
    | false =>
      rw [xperf_skip (r.2.flatMap xes) (fun p hp => by
        obtain ⟨z, hz, hp⟩ := List.mem_flatMap.mp hp
        exact xes_le (h2 z hz) p hp), if_neg (by simp)]
      show (if (99 : Nat) = 99 then _ else _) = _
      rw [if_pos rfl, if_neg (by simp)]
      exact ih (k + 1) (fun p hp => h p (List.mem_cons_of_mem _ hp))
theorem xrw_le {x y : Int32} {c : Nat → Int32} : ∀ (R : List xRu) (k : Nat), 1 ≤ k → (xrw x y c k R).1 < k + R.length := by
  intro R
  induction R with
  | nil => intro k h; exact h
  | cons r R ih =>
    intro k h
    unfold xrw
    split
    · simp only [List.length_cons]
      omega
    · have := ih (k + 1) (by omega)
      simp only [List.length_cons]
      omega
theorem xOKp_rules {R : List xRu} (h : ∀ r ∈ R, xWr r) (hl : R.length ≤ 6) : xOKp (xrs 1 R) := fun x y c => ⟨(xrw x y c 1 R).1, (xrw x y c 1 R).2, by
  have := xrw_le (x := x) (y := y) (c := c) R 1 (by omega)
  omega, xperf_rules R 1 h⟩
theorem xpO_rules {R : List xRu} (h : ∀ r ∈ R, xWr r) (hl : R.length ≤ 6) {x y : Int32} {c : Nat → Int32} : xpO (xrs 1 R) x y c = (xrw x y c 1 R).1 := by
  unfold xpO
  rw [xperf_rules R 1 h]
  have := xrw_le (x := x) (y := y) (c := c) R 1 (by omega)
  exact nI_clamp (by omega)
theorem xpC_rules {R : List xRu} (h : ∀ r ∈ R, xWr r) {x y : Int32} {c : Nat → Int32} : xpC (xrs 1 R) x y c = (xrw x y c 1 R).2 := by
  unfold xpC
  rw [xperf_rules R 1 h]

