/-! ===== the model: its beginning (wip/gen/lay79.py) ===== -/
theorem xr_multi {G : xG} {d mi pc : Nat} {L : xL} {r : List Value} {h : xH} {nx sl : Nat} {res : Option Value × xW} {i n m g : Nat} {x y : Int32} {q : Nat × Nat × Nat × Nat × Nat} (hi : xI mi pc = some (.multianewarray i 2)) (hq : xNl (xO mi) i = some q) (hc : q.2.2.1 = g) (hg : g = 16 ∨ g = 17) (hx : x = nI n) (hy : y = nI m) (hn : n ≤ 1000) (hm : m ≤ 1000) (k : ∀ h', h' = xgrid h nx n m (g - 10) (g - 16) → xRun G d mi (pc + 4, L, .ref nx :: r, (h', nx + 1 + n, sl + n + n * m)) res) : xRun G d mi (pc, L, .int y :: .int x :: r, (h, nx, sl)) res := by
  subst hx
  subst hy
  subst hc
  refine xr_go hi ?_ (k _ rfl)
  show xmulti (xO mi) i 2 pc L (.int (nI m) :: .int (nI n) :: r) (h, nx, sl) = _
  unfold xmulti
  have hc : ¬ (nI n < 0 ∨ 1000 < n ∨ nI m < 0 ∨ 1000 < m ∨ 2 ≠ 2 ∨ ¬ (q.2.2.1 = 16 ∨ q.2.2.1 = 17)) := by
    rintro (z | z | z | z | z | z)
    · exact nI_pos (by omega) z
    · omega
    · exact nI_pos (by omega) z
    · omega
    · exact z rfl
    · exact z hg
  simp only [hq, nI_clamp (show n < 2 ^ 31 by omega), nI_clamp (show m < 2 ^ 31 by omega), if_neg hc]
section XMINIT
variable {G : xG} {d : Nat} {h : xH} {M sl : Nat}
set_option maxHeartbeats 4000000 in
theorem c_79 (hB : h M = some (.inr (10, [.null, .int 0, .null, .null, .null, .null, .null, .int 0, .int 0, .null, .null, .null, .null, .null, .null, .null, .null, .int 0, .int 0, .int 0, .int 0, .int 0, .int 0, .int 0, .long 0, .null, .int 0, .null, .null, .null, .null, .int 0, .null, .int 0]))) (hd : 1 ≤ d) : ∃ h', xRun G d 79 (0, [some (.ref M)], [], (h, M + 1, sl)) (none, (h', M + 41, sl + 7833)) ∧ (∀ q, q < M → h' q = h q) ∧ xMod M (M + 41) 0 0 (fun _ => 0) (fun _ => 0) (fun _ => 0) (fun _ => 0) (fun _ => []) (fun _ => 0) (fun _ => 0) (fun _ => 0) (fun _ _ => 0) (fun _ => 0) (fun _ _ => 0) (fun _ _ => 0) none 0 (fun _ => 0) h' := by
  obtain ⟨a0, ea0⟩ : ∃ z : xH, z = xup h (M + 1) (.inl (2, 400, .inl (fun _ => 0))) := ⟨_, rfl⟩
  have an0 : ∀ q, q ≠ M + 1 → a0 q = h q := fun q hq => by rw [ea0]; exact xup_n hq
  have am0 : a0 M = some (.inr (10, [.null, .int 0, .null, .null, .null, .null, .null, .int 0, .int 0, .null, .null, .null, .null, .null, .null, .null, .null, .int 0, .int 0, .int 0, .int 0, .int 0, .int 0, .int 0, .long 0, .null, .int 0, .null, .null, .null, .null, .int 0, .null, .int 0])) := (an0 M (by omega)).trans hB
  obtain ⟨g0, eg0⟩ : ∃ z : xH, z = xup a0 M (.inr (10, [.ref (M + 1), .int 0, .null, .null, .null, .null, .null, .int 0, .int 0, .null, .null, .null, .null, .null, .null, .null, .null, .int 0, .int 0, .int 0, .int 0, .int 0, .int 0, .int 0, .long 0, .null, .int 0, .null, .null, .null, .null, .int 0, .null, .int 0])) := ⟨_, rfl⟩
  have gm0 := xup_at eg0
  have gn0 : ∀ q, q ≠ M → g0 q = a0 q := fun q hq => by rw [eg0]; exact xup_n hq
  obtain ⟨a1, ea1⟩ : ∃ z : xH, z = xup g0 (M + 2) (.inl (0, 500, .inl (fun _ => 0))) := ⟨_, rfl⟩
  have an1 : ∀ q, q ≠ M + 2 → a1 q = g0 q := fun q hq => by rw [ea1]; exact xup_n hq
  have am1 : a1 M = some (.inr (10, [.ref (M + 1), .int 0, .null, .null, .null, .null, .null, .int 0, .int 0, .null, .null, .null, .null, .null, .null, .null, .null, .int 0, .int 0, .int 0, .int 0, .int 0, .int 0, .int 0, .long 0, .null, .int 0, .null, .null, .null, .null, .int 0, .null, .int 0])) := (an1 M (by omega)).trans gm0
  obtain ⟨g1, eg1⟩ : ∃ z : xH, z = xup a1 M (.inr (10, [.ref (M + 1), .int 0, .ref (M + 2), .null, .null, .null, .null, .int 0, .int 0, .null, .null, .null, .null, .null, .null, .null, .null, .int 0, .int 0, .int 0, .int 0, .int 0, .int 0, .int 0, .long 0, .null, .int 0, .null, .null, .null, .null, .int 0, .null, .int 0])) := ⟨_, rfl⟩
  have gm1 := xup_at eg1
  have gn1 : ∀ q, q ≠ M → g1 q = a1 q := fun q hq => by rw [eg1]; exact xup_n hq
  obtain ⟨a2, ea2⟩ : ∃ z : xH, z = xup g1 (M + 3) (.inl (0, 500, .inl (fun _ => 0))) := ⟨_, rfl⟩
  have an2 : ∀ q, q ≠ M + 3 → a2 q = g1 q := fun q hq => by rw [ea2]; exact xup_n hq
  have am2 : a2 M = some (.inr (10, [.ref (M + 1), .int 0, .ref (M + 2), .null, .null, .null, .null, .int 0, .int 0, .null, .null, .null, .null, .null, .null, .null, .null, .int 0, .int 0, .int 0, .int 0, .int 0, .int 0, .int 0, .long 0, .null, .int 0, .null, .null, .null, .null, .int 0, .null, .int 0])) := (an2 M (by omega)).trans gm1
  obtain ⟨g2, eg2⟩ : ∃ z : xH, z = xup a2 M (.inr (10, [.ref (M + 1), .int 0, .ref (M + 2), .ref (M + 3), .null, .null, .null, .int 0, .int 0, .null, .null, .null, .null, .null, .null, .null, .null, .int 0, .int 0, .int 0, .int 0, .int 0, .int 0, .int 0, .long 0, .null, .int 0, .null, .null, .null, .null, .int 0, .null, .int 0])) := ⟨_, rfl⟩
  have gm2 := xup_at eg2
  have gn2 : ∀ q, q ≠ M → g2 q = a2 q := fun q hq => by rw [eg2]; exact xup_n hq
  obtain ⟨a3, ea3⟩ : ∃ z : xH, z = xup g2 (M + 4) (.inl (0, 500, .inl (fun _ => 0))) := ⟨_, rfl⟩
  have an3 : ∀ q, q ≠ M + 4 → a3 q = g2 q := fun q hq => by rw [ea3]; exact xup_n hq
  have am3 : a3 M = some (.inr (10, [.ref (M + 1), .int 0, .ref (M + 2), .ref (M + 3), .null, .null, .null, .int 0, .int 0, .null, .null, .null, .null, .null, .null, .null, .null, .int 0, .int 0, .int 0, .int 0, .int 0, .int 0, .int 0, .long 0, .null, .int 0, .null, .null, .null, .null, .int 0, .null, .int 0])) := (an3 M (by omega)).trans gm2
  obtain ⟨g3, eg3⟩ : ∃ z : xH, z = xup a3 M (.inr (10, [.ref (M + 1), .int 0, .ref (M + 2), .ref (M + 3), .ref (M + 4), .null, .null, .int 0, .int 0, .null, .null, .null, .null, .null, .null, .null, .null, .int 0, .int 0, .int 0, .int 0, .int 0, .int 0, .int 0, .long 0, .null, .int 0, .null, .null, .null, .null, .int 0, .null, .int 0])) := ⟨_, rfl⟩
  have gm3 := xup_at eg3
  have gn3 : ∀ q, q ≠ M → g3 q = a3 q := fun q hq => by rw [eg3]; exact xup_n hq
  obtain ⟨a4, ea4⟩ : ∃ z : xH, z = xup g3 (M + 5) (.inl (0, 501, .inl (fun _ => 0))) := ⟨_, rfl⟩
  have an4 : ∀ q, q ≠ M + 5 → a4 q = g3 q := fun q hq => by rw [ea4]; exact xup_n hq
  have am4 : a4 M = some (.inr (10, [.ref (M + 1), .int 0, .ref (M + 2), .ref (M + 3), .ref (M + 4), .null, .null, .int 0, .int 0, .null, .null, .null, .null, .null, .null, .null, .null, .int 0, .int 0, .int 0, .int 0, .int 0, .int 0, .int 0, .long 0, .null, .int 0, .null, .null, .null, .null, .int 0, .null, .int 0])) := (an4 M (by omega)).trans gm3
  obtain ⟨g4, eg4⟩ : ∃ z : xH, z = xup a4 M (.inr (10, [.ref (M + 1), .int 0, .ref (M + 2), .ref (M + 3), .ref (M + 4), .ref (M + 5), .null, .int 0, .int 0, .null, .null, .null, .null, .null, .null, .null, .null, .int 0, .int 0, .int 0, .int 0, .int 0, .int 0, .int 0, .long 0, .null, .int 0, .null, .null, .null, .null, .int 0, .null, .int 0])) := ⟨_, rfl⟩
  have gm4 := xup_at eg4
  have gn4 : ∀ q, q ≠ M → g4 q = a4 q := fun q hq => by rw [eg4]; exact xup_n hq
  obtain ⟨a5, ea5⟩ : ∃ z : xH, z = xup g4 (M + 6) (.inl (6, 500, .inr (.inr (.inr (.inr (fun _ => none)))))) := ⟨_, rfl⟩
  have an5 : ∀ q, q ≠ M + 6 → a5 q = g4 q := fun q hq => by rw [ea5]; exact xup_n hq
  have am5 : a5 M = some (.inr (10, [.ref (M + 1), .int 0, .ref (M + 2), .ref (M + 3), .ref (M + 4), .ref (M + 5), .null, .int 0, .int 0, .null, .null, .null, .null, .null, .null, .null, .null, .int 0, .int 0, .int 0, .int 0, .int 0, .int 0, .int 0, .long 0, .null, .int 0, .null, .null, .null, .null, .int 0, .null, .int 0])) := (an5 M (by omega)).trans gm4
  obtain ⟨g5, eg5⟩ : ∃ z : xH, z = xup a5 M (.inr (10, [.ref (M + 1), .int 0, .ref (M + 2), .ref (M + 3), .ref (M + 4), .ref (M + 5), .ref (M + 6), .int 0, .int 0, .null, .null, .null, .null, .null, .null, .null, .null, .int 0, .int 0, .int 0, .int 0, .int 0, .int 0, .int 0, .long 0, .null, .int 0, .null, .null, .null, .null, .int 0, .null, .int 0])) := ⟨_, rfl⟩
  have gm5 := xup_at eg5
  have gn5 : ∀ q, q ≠ M → g5 q = a5 q := fun q hq => by rw [eg5]; exact xup_n hq
  obtain ⟨a6, ea6⟩ : ∃ z : xH, z = xgrid g5 (M + 7) 5 500 7 1 := ⟨_, rfl⟩
  have an6 : ∀ q, (q < M + 7 ∨ M + 12 < q) → a6 q = g5 q := fun q hq => by rw [ea6]; unfold xgrid; rw [if_neg (by omega), if_neg (by omega)]
  have am6 : a6 M = some (.inr (10, [.ref (M + 1), .int 0, .ref (M + 2), .ref (M + 3), .ref (M + 4), .ref (M + 5), .ref (M + 6), .int 0, .int 0, .null, .null, .null, .null, .null, .null, .null, .null, .int 0, .int 0, .int 0, .int 0, .int 0, .int 0, .int 0, .long 0, .null, .int 0, .null, .null, .null, .null, .int 0, .null, .int 0])) := (an6 M (by omega)).trans gm5
  obtain ⟨g6, eg6⟩ : ∃ z : xH, z = xup a6 M (.inr (10, [.ref (M + 1), .int 0, .ref (M + 2), .ref (M + 3), .ref (M + 4), .ref (M + 5), .ref (M + 6), .int 0, .int 0, .ref (M + 7), .null, .null, .null, .null, .null, .null, .null, .int 0, .int 0, .int 0, .int 0, .int 0, .int 0, .int 0, .long 0, .null, .int 0, .null, .null, .null, .null, .int 0, .null, .int 0])) := ⟨_, rfl⟩
  have gm6 := xup_at eg6
  have gn6 : ∀ q, q ≠ M → g6 q = a6 q := fun q hq => by rw [eg6]; exact xup_n hq
  obtain ⟨a7, ea7⟩ : ∃ z : xH, z = xup g6 (M + 13) (.inl (0, 5, .inl (fun _ => 0))) := ⟨_, rfl⟩
  have an7 : ∀ q, q ≠ M + 13 → a7 q = g6 q := fun q hq => by rw [ea7]; exact xup_n hq
  have am7 : a7 M = some (.inr (10, [.ref (M + 1), .int 0, .ref (M + 2), .ref (M + 3), .ref (M + 4), .ref (M + 5), .ref (M + 6), .int 0, .int 0, .ref (M + 7), .null, .null, .null, .null, .null, .null, .null, .int 0, .int 0, .int 0, .int 0, .int 0, .int 0, .int 0, .long 0, .null, .int 0, .null, .null, .null, .null, .int 0, .null, .int 0])) := (an7 M (by omega)).trans gm6
  obtain ⟨g7, eg7⟩ : ∃ z : xH, z = xup a7 M (.inr (10, [.ref (M + 1), .int 0, .ref (M + 2), .ref (M + 3), .ref (M + 4), .ref (M + 5), .ref (M + 6), .int 0, .int 0, .ref (M + 7), .ref (M + 13), .null, .null, .null, .null, .null, .null, .int 0, .int 0, .int 0, .int 0, .int 0, .int 0, .int 0, .long 0, .null, .int 0, .null, .null, .null, .null, .int 0, .null, .int 0])) := ⟨_, rfl⟩
  have gm7 := xup_at eg7
  have gn7 : ∀ q, q ≠ M → g7 q = a7 q := fun q hq => by rw [eg7]; exact xup_n hq
  obtain ⟨a8, ea8⟩ : ∃ z : xH, z = xup g7 (M + 14) (.inl (0, 5, .inl (fun _ => 0))) := ⟨_, rfl⟩
  have an8 : ∀ q, q ≠ M + 14 → a8 q = g7 q := fun q hq => by rw [ea8]; exact xup_n hq
  have am8 : a8 M = some (.inr (10, [.ref (M + 1), .int 0, .ref (M + 2), .ref (M + 3), .ref (M + 4), .ref (M + 5), .ref (M + 6), .int 0, .int 0, .ref (M + 7), .ref (M + 13), .null, .null, .null, .null, .null, .null, .int 0, .int 0, .int 0, .int 0, .int 0, .int 0, .int 0, .long 0, .null, .int 0, .null, .null, .null, .null, .int 0, .null, .int 0])) := (an8 M (by omega)).trans gm7
  obtain ⟨g8, eg8⟩ : ∃ z : xH, z = xup a8 M (.inr (10, [.ref (M + 1), .int 0, .ref (M + 2), .ref (M + 3), .ref (M + 4), .ref (M + 5), .ref (M + 6), .int 0, .int 0, .ref (M + 7), .ref (M + 13), .ref (M + 14), .null, .null, .null, .null, .null, .int 0, .int 0, .int 0, .int 0, .int 0, .int 0, .int 0, .long 0, .null, .int 0, .null, .null, .null, .null, .int 0, .null, .int 0])) := ⟨_, rfl⟩
  have gm8 := xup_at eg8
  have gn8 : ∀ q, q ≠ M → g8 q = a8 q := fun q hq => by rw [eg8]; exact xup_n hq
  obtain ⟨a9, ea9⟩ : ∃ z : xH, z = xup g8 (M + 15) (.inl (0, 5, .inl (fun _ => 0))) := ⟨_, rfl⟩
  have an9 : ∀ q, q ≠ M + 15 → a9 q = g8 q := fun q hq => by rw [ea9]; exact xup_n hq
  have am9 : a9 M = some (.inr (10, [.ref (M + 1), .int 0, .ref (M + 2), .ref (M + 3), .ref (M + 4), .ref (M + 5), .ref (M + 6), .int 0, .int 0, .ref (M + 7), .ref (M + 13), .ref (M + 14), .null, .null, .null, .null, .null, .int 0, .int 0, .int 0, .int 0, .int 0, .int 0, .int 0, .long 0, .null, .int 0, .null, .null, .null, .null, .int 0, .null, .int 0])) := (an9 M (by omega)).trans gm8
  obtain ⟨g9, eg9⟩ : ∃ z : xH, z = xup a9 M (.inr (10, [.ref (M + 1), .int 0, .ref (M + 2), .ref (M + 3), .ref (M + 4), .ref (M + 5), .ref (M + 6), .int 0, .int 0, .ref (M + 7), .ref (M + 13), .ref (M + 14), .ref (M + 15), .null, .null, .null, .null, .int 0, .int 0, .int 0, .int 0, .int 0, .int 0, .int 0, .long 0, .null, .int 0, .null, .null, .null, .null, .int 0, .null, .int 0])) := ⟨_, rfl⟩
  have gm9 := xup_at eg9
  have gn9 : ∀ q, q ≠ M → g9 q = a9 q := fun q hq => by rw [eg9]; exact xup_n hq
  obtain ⟨a10, ea10⟩ : ∃ z : xH, z = xup g9 (M + 16) (.inl (0, 8, .inl (fun _ => 0))) := ⟨_, rfl⟩
  have an10 : ∀ q, q ≠ M + 16 → a10 q = g9 q := fun q hq => by rw [ea10]; exact xup_n hq
  have am10 : a10 M = some (.inr (10, [.ref (M + 1), .int 0, .ref (M + 2), .ref (M + 3), .ref (M + 4), .ref (M + 5), .ref (M + 6), .int 0, .int 0, .ref (M + 7), .ref (M + 13), .ref (M + 14), .ref (M + 15), .null, .null, .null, .null, .int 0, .int 0, .int 0, .int 0, .int 0, .int 0, .int 0, .long 0, .null, .int 0, .null, .null, .null, .null, .int 0, .null, .int 0])) := (an10 M (by omega)).trans gm9
  obtain ⟨g10, eg10⟩ : ∃ z : xH, z = xup a10 M (.inr (10, [.ref (M + 1), .int 0, .ref (M + 2), .ref (M + 3), .ref (M + 4), .ref (M + 5), .ref (M + 6), .int 0, .int 0, .ref (M + 7), .ref (M + 13), .ref (M + 14), .ref (M + 15), .ref (M + 16), .null, .null, .null, .int 0, .int 0, .int 0, .int 0, .int 0, .int 0, .int 0, .long 0, .null, .int 0, .null, .null, .null, .null, .int 0, .null, .int 0])) := ⟨_, rfl⟩
  have gm10 := xup_at eg10
  have gn10 : ∀ q, q ≠ M → g10 q = a10 q := fun q hq => by rw [eg10]; exact xup_n hq
  obtain ⟨a11, ea11⟩ : ∃ z : xH, z = xgrid g10 (M + 17) 8 5 6 0 := ⟨_, rfl⟩
  have an11 : ∀ q, (q < M + 17 ∨ M + 25 < q) → a11 q = g10 q := fun q hq => by rw [ea11]; unfold xgrid; rw [if_neg (by omega), if_neg (by omega)]
  have am11 : a11 M = some (.inr (10, [.ref (M + 1), .int 0, .ref (M + 2), .ref (M + 3), .ref (M + 4), .ref (M + 5), .ref (M + 6), .int 0, .int 0, .ref (M + 7), .ref (M + 13), .ref (M + 14), .ref (M + 15), .ref (M + 16), .null, .null, .null, .int 0, .int 0, .int 0, .int 0, .int 0, .int 0, .int 0, .long 0, .null, .int 0, .null, .null, .null, .null, .int 0, .null, .int 0])) := (an11 M (by omega)).trans gm10
  obtain ⟨g11, eg11⟩ : ∃ z : xH, z = xup a11 M (.inr (10, [.ref (M + 1), .int 0, .ref (M + 2), .ref (M + 3), .ref (M + 4), .ref (M + 5), .ref (M + 6), .int 0, .int 0, .ref (M + 7), .ref (M + 13), .ref (M + 14), .ref (M + 15), .ref (M + 16), .ref (M + 17), .null, .null, .int 0, .int 0, .int 0, .int 0, .int 0, .int 0, .int 0, .long 0, .null, .int 0, .null, .null, .null, .null, .int 0, .null, .int 0])) := ⟨_, rfl⟩
  have gm11 := xup_at eg11
  have gn11 : ∀ q, q ≠ M → g11 q = a11 q := fun q hq => by rw [eg11]; exact xup_n hq
  obtain ⟨a12, ea12⟩ : ∃ z : xH, z = xgrid g11 (M + 26) 8 5 6 0 := ⟨_, rfl⟩
  have an12 : ∀ q, (q < M + 26 ∨ M + 34 < q) → a12 q = g11 q := fun q hq => by rw [ea12]; unfold xgrid; rw [if_neg (by omega), if_neg (by omega)]
  have am12 : a12 M = some (.inr (10, [.ref (M + 1), .int 0, .ref (M + 2), .ref (M + 3), .ref (M + 4), .ref (M + 5), .ref (M + 6), .int 0, .int 0, .ref (M + 7), .ref (M + 13), .ref (M + 14), .ref (M + 15), .ref (M + 16), .ref (M + 17), .null, .null, .int 0, .int 0, .int 0, .int 0, .int 0, .int 0, .int 0, .long 0, .null, .int 0, .null, .null, .null, .null, .int 0, .null, .int 0])) := (an12 M (by omega)).trans gm11
  obtain ⟨g12, eg12⟩ : ∃ z : xH, z = xup a12 M (.inr (10, [.ref (M + 1), .int 0, .ref (M + 2), .ref (M + 3), .ref (M + 4), .ref (M + 5), .ref (M + 6), .int 0, .int 0, .ref (M + 7), .ref (M + 13), .ref (M + 14), .ref (M + 15), .ref (M + 16), .ref (M + 17), .ref (M + 26), .null, .int 0, .int 0, .int 0, .int 0, .int 0, .int 0, .int 0, .long 0, .null, .int 0, .null, .null, .null, .null, .int 0, .null, .int 0])) := ⟨_, rfl⟩
  have gm12 := xup_at eg12
  have gn12 : ∀ q, q ≠ M → g12 q = a12 q := fun q hq => by rw [eg12]; exact xup_n hq
  obtain ⟨a13, ea13⟩ : ∃ z : xH, z = xup g12 (M + 35) (.inl (0, 1600, .inl (fun _ => 0))) := ⟨_, rfl⟩
  have an13 : ∀ q, q ≠ M + 35 → a13 q = g12 q := fun q hq => by rw [ea13]; exact xup_n hq
  have am13 : a13 M = some (.inr (10, [.ref (M + 1), .int 0, .ref (M + 2), .ref (M + 3), .ref (M + 4), .ref (M + 5), .ref (M + 6), .int 0, .int 0, .ref (M + 7), .ref (M + 13), .ref (M + 14), .ref (M + 15), .ref (M + 16), .ref (M + 17), .ref (M + 26), .null, .int 0, .int 0, .int 0, .int 0, .int 0, .int 0, .int 0, .long 0, .null, .int 0, .null, .null, .null, .null, .int 0, .null, .int 0])) := (an13 M (by omega)).trans gm12
  obtain ⟨g13, eg13⟩ : ∃ z : xH, z = xup a13 M (.inr (10, [.ref (M + 1), .int 0, .ref (M + 2), .ref (M + 3), .ref (M + 4), .ref (M + 5), .ref (M + 6), .int 0, .int 0, .ref (M + 7), .ref (M + 13), .ref (M + 14), .ref (M + 15), .ref (M + 16), .ref (M + 17), .ref (M + 26), .null, .int 0, .int 0, .int 0, .int 0, .int 0, .int 0, .int 0, .long 0, .ref (M + 35), .int 0, .null, .null, .null, .null, .int 0, .null, .int 0])) := ⟨_, rfl⟩
  have gm13 := xup_at eg13
  have gn13 : ∀ q, q ≠ M → g13 q = a13 q := fun q hq => by rw [eg13]; exact xup_n hq
  obtain ⟨a14, ea14⟩ : ∃ z : xH, z = xup g13 (M + 36) (.inl (0, 32, .inl (fun _ => 0))) := ⟨_, rfl⟩
  have an14 : ∀ q, q ≠ M + 36 → a14 q = g13 q := fun q hq => by rw [ea14]; exact xup_n hq
  have am14 : a14 M = some (.inr (10, [.ref (M + 1), .int 0, .ref (M + 2), .ref (M + 3), .ref (M + 4), .ref (M + 5), .ref (M + 6), .int 0, .int 0, .ref (M + 7), .ref (M + 13), .ref (M + 14), .ref (M + 15), .ref (M + 16), .ref (M + 17), .ref (M + 26), .null, .int 0, .int 0, .int 0, .int 0, .int 0, .int 0, .int 0, .long 0, .ref (M + 35), .int 0, .null, .null, .null, .null, .int 0, .null, .int 0])) := (an14 M (by omega)).trans gm13
  obtain ⟨g14, eg14⟩ : ∃ z : xH, z = xup a14 M (.inr (10, [.ref (M + 1), .int 0, .ref (M + 2), .ref (M + 3), .ref (M + 4), .ref (M + 5), .ref (M + 6), .int 0, .int 0, .ref (M + 7), .ref (M + 13), .ref (M + 14), .ref (M + 15), .ref (M + 16), .ref (M + 17), .ref (M + 26), .null, .int 0, .int 0, .int 0, .int 0, .int 0, .int 0, .int 0, .long 0, .ref (M + 35), .int 0, .ref (M + 36), .null, .null, .null, .int 0, .null, .int 0])) := ⟨_, rfl⟩
  have gm14 := xup_at eg14
  have gn14 : ∀ q, q ≠ M → g14 q = a14 q := fun q hq => by rw [eg14]; exact xup_n hq
  obtain ⟨a15, ea15⟩ : ∃ z : xH, z = xup g14 (M + 37) (.inl (0, 160, .inl (fun _ => 0))) := ⟨_, rfl⟩
  have an15 : ∀ q, q ≠ M + 37 → a15 q = g14 q := fun q hq => by rw [ea15]; exact xup_n hq
  have am15 : a15 M = some (.inr (10, [.ref (M + 1), .int 0, .ref (M + 2), .ref (M + 3), .ref (M + 4), .ref (M + 5), .ref (M + 6), .int 0, .int 0, .ref (M + 7), .ref (M + 13), .ref (M + 14), .ref (M + 15), .ref (M + 16), .ref (M + 17), .ref (M + 26), .null, .int 0, .int 0, .int 0, .int 0, .int 0, .int 0, .int 0, .long 0, .ref (M + 35), .int 0, .ref (M + 36), .null, .null, .null, .int 0, .null, .int 0])) := (an15 M (by omega)).trans gm14
  obtain ⟨g15, eg15⟩ : ∃ z : xH, z = xup a15 M (.inr (10, [.ref (M + 1), .int 0, .ref (M + 2), .ref (M + 3), .ref (M + 4), .ref (M + 5), .ref (M + 6), .int 0, .int 0, .ref (M + 7), .ref (M + 13), .ref (M + 14), .ref (M + 15), .ref (M + 16), .ref (M + 17), .ref (M + 26), .null, .int 0, .int 0, .int 0, .int 0, .int 0, .int 0, .int 0, .long 0, .ref (M + 35), .int 0, .ref (M + 36), .ref (M + 37), .null, .null, .int 0, .null, .int 0])) := ⟨_, rfl⟩
  have gm15 := xup_at eg15
  have gn15 : ∀ q, q ≠ M → g15 q = a15 q := fun q hq => by rw [eg15]; exact xup_n hq
  obtain ⟨a16, ea16⟩ : ∃ z : xH, z = xup g15 (M + 38) (.inl (0, 8, .inl (fun _ => 0))) := ⟨_, rfl⟩
  have an16 : ∀ q, q ≠ M + 38 → a16 q = g15 q := fun q hq => by rw [ea16]; exact xup_n hq
  have am16 : a16 M = some (.inr (10, [.ref (M + 1), .int 0, .ref (M + 2), .ref (M + 3), .ref (M + 4), .ref (M + 5), .ref (M + 6), .int 0, .int 0, .ref (M + 7), .ref (M + 13), .ref (M + 14), .ref (M + 15), .ref (M + 16), .ref (M + 17), .ref (M + 26), .null, .int 0, .int 0, .int 0, .int 0, .int 0, .int 0, .int 0, .long 0, .ref (M + 35), .int 0, .ref (M + 36), .ref (M + 37), .null, .null, .int 0, .null, .int 0])) := (an16 M (by omega)).trans gm15
  obtain ⟨g16, eg16⟩ : ∃ z : xH, z = xup a16 M (.inr (10, [.ref (M + 1), .int 0, .ref (M + 2), .ref (M + 3), .ref (M + 4), .ref (M + 5), .ref (M + 6), .int 0, .int 0, .ref (M + 7), .ref (M + 13), .ref (M + 14), .ref (M + 15), .ref (M + 16), .ref (M + 17), .ref (M + 26), .null, .int 0, .int 0, .int 0, .int 0, .int 0, .int 0, .int 0, .long 0, .ref (M + 35), .int 0, .ref (M + 36), .ref (M + 37), .ref (M + 38), .null, .int 0, .null, .int 0])) := ⟨_, rfl⟩
  have gm16 := xup_at eg16
  have gn16 : ∀ q, q ≠ M → g16 q = a16 q := fun q hq => by rw [eg16]; exact xup_n hq
  obtain ⟨a17, ea17⟩ : ∃ z : xH, z = xup g16 (M + 39) (.inl (0, 8, .inl (fun _ => 0))) := ⟨_, rfl⟩
  have an17 : ∀ q, q ≠ M + 39 → a17 q = g16 q := fun q hq => by rw [ea17]; exact xup_n hq
  have am17 : a17 M = some (.inr (10, [.ref (M + 1), .int 0, .ref (M + 2), .ref (M + 3), .ref (M + 4), .ref (M + 5), .ref (M + 6), .int 0, .int 0, .ref (M + 7), .ref (M + 13), .ref (M + 14), .ref (M + 15), .ref (M + 16), .ref (M + 17), .ref (M + 26), .null, .int 0, .int 0, .int 0, .int 0, .int 0, .int 0, .int 0, .long 0, .ref (M + 35), .int 0, .ref (M + 36), .ref (M + 37), .ref (M + 38), .null, .int 0, .null, .int 0])) := (an17 M (by omega)).trans gm16
  obtain ⟨g17, eg17⟩ : ∃ z : xH, z = xup a17 M (.inr (10, [.ref (M + 1), .int 0, .ref (M + 2), .ref (M + 3), .ref (M + 4), .ref (M + 5), .ref (M + 6), .int 0, .int 0, .ref (M + 7), .ref (M + 13), .ref (M + 14), .ref (M + 15), .ref (M + 16), .ref (M + 17), .ref (M + 26), .null, .int 0, .int 0, .int 0, .int 0, .int 0, .int 0, .int 0, .long 0, .ref (M + 35), .int 0, .ref (M + 36), .ref (M + 37), .ref (M + 38), .ref (M + 39), .int 0, .null, .int 0])) := ⟨_, rfl⟩
  have gm17 := xup_at eg17
  have gn17 : ∀ q, q ≠ M → g17 q = a17 q := fun q hq => by rw [eg17]; exact xup_n hq
  obtain ⟨a18, ea18⟩ : ∃ z : xH, z = xup g17 (M + 40) (.inl (0, 500, .inl (fun _ => 0))) := ⟨_, rfl⟩
  have an18 : ∀ q, q ≠ M + 40 → a18 q = g17 q := fun q hq => by rw [ea18]; exact xup_n hq
  have am18 : a18 M = some (.inr (10, [.ref (M + 1), .int 0, .ref (M + 2), .ref (M + 3), .ref (M + 4), .ref (M + 5), .ref (M + 6), .int 0, .int 0, .ref (M + 7), .ref (M + 13), .ref (M + 14), .ref (M + 15), .ref (M + 16), .ref (M + 17), .ref (M + 26), .null, .int 0, .int 0, .int 0, .int 0, .int 0, .int 0, .int 0, .long 0, .ref (M + 35), .int 0, .ref (M + 36), .ref (M + 37), .ref (M + 38), .ref (M + 39), .int 0, .null, .int 0])) := (an18 M (by omega)).trans gm17
  obtain ⟨g18, eg18⟩ : ∃ z : xH, z = xup a18 M (.inr (10, [.ref (M + 1), .int 0, .ref (M + 2), .ref (M + 3), .ref (M + 4), .ref (M + 5), .ref (M + 6), .int 0, .int 0, .ref (M + 7), .ref (M + 13), .ref (M + 14), .ref (M + 15), .ref (M + 16), .ref (M + 17), .ref (M + 26), .null, .int 0, .int 0, .int 0, .int 0, .int 0, .int 0, .int 0, .long 0, .ref (M + 35), .int 0, .ref (M + 36), .ref (M + 37), .ref (M + 38), .ref (M + 39), .int 0, .ref (M + 40), .int 0])) := ⟨_, rfl⟩
  have gm18 := xup_at eg18
  have gn18 : ∀ q, q ≠ M → g18 q = a18 q := fun q hq => by rw [eg18]; exact xup_n hq
  have o0 : ∀ q, q ≠ M → q < M + 1 → g0 q = h q := fun q h1 h2 => (gn0 q h1).trans (an0 q (by omega))
  have o1 : ∀ q, q ≠ M → q < M + 2 → g1 q = g0 q := fun q h1 h2 => (gn1 q h1).trans (an1 q (by omega))
  have o2 : ∀ q, q ≠ M → q < M + 3 → g2 q = g1 q := fun q h1 h2 => (gn2 q h1).trans (an2 q (by omega))
  have o3 : ∀ q, q ≠ M → q < M + 4 → g3 q = g2 q := fun q h1 h2 => (gn3 q h1).trans (an3 q (by omega))
  have o4 : ∀ q, q ≠ M → q < M + 5 → g4 q = g3 q := fun q h1 h2 => (gn4 q h1).trans (an4 q (by omega))
  have o5 : ∀ q, q ≠ M → q < M + 6 → g5 q = g4 q := fun q h1 h2 => (gn5 q h1).trans (an5 q (by omega))
  have o6 : ∀ q, q ≠ M → q < M + 7 → g6 q = g5 q := fun q h1 h2 => (gn6 q h1).trans (an6 q (by omega))
  have o7 : ∀ q, q ≠ M → q < M + 13 → g7 q = g6 q := fun q h1 h2 => (gn7 q h1).trans (an7 q (by omega))
  have o8 : ∀ q, q ≠ M → q < M + 14 → g8 q = g7 q := fun q h1 h2 => (gn8 q h1).trans (an8 q (by omega))
  have o9 : ∀ q, q ≠ M → q < M + 15 → g9 q = g8 q := fun q h1 h2 => (gn9 q h1).trans (an9 q (by omega))
  have o10 : ∀ q, q ≠ M → q < M + 16 → g10 q = g9 q := fun q h1 h2 => (gn10 q h1).trans (an10 q (by omega))
  have o11 : ∀ q, q ≠ M → q < M + 17 → g11 q = g10 q := fun q h1 h2 => (gn11 q h1).trans (an11 q (by omega))
  have o12 : ∀ q, q ≠ M → q < M + 26 → g12 q = g11 q := fun q h1 h2 => (gn12 q h1).trans (an12 q (by omega))
  have o13 : ∀ q, q ≠ M → q < M + 35 → g13 q = g12 q := fun q h1 h2 => (gn13 q h1).trans (an13 q (by omega))
  have o14 : ∀ q, q ≠ M → q < M + 36 → g14 q = g13 q := fun q h1 h2 => (gn14 q h1).trans (an14 q (by omega))
  have o15 : ∀ q, q ≠ M → q < M + 37 → g15 q = g14 q := fun q h1 h2 => (gn15 q h1).trans (an15 q (by omega))
  have o16 : ∀ q, q ≠ M → q < M + 38 → g16 q = g15 q := fun q h1 h2 => (gn16 q h1).trans (an16 q (by omega))
  have o17 : ∀ q, q ≠ M → q < M + 39 → g17 q = g16 q := fun q h1 h2 => (gn17 q h1).trans (an17 q (by omega))
  have o18 : ∀ q, q ≠ M → q < M + 40 → g18 q = g17 q := fun q h1 h2 => (gn18 q h1).trans (an18 q (by omega))
  have f18 : ∀ q, q ≠ M → q < M + 41 → g18 q = g18 q := fun q _ _ => rfl
  have f17 : ∀ q, q ≠ M → q < M + 40 → g18 q = g17 q := fun q h1 h2 => (f18 q h1 (by omega)).trans (o18 q h1 (by omega))
  have f16 : ∀ q, q ≠ M → q < M + 39 → g18 q = g16 q := fun q h1 h2 => (f17 q h1 (by omega)).trans (o17 q h1 (by omega))
  have f15 : ∀ q, q ≠ M → q < M + 38 → g18 q = g15 q := fun q h1 h2 => (f16 q h1 (by omega)).trans (o16 q h1 (by omega))
  have f14 : ∀ q, q ≠ M → q < M + 37 → g18 q = g14 q := fun q h1 h2 => (f15 q h1 (by omega)).trans (o15 q h1 (by omega))
  have f13 : ∀ q, q ≠ M → q < M + 36 → g18 q = g13 q := fun q h1 h2 => (f14 q h1 (by omega)).trans (o14 q h1 (by omega))
  have f12 : ∀ q, q ≠ M → q < M + 35 → g18 q = g12 q := fun q h1 h2 => (f13 q h1 (by omega)).trans (o13 q h1 (by omega))
  have f11 : ∀ q, q ≠ M → q < M + 26 → g18 q = g11 q := fun q h1 h2 => (f12 q h1 (by omega)).trans (o12 q h1 (by omega))
  have f10 : ∀ q, q ≠ M → q < M + 17 → g18 q = g10 q := fun q h1 h2 => (f11 q h1 (by omega)).trans (o11 q h1 (by omega))
  have f9 : ∀ q, q ≠ M → q < M + 16 → g18 q = g9 q := fun q h1 h2 => (f10 q h1 (by omega)).trans (o10 q h1 (by omega))
  have f8 : ∀ q, q ≠ M → q < M + 15 → g18 q = g8 q := fun q h1 h2 => (f9 q h1 (by omega)).trans (o9 q h1 (by omega))
  have f7 : ∀ q, q ≠ M → q < M + 14 → g18 q = g7 q := fun q h1 h2 => (f8 q h1 (by omega)).trans (o8 q h1 (by omega))
  have f6 : ∀ q, q ≠ M → q < M + 13 → g18 q = g6 q := fun q h1 h2 => (f7 q h1 (by omega)).trans (o7 q h1 (by omega))
  have f5 : ∀ q, q ≠ M → q < M + 7 → g18 q = g5 q := fun q h1 h2 => (f6 q h1 (by omega)).trans (o6 q h1 (by omega))
  have f4 : ∀ q, q ≠ M → q < M + 6 → g18 q = g4 q := fun q h1 h2 => (f5 q h1 (by omega)).trans (o5 q h1 (by omega))
  have f3 : ∀ q, q ≠ M → q < M + 5 → g18 q = g3 q := fun q h1 h2 => (f4 q h1 (by omega)).trans (o4 q h1 (by omega))
  have f2 : ∀ q, q ≠ M → q < M + 4 → g18 q = g2 q := fun q h1 h2 => (f3 q h1 (by omega)).trans (o3 q h1 (by omega))
  have f1 : ∀ q, q ≠ M → q < M + 3 → g18 q = g1 q := fun q h1 h2 => (f2 q h1 (by omega)).trans (o2 q h1 (by omega))
  have f0 : ∀ q, q ≠ M → q < M + 2 → g18 q = g0 q := fun q h1 h2 => (f1 q h1 (by omega)).trans (o1 q h1 (by omega))
  have c0 : g18 (M + 1) = some (.inl (2, 400, .inl (fun _ => 0))) := (f0 _ (by omega) (by omega)).trans ((gn0 _ (by omega)).trans (xup_at ea0))
  have c1 : g18 (M + 2) = some (.inl (0, 500, .inl (fun _ => 0))) := (f1 _ (by omega) (by omega)).trans ((gn1 _ (by omega)).trans (xup_at ea1))
  have c2 : g18 (M + 3) = some (.inl (0, 500, .inl (fun _ => 0))) := (f2 _ (by omega) (by omega)).trans ((gn2 _ (by omega)).trans (xup_at ea2))
  have c3 : g18 (M + 4) = some (.inl (0, 500, .inl (fun _ => 0))) := (f3 _ (by omega) (by omega)).trans ((gn3 _ (by omega)).trans (xup_at ea3))
  have c4 : g18 (M + 5) = some (.inl (0, 501, .inl (fun _ => 0))) := (f4 _ (by omega) (by omega)).trans ((gn4 _ (by omega)).trans (xup_at ea4))
  have c5 : g18 (M + 6) = some (.inl (6, 500, .inr (.inr (.inr (.inr (fun _ => none)))))) := (f5 _ (by omega) (by omega)).trans ((gn5 _ (by omega)).trans (xup_at ea5))
  have c6 : g18 (M + 7) = some (.inl (7, 5, .inr (.inr (.inr (.inr (fun j => if j < 5 then some (M + 7 + 1 + j) else none)))))) := (f6 _ (by omega) (by omega)).trans ((gn6 _ (by omega)).trans (by rw [ea6]; unfold xgrid; rw [if_pos rfl]))
  have d6 : ∀ i, i < 5 → g18 (M + 8 + i) = some (.inl (1, 500, .inl (fun _ => 0))) := fun i hi => (f6 _ (by omega) (by omega)).trans ((gn6 _ (by omega)).trans (by rw [ea6]; unfold xgrid; rw [if_neg (by omega), if_pos (by omega)]))
  have c7 : g18 (M + 13) = some (.inl (0, 5, .inl (fun _ => 0))) := (f7 _ (by omega) (by omega)).trans ((gn7 _ (by omega)).trans (xup_at ea7))
  have c8 : g18 (M + 14) = some (.inl (0, 5, .inl (fun _ => 0))) := (f8 _ (by omega) (by omega)).trans ((gn8 _ (by omega)).trans (xup_at ea8))
  have c9 : g18 (M + 15) = some (.inl (0, 5, .inl (fun _ => 0))) := (f9 _ (by omega) (by omega)).trans ((gn9 _ (by omega)).trans (xup_at ea9))
  have c10 : g18 (M + 16) = some (.inl (0, 8, .inl (fun _ => 0))) := (f10 _ (by omega) (by omega)).trans ((gn10 _ (by omega)).trans (xup_at ea10))
  have c11 : g18 (M + 17) = some (.inl (6, 8, .inr (.inr (.inr (.inr (fun j => if j < 8 then some (M + 17 + 1 + j) else none)))))) := (f11 _ (by omega) (by omega)).trans ((gn11 _ (by omega)).trans (by rw [ea11]; unfold xgrid; rw [if_pos rfl]))
  have d11 : ∀ i, i < 8 → g18 (M + 18 + i) = some (.inl (0, 5, .inl (fun _ => 0))) := fun i hi => (f11 _ (by omega) (by omega)).trans ((gn11 _ (by omega)).trans (by rw [ea11]; unfold xgrid; rw [if_neg (by omega), if_pos (by omega)]))
  have c12 : g18 (M + 26) = some (.inl (6, 8, .inr (.inr (.inr (.inr (fun j => if j < 8 then some (M + 26 + 1 + j) else none)))))) := (f12 _ (by omega) (by omega)).trans ((gn12 _ (by omega)).trans (by rw [ea12]; unfold xgrid; rw [if_pos rfl]))
  have d12 : ∀ i, i < 8 → g18 (M + 27 + i) = some (.inl (0, 5, .inl (fun _ => 0))) := fun i hi => (f12 _ (by omega) (by omega)).trans ((gn12 _ (by omega)).trans (by rw [ea12]; unfold xgrid; rw [if_neg (by omega), if_pos (by omega)]))
  have c13 : g18 (M + 35) = some (.inl (0, 1600, .inl (fun _ => 0))) := (f13 _ (by omega) (by omega)).trans ((gn13 _ (by omega)).trans (xup_at ea13))
  have c14 : g18 (M + 36) = some (.inl (0, 32, .inl (fun _ => 0))) := (f14 _ (by omega) (by omega)).trans ((gn14 _ (by omega)).trans (xup_at ea14))
  have c15 : g18 (M + 37) = some (.inl (0, 160, .inl (fun _ => 0))) := (f15 _ (by omega) (by omega)).trans ((gn15 _ (by omega)).trans (xup_at ea15))
  have c16 : g18 (M + 38) = some (.inl (0, 8, .inl (fun _ => 0))) := (f16 _ (by omega) (by omega)).trans ((gn16 _ (by omega)).trans (xup_at ea16))
  have c17 : g18 (M + 39) = some (.inl (0, 8, .inl (fun _ => 0))) := (f17 _ (by omega) (by omega)).trans ((gn17 _ (by omega)).trans (xup_at ea17))
  have c18 : g18 (M + 40) = some (.inl (0, 500, .inl (fun _ => 0))) := (f18 _ (by omega) (by omega)).trans ((gn18 _ (by omega)).trans (xup_at ea18))
  refine ⟨g18, ?_, fun q hq => (f0 q (by omega) (by omega)).trans (o0 q (by omega) (by omega)), .null, 0, 0, 0, 0, 0, 0, 0, 0, 0, 0, 0, gm18, ⟨_, c0, fun j hj => by omega⟩, ⟨c1, c2, c3, ⟨_, c4, fun r hr => by omega⟩, ⟨_, c6, fun i hi => ?_⟩, d6, c7, c8, c9, c10, ⟨_, c11, fun i hi => ?_⟩, fun j hj => ⟨_, d11 j hj, fun _ _ => rfl⟩, ⟨_, c12, fun i hi => ?_⟩, fun j hj => ⟨_, d12 j hj, fun _ _ => rfl⟩⟩, ⟨⟨_, c13⟩, ⟨_, c14, fun _ _ => rfl⟩, ⟨_, c15⟩, ⟨_, c16⟩, ⟨_, c17⟩, ⟨_, c18⟩⟩, ⟨_, c5, fun w hw => by omega⟩, Or.inl ⟨rfl, rfl⟩, by omega⟩
  · refine xr_go i79_0 rfl ?_
    refine xr_obj i79_1 xc79_1 rfl (by omega) (Nat.le_of_ble_eq_true rfl) ?_
    refine xr_go i79_4 rfl ?_
    refine xr_go i79_5 rfl ?_
    refine xr_newa i79_8 rfl (n := 400) rfl (by omega) (fun y0 ey0 => ?_)
    obtain rfl : y0 = a0 := ey0.trans ea0.symm
    refine xr_put i79_10 xf79_9 (by assumption) ⟨rfl, Nat.le_of_ble_eq_true rfl, rfl, rfl, by first | exact Or.inl rfl | exact Or.inr ⟨rfl, rfl, rfl⟩⟩ (fun z0 ez0 => ?_)
    obtain rfl : z0 = g0 := ez0.trans eg0.symm
    refine xr_go i79_13 rfl ?_
    refine xr_go i79_14 rfl ?_
    refine xr_newa i79_17 rfl (n := 500) rfl (by omega) (fun y1 ey1 => ?_)
    obtain rfl : y1 = a1 := ey1.trans ea1.symm
    refine xr_put i79_19 xf79_13 (by assumption) ⟨rfl, Nat.le_of_ble_eq_true rfl, rfl, rfl, by first | exact Or.inl rfl | exact Or.inr ⟨rfl, rfl, rfl⟩⟩ (fun z1 ez1 => ?_)
    obtain rfl : z1 = g1 := ez1.trans eg1.symm
    refine xr_go i79_22 rfl ?_
    refine xr_go i79_23 rfl ?_
    refine xr_newa i79_26 rfl (n := 500) rfl (by omega) (fun y2 ey2 => ?_)
    obtain rfl : y2 = a2 := ey2.trans ea2.symm
    refine xr_put i79_28 xf79_17 (by assumption) ⟨rfl, Nat.le_of_ble_eq_true rfl, rfl, rfl, by first | exact Or.inl rfl | exact Or.inr ⟨rfl, rfl, rfl⟩⟩ (fun z2 ez2 => ?_)
    obtain rfl : z2 = g2 := ez2.trans eg2.symm
    refine xr_go i79_31 rfl ?_
    refine xr_go i79_32 rfl ?_
    refine xr_newa i79_35 rfl (n := 500) rfl (by omega) (fun y3 ey3 => ?_)
    obtain rfl : y3 = a3 := ey3.trans ea3.symm
    refine xr_put i79_37 xf79_20 (by assumption) ⟨rfl, Nat.le_of_ble_eq_true rfl, rfl, rfl, by first | exact Or.inl rfl | exact Or.inr ⟨rfl, rfl, rfl⟩⟩ (fun z3 ez3 => ?_)
    obtain rfl : z3 = g3 := ez3.trans eg3.symm
    refine xr_go i79_40 rfl ?_
    refine xr_go i79_41 rfl ?_
    refine xr_newa i79_44 rfl (n := 501) rfl (by omega) (fun y4 ey4 => ?_)
    obtain rfl : y4 = a4 := ey4.trans ea4.symm
    refine xr_put i79_46 xf79_23 (by assumption) ⟨rfl, Nat.le_of_ble_eq_true rfl, rfl, rfl, by first | exact Or.inl rfl | exact Or.inr ⟨rfl, rfl, rfl⟩⟩ (fun z4 ez4 => ?_)
    obtain rfl : z4 = g4 := ez4.trans eg4.symm
    refine xr_go i79_49 rfl ?_
    refine xr_go i79_50 rfl ?_
    refine xr_anew i79_53 xn79_26 rfl (by decide) (n := 500) rfl (by omega) (fun y5 ey5 => ?_)
    obtain rfl : y5 = a5 := ey5.trans ea5.symm
    refine xr_put i79_56 xf79_27 (by assumption) ⟨rfl, Nat.le_of_ble_eq_true rfl, rfl, rfl, by first | exact Or.inl rfl | exact Or.inr ⟨rfl, rfl, rfl⟩⟩ (fun z5 ez5 => ?_)
    obtain rfl : z5 = g5 := ez5.trans eg5.symm
    refine xr_go i79_59 rfl ?_
    refine xr_go i79_60 rfl ?_
    refine xr_go i79_61 rfl ?_
    refine xr_multi i79_64 xn79_31 (g := 17) rfl (by omega) (n := 5) rfl (m := 500) rfl (by omega) (by omega) (fun y6 ey6 => ?_)
    obtain rfl : y6 = a6 := ey6.trans ea6.symm
    refine xr_put i79_68 xf79_33 (by assumption) ⟨rfl, Nat.le_of_ble_eq_true rfl, rfl, rfl, by first | exact Or.inl rfl | exact Or.inr ⟨rfl, rfl, rfl⟩⟩ (fun z6 ez6 => ?_)
    obtain rfl : z6 = g6 := ez6.trans eg6.symm
    refine xr_go i79_71 rfl ?_
    refine xr_go i79_72 rfl ?_
    refine xr_newa i79_73 rfl (n := 5) rfl (by omega) (fun y7 ey7 => ?_)
    obtain rfl : y7 = a7 := ey7.trans ea7.symm
    refine xr_put i79_75 xf79_36 (by assumption) ⟨rfl, Nat.le_of_ble_eq_true rfl, rfl, rfl, by first | exact Or.inl rfl | exact Or.inr ⟨rfl, rfl, rfl⟩⟩ (fun z7 ez7 => ?_)
    obtain rfl : z7 = g7 := ez7.trans eg7.symm
    refine xr_go i79_78 rfl ?_
    refine xr_go i79_79 rfl ?_
    refine xr_newa i79_80 rfl (n := 5) rfl (by omega) (fun y8 ey8 => ?_)
    obtain rfl : y8 = a8 := ey8.trans ea8.symm
    refine xr_put i79_82 xf79_39 (by assumption) ⟨rfl, Nat.le_of_ble_eq_true rfl, rfl, rfl, by first | exact Or.inl rfl | exact Or.inr ⟨rfl, rfl, rfl⟩⟩ (fun z8 ez8 => ?_)
    obtain rfl : z8 = g8 := ez8.trans eg8.symm
    refine xr_go i79_85 rfl ?_
    refine xr_go i79_86 rfl ?_
    refine xr_newa i79_87 rfl (n := 5) rfl (by omega) (fun y9 ey9 => ?_)
    obtain rfl : y9 = a9 := ey9.trans ea9.symm
    refine xr_put i79_89 xf79_42 (by assumption) ⟨rfl, Nat.le_of_ble_eq_true rfl, rfl, rfl, by first | exact Or.inl rfl | exact Or.inr ⟨rfl, rfl, rfl⟩⟩ (fun z9 ez9 => ?_)
    obtain rfl : z9 = g9 := ez9.trans eg9.symm
    refine xr_go i79_92 rfl ?_
    refine xr_go i79_93 rfl ?_
    refine xr_newa i79_95 rfl (n := 8) rfl (by omega) (fun y10 ey10 => ?_)
    obtain rfl : y10 = a10 := ey10.trans ea10.symm
    refine xr_put i79_97 xf79_45 (by assumption) ⟨rfl, Nat.le_of_ble_eq_true rfl, rfl, rfl, by first | exact Or.inl rfl | exact Or.inr ⟨rfl, rfl, rfl⟩⟩ (fun z10 ez10 => ?_)
    obtain rfl : z10 = g10 := ez10.trans eg10.symm
    refine xr_go i79_100 rfl ?_
    refine xr_go i79_101 rfl ?_
    refine xr_go i79_103 rfl ?_
    refine xr_multi i79_104 xn79_48 (g := 16) rfl (by omega) (n := 8) rfl (m := 5) rfl (by omega) (by omega) (fun y11 ey11 => ?_)
    obtain rfl : y11 = a11 := ey11.trans ea11.symm
    refine xr_put i79_108 xf79_49 (by assumption) ⟨rfl, Nat.le_of_ble_eq_true rfl, rfl, rfl, by first | exact Or.inl rfl | exact Or.inr ⟨rfl, rfl, rfl⟩⟩ (fun z11 ez11 => ?_)
    obtain rfl : z11 = g11 := ez11.trans eg11.symm
    refine xr_go i79_111 rfl ?_
    refine xr_go i79_112 rfl ?_
    refine xr_go i79_114 rfl ?_
    refine xr_multi i79_115 xn79_48 (g := 16) rfl (by omega) (n := 8) rfl (m := 5) rfl (by omega) (by omega) (fun y12 ey12 => ?_)
    obtain rfl : y12 = a12 := ey12.trans ea12.symm
    refine xr_put i79_119 xf79_52 (by assumption) ⟨rfl, Nat.le_of_ble_eq_true rfl, rfl, rfl, by first | exact Or.inl rfl | exact Or.inr ⟨rfl, rfl, rfl⟩⟩ (fun z12 ez12 => ?_)
    obtain rfl : z12 = g12 := ez12.trans eg12.symm
    refine xr_go i79_122 rfl ?_
    refine xr_go i79_123 rfl ?_
    refine xr_newa i79_126 rfl (n := 1600) rfl (by omega) (fun y13 ey13 => ?_)
    obtain rfl : y13 = a13 := ey13.trans ea13.symm
    refine xr_put i79_128 xf79_55 (by assumption) ⟨rfl, Nat.le_of_ble_eq_true rfl, rfl, rfl, by first | exact Or.inl rfl | exact Or.inr ⟨rfl, rfl, rfl⟩⟩ (fun z13 ez13 => ?_)
    obtain rfl : z13 = g13 := ez13.trans eg13.symm
    refine xr_go i79_131 rfl ?_
    refine xr_go i79_132 rfl ?_
    refine xr_newa i79_134 rfl (n := 32) rfl (by omega) (fun y14 ey14 => ?_)
    obtain rfl : y14 = a14 := ey14.trans ea14.symm
    refine xr_put i79_136 xf79_58 (by assumption) ⟨rfl, Nat.le_of_ble_eq_true rfl, rfl, rfl, by first | exact Or.inl rfl | exact Or.inr ⟨rfl, rfl, rfl⟩⟩ (fun z14 ez14 => ?_)
    obtain rfl : z14 = g14 := ez14.trans eg14.symm
    refine xr_go i79_139 rfl ?_
    refine xr_go i79_140 rfl ?_
    refine xr_newa i79_143 rfl (n := 160) rfl (by omega) (fun y15 ey15 => ?_)
    obtain rfl : y15 = a15 := ey15.trans ea15.symm
    refine xr_put i79_145 xf79_61 (by assumption) ⟨rfl, Nat.le_of_ble_eq_true rfl, rfl, rfl, by first | exact Or.inl rfl | exact Or.inr ⟨rfl, rfl, rfl⟩⟩ (fun z15 ez15 => ?_)
    obtain rfl : z15 = g15 := ez15.trans eg15.symm
    refine xr_go i79_148 rfl ?_
    refine xr_go i79_149 rfl ?_
    refine xr_newa i79_151 rfl (n := 8) rfl (by omega) (fun y16 ey16 => ?_)
    obtain rfl : y16 = a16 := ey16.trans ea16.symm
    refine xr_put i79_153 xf79_64 (by assumption) ⟨rfl, Nat.le_of_ble_eq_true rfl, rfl, rfl, by first | exact Or.inl rfl | exact Or.inr ⟨rfl, rfl, rfl⟩⟩ (fun z16 ez16 => ?_)
    obtain rfl : z16 = g16 := ez16.trans eg16.symm
    refine xr_go i79_156 rfl ?_
    refine xr_go i79_157 rfl ?_
    refine xr_newa i79_159 rfl (n := 8) rfl (by omega) (fun y17 ey17 => ?_)
    obtain rfl : y17 = a17 := ey17.trans ea17.symm
    refine xr_put i79_161 xf79_67 (by assumption) ⟨rfl, Nat.le_of_ble_eq_true rfl, rfl, rfl, by first | exact Or.inl rfl | exact Or.inr ⟨rfl, rfl, rfl⟩⟩ (fun z17 ez17 => ?_)
    obtain rfl : z17 = g17 := ez17.trans eg17.symm
    refine xr_go i79_164 rfl ?_
    refine xr_go i79_165 rfl ?_
    refine xr_newa i79_168 rfl (n := 500) rfl (by omega) (fun y18 ey18 => ?_)
    obtain rfl : y18 = a18 := ey18.trans ea18.symm
    refine xr_put i79_170 xf79_70 (by assumption) ⟨rfl, Nat.le_of_ble_eq_true rfl, rfl, rfl, by first | exact Or.inl rfl | exact Or.inr ⟨rfl, rfl, rfl⟩⟩ (fun z18 ez18 => ?_)
    obtain rfl : z18 = g18 := ez18.trans eg18.symm
    exact xr_end i79_173 rfl
  · exact if_pos hi
  · exact if_pos hi
  · exact if_pos hi
end XMINIT

