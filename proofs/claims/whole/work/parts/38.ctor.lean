/-! ===== plain constructors (rows laid by lay38.py) ===== -/
theorem c_20 {G : xG} {d : Nat} {h : xH} {nx sl a : Nat} (ha : h a = some (.inr (1, [.null, .int 0]))) (hn : a < nx) (hd : 1 ≤ d) :
    ∃ h', xRun G d 20 (0, [some (.ref a)], [], (h, nx, sl)) (none, (h', nx + 1, sl + 400)) ∧ h' a = some (.inr (1, [.ref (nx), .int 0])) ∧ h' (nx) = some (.inl (0, 400, .inl (fun _ => 0))) ∧ ∀ q, q ≠ a → q < nx → h' q = h q := by
  have hC0 : ∀ q, q ≠ a → q < nx → h q = h q := fun _ _ _ => rfl
  obtain ⟨g1, eg1⟩ : ∃ z : xH, z = xup h (nx) (.inl (0, 400, .inl (fun _ => 0))) := ⟨_, rfl⟩
  have A1 : g1 a = some (.inr (1, [.null, .int 0])) := by rw [eg1]; exact (xup_n (by omega)).trans ha
  have B1_0 : g1 (nx) = some (.inl (0, 400, .inl (fun _ => 0))) := by rw [eg1]; exact xup_s
  have C1 : ∀ q, q ≠ a → q < nx → g1 q = h q := fun q h1 h2 => by rw [eg1]; exact (xup_n (by omega)).trans (hC0 q h1 h2)
  obtain ⟨g2, eg2⟩ : ∃ z : xH, z = xup g1 (a) (.inr (1, [.ref (nx), .int 0])) := ⟨_, rfl⟩
  have A2 : g2 a = some (.inr (1, [.ref (nx), .int 0])) := by rw [eg2]; exact xup_s
  have B2_0 : g2 (nx) = some (.inl (0, 400, .inl (fun _ => 0))) := by rw [eg2]; exact (xup_n (by omega)).trans B1_0
  have C2 : ∀ q, q ≠ a → q < nx → g2 q = h q := fun q h1 h2 => by rw [eg2]; exact (xup_n (by omega)).trans (C1 q h1 h2)
  obtain ⟨g3, eg3⟩ : ∃ z : xH, z = xup g2 (a) (.inr (1, [.ref (nx), .int 0])) := ⟨_, rfl⟩
  have A3 : g3 a = some (.inr (1, [.ref (nx), .int 0])) := by rw [eg3]; exact xup_s
  have B3_0 : g3 (nx) = some (.inl (0, 400, .inl (fun _ => 0))) := by rw [eg3]; exact (xup_n (by omega)).trans B2_0
  have C3 : ∀ q, q ≠ a → q < nx → g3 q = h q := fun q h1 h2 => by rw [eg3]; exact (xup_n (by omega)).trans (C2 q h1 h2)
  refine ⟨g3, ?_, A3, B3_0, C3⟩
  refine xr_go i20_0 rfl ?_
  refine xr_obj i20_1 xc20_3 rfl (by omega) (Nat.le_of_ble_eq_true rfl) ?_
  refine xr_go i20_4 rfl ?_
  refine xr_go i20_5 rfl ?_
  refine xr_newa i20_8 rfl (n := 400) rfl (by omega) (fun z ez => ?_)
  obtain rfl : z = g1 := ez.trans eg1.symm
  refine xr_put i20_10 xf20_9 (by assumption) ⟨rfl, Nat.le_of_ble_eq_true rfl, rfl, rfl, by first | exact Or.inl rfl | exact Or.inr ⟨rfl, rfl, rfl⟩⟩ (fun z ez => ?_)
  obtain rfl : z = g2 := ez.trans eg2.symm
  refine xr_go i20_13 rfl ?_
  refine xr_go i20_14 rfl ?_
  refine xr_put i20_15 xf20_15 (by assumption) ⟨rfl, Nat.le_of_ble_eq_true rfl, rfl, rfl, by first | exact Or.inl rfl | exact Or.inr ⟨rfl, rfl, rfl⟩⟩ (fun z ez => ?_)
  obtain rfl : z = g3 := ez.trans eg3.symm
  exact xr_end i20_18 rfl
theorem c_36 {G : xG} {d : Nat} {h : xH} {nx sl a : Nat} (ha : h a = some (.inr (3, [.null, .null, .null, .int 0]))) (hn : a < nx) (hd : 1 ≤ d) :
    ∃ h', xRun G d 36 (0, [some (.ref a)], [], (h, nx, sl)) (none, (h', nx + 3, sl + 401 + 401 + 401)) ∧ h' a = some (.inr (3, [.ref (nx), .ref (nx + 1), .ref (nx + 2), .int 0])) ∧ h' (nx) = some (.inl (0, 401, .inl (fun _ => 0))) ∧ h' (nx + 1) = some (.inl (0, 401, .inl (fun _ => 0))) ∧ h' (nx + 2) = some (.inl (0, 401, .inl (fun _ => 0))) ∧ ∀ q, q ≠ a → q < nx → h' q = h q := by
  have hC0 : ∀ q, q ≠ a → q < nx → h q = h q := fun _ _ _ => rfl
  obtain ⟨g1, eg1⟩ : ∃ z : xH, z = xup h (nx) (.inl (0, 401, .inl (fun _ => 0))) := ⟨_, rfl⟩
  have A1 : g1 a = some (.inr (3, [.null, .null, .null, .int 0])) := by rw [eg1]; exact (xup_n (by omega)).trans ha
  have B1_0 : g1 (nx) = some (.inl (0, 401, .inl (fun _ => 0))) := by rw [eg1]; exact xup_s
  have C1 : ∀ q, q ≠ a → q < nx → g1 q = h q := fun q h1 h2 => by rw [eg1]; exact (xup_n (by omega)).trans (hC0 q h1 h2)
  obtain ⟨g2, eg2⟩ : ∃ z : xH, z = xup g1 (a) (.inr (3, [.ref (nx), .null, .null, .int 0])) := ⟨_, rfl⟩
  have A2 : g2 a = some (.inr (3, [.ref (nx), .null, .null, .int 0])) := by rw [eg2]; exact xup_s
  have B2_0 : g2 (nx) = some (.inl (0, 401, .inl (fun _ => 0))) := by rw [eg2]; exact (xup_n (by omega)).trans B1_0
  have C2 : ∀ q, q ≠ a → q < nx → g2 q = h q := fun q h1 h2 => by rw [eg2]; exact (xup_n (by omega)).trans (C1 q h1 h2)
  obtain ⟨g3, eg3⟩ : ∃ z : xH, z = xup g2 (nx + 1) (.inl (0, 401, .inl (fun _ => 0))) := ⟨_, rfl⟩
  have A3 : g3 a = some (.inr (3, [.ref (nx), .null, .null, .int 0])) := by rw [eg3]; exact (xup_n (by omega)).trans A2
  have B3_0 : g3 (nx) = some (.inl (0, 401, .inl (fun _ => 0))) := by rw [eg3]; exact (xup_n (by omega)).trans B2_0
  have B3_1 : g3 (nx + 1) = some (.inl (0, 401, .inl (fun _ => 0))) := by rw [eg3]; exact xup_s
  have C3 : ∀ q, q ≠ a → q < nx → g3 q = h q := fun q h1 h2 => by rw [eg3]; exact (xup_n (by omega)).trans (C2 q h1 h2)
  obtain ⟨g4, eg4⟩ : ∃ z : xH, z = xup g3 (a) (.inr (3, [.ref (nx), .ref (nx + 1), .null, .int 0])) := ⟨_, rfl⟩
  have A4 : g4 a = some (.inr (3, [.ref (nx), .ref (nx + 1), .null, .int 0])) := by rw [eg4]; exact xup_s
  have B4_0 : g4 (nx) = some (.inl (0, 401, .inl (fun _ => 0))) := by rw [eg4]; exact (xup_n (by omega)).trans B3_0
  have B4_1 : g4 (nx + 1) = some (.inl (0, 401, .inl (fun _ => 0))) := by rw [eg4]; exact (xup_n (by omega)).trans B3_1
  have C4 : ∀ q, q ≠ a → q < nx → g4 q = h q := fun q h1 h2 => by rw [eg4]; exact (xup_n (by omega)).trans (C3 q h1 h2)
  obtain ⟨g5, eg5⟩ : ∃ z : xH, z = xup g4 (nx + 2) (.inl (0, 401, .inl (fun _ => 0))) := ⟨_, rfl⟩
  have A5 : g5 a = some (.inr (3, [.ref (nx), .ref (nx + 1), .null, .int 0])) := by rw [eg5]; exact (xup_n (by omega)).trans A4
  have B5_0 : g5 (nx) = some (.inl (0, 401, .inl (fun _ => 0))) := by rw [eg5]; exact (xup_n (by omega)).trans B4_0
  have B5_1 : g5 (nx + 1) = some (.inl (0, 401, .inl (fun _ => 0))) := by rw [eg5]; exact (xup_n (by omega)).trans B4_1
  have B5_2 : g5 (nx + 2) = some (.inl (0, 401, .inl (fun _ => 0))) := by rw [eg5]; exact xup_s
  have C5 : ∀ q, q ≠ a → q < nx → g5 q = h q := fun q h1 h2 => by rw [eg5]; exact (xup_n (by omega)).trans (C4 q h1 h2)
  obtain ⟨g6, eg6⟩ : ∃ z : xH, z = xup g5 (a) (.inr (3, [.ref (nx), .ref (nx + 1), .ref (nx + 2), .int 0])) := ⟨_, rfl⟩
  have A6 : g6 a = some (.inr (3, [.ref (nx), .ref (nx + 1), .ref (nx + 2), .int 0])) := by rw [eg6]; exact xup_s
  have B6_0 : g6 (nx) = some (.inl (0, 401, .inl (fun _ => 0))) := by rw [eg6]; exact (xup_n (by omega)).trans B5_0
  have B6_1 : g6 (nx + 1) = some (.inl (0, 401, .inl (fun _ => 0))) := by rw [eg6]; exact (xup_n (by omega)).trans B5_1
  have B6_2 : g6 (nx + 2) = some (.inl (0, 401, .inl (fun _ => 0))) := by rw [eg6]; exact (xup_n (by omega)).trans B5_2
  have C6 : ∀ q, q ≠ a → q < nx → g6 q = h q := fun q h1 h2 => by rw [eg6]; exact (xup_n (by omega)).trans (C5 q h1 h2)
  obtain ⟨g7, eg7⟩ : ∃ z : xH, z = xup g6 (a) (.inr (3, [.ref (nx), .ref (nx + 1), .ref (nx + 2), .int 0])) := ⟨_, rfl⟩
  have A7 : g7 a = some (.inr (3, [.ref (nx), .ref (nx + 1), .ref (nx + 2), .int 0])) := by rw [eg7]; exact xup_s
  have B7_0 : g7 (nx) = some (.inl (0, 401, .inl (fun _ => 0))) := by rw [eg7]; exact (xup_n (by omega)).trans B6_0
  have B7_1 : g7 (nx + 1) = some (.inl (0, 401, .inl (fun _ => 0))) := by rw [eg7]; exact (xup_n (by omega)).trans B6_1
  have B7_2 : g7 (nx + 2) = some (.inl (0, 401, .inl (fun _ => 0))) := by rw [eg7]; exact (xup_n (by omega)).trans B6_2
  have C7 : ∀ q, q ≠ a → q < nx → g7 q = h q := fun q h1 h2 => by rw [eg7]; exact (xup_n (by omega)).trans (C6 q h1 h2)
  refine ⟨g7, ?_, A7, B7_0, B7_1, B7_2, C7⟩
  refine xr_go i36_0 rfl ?_
  refine xr_obj i36_1 xc36_3 rfl (by omega) (Nat.le_of_ble_eq_true rfl) ?_
  refine xr_go i36_4 rfl ?_
  refine xr_go i36_5 rfl ?_
  refine xr_newa i36_8 rfl (n := 401) rfl (by omega) (fun z ez => ?_)
  obtain rfl : z = g1 := ez.trans eg1.symm
  refine xr_put i36_10 xf36_9 (by assumption) ⟨rfl, Nat.le_of_ble_eq_true rfl, rfl, rfl, by first | exact Or.inl rfl | exact Or.inr ⟨rfl, rfl, rfl⟩⟩ (fun z ez => ?_)
  obtain rfl : z = g2 := ez.trans eg2.symm
  refine xr_go i36_13 rfl ?_
  refine xr_go i36_14 rfl ?_
  refine xr_newa i36_17 rfl (n := 401) rfl (by omega) (fun z ez => ?_)
  obtain rfl : z = g3 := ez.trans eg3.symm
  refine xr_put i36_19 xf36_15 (by assumption) ⟨rfl, Nat.le_of_ble_eq_true rfl, rfl, rfl, by first | exact Or.inl rfl | exact Or.inr ⟨rfl, rfl, rfl⟩⟩ (fun z ez => ?_)
  obtain rfl : z = g4 := ez.trans eg4.symm
  refine xr_go i36_22 rfl ?_
  refine xr_go i36_23 rfl ?_
  refine xr_newa i36_26 rfl (n := 401) rfl (by omega) (fun z ez => ?_)
  obtain rfl : z = g5 := ez.trans eg5.symm
  refine xr_put i36_28 xf36_18 (by assumption) ⟨rfl, Nat.le_of_ble_eq_true rfl, rfl, rfl, by first | exact Or.inl rfl | exact Or.inr ⟨rfl, rfl, rfl⟩⟩ (fun z ez => ?_)
  obtain rfl : z = g6 := ez.trans eg6.symm
  refine xr_go i36_31 rfl ?_
  refine xr_go i36_32 rfl ?_
  refine xr_put i36_33 xf36_21 (by assumption) ⟨rfl, Nat.le_of_ble_eq_true rfl, rfl, rfl, by first | exact Or.inl rfl | exact Or.inr ⟨rfl, rfl, rfl⟩⟩ (fun z ez => ?_)
  obtain rfl : z = g7 := ez.trans eg7.symm
  exact xr_end i36_36 rfl
theorem c_45 {G : xG} {d : Nat} {h : xH} {nx sl a : Nat} (ha : h a = some (.inr (4, [.null, .null, .int 0, .int 0]))) (hn : a < nx) (hd : 1 ≤ d) :
    ∃ h', xRun G d 45 (0, [some (.ref a)], [], (h, nx, sl)) (none, (h', nx + 2, sl + 500 + 500)) ∧ h' a = some (.inr (4, [.ref (nx), .ref (nx + 1), .int 0, .int 0])) ∧ h' (nx) = some (.inl (3, 500, .inr (.inr (.inr (.inr (fun _ => none)))))) ∧ h' (nx + 1) = some (.inl (0, 500, .inl (fun _ => 0))) ∧ ∀ q, q ≠ a → q < nx → h' q = h q := by
  have hC0 : ∀ q, q ≠ a → q < nx → h q = h q := fun _ _ _ => rfl
  obtain ⟨g1, eg1⟩ : ∃ z : xH, z = xup h (nx) (.inl (3, 500, .inr (.inr (.inr (.inr (fun _ => none)))))) := ⟨_, rfl⟩
  have A1 : g1 a = some (.inr (4, [.null, .null, .int 0, .int 0])) := by rw [eg1]; exact (xup_n (by omega)).trans ha
  have B1_0 : g1 (nx) = some (.inl (3, 500, .inr (.inr (.inr (.inr (fun _ => none)))))) := by rw [eg1]; exact xup_s
  have C1 : ∀ q, q ≠ a → q < nx → g1 q = h q := fun q h1 h2 => by rw [eg1]; exact (xup_n (by omega)).trans (hC0 q h1 h2)
  obtain ⟨g2, eg2⟩ : ∃ z : xH, z = xup g1 (a) (.inr (4, [.ref (nx), .null, .int 0, .int 0])) := ⟨_, rfl⟩
  have A2 : g2 a = some (.inr (4, [.ref (nx), .null, .int 0, .int 0])) := by rw [eg2]; exact xup_s
  have B2_0 : g2 (nx) = some (.inl (3, 500, .inr (.inr (.inr (.inr (fun _ => none)))))) := by rw [eg2]; exact (xup_n (by omega)).trans B1_0
  have C2 : ∀ q, q ≠ a → q < nx → g2 q = h q := fun q h1 h2 => by rw [eg2]; exact (xup_n (by omega)).trans (C1 q h1 h2)
  obtain ⟨g3, eg3⟩ : ∃ z : xH, z = xup g2 (nx + 1) (.inl (0, 500, .inl (fun _ => 0))) := ⟨_, rfl⟩
  have A3 : g3 a = some (.inr (4, [.ref (nx), .null, .int 0, .int 0])) := by rw [eg3]; exact (xup_n (by omega)).trans A2
  have B3_0 : g3 (nx) = some (.inl (3, 500, .inr (.inr (.inr (.inr (fun _ => none)))))) := by rw [eg3]; exact (xup_n (by omega)).trans B2_0
  have B3_1 : g3 (nx + 1) = some (.inl (0, 500, .inl (fun _ => 0))) := by rw [eg3]; exact xup_s
  have C3 : ∀ q, q ≠ a → q < nx → g3 q = h q := fun q h1 h2 => by rw [eg3]; exact (xup_n (by omega)).trans (C2 q h1 h2)
  obtain ⟨g4, eg4⟩ : ∃ z : xH, z = xup g3 (a) (.inr (4, [.ref (nx), .ref (nx + 1), .int 0, .int 0])) := ⟨_, rfl⟩
  have A4 : g4 a = some (.inr (4, [.ref (nx), .ref (nx + 1), .int 0, .int 0])) := by rw [eg4]; exact xup_s
  have B4_0 : g4 (nx) = some (.inl (3, 500, .inr (.inr (.inr (.inr (fun _ => none)))))) := by rw [eg4]; exact (xup_n (by omega)).trans B3_0
  have B4_1 : g4 (nx + 1) = some (.inl (0, 500, .inl (fun _ => 0))) := by rw [eg4]; exact (xup_n (by omega)).trans B3_1
  have C4 : ∀ q, q ≠ a → q < nx → g4 q = h q := fun q h1 h2 => by rw [eg4]; exact (xup_n (by omega)).trans (C3 q h1 h2)
  obtain ⟨g5, eg5⟩ : ∃ z : xH, z = xup g4 (a) (.inr (4, [.ref (nx), .ref (nx + 1), .int 0, .int 0])) := ⟨_, rfl⟩
  have A5 : g5 a = some (.inr (4, [.ref (nx), .ref (nx + 1), .int 0, .int 0])) := by rw [eg5]; exact xup_s
  have B5_0 : g5 (nx) = some (.inl (3, 500, .inr (.inr (.inr (.inr (fun _ => none)))))) := by rw [eg5]; exact (xup_n (by omega)).trans B4_0
  have B5_1 : g5 (nx + 1) = some (.inl (0, 500, .inl (fun _ => 0))) := by rw [eg5]; exact (xup_n (by omega)).trans B4_1
  have C5 : ∀ q, q ≠ a → q < nx → g5 q = h q := fun q h1 h2 => by rw [eg5]; exact (xup_n (by omega)).trans (C4 q h1 h2)
  obtain ⟨g6, eg6⟩ : ∃ z : xH, z = xup g5 (a) (.inr (4, [.ref (nx), .ref (nx + 1), .int 0, .int 0])) := ⟨_, rfl⟩
  have A6 : g6 a = some (.inr (4, [.ref (nx), .ref (nx + 1), .int 0, .int 0])) := by rw [eg6]; exact xup_s
  have B6_0 : g6 (nx) = some (.inl (3, 500, .inr (.inr (.inr (.inr (fun _ => none)))))) := by rw [eg6]; exact (xup_n (by omega)).trans B5_0
  have B6_1 : g6 (nx + 1) = some (.inl (0, 500, .inl (fun _ => 0))) := by rw [eg6]; exact (xup_n (by omega)).trans B5_1
  have C6 : ∀ q, q ≠ a → q < nx → g6 q = h q := fun q h1 h2 => by rw [eg6]; exact (xup_n (by omega)).trans (C5 q h1 h2)
  refine ⟨g6, ?_, A6, B6_0, B6_1, C6⟩
  refine xr_go i45_0 rfl ?_
  refine xr_obj i45_1 xc45_3 rfl (by omega) (Nat.le_of_ble_eq_true rfl) ?_
  refine xr_go i45_4 rfl ?_
  refine xr_go i45_5 rfl ?_
  refine xr_anew i45_8 xn45_9 rfl (by decide) (n := 500) rfl (by omega) (fun z ez => ?_)
  obtain rfl : z = g1 := ez.trans eg1.symm
  refine xr_put i45_11 xf45_11 (by assumption) ⟨rfl, Nat.le_of_ble_eq_true rfl, rfl, rfl, by first | exact Or.inl rfl | exact Or.inr ⟨rfl, rfl, rfl⟩⟩ (fun z ez => ?_)
  obtain rfl : z = g2 := ez.trans eg2.symm
  refine xr_go i45_14 rfl ?_
  refine xr_go i45_15 rfl ?_
  refine xr_newa i45_18 rfl (n := 500) rfl (by omega) (fun z ez => ?_)
  obtain rfl : z = g3 := ez.trans eg3.symm
  refine xr_put i45_20 xf45_17 (by assumption) ⟨rfl, Nat.le_of_ble_eq_true rfl, rfl, rfl, by first | exact Or.inl rfl | exact Or.inr ⟨rfl, rfl, rfl⟩⟩ (fun z ez => ?_)
  obtain rfl : z = g4 := ez.trans eg4.symm
  refine xr_go i45_23 rfl ?_
  refine xr_go i45_24 rfl ?_
  refine xr_put i45_25 xf45_21 (by assumption) ⟨rfl, Nat.le_of_ble_eq_true rfl, rfl, rfl, by first | exact Or.inl rfl | exact Or.inr ⟨rfl, rfl, rfl⟩⟩ (fun z ez => ?_)
  obtain rfl : z = g5 := ez.trans eg5.symm
  refine xr_go i45_28 rfl ?_
  refine xr_go i45_29 rfl ?_
  refine xr_put i45_30 xf45_25 (by assumption) ⟨rfl, Nat.le_of_ble_eq_true rfl, rfl, rfl, by first | exact Or.inl rfl | exact Or.inr ⟨rfl, rfl, rfl⟩⟩ (fun z ez => ?_)
  obtain rfl : z = g6 := ez.trans eg6.symm
  exact xr_end i45_33 rfl
theorem c_49 {G : xG} {d : Nat} {h : xH} {nx sl a : Nat} (ha : h a = some (.inr (5, [.null, .null, .null, .int 0, .int 0, .int 0]))) (hn : a < nx) (hd : 1 ≤ d) :
    ∃ h', xRun G d 49 (0, [some (.ref a)], [], (h, nx, sl)) (none, (h', nx + 3, sl + 16 + 8 + 8)) ∧ h' a = some (.inr (5, [.ref (nx), .ref (nx + 1), .ref (nx + 2), .int 0, .int 0, .int 1])) ∧ h' (nx) = some (.inl (0, 16, .inl (fun _ => 0))) ∧ h' (nx + 1) = some (.inl (0, 8, .inl (fun _ => 0))) ∧ h' (nx + 2) = some (.inl (0, 8, .inl (fun _ => 0))) ∧ ∀ q, q ≠ a → q < nx → h' q = h q := by
  have hC0 : ∀ q, q ≠ a → q < nx → h q = h q := fun _ _ _ => rfl
  obtain ⟨g1, eg1⟩ : ∃ z : xH, z = xup h (nx) (.inl (0, 16, .inl (fun _ => 0))) := ⟨_, rfl⟩
  have A1 : g1 a = some (.inr (5, [.null, .null, .null, .int 0, .int 0, .int 0])) := by rw [eg1]; exact (xup_n (by omega)).trans ha
  have B1_0 : g1 (nx) = some (.inl (0, 16, .inl (fun _ => 0))) := by rw [eg1]; exact xup_s
  have C1 : ∀ q, q ≠ a → q < nx → g1 q = h q := fun q h1 h2 => by rw [eg1]; exact (xup_n (by omega)).trans (hC0 q h1 h2)
  obtain ⟨g2, eg2⟩ : ∃ z : xH, z = xup g1 (a) (.inr (5, [.ref (nx), .null, .null, .int 0, .int 0, .int 0])) := ⟨_, rfl⟩
  have A2 : g2 a = some (.inr (5, [.ref (nx), .null, .null, .int 0, .int 0, .int 0])) := by rw [eg2]; exact xup_s
  have B2_0 : g2 (nx) = some (.inl (0, 16, .inl (fun _ => 0))) := by rw [eg2]; exact (xup_n (by omega)).trans B1_0
  have C2 : ∀ q, q ≠ a → q < nx → g2 q = h q := fun q h1 h2 => by rw [eg2]; exact (xup_n (by omega)).trans (C1 q h1 h2)
  obtain ⟨g3, eg3⟩ : ∃ z : xH, z = xup g2 (nx + 1) (.inl (0, 8, .inl (fun _ => 0))) := ⟨_, rfl⟩
  have A3 : g3 a = some (.inr (5, [.ref (nx), .null, .null, .int 0, .int 0, .int 0])) := by rw [eg3]; exact (xup_n (by omega)).trans A2
  have B3_0 : g3 (nx) = some (.inl (0, 16, .inl (fun _ => 0))) := by rw [eg3]; exact (xup_n (by omega)).trans B2_0
  have B3_1 : g3 (nx + 1) = some (.inl (0, 8, .inl (fun _ => 0))) := by rw [eg3]; exact xup_s
  have C3 : ∀ q, q ≠ a → q < nx → g3 q = h q := fun q h1 h2 => by rw [eg3]; exact (xup_n (by omega)).trans (C2 q h1 h2)
  obtain ⟨g4, eg4⟩ : ∃ z : xH, z = xup g3 (a) (.inr (5, [.ref (nx), .ref (nx + 1), .null, .int 0, .int 0, .int 0])) := ⟨_, rfl⟩
  have A4 : g4 a = some (.inr (5, [.ref (nx), .ref (nx + 1), .null, .int 0, .int 0, .int 0])) := by rw [eg4]; exact xup_s
  have B4_0 : g4 (nx) = some (.inl (0, 16, .inl (fun _ => 0))) := by rw [eg4]; exact (xup_n (by omega)).trans B3_0
  have B4_1 : g4 (nx + 1) = some (.inl (0, 8, .inl (fun _ => 0))) := by rw [eg4]; exact (xup_n (by omega)).trans B3_1
  have C4 : ∀ q, q ≠ a → q < nx → g4 q = h q := fun q h1 h2 => by rw [eg4]; exact (xup_n (by omega)).trans (C3 q h1 h2)
  obtain ⟨g5, eg5⟩ : ∃ z : xH, z = xup g4 (nx + 2) (.inl (0, 8, .inl (fun _ => 0))) := ⟨_, rfl⟩
  have A5 : g5 a = some (.inr (5, [.ref (nx), .ref (nx + 1), .null, .int 0, .int 0, .int 0])) := by rw [eg5]; exact (xup_n (by omega)).trans A4
  have B5_0 : g5 (nx) = some (.inl (0, 16, .inl (fun _ => 0))) := by rw [eg5]; exact (xup_n (by omega)).trans B4_0
  have B5_1 : g5 (nx + 1) = some (.inl (0, 8, .inl (fun _ => 0))) := by rw [eg5]; exact (xup_n (by omega)).trans B4_1
  have B5_2 : g5 (nx + 2) = some (.inl (0, 8, .inl (fun _ => 0))) := by rw [eg5]; exact xup_s
  have C5 : ∀ q, q ≠ a → q < nx → g5 q = h q := fun q h1 h2 => by rw [eg5]; exact (xup_n (by omega)).trans (C4 q h1 h2)
  obtain ⟨g6, eg6⟩ : ∃ z : xH, z = xup g5 (a) (.inr (5, [.ref (nx), .ref (nx + 1), .ref (nx + 2), .int 0, .int 0, .int 0])) := ⟨_, rfl⟩
  have A6 : g6 a = some (.inr (5, [.ref (nx), .ref (nx + 1), .ref (nx + 2), .int 0, .int 0, .int 0])) := by rw [eg6]; exact xup_s
  have B6_0 : g6 (nx) = some (.inl (0, 16, .inl (fun _ => 0))) := by rw [eg6]; exact (xup_n (by omega)).trans B5_0
  have B6_1 : g6 (nx + 1) = some (.inl (0, 8, .inl (fun _ => 0))) := by rw [eg6]; exact (xup_n (by omega)).trans B5_1
  have B6_2 : g6 (nx + 2) = some (.inl (0, 8, .inl (fun _ => 0))) := by rw [eg6]; exact (xup_n (by omega)).trans B5_2
  have C6 : ∀ q, q ≠ a → q < nx → g6 q = h q := fun q h1 h2 => by rw [eg6]; exact (xup_n (by omega)).trans (C5 q h1 h2)
  obtain ⟨g7, eg7⟩ : ∃ z : xH, z = xup g6 (a) (.inr (5, [.ref (nx), .ref (nx + 1), .ref (nx + 2), .int 0, .int 0, .int 0])) := ⟨_, rfl⟩
  have A7 : g7 a = some (.inr (5, [.ref (nx), .ref (nx + 1), .ref (nx + 2), .int 0, .int 0, .int 0])) := by rw [eg7]; exact xup_s
  have B7_0 : g7 (nx) = some (.inl (0, 16, .inl (fun _ => 0))) := by rw [eg7]; exact (xup_n (by omega)).trans B6_0
  have B7_1 : g7 (nx + 1) = some (.inl (0, 8, .inl (fun _ => 0))) := by rw [eg7]; exact (xup_n (by omega)).trans B6_1
  have B7_2 : g7 (nx + 2) = some (.inl (0, 8, .inl (fun _ => 0))) := by rw [eg7]; exact (xup_n (by omega)).trans B6_2
  have C7 : ∀ q, q ≠ a → q < nx → g7 q = h q := fun q h1 h2 => by rw [eg7]; exact (xup_n (by omega)).trans (C6 q h1 h2)
  obtain ⟨g8, eg8⟩ : ∃ z : xH, z = xup g7 (a) (.inr (5, [.ref (nx), .ref (nx + 1), .ref (nx + 2), .int 0, .int 0, .int 0])) := ⟨_, rfl⟩
  have A8 : g8 a = some (.inr (5, [.ref (nx), .ref (nx + 1), .ref (nx + 2), .int 0, .int 0, .int 0])) := by rw [eg8]; exact xup_s
  have B8_0 : g8 (nx) = some (.inl (0, 16, .inl (fun _ => 0))) := by rw [eg8]; exact (xup_n (by omega)).trans B7_0
  have B8_1 : g8 (nx + 1) = some (.inl (0, 8, .inl (fun _ => 0))) := by rw [eg8]; exact (xup_n (by omega)).trans B7_1
  have B8_2 : g8 (nx + 2) = some (.inl (0, 8, .inl (fun _ => 0))) := by rw [eg8]; exact (xup_n (by omega)).trans B7_2
  have C8 : ∀ q, q ≠ a → q < nx → g8 q = h q := fun q h1 h2 => by rw [eg8]; exact (xup_n (by omega)).trans (C7 q h1 h2)
  obtain ⟨g9, eg9⟩ : ∃ z : xH, z = xup g8 (a) (.inr (5, [.ref (nx), .ref (nx + 1), .ref (nx + 2), .int 0, .int 0, .int 1])) := ⟨_, rfl⟩
  have A9 : g9 a = some (.inr (5, [.ref (nx), .ref (nx + 1), .ref (nx + 2), .int 0, .int 0, .int 1])) := by rw [eg9]; exact xup_s
  have B9_0 : g9 (nx) = some (.inl (0, 16, .inl (fun _ => 0))) := by rw [eg9]; exact (xup_n (by omega)).trans B8_0
  have B9_1 : g9 (nx + 1) = some (.inl (0, 8, .inl (fun _ => 0))) := by rw [eg9]; exact (xup_n (by omega)).trans B8_1
  have B9_2 : g9 (nx + 2) = some (.inl (0, 8, .inl (fun _ => 0))) := by rw [eg9]; exact (xup_n (by omega)).trans B8_2
  have C9 : ∀ q, q ≠ a → q < nx → g9 q = h q := fun q h1 h2 => by rw [eg9]; exact (xup_n (by omega)).trans (C8 q h1 h2)
  refine ⟨g9, ?_, A9, B9_0, B9_1, B9_2, C9⟩
  refine xr_go i49_0 rfl ?_
  refine xr_obj i49_1 xc49_1 rfl (by omega) (Nat.le_of_ble_eq_true rfl) ?_
  refine xr_go i49_4 rfl ?_
  refine xr_go i49_5 rfl ?_
  refine xr_newa i49_7 rfl (n := 16) rfl (by omega) (fun z ez => ?_)
  obtain rfl : z = g1 := ez.trans eg1.symm
  refine xr_put i49_9 xf49_9 (by assumption) ⟨rfl, Nat.le_of_ble_eq_true rfl, rfl, rfl, by first | exact Or.inl rfl | exact Or.inr ⟨rfl, rfl, rfl⟩⟩ (fun z ez => ?_)
  obtain rfl : z = g2 := ez.trans eg2.symm
  refine xr_go i49_12 rfl ?_
  refine xr_go i49_13 rfl ?_
  refine xr_newa i49_15 rfl (n := 8) rfl (by omega) (fun z ez => ?_)
  obtain rfl : z = g3 := ez.trans eg3.symm
  refine xr_put i49_17 xf49_13 (by assumption) ⟨rfl, Nat.le_of_ble_eq_true rfl, rfl, rfl, by first | exact Or.inl rfl | exact Or.inr ⟨rfl, rfl, rfl⟩⟩ (fun z ez => ?_)
  obtain rfl : z = g4 := ez.trans eg4.symm
  refine xr_go i49_20 rfl ?_
  refine xr_go i49_21 rfl ?_
  refine xr_newa i49_23 rfl (n := 8) rfl (by omega) (fun z ez => ?_)
  obtain rfl : z = g5 := ez.trans eg5.symm
  refine xr_put i49_25 xf49_16 (by assumption) ⟨rfl, Nat.le_of_ble_eq_true rfl, rfl, rfl, by first | exact Or.inl rfl | exact Or.inr ⟨rfl, rfl, rfl⟩⟩ (fun z ez => ?_)
  obtain rfl : z = g6 := ez.trans eg6.symm
  refine xr_go i49_28 rfl ?_
  refine xr_go i49_29 rfl ?_
  refine xr_put i49_30 xf49_19 (by assumption) ⟨rfl, Nat.le_of_ble_eq_true rfl, rfl, rfl, by first | exact Or.inl rfl | exact Or.inr ⟨rfl, rfl, rfl⟩⟩ (fun z ez => ?_)
  obtain rfl : z = g7 := ez.trans eg7.symm
  refine xr_go i49_33 rfl ?_
  refine xr_go i49_34 rfl ?_
  refine xr_put i49_35 xf49_23 (by assumption) ⟨rfl, Nat.le_of_ble_eq_true rfl, rfl, rfl, by first | exact Or.inl rfl | exact Or.inr ⟨rfl, rfl, rfl⟩⟩ (fun z ez => ?_)
  obtain rfl : z = g8 := ez.trans eg8.symm
  refine xr_go i49_38 rfl ?_
  refine xr_go i49_39 rfl ?_
  refine xr_put i49_40 xf49_26 (by assumption) ⟨rfl, Nat.le_of_ble_eq_true rfl, rfl, rfl, by first | exact Or.inl rfl | exact Or.inr ⟨rfl, rfl, rfl⟩⟩ (fun z ez => ?_)
  obtain rfl : z = g9 := ez.trans eg9.symm
  exact xr_end i49_43 rfl
theorem c_58 {G : xG} {d : Nat} {h : xH} {nx sl a : Nat} {ah am : Nat} (ha : h a = some (.inr (6, [.null, .null, .null, .null, .null, .null, .null, .null, .int 0, .int 0, .int 0, .int 0, .int 0]))) (hn : a < nx) (hd : 1 ≤ d) :
    ∃ h', xRun G d 58 (0, [some (.ref a), some (.ref ah), some (.ref am)], [], (h, nx, sl)) (none, (h', nx + 6, sl + 5 + 500 + 500 + 32 + 32 + 500)) ∧ h' a = some (.inr (6, [.ref ah, .ref am, .ref (nx), .ref (nx + 1), .ref (nx + 2), .ref (nx + 3), .ref (nx + 4), .ref (nx + 5), .int 0, .int 0, .int 0, .int 0, .int 0])) ∧ h' (nx) = some (.inl (0, 5, .inl (fun _ => 0))) ∧ h' (nx + 1) = some (.inl (1, 500, .inl (fun _ => 0))) ∧ h' (nx + 2) = some (.inl (0, 500, .inl (fun _ => 0))) ∧ h' (nx + 3) = some (.inl (0, 32, .inl (fun _ => 0))) ∧ h' (nx + 4) = some (.inl (0, 32, .inl (fun _ => 0))) ∧ h' (nx + 5) = some (.inl (0, 500, .inl (fun _ => 0))) ∧ ∀ q, q ≠ a → q < nx → h' q = h q := by
  have hC0 : ∀ q, q ≠ a → q < nx → h q = h q := fun _ _ _ => rfl
  obtain ⟨g1, eg1⟩ : ∃ z : xH, z = xup h (nx) (.inl (0, 5, .inl (fun _ => 0))) := ⟨_, rfl⟩
  have A1 : g1 a = some (.inr (6, [.null, .null, .null, .null, .null, .null, .null, .null, .int 0, .int 0, .int 0, .int 0, .int 0])) := by rw [eg1]; exact (xup_n (by omega)).trans ha
  have B1_0 : g1 (nx) = some (.inl (0, 5, .inl (fun _ => 0))) := by rw [eg1]; exact xup_s
  have C1 : ∀ q, q ≠ a → q < nx → g1 q = h q := fun q h1 h2 => by rw [eg1]; exact (xup_n (by omega)).trans (hC0 q h1 h2)
  obtain ⟨g2, eg2⟩ : ∃ z : xH, z = xup g1 (a) (.inr (6, [.null, .null, .ref (nx), .null, .null, .null, .null, .null, .int 0, .int 0, .int 0, .int 0, .int 0])) := ⟨_, rfl⟩
  have A2 : g2 a = some (.inr (6, [.null, .null, .ref (nx), .null, .null, .null, .null, .null, .int 0, .int 0, .int 0, .int 0, .int 0])) := by rw [eg2]; exact xup_s
  have B2_0 : g2 (nx) = some (.inl (0, 5, .inl (fun _ => 0))) := by rw [eg2]; exact (xup_n (by omega)).trans B1_0
  have C2 : ∀ q, q ≠ a → q < nx → g2 q = h q := fun q h1 h2 => by rw [eg2]; exact (xup_n (by omega)).trans (C1 q h1 h2)
  obtain ⟨g3, eg3⟩ : ∃ z : xH, z = xup g2 (nx + 1) (.inl (1, 500, .inl (fun _ => 0))) := ⟨_, rfl⟩
  have A3 : g3 a = some (.inr (6, [.null, .null, .ref (nx), .null, .null, .null, .null, .null, .int 0, .int 0, .int 0, .int 0, .int 0])) := by rw [eg3]; exact (xup_n (by omega)).trans A2
  have B3_0 : g3 (nx) = some (.inl (0, 5, .inl (fun _ => 0))) := by rw [eg3]; exact (xup_n (by omega)).trans B2_0
  have B3_1 : g3 (nx + 1) = some (.inl (1, 500, .inl (fun _ => 0))) := by rw [eg3]; exact xup_s
  have C3 : ∀ q, q ≠ a → q < nx → g3 q = h q := fun q h1 h2 => by rw [eg3]; exact (xup_n (by omega)).trans (C2 q h1 h2)
  obtain ⟨g4, eg4⟩ : ∃ z : xH, z = xup g3 (a) (.inr (6, [.null, .null, .ref (nx), .ref (nx + 1), .null, .null, .null, .null, .int 0, .int 0, .int 0, .int 0, .int 0])) := ⟨_, rfl⟩
  have A4 : g4 a = some (.inr (6, [.null, .null, .ref (nx), .ref (nx + 1), .null, .null, .null, .null, .int 0, .int 0, .int 0, .int 0, .int 0])) := by rw [eg4]; exact xup_s
  have B4_0 : g4 (nx) = some (.inl (0, 5, .inl (fun _ => 0))) := by rw [eg4]; exact (xup_n (by omega)).trans B3_0
  have B4_1 : g4 (nx + 1) = some (.inl (1, 500, .inl (fun _ => 0))) := by rw [eg4]; exact (xup_n (by omega)).trans B3_1
  have C4 : ∀ q, q ≠ a → q < nx → g4 q = h q := fun q h1 h2 => by rw [eg4]; exact (xup_n (by omega)).trans (C3 q h1 h2)
  obtain ⟨g5, eg5⟩ : ∃ z : xH, z = xup g4 (nx + 2) (.inl (0, 500, .inl (fun _ => 0))) := ⟨_, rfl⟩
  have A5 : g5 a = some (.inr (6, [.null, .null, .ref (nx), .ref (nx + 1), .null, .null, .null, .null, .int 0, .int 0, .int 0, .int 0, .int 0])) := by rw [eg5]; exact (xup_n (by omega)).trans A4
  have B5_0 : g5 (nx) = some (.inl (0, 5, .inl (fun _ => 0))) := by rw [eg5]; exact (xup_n (by omega)).trans B4_0
  have B5_1 : g5 (nx + 1) = some (.inl (1, 500, .inl (fun _ => 0))) := by rw [eg5]; exact (xup_n (by omega)).trans B4_1
  have B5_2 : g5 (nx + 2) = some (.inl (0, 500, .inl (fun _ => 0))) := by rw [eg5]; exact xup_s
  have C5 : ∀ q, q ≠ a → q < nx → g5 q = h q := fun q h1 h2 => by rw [eg5]; exact (xup_n (by omega)).trans (C4 q h1 h2)
  obtain ⟨g6, eg6⟩ : ∃ z : xH, z = xup g5 (a) (.inr (6, [.null, .null, .ref (nx), .ref (nx + 1), .ref (nx + 2), .null, .null, .null, .int 0, .int 0, .int 0, .int 0, .int 0])) := ⟨_, rfl⟩
  have A6 : g6 a = some (.inr (6, [.null, .null, .ref (nx), .ref (nx + 1), .ref (nx + 2), .null, .null, .null, .int 0, .int 0, .int 0, .int 0, .int 0])) := by rw [eg6]; exact xup_s
  have B6_0 : g6 (nx) = some (.inl (0, 5, .inl (fun _ => 0))) := by rw [eg6]; exact (xup_n (by omega)).trans B5_0
  have B6_1 : g6 (nx + 1) = some (.inl (1, 500, .inl (fun _ => 0))) := by rw [eg6]; exact (xup_n (by omega)).trans B5_1
  have B6_2 : g6 (nx + 2) = some (.inl (0, 500, .inl (fun _ => 0))) := by rw [eg6]; exact (xup_n (by omega)).trans B5_2
  have C6 : ∀ q, q ≠ a → q < nx → g6 q = h q := fun q h1 h2 => by rw [eg6]; exact (xup_n (by omega)).trans (C5 q h1 h2)
  obtain ⟨g7, eg7⟩ : ∃ z : xH, z = xup g6 (nx + 3) (.inl (0, 32, .inl (fun _ => 0))) := ⟨_, rfl⟩
  have A7 : g7 a = some (.inr (6, [.null, .null, .ref (nx), .ref (nx + 1), .ref (nx + 2), .null, .null, .null, .int 0, .int 0, .int 0, .int 0, .int 0])) := by rw [eg7]; exact (xup_n (by omega)).trans A6
  have B7_0 : g7 (nx) = some (.inl (0, 5, .inl (fun _ => 0))) := by rw [eg7]; exact (xup_n (by omega)).trans B6_0
  have B7_1 : g7 (nx + 1) = some (.inl (1, 500, .inl (fun _ => 0))) := by rw [eg7]; exact (xup_n (by omega)).trans B6_1
  have B7_2 : g7 (nx + 2) = some (.inl (0, 500, .inl (fun _ => 0))) := by rw [eg7]; exact (xup_n (by omega)).trans B6_2
  have B7_3 : g7 (nx + 3) = some (.inl (0, 32, .inl (fun _ => 0))) := by rw [eg7]; exact xup_s
  have C7 : ∀ q, q ≠ a → q < nx → g7 q = h q := fun q h1 h2 => by rw [eg7]; exact (xup_n (by omega)).trans (C6 q h1 h2)
  obtain ⟨g8, eg8⟩ : ∃ z : xH, z = xup g7 (a) (.inr (6, [.null, .null, .ref (nx), .ref (nx + 1), .ref (nx + 2), .ref (nx + 3), .null, .null, .int 0, .int 0, .int 0, .int 0, .int 0])) := ⟨_, rfl⟩
  have A8 : g8 a = some (.inr (6, [.null, .null, .ref (nx), .ref (nx + 1), .ref (nx + 2), .ref (nx + 3), .null, .null, .int 0, .int 0, .int 0, .int 0, .int 0])) := by rw [eg8]; exact xup_s
  have B8_0 : g8 (nx) = some (.inl (0, 5, .inl (fun _ => 0))) := by rw [eg8]; exact (xup_n (by omega)).trans B7_0
  have B8_1 : g8 (nx + 1) = some (.inl (1, 500, .inl (fun _ => 0))) := by rw [eg8]; exact (xup_n (by omega)).trans B7_1
  have B8_2 : g8 (nx + 2) = some (.inl (0, 500, .inl (fun _ => 0))) := by rw [eg8]; exact (xup_n (by omega)).trans B7_2
  have B8_3 : g8 (nx + 3) = some (.inl (0, 32, .inl (fun _ => 0))) := by rw [eg8]; exact (xup_n (by omega)).trans B7_3
  have C8 : ∀ q, q ≠ a → q < nx → g8 q = h q := fun q h1 h2 => by rw [eg8]; exact (xup_n (by omega)).trans (C7 q h1 h2)
  obtain ⟨g9, eg9⟩ : ∃ z : xH, z = xup g8 (nx + 4) (.inl (0, 32, .inl (fun _ => 0))) := ⟨_, rfl⟩
  have A9 : g9 a = some (.inr (6, [.null, .null, .ref (nx), .ref (nx + 1), .ref (nx + 2), .ref (nx + 3), .null, .null, .int 0, .int 0, .int 0, .int 0, .int 0])) := by rw [eg9]; exact (xup_n (by omega)).trans A8
  have B9_0 : g9 (nx) = some (.inl (0, 5, .inl (fun _ => 0))) := by rw [eg9]; exact (xup_n (by omega)).trans B8_0
  have B9_1 : g9 (nx + 1) = some (.inl (1, 500, .inl (fun _ => 0))) := by rw [eg9]; exact (xup_n (by omega)).trans B8_1
  have B9_2 : g9 (nx + 2) = some (.inl (0, 500, .inl (fun _ => 0))) := by rw [eg9]; exact (xup_n (by omega)).trans B8_2
  have B9_3 : g9 (nx + 3) = some (.inl (0, 32, .inl (fun _ => 0))) := by rw [eg9]; exact (xup_n (by omega)).trans B8_3
  have B9_4 : g9 (nx + 4) = some (.inl (0, 32, .inl (fun _ => 0))) := by rw [eg9]; exact xup_s
  have C9 : ∀ q, q ≠ a → q < nx → g9 q = h q := fun q h1 h2 => by rw [eg9]; exact (xup_n (by omega)).trans (C8 q h1 h2)
  obtain ⟨g10, eg10⟩ : ∃ z : xH, z = xup g9 (a) (.inr (6, [.null, .null, .ref (nx), .ref (nx + 1), .ref (nx + 2), .ref (nx + 3), .ref (nx + 4), .null, .int 0, .int 0, .int 0, .int 0, .int 0])) := ⟨_, rfl⟩
  have A10 : g10 a = some (.inr (6, [.null, .null, .ref (nx), .ref (nx + 1), .ref (nx + 2), .ref (nx + 3), .ref (nx + 4), .null, .int 0, .int 0, .int 0, .int 0, .int 0])) := by rw [eg10]; exact xup_s
  have B10_0 : g10 (nx) = some (.inl (0, 5, .inl (fun _ => 0))) := by rw [eg10]; exact (xup_n (by omega)).trans B9_0
  have B10_1 : g10 (nx + 1) = some (.inl (1, 500, .inl (fun _ => 0))) := by rw [eg10]; exact (xup_n (by omega)).trans B9_1
  have B10_2 : g10 (nx + 2) = some (.inl (0, 500, .inl (fun _ => 0))) := by rw [eg10]; exact (xup_n (by omega)).trans B9_2
  have B10_3 : g10 (nx + 3) = some (.inl (0, 32, .inl (fun _ => 0))) := by rw [eg10]; exact (xup_n (by omega)).trans B9_3
  have B10_4 : g10 (nx + 4) = some (.inl (0, 32, .inl (fun _ => 0))) := by rw [eg10]; exact (xup_n (by omega)).trans B9_4
  have C10 : ∀ q, q ≠ a → q < nx → g10 q = h q := fun q h1 h2 => by rw [eg10]; exact (xup_n (by omega)).trans (C9 q h1 h2)
  obtain ⟨g11, eg11⟩ : ∃ z : xH, z = xup g10 (nx + 5) (.inl (0, 500, .inl (fun _ => 0))) := ⟨_, rfl⟩
  have A11 : g11 a = some (.inr (6, [.null, .null, .ref (nx), .ref (nx + 1), .ref (nx + 2), .ref (nx + 3), .ref (nx + 4), .null, .int 0, .int 0, .int 0, .int 0, .int 0])) := by rw [eg11]; exact (xup_n (by omega)).trans A10
  have B11_0 : g11 (nx) = some (.inl (0, 5, .inl (fun _ => 0))) := by rw [eg11]; exact (xup_n (by omega)).trans B10_0
  have B11_1 : g11 (nx + 1) = some (.inl (1, 500, .inl (fun _ => 0))) := by rw [eg11]; exact (xup_n (by omega)).trans B10_1
  have B11_2 : g11 (nx + 2) = some (.inl (0, 500, .inl (fun _ => 0))) := by rw [eg11]; exact (xup_n (by omega)).trans B10_2
  have B11_3 : g11 (nx + 3) = some (.inl (0, 32, .inl (fun _ => 0))) := by rw [eg11]; exact (xup_n (by omega)).trans B10_3
  have B11_4 : g11 (nx + 4) = some (.inl (0, 32, .inl (fun _ => 0))) := by rw [eg11]; exact (xup_n (by omega)).trans B10_4
  have B11_5 : g11 (nx + 5) = some (.inl (0, 500, .inl (fun _ => 0))) := by rw [eg11]; exact xup_s
  have C11 : ∀ q, q ≠ a → q < nx → g11 q = h q := fun q h1 h2 => by rw [eg11]; exact (xup_n (by omega)).trans (C10 q h1 h2)
  obtain ⟨g12, eg12⟩ : ∃ z : xH, z = xup g11 (a) (.inr (6, [.null, .null, .ref (nx), .ref (nx + 1), .ref (nx + 2), .ref (nx + 3), .ref (nx + 4), .ref (nx + 5), .int 0, .int 0, .int 0, .int 0, .int 0])) := ⟨_, rfl⟩
  have A12 : g12 a = some (.inr (6, [.null, .null, .ref (nx), .ref (nx + 1), .ref (nx + 2), .ref (nx + 3), .ref (nx + 4), .ref (nx + 5), .int 0, .int 0, .int 0, .int 0, .int 0])) := by rw [eg12]; exact xup_s
  have B12_0 : g12 (nx) = some (.inl (0, 5, .inl (fun _ => 0))) := by rw [eg12]; exact (xup_n (by omega)).trans B11_0
  have B12_1 : g12 (nx + 1) = some (.inl (1, 500, .inl (fun _ => 0))) := by rw [eg12]; exact (xup_n (by omega)).trans B11_1
  have B12_2 : g12 (nx + 2) = some (.inl (0, 500, .inl (fun _ => 0))) := by rw [eg12]; exact (xup_n (by omega)).trans B11_2
  have B12_3 : g12 (nx + 3) = some (.inl (0, 32, .inl (fun _ => 0))) := by rw [eg12]; exact (xup_n (by omega)).trans B11_3
  have B12_4 : g12 (nx + 4) = some (.inl (0, 32, .inl (fun _ => 0))) := by rw [eg12]; exact (xup_n (by omega)).trans B11_4
  have B12_5 : g12 (nx + 5) = some (.inl (0, 500, .inl (fun _ => 0))) := by rw [eg12]; exact (xup_n (by omega)).trans B11_5
  have C12 : ∀ q, q ≠ a → q < nx → g12 q = h q := fun q h1 h2 => by rw [eg12]; exact (xup_n (by omega)).trans (C11 q h1 h2)
  obtain ⟨g13, eg13⟩ : ∃ z : xH, z = xup g12 (a) (.inr (6, [.null, .null, .ref (nx), .ref (nx + 1), .ref (nx + 2), .ref (nx + 3), .ref (nx + 4), .ref (nx + 5), .int 0, .int 0, .int 0, .int 0, .int 0])) := ⟨_, rfl⟩
  have A13 : g13 a = some (.inr (6, [.null, .null, .ref (nx), .ref (nx + 1), .ref (nx + 2), .ref (nx + 3), .ref (nx + 4), .ref (nx + 5), .int 0, .int 0, .int 0, .int 0, .int 0])) := by rw [eg13]; exact xup_s
  have B13_0 : g13 (nx) = some (.inl (0, 5, .inl (fun _ => 0))) := by rw [eg13]; exact (xup_n (by omega)).trans B12_0
  have B13_1 : g13 (nx + 1) = some (.inl (1, 500, .inl (fun _ => 0))) := by rw [eg13]; exact (xup_n (by omega)).trans B12_1
  have B13_2 : g13 (nx + 2) = some (.inl (0, 500, .inl (fun _ => 0))) := by rw [eg13]; exact (xup_n (by omega)).trans B12_2
  have B13_3 : g13 (nx + 3) = some (.inl (0, 32, .inl (fun _ => 0))) := by rw [eg13]; exact (xup_n (by omega)).trans B12_3
  have B13_4 : g13 (nx + 4) = some (.inl (0, 32, .inl (fun _ => 0))) := by rw [eg13]; exact (xup_n (by omega)).trans B12_4
  have B13_5 : g13 (nx + 5) = some (.inl (0, 500, .inl (fun _ => 0))) := by rw [eg13]; exact (xup_n (by omega)).trans B12_5
  have C13 : ∀ q, q ≠ a → q < nx → g13 q = h q := fun q h1 h2 => by rw [eg13]; exact (xup_n (by omega)).trans (C12 q h1 h2)
  obtain ⟨g14, eg14⟩ : ∃ z : xH, z = xup g13 (a) (.inr (6, [.null, .null, .ref (nx), .ref (nx + 1), .ref (nx + 2), .ref (nx + 3), .ref (nx + 4), .ref (nx + 5), .int 0, .int 0, .int 0, .int 0, .int 0])) := ⟨_, rfl⟩
  have A14 : g14 a = some (.inr (6, [.null, .null, .ref (nx), .ref (nx + 1), .ref (nx + 2), .ref (nx + 3), .ref (nx + 4), .ref (nx + 5), .int 0, .int 0, .int 0, .int 0, .int 0])) := by rw [eg14]; exact xup_s
  have B14_0 : g14 (nx) = some (.inl (0, 5, .inl (fun _ => 0))) := by rw [eg14]; exact (xup_n (by omega)).trans B13_0
  have B14_1 : g14 (nx + 1) = some (.inl (1, 500, .inl (fun _ => 0))) := by rw [eg14]; exact (xup_n (by omega)).trans B13_1
  have B14_2 : g14 (nx + 2) = some (.inl (0, 500, .inl (fun _ => 0))) := by rw [eg14]; exact (xup_n (by omega)).trans B13_2
  have B14_3 : g14 (nx + 3) = some (.inl (0, 32, .inl (fun _ => 0))) := by rw [eg14]; exact (xup_n (by omega)).trans B13_3
  have B14_4 : g14 (nx + 4) = some (.inl (0, 32, .inl (fun _ => 0))) := by rw [eg14]; exact (xup_n (by omega)).trans B13_4
  have B14_5 : g14 (nx + 5) = some (.inl (0, 500, .inl (fun _ => 0))) := by rw [eg14]; exact (xup_n (by omega)).trans B13_5
  have C14 : ∀ q, q ≠ a → q < nx → g14 q = h q := fun q h1 h2 => by rw [eg14]; exact (xup_n (by omega)).trans (C13 q h1 h2)
  obtain ⟨g15, eg15⟩ : ∃ z : xH, z = xup g14 (a) (.inr (6, [.null, .null, .ref (nx), .ref (nx + 1), .ref (nx + 2), .ref (nx + 3), .ref (nx + 4), .ref (nx + 5), .int 0, .int 0, .int 0, .int 0, .int 0])) := ⟨_, rfl⟩
  have A15 : g15 a = some (.inr (6, [.null, .null, .ref (nx), .ref (nx + 1), .ref (nx + 2), .ref (nx + 3), .ref (nx + 4), .ref (nx + 5), .int 0, .int 0, .int 0, .int 0, .int 0])) := by rw [eg15]; exact xup_s
  have B15_0 : g15 (nx) = some (.inl (0, 5, .inl (fun _ => 0))) := by rw [eg15]; exact (xup_n (by omega)).trans B14_0
  have B15_1 : g15 (nx + 1) = some (.inl (1, 500, .inl (fun _ => 0))) := by rw [eg15]; exact (xup_n (by omega)).trans B14_1
  have B15_2 : g15 (nx + 2) = some (.inl (0, 500, .inl (fun _ => 0))) := by rw [eg15]; exact (xup_n (by omega)).trans B14_2
  have B15_3 : g15 (nx + 3) = some (.inl (0, 32, .inl (fun _ => 0))) := by rw [eg15]; exact (xup_n (by omega)).trans B14_3
  have B15_4 : g15 (nx + 4) = some (.inl (0, 32, .inl (fun _ => 0))) := by rw [eg15]; exact (xup_n (by omega)).trans B14_4
  have B15_5 : g15 (nx + 5) = some (.inl (0, 500, .inl (fun _ => 0))) := by rw [eg15]; exact (xup_n (by omega)).trans B14_5
  have C15 : ∀ q, q ≠ a → q < nx → g15 q = h q := fun q h1 h2 => by rw [eg15]; exact (xup_n (by omega)).trans (C14 q h1 h2)
  obtain ⟨g16, eg16⟩ : ∃ z : xH, z = xup g15 (a) (.inr (6, [.null, .null, .ref (nx), .ref (nx + 1), .ref (nx + 2), .ref (nx + 3), .ref (nx + 4), .ref (nx + 5), .int 0, .int 0, .int 0, .int 0, .int 0])) := ⟨_, rfl⟩
  have A16 : g16 a = some (.inr (6, [.null, .null, .ref (nx), .ref (nx + 1), .ref (nx + 2), .ref (nx + 3), .ref (nx + 4), .ref (nx + 5), .int 0, .int 0, .int 0, .int 0, .int 0])) := by rw [eg16]; exact xup_s
  have B16_0 : g16 (nx) = some (.inl (0, 5, .inl (fun _ => 0))) := by rw [eg16]; exact (xup_n (by omega)).trans B15_0
  have B16_1 : g16 (nx + 1) = some (.inl (1, 500, .inl (fun _ => 0))) := by rw [eg16]; exact (xup_n (by omega)).trans B15_1
  have B16_2 : g16 (nx + 2) = some (.inl (0, 500, .inl (fun _ => 0))) := by rw [eg16]; exact (xup_n (by omega)).trans B15_2
  have B16_3 : g16 (nx + 3) = some (.inl (0, 32, .inl (fun _ => 0))) := by rw [eg16]; exact (xup_n (by omega)).trans B15_3
  have B16_4 : g16 (nx + 4) = some (.inl (0, 32, .inl (fun _ => 0))) := by rw [eg16]; exact (xup_n (by omega)).trans B15_4
  have B16_5 : g16 (nx + 5) = some (.inl (0, 500, .inl (fun _ => 0))) := by rw [eg16]; exact (xup_n (by omega)).trans B15_5
  have C16 : ∀ q, q ≠ a → q < nx → g16 q = h q := fun q h1 h2 => by rw [eg16]; exact (xup_n (by omega)).trans (C15 q h1 h2)
  obtain ⟨g17, eg17⟩ : ∃ z : xH, z = xup g16 (a) (.inr (6, [.null, .null, .ref (nx), .ref (nx + 1), .ref (nx + 2), .ref (nx + 3), .ref (nx + 4), .ref (nx + 5), .int 0, .int 0, .int 0, .int 0, .int 0])) := ⟨_, rfl⟩
  have A17 : g17 a = some (.inr (6, [.null, .null, .ref (nx), .ref (nx + 1), .ref (nx + 2), .ref (nx + 3), .ref (nx + 4), .ref (nx + 5), .int 0, .int 0, .int 0, .int 0, .int 0])) := by rw [eg17]; exact xup_s
  have B17_0 : g17 (nx) = some (.inl (0, 5, .inl (fun _ => 0))) := by rw [eg17]; exact (xup_n (by omega)).trans B16_0
  have B17_1 : g17 (nx + 1) = some (.inl (1, 500, .inl (fun _ => 0))) := by rw [eg17]; exact (xup_n (by omega)).trans B16_1
  have B17_2 : g17 (nx + 2) = some (.inl (0, 500, .inl (fun _ => 0))) := by rw [eg17]; exact (xup_n (by omega)).trans B16_2
  have B17_3 : g17 (nx + 3) = some (.inl (0, 32, .inl (fun _ => 0))) := by rw [eg17]; exact (xup_n (by omega)).trans B16_3
  have B17_4 : g17 (nx + 4) = some (.inl (0, 32, .inl (fun _ => 0))) := by rw [eg17]; exact (xup_n (by omega)).trans B16_4
  have B17_5 : g17 (nx + 5) = some (.inl (0, 500, .inl (fun _ => 0))) := by rw [eg17]; exact (xup_n (by omega)).trans B16_5
  have C17 : ∀ q, q ≠ a → q < nx → g17 q = h q := fun q h1 h2 => by rw [eg17]; exact (xup_n (by omega)).trans (C16 q h1 h2)
  obtain ⟨g18, eg18⟩ : ∃ z : xH, z = xup g17 (a) (.inr (6, [.ref ah, .null, .ref (nx), .ref (nx + 1), .ref (nx + 2), .ref (nx + 3), .ref (nx + 4), .ref (nx + 5), .int 0, .int 0, .int 0, .int 0, .int 0])) := ⟨_, rfl⟩
  have A18 : g18 a = some (.inr (6, [.ref ah, .null, .ref (nx), .ref (nx + 1), .ref (nx + 2), .ref (nx + 3), .ref (nx + 4), .ref (nx + 5), .int 0, .int 0, .int 0, .int 0, .int 0])) := by rw [eg18]; exact xup_s
  have B18_0 : g18 (nx) = some (.inl (0, 5, .inl (fun _ => 0))) := by rw [eg18]; exact (xup_n (by omega)).trans B17_0
  have B18_1 : g18 (nx + 1) = some (.inl (1, 500, .inl (fun _ => 0))) := by rw [eg18]; exact (xup_n (by omega)).trans B17_1
  have B18_2 : g18 (nx + 2) = some (.inl (0, 500, .inl (fun _ => 0))) := by rw [eg18]; exact (xup_n (by omega)).trans B17_2
  have B18_3 : g18 (nx + 3) = some (.inl (0, 32, .inl (fun _ => 0))) := by rw [eg18]; exact (xup_n (by omega)).trans B17_3
  have B18_4 : g18 (nx + 4) = some (.inl (0, 32, .inl (fun _ => 0))) := by rw [eg18]; exact (xup_n (by omega)).trans B17_4
  have B18_5 : g18 (nx + 5) = some (.inl (0, 500, .inl (fun _ => 0))) := by rw [eg18]; exact (xup_n (by omega)).trans B17_5
  have C18 : ∀ q, q ≠ a → q < nx → g18 q = h q := fun q h1 h2 => by rw [eg18]; exact (xup_n (by omega)).trans (C17 q h1 h2)
  obtain ⟨g19, eg19⟩ : ∃ z : xH, z = xup g18 (a) (.inr (6, [.ref ah, .ref am, .ref (nx), .ref (nx + 1), .ref (nx + 2), .ref (nx + 3), .ref (nx + 4), .ref (nx + 5), .int 0, .int 0, .int 0, .int 0, .int 0])) := ⟨_, rfl⟩
  have A19 : g19 a = some (.inr (6, [.ref ah, .ref am, .ref (nx), .ref (nx + 1), .ref (nx + 2), .ref (nx + 3), .ref (nx + 4), .ref (nx + 5), .int 0, .int 0, .int 0, .int 0, .int 0])) := by rw [eg19]; exact xup_s
  have B19_0 : g19 (nx) = some (.inl (0, 5, .inl (fun _ => 0))) := by rw [eg19]; exact (xup_n (by omega)).trans B18_0
  have B19_1 : g19 (nx + 1) = some (.inl (1, 500, .inl (fun _ => 0))) := by rw [eg19]; exact (xup_n (by omega)).trans B18_1
  have B19_2 : g19 (nx + 2) = some (.inl (0, 500, .inl (fun _ => 0))) := by rw [eg19]; exact (xup_n (by omega)).trans B18_2
  have B19_3 : g19 (nx + 3) = some (.inl (0, 32, .inl (fun _ => 0))) := by rw [eg19]; exact (xup_n (by omega)).trans B18_3
  have B19_4 : g19 (nx + 4) = some (.inl (0, 32, .inl (fun _ => 0))) := by rw [eg19]; exact (xup_n (by omega)).trans B18_4
  have B19_5 : g19 (nx + 5) = some (.inl (0, 500, .inl (fun _ => 0))) := by rw [eg19]; exact (xup_n (by omega)).trans B18_5
  have C19 : ∀ q, q ≠ a → q < nx → g19 q = h q := fun q h1 h2 => by rw [eg19]; exact (xup_n (by omega)).trans (C18 q h1 h2)
  refine ⟨g19, ?_, A19, B19_0, B19_1, B19_2, B19_3, B19_4, B19_5, C19⟩
  refine xr_go i58_0 rfl ?_
  refine xr_obj i58_1 xc58_3 rfl (by omega) (Nat.le_of_ble_eq_true rfl) ?_
  refine xr_go i58_4 rfl ?_
  refine xr_go i58_5 rfl ?_
  refine xr_newa i58_6 rfl (n := 5) rfl (by omega) (fun z ez => ?_)
  obtain rfl : z = g1 := ez.trans eg1.symm
  refine xr_put i58_8 xf58_9 (by assumption) ⟨rfl, Nat.le_of_ble_eq_true rfl, rfl, rfl, by first | exact Or.inl rfl | exact Or.inr ⟨rfl, rfl, rfl⟩⟩ (fun z ez => ?_)
  obtain rfl : z = g2 := ez.trans eg2.symm
  refine xr_go i58_11 rfl ?_
  refine xr_go i58_12 rfl ?_
  refine xr_newa i58_15 rfl (n := 500) rfl (by omega) (fun z ez => ?_)
  obtain rfl : z = g3 := ez.trans eg3.symm
  refine xr_put i58_17 xf58_15 (by assumption) ⟨rfl, Nat.le_of_ble_eq_true rfl, rfl, rfl, by first | exact Or.inl rfl | exact Or.inr ⟨rfl, rfl, rfl⟩⟩ (fun z ez => ?_)
  obtain rfl : z = g4 := ez.trans eg4.symm
  refine xr_go i58_20 rfl ?_
  refine xr_go i58_21 rfl ?_
  refine xr_newa i58_24 rfl (n := 500) rfl (by omega) (fun z ez => ?_)
  obtain rfl : z = g5 := ez.trans eg5.symm
  refine xr_put i58_26 xf58_19 (by assumption) ⟨rfl, Nat.le_of_ble_eq_true rfl, rfl, rfl, by first | exact Or.inl rfl | exact Or.inr ⟨rfl, rfl, rfl⟩⟩ (fun z ez => ?_)
  obtain rfl : z = g6 := ez.trans eg6.symm
  refine xr_go i58_29 rfl ?_
  refine xr_go i58_30 rfl ?_
  refine xr_newa i58_32 rfl (n := 32) rfl (by omega) (fun z ez => ?_)
  obtain rfl : z = g7 := ez.trans eg7.symm
  refine xr_put i58_34 xf58_22 (by assumption) ⟨rfl, Nat.le_of_ble_eq_true rfl, rfl, rfl, by first | exact Or.inl rfl | exact Or.inr ⟨rfl, rfl, rfl⟩⟩ (fun z ez => ?_)
  obtain rfl : z = g8 := ez.trans eg8.symm
  refine xr_go i58_37 rfl ?_
  refine xr_go i58_38 rfl ?_
  refine xr_newa i58_40 rfl (n := 32) rfl (by omega) (fun z ez => ?_)
  obtain rfl : z = g9 := ez.trans eg9.symm
  refine xr_put i58_42 xf58_25 (by assumption) ⟨rfl, Nat.le_of_ble_eq_true rfl, rfl, rfl, by first | exact Or.inl rfl | exact Or.inr ⟨rfl, rfl, rfl⟩⟩ (fun z ez => ?_)
  obtain rfl : z = g10 := ez.trans eg10.symm
  refine xr_go i58_45 rfl ?_
  refine xr_go i58_46 rfl ?_
  refine xr_newa i58_49 rfl (n := 500) rfl (by omega) (fun z ez => ?_)
  obtain rfl : z = g11 := ez.trans eg11.symm
  refine xr_put i58_51 xf58_28 (by assumption) ⟨rfl, Nat.le_of_ble_eq_true rfl, rfl, rfl, by first | exact Or.inl rfl | exact Or.inr ⟨rfl, rfl, rfl⟩⟩ (fun z ez => ?_)
  obtain rfl : z = g12 := ez.trans eg12.symm
  refine xr_go i58_54 rfl ?_
  refine xr_go i58_55 rfl ?_
  refine xr_put i58_56 xf58_31 (by assumption) ⟨rfl, Nat.le_of_ble_eq_true rfl, rfl, rfl, by first | exact Or.inl rfl | exact Or.inr ⟨rfl, rfl, rfl⟩⟩ (fun z ez => ?_)
  obtain rfl : z = g13 := ez.trans eg13.symm
  refine xr_go i58_59 rfl ?_
  refine xr_go i58_60 rfl ?_
  refine xr_put i58_61 xf58_35 (by assumption) ⟨rfl, Nat.le_of_ble_eq_true rfl, rfl, rfl, by first | exact Or.inl rfl | exact Or.inr ⟨rfl, rfl, rfl⟩⟩ (fun z ez => ?_)
  obtain rfl : z = g14 := ez.trans eg14.symm
  refine xr_go i58_64 rfl ?_
  refine xr_go i58_65 rfl ?_
  refine xr_put i58_66 xf58_38 (by assumption) ⟨rfl, Nat.le_of_ble_eq_true rfl, rfl, rfl, by first | exact Or.inl rfl | exact Or.inr ⟨rfl, rfl, rfl⟩⟩ (fun z ez => ?_)
  obtain rfl : z = g15 := ez.trans eg15.symm
  refine xr_go i58_69 rfl ?_
  refine xr_go i58_70 rfl ?_
  refine xr_put i58_71 xf58_41 (by assumption) ⟨rfl, Nat.le_of_ble_eq_true rfl, rfl, rfl, by first | exact Or.inl rfl | exact Or.inr ⟨rfl, rfl, rfl⟩⟩ (fun z ez => ?_)
  obtain rfl : z = g16 := ez.trans eg16.symm
  refine xr_go i58_74 rfl ?_
  refine xr_go i58_75 rfl ?_
  refine xr_put i58_76 xf58_44 (by assumption) ⟨rfl, Nat.le_of_ble_eq_true rfl, rfl, rfl, by first | exact Or.inl rfl | exact Or.inr ⟨rfl, rfl, rfl⟩⟩ (fun z ez => ?_)
  obtain rfl : z = g17 := ez.trans eg17.symm
  refine xr_go i58_79 rfl ?_
  refine xr_go i58_80 rfl ?_
  refine xr_put i58_81 xf58_47 (by assumption) ⟨rfl, Nat.le_of_ble_eq_true rfl, rfl, rfl, by first | exact Or.inl rfl | exact Or.inr ⟨rfl, rfl, rfl⟩⟩ (fun z ez => ?_)
  obtain rfl : z = g18 := ez.trans eg18.symm
  refine xr_go i58_84 rfl ?_
  refine xr_go i58_85 rfl ?_
  refine xr_put i58_86 xf58_51 (by assumption) ⟨rfl, Nat.le_of_ble_eq_true rfl, rfl, rfl, by first | exact Or.inl rfl | exact Or.inr ⟨rfl, rfl, rfl⟩⟩ (fun z ez => ?_)
  obtain rfl : z = g19 := ez.trans eg19.symm
  exact xr_end i58_89 rfl
theorem c_69 {G : xG} {d : Nat} {h : xH} {nx sl a : Nat} (ha : h a = some (.inr (7, [.null, .null, .int 0]))) (hn : a < nx) (hd : 1 ≤ d) :
    ∃ h', xRun G d 69 (0, [some (.ref a)], [], (h, nx, sl)) (none, (h', nx + 2, sl + 5 + 5)) ∧ h' a = some (.inr (7, [.ref (nx), .ref (nx + 1), .int 0])) ∧ h' (nx) = some (.inl (0, 5, .inl (fun _ => 0))) ∧ h' (nx + 1) = some (.inl (0, 5, .inl (fun _ => 0))) ∧ ∀ q, q ≠ a → q < nx → h' q = h q := by
  have hC0 : ∀ q, q ≠ a → q < nx → h q = h q := fun _ _ _ => rfl
  obtain ⟨g1, eg1⟩ : ∃ z : xH, z = xup h (nx) (.inl (0, 5, .inl (fun _ => 0))) := ⟨_, rfl⟩
  have A1 : g1 a = some (.inr (7, [.null, .null, .int 0])) := by rw [eg1]; exact (xup_n (by omega)).trans ha
  have B1_0 : g1 (nx) = some (.inl (0, 5, .inl (fun _ => 0))) := by rw [eg1]; exact xup_s
  have C1 : ∀ q, q ≠ a → q < nx → g1 q = h q := fun q h1 h2 => by rw [eg1]; exact (xup_n (by omega)).trans (hC0 q h1 h2)
  obtain ⟨g2, eg2⟩ : ∃ z : xH, z = xup g1 (a) (.inr (7, [.ref (nx), .null, .int 0])) := ⟨_, rfl⟩
  have A2 : g2 a = some (.inr (7, [.ref (nx), .null, .int 0])) := by rw [eg2]; exact xup_s
  have B2_0 : g2 (nx) = some (.inl (0, 5, .inl (fun _ => 0))) := by rw [eg2]; exact (xup_n (by omega)).trans B1_0
  have C2 : ∀ q, q ≠ a → q < nx → g2 q = h q := fun q h1 h2 => by rw [eg2]; exact (xup_n (by omega)).trans (C1 q h1 h2)
  obtain ⟨g3, eg3⟩ : ∃ z : xH, z = xup g2 (nx + 1) (.inl (0, 5, .inl (fun _ => 0))) := ⟨_, rfl⟩
  have A3 : g3 a = some (.inr (7, [.ref (nx), .null, .int 0])) := by rw [eg3]; exact (xup_n (by omega)).trans A2
  have B3_0 : g3 (nx) = some (.inl (0, 5, .inl (fun _ => 0))) := by rw [eg3]; exact (xup_n (by omega)).trans B2_0
  have B3_1 : g3 (nx + 1) = some (.inl (0, 5, .inl (fun _ => 0))) := by rw [eg3]; exact xup_s
  have C3 : ∀ q, q ≠ a → q < nx → g3 q = h q := fun q h1 h2 => by rw [eg3]; exact (xup_n (by omega)).trans (C2 q h1 h2)
  obtain ⟨g4, eg4⟩ : ∃ z : xH, z = xup g3 (a) (.inr (7, [.ref (nx), .ref (nx + 1), .int 0])) := ⟨_, rfl⟩
  have A4 : g4 a = some (.inr (7, [.ref (nx), .ref (nx + 1), .int 0])) := by rw [eg4]; exact xup_s
  have B4_0 : g4 (nx) = some (.inl (0, 5, .inl (fun _ => 0))) := by rw [eg4]; exact (xup_n (by omega)).trans B3_0
  have B4_1 : g4 (nx + 1) = some (.inl (0, 5, .inl (fun _ => 0))) := by rw [eg4]; exact (xup_n (by omega)).trans B3_1
  have C4 : ∀ q, q ≠ a → q < nx → g4 q = h q := fun q h1 h2 => by rw [eg4]; exact (xup_n (by omega)).trans (C3 q h1 h2)
  obtain ⟨g5, eg5⟩ : ∃ z : xH, z = xup g4 (a) (.inr (7, [.ref (nx), .ref (nx + 1), .int 0])) := ⟨_, rfl⟩
  have A5 : g5 a = some (.inr (7, [.ref (nx), .ref (nx + 1), .int 0])) := by rw [eg5]; exact xup_s
  have B5_0 : g5 (nx) = some (.inl (0, 5, .inl (fun _ => 0))) := by rw [eg5]; exact (xup_n (by omega)).trans B4_0
  have B5_1 : g5 (nx + 1) = some (.inl (0, 5, .inl (fun _ => 0))) := by rw [eg5]; exact (xup_n (by omega)).trans B4_1
  have C5 : ∀ q, q ≠ a → q < nx → g5 q = h q := fun q h1 h2 => by rw [eg5]; exact (xup_n (by omega)).trans (C4 q h1 h2)
  refine ⟨g5, ?_, A5, B5_0, B5_1, C5⟩
  refine xr_go i69_0 rfl ?_
  refine xr_obj i69_1 xc69_3 rfl (by omega) (Nat.le_of_ble_eq_true rfl) ?_
  refine xr_go i69_4 rfl ?_
  refine xr_go i69_5 rfl ?_
  refine xr_newa i69_6 rfl (n := 5) rfl (by omega) (fun z ez => ?_)
  obtain rfl : z = g1 := ez.trans eg1.symm
  refine xr_put i69_8 xf69_9 (by assumption) ⟨rfl, Nat.le_of_ble_eq_true rfl, rfl, rfl, by first | exact Or.inl rfl | exact Or.inr ⟨rfl, rfl, rfl⟩⟩ (fun z ez => ?_)
  obtain rfl : z = g2 := ez.trans eg2.symm
  refine xr_go i69_11 rfl ?_
  refine xr_go i69_12 rfl ?_
  refine xr_newa i69_13 rfl (n := 5) rfl (by omega) (fun z ez => ?_)
  obtain rfl : z = g3 := ez.trans eg3.symm
  refine xr_put i69_15 xf69_15 (by assumption) ⟨rfl, Nat.le_of_ble_eq_true rfl, rfl, rfl, by first | exact Or.inl rfl | exact Or.inr ⟨rfl, rfl, rfl⟩⟩ (fun z ez => ?_)
  obtain rfl : z = g4 := ez.trans eg4.symm
  refine xr_go i69_18 rfl ?_
  refine xr_go i69_19 rfl ?_
  refine xr_put i69_20 xf69_18 (by assumption) ⟨rfl, Nat.le_of_ble_eq_true rfl, rfl, rfl, by first | exact Or.inl rfl | exact Or.inr ⟨rfl, rfl, rfl⟩⟩ (fun z ez => ?_)
  obtain rfl : z = g5 := ez.trans eg5.symm
  exact xr_end i69_23 rfl
