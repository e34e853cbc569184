/-! ===== the class: a new object ===== -/
section XINIT
variable {G : xG} {d : Nat} {h : xH} {nx sl : Nat}
theorem c_22 {a t : Nat} (ha : h a = some (.inr (2, [.null, .null, .null, .null, .int 0, .int 0, .int 0, .int 0]))) (hn : a < nx) (hd : 2 ≤ d) : ∃ h', xRun G d 22 (0, [some (.ref a), some (.ref t)], [], (h, nx, sl)) (none, (h', nx + 6, sl + 4 + 401 + 401 + 401 + 406 + 406)) ∧ h' a = some (.inr (2, [.ref t, .ref nx, .ref (nx + 4), .ref (nx + 5), .int 0, .int 0, .int 0, .int (-2)])) ∧ h' nx = some (.inr (3, [.ref (nx + 1), .ref (nx + 2), .ref (nx + 3), .int 0])) ∧ h' (nx + 1) = some (.inl (0, 401, .inl (fun _ => 0))) ∧ h' (nx + 2) = some (.inl (0, 401, .inl (fun _ => 0))) ∧ h' (nx + 3) = some (.inl (0, 401, .inl (fun _ => 0))) ∧ h' (nx + 4) = some (.inl (0, 406, .inl (fun _ => 0))) ∧ h' (nx + 5) = some (.inl (0, 406, .inl (fun _ => 0))) ∧ ∀ q, q ≠ a → q < nx → h' q = h q := by
  obtain ⟨g1, e1⟩ : ∃ z : xH, z = xup h nx (.inr (3, [.null, .null, .null, .int 0])) := ⟨_, rfl⟩
  have a1 : g1 nx = some (.inr (3, [.null, .null, .null, .int 0])) := by rw [e1]; exact xup_s
  obtain ⟨g2, r2, b1, b2, b3, b4, b5⟩ := c_36 (G := G) (d := d - 1) (nx := nx + 1) (sl := sl + 4) a1 (by omega) (by omega)
  have b6 : g2 a = some (.inr (2, [.null, .null, .null, .null, .int 0, .int 0, .int 0, .int 0])) := by
    rw [b5 a (by omega) (by omega), e1]
    exact (xup_n (by omega)).trans ha
  have b7 : ∀ q, q ≠ a → q < nx → g2 q = h q := fun q h1 h2 => by
    rw [b5 q (by omega) (by omega), e1]
    exact xup_n (by omega)
  obtain ⟨g3, e3⟩ : ∃ z : xH, z = xup g2 a (.inr (2, [.null, .ref nx, .null, .null, .int 0, .int 0, .int 0, .int 0])) := ⟨_, rfl⟩
  have d3 : g3 a = some (.inr (2, [.null, .ref nx, .null, .null, .int 0, .int 0, .int 0, .int 0])) := by rw [e3]; exact xup_s
  obtain ⟨g4, e4⟩ : ∃ z : xH, z = xup g3 (nx + 4) (.inl (0, 406, .inl (fun _ => 0))) := ⟨_, rfl⟩
  have d4 : g4 a = some (.inr (2, [.null, .ref nx, .null, .null, .int 0, .int 0, .int 0, .int 0])) := by rw [e4]; exact (xup_n (by omega)).trans d3
  obtain ⟨g5, e5⟩ : ∃ z : xH, z = xup g4 a (.inr (2, [.null, .ref nx, .ref (nx + 4), .null, .int 0, .int 0, .int 0, .int 0])) := ⟨_, rfl⟩
  have d5 : g5 a = some (.inr (2, [.null, .ref nx, .ref (nx + 4), .null, .int 0, .int 0, .int 0, .int 0])) := by rw [e5]; exact xup_s
  obtain ⟨g6, e6⟩ : ∃ z : xH, z = xup g5 (nx + 5) (.inl (0, 406, .inl (fun _ => 0))) := ⟨_, rfl⟩
  have d6 : g6 a = some (.inr (2, [.null, .ref nx, .ref (nx + 4), .null, .int 0, .int 0, .int 0, .int 0])) := by rw [e6]; exact (xup_n (by omega)).trans d5
  obtain ⟨g7, e7⟩ : ∃ z : xH, z = xup g6 a (.inr (2, [.null, .ref nx, .ref (nx + 4), .ref (nx + 5), .int 0, .int 0, .int 0, .int 0])) := ⟨_, rfl⟩
  have d7 : g7 a = some (.inr (2, [.null, .ref nx, .ref (nx + 4), .ref (nx + 5), .int 0, .int 0, .int 0, .int 0])) := by rw [e7]; exact xup_s
  obtain ⟨g8, e8⟩ : ∃ z : xH, z = xup g7 a (.inr (2, [.ref t, .ref nx, .ref (nx + 4), .ref (nx + 5), .int 0, .int 0, .int 0, .int (-2)])) := ⟨_, rfl⟩
  have o8 : ∀ q, q ≠ a → q ≠ nx + 4 → q ≠ nx + 5 → g8 q = g2 q := fun q h1 h2 h3 => by
    rw [e8, xup_n h1, e7, xup_n h1, e6, xup_n h3, e5, xup_n h1, e4, xup_n h2, e3, xup_n h1]
  refine ⟨g8, ?_, by rw [e8]; exact xup_s, (o8 _ (by omega) (by omega) (by omega)).trans b1, (o8 _ (by omega) (by omega) (by omega)).trans b2, (o8 _ (by omega) (by omega) (by omega)).trans b3, (o8 _ (by omega) (by omega) (by omega)).trans b4, ?_, ?_, fun q h1 h2 => (o8 _ (by omega) (by omega) (by omega)).trans (b7 q h1 h2)⟩
  · refine xr_go i22_0 rfl ?_
    refine xr_obj i22_1 xc22_5 rfl (by omega) (Nat.le_of_ble_eq_true rfl) ?_
    refine xr_go i22_4 rfl ?_
    refine xr_new i22_5 xk22_11 rfl rfl rfl (fun z1 ez1 => ?_)
    obtain rfl : z1 = g1 := ez1.trans e1.symm
    refine xr_go i22_8 rfl ?_
    refine xr_I i22_9 xc22_13 ⟨by first | exact Or.inl rfl | exact Or.inr rfl, rfl⟩ xa_36 rfl rfl (Nat.le_of_ble_eq_true rfl) (by omega) ⟨Nat.le_of_ble_eq_true rfl, Nat.le_of_ble_eq_true rfl⟩ (r2) ?_
    refine xr_put i22_12 xf22_14 (by assumption) ⟨rfl, Nat.le_of_ble_eq_true rfl, rfl, rfl, by first | exact Or.inl rfl | exact Or.inr ⟨rfl, rfl, rfl⟩⟩ (fun z3 ez3 => ?_)
    obtain rfl : z3 = g3 := ez3.trans e3.symm
    refine xr_go i22_15 rfl ?_
    refine xr_go i22_16 rfl ?_
    refine xr_newa i22_19 rfl (n := 406) rfl (by omega) (fun z4 ez4 => ?_)
    obtain rfl : z4 = g4 := ez4.trans e4.symm
    refine xr_put i22_21 xf22_18 (by assumption) ⟨rfl, Nat.le_of_ble_eq_true rfl, rfl, rfl, by first | exact Or.inl rfl | exact Or.inr ⟨rfl, rfl, rfl⟩⟩ (fun z5 ez5 => ?_)
    obtain rfl : z5 = g5 := ez5.trans e5.symm
    refine xr_go i22_24 rfl ?_
    refine xr_go i22_25 rfl ?_
    refine xr_newa i22_28 rfl (n := 406) rfl (by omega) (fun z6 ez6 => ?_)
    obtain rfl : z6 = g6 := ez6.trans e6.symm
    refine xr_put i22_30 xf22_22 (by assumption) ⟨rfl, Nat.le_of_ble_eq_true rfl, rfl, rfl, by first | exact Or.inl rfl | exact Or.inr ⟨rfl, rfl, rfl⟩⟩ (fun z7 ez7 => ?_)
    obtain rfl : z7 = g7 := ez7.trans e7.symm
    refine xr_go i22_33 rfl ?_
    refine xr_go i22_34 rfl ?_
    refine xr_put i22_35 xf22_25 (by assumption) ⟨rfl, Nat.le_of_ble_eq_true rfl, rfl, rfl, by first | exact Or.inl rfl | exact Or.inr ⟨rfl, rfl, rfl⟩⟩ (fun y1 ey1 => ?_)
    have f1 : y1 a = some (.inr (2, [.null, .ref nx, .ref (nx + 4), .ref (nx + 5), .int 0, .int 0, .int 0, .int 0])) := by rw [ey1]; exact xup_s
    refine xr_go i22_38 rfl ?_
    refine xr_go i22_39 rfl ?_
    refine xr_put i22_40 xf22_29 (by assumption) ⟨rfl, Nat.le_of_ble_eq_true rfl, rfl, rfl, by first | exact Or.inl rfl | exact Or.inr ⟨rfl, rfl, rfl⟩⟩ (fun y2 ey2 => ?_)
    have f2 : y2 a = some (.inr (2, [.null, .ref nx, .ref (nx + 4), .ref (nx + 5), .int 0, .int 0, .int 0, .int 0])) := by rw [ey2]; exact xup_s
    refine xr_go i22_43 rfl ?_
    refine xr_go i22_44 rfl ?_
    refine xr_put i22_45 xf22_32 (by assumption) ⟨rfl, Nat.le_of_ble_eq_true rfl, rfl, rfl, by first | exact Or.inl rfl | exact Or.inr ⟨rfl, rfl, rfl⟩⟩ (fun y3 ey3 => ?_)
    have f3 : y3 a = some (.inr (2, [.null, .ref nx, .ref (nx + 4), .ref (nx + 5), .int 0, .int 0, .int 0, .int 0])) := by rw [ey3]; exact xup_s
    refine xr_go i22_48 rfl ?_
    refine xr_go i22_49 rfl ?_
    refine xr_put i22_51 xf22_35 (by assumption) ⟨rfl, Nat.le_of_ble_eq_true rfl, rfl, rfl, by first | exact Or.inl rfl | exact Or.inr ⟨rfl, rfl, rfl⟩⟩ (fun y4 ey4 => ?_)
    have f4 : y4 a = some (.inr (2, [.null, .ref nx, .ref (nx + 4), .ref (nx + 5), .int 0, .int 0, .int 0, .int (-2)])) := by rw [ey4]; exact xup_s
    refine xr_go i22_54 rfl ?_
    refine xr_go i22_55 rfl ?_
    refine xr_put i22_56 xf22_38 (by assumption) ⟨rfl, Nat.le_of_ble_eq_true rfl, rfl, rfl, by first | exact Or.inl rfl | exact Or.inr ⟨rfl, rfl, rfl⟩⟩ (fun y5 ey5 => ?_)
    have f5 : y5 = g8 := by
      rw [ey5, ey4, ey3, ey2, ey1, xup_same, xup_same, xup_same, xup_same, e8]
      rfl
    rw [f5]
    exact xr_end i22_59 rfl
  · rw [e8, xup_n (by omega), e7, xup_n (by omega), e6, xup_n (by omega), e5, xup_n (by omega), e4]
    exact xup_s
  · rw [e8, xup_n (by omega), e7, xup_n (by omega), e6]
    exact xup_s
/-- a new server, a new session -/
theorem xSI_new {B a : Nat} {h : xH} (h0 : h a = some (.inr (6, [.ref (B + 10), .ref (B + 13), .ref (a + 1), .ref (a + 2), .ref (a + 3), .ref (a + 4), .ref (a + 5), .ref (a + 6), .int 0, .int 0, .int 0, .int 0, .int 0]))) (h1 : h (a + 1) = some (.inl (0, 5, .inl (fun _ => 0)))) (h2 : h (a + 2) = some (.inl (1, 500, .inl (fun _ => 0)))) (h3 : h (a + 3) = some (.inl (0, 500, .inl (fun _ => 0)))) (h4 : h (a + 4) = some (.inl (0, 32, .inl (fun _ => 0)))) (h5 : h (a + 5) = some (.inl (0, 32, .inl (fun _ => 0)))) (h6 : h (a + 6) = some (.inl (0, 500, .inl (fun _ => 0)))) : xSI B a 0 0 (fun _ => 0) (fun _ => 0) (fun _ => []) (fun _ => 0) 0 0 0 (fun _ => 0) h := by
  refine ⟨0, fun _ => 0, [], fun _ => 0, fun _ => 0, fun _ => 0, ⟨fun _ => 0, ⟨h0, h1, h2, h3, h4, h5, h6⟩, fun j hj => by simp at hj⟩, ⟨List.Pairwise.nil, fun w => ⟨fun z => by simp at z, fun z => by omega⟩⟩, fun w => Or.inl rfl, fun w hw => by simp at hw, fun r hr => by omega, Nat.le_refl _, Nat.le_refl _, by omega, fun w hw => by simp at hw, fun j hj => ⟨Nat.two_pow_pos 31, fun w hw => by simp at hw, Or.inl rfl⟩, rfl, Nat.le_refl _, fun z => absurd rfl z, fun p hp => by omega, fun k hk => ⟨rfl, rfl⟩, fun w => Nat.zero_le _⟩
end XINIT

