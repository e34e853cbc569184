/-! ===== the class: a new object, its servers and sessions ===== -/
def xNS (B a : Nat) (h : xH) : Prop := h a = some (.inr (6, [.ref (B + 10), .ref (B + 13), .ref (a + 1), .ref (a + 2), .ref (a + 3), .ref (a + 4), .ref (a + 5), .ref (a + 6), .int 0, .int 0, .int 0, .int 0, .int 0])) ∧ h (a + 1) = some (.inl (0, 5, .inl (fun _ => 0))) ∧ h (a + 2) = some (.inl (1, 500, .inl (fun _ => 0))) ∧ h (a + 3) = some (.inl (0, 500, .inl (fun _ => 0))) ∧ h (a + 4) = some (.inl (0, 32, .inl (fun _ => 0))) ∧ h (a + 5) = some (.inl (0, 32, .inl (fun _ => 0))) ∧ h (a + 6) = some (.inl (0, 500, .inl (fun _ => 0)))
theorem xNS_kept {B a : Nat} {h h' : xH} (hS : xNS B a h) (hk : ∀ q, a ≤ q → q ≤ a + 6 → h' q = h q) : xNS B a h' := by
  obtain ⟨h0, h1, h2, h3, h4, h5, h6⟩ := hS
  exact ⟨(hk _ (by omega) (by omega)).trans h0, (hk _ (by omega) (by omega)).trans h1, (hk _ (by omega) (by omega)).trans h2, (hk _ (by omega) (by omega)).trans h3, (hk _ (by omega) (by omega)).trans h4, (hk _ (by omega) (by omega)).trans h5, (hk _ (by omega) (by omega)).trans h6⟩
def xNE (a : Nat) (h : xH) : Prop := h a = some (.inr (7, [.ref (a + 1), .ref (a + 2), .int 0])) ∧ h (a + 1) = some (.inl (0, 5, .inl (fun _ => 0))) ∧ h (a + 2) = some (.inl (0, 5, .inl (fun _ => 0)))
theorem xNE_kept {a : Nat} {h h' : xH} (hS : xNE a h) (hk : ∀ q, a ≤ q → q ≤ a + 2 → h' q = h q) : xNE a h' := by
  obtain ⟨h0, h1, h2⟩ := hS
  exact ⟨(hk _ (by omega) (by omega)).trans h0, (hk _ (by omega) (by omega)).trans h1, (hk _ (by omega) (by omega)).trans h2⟩
section XINIT2
variable {G : xG} {d : Nat} {B : Nat}
theorem c0_servers (hd : 2 ≤ d) : ∀ (n i : Nat) (h : xH) (sl : Nat), i + n = 5 → h B = some (.inr (0, [.ref (B + 1), .ref (B + 3), .ref (B + 10), .ref (B + 17), .null, .null])) → (∃ sf, h (B + 17) = some (.inl (4, 5, .inr (.inr (.inr (.inr sf))))) ∧ ∀ k, k < i → sf k = some (B + 18 + 7 * k)) → (∀ k, k < i → xNS B (B + 18 + 7 * k) h) →
    ∃ h', (∃ sf, h' (B + 17) = some (.inl (4, 5, .inr (.inr (.inr (.inr sf))))) ∧ ∀ k, k < 5 → sf k = some (B + 18 + 7 * k)) ∧ (∀ k, k < 5 → xNS B (B + 18 + 7 * k) h') ∧ (∀ q, q < B + 17 → h' q = h q) ∧ ∀ res, xRun G d 0 (88, [some (.ref B), some (.ref (B + 13)), some (.int (nI 5))], [], (h', B + 53, sl + 1582 * n)) res → xRun G d 0 (59, [some (.ref B), some (.ref (B + 13)), some (.int (nI i))], [], (h, B + 18 + 7 * i, sl)) res := by
  intro n
  induction n with
  | zero =>
    intro i h sl hi hB hsf hS
    have : i = 5 := by omega
    subst this
    refine ⟨h, hsf, hS, fun _ _ => rfl, fun res hres => ?_⟩
    refine xr_go i0_59 rfl ?_
    refine xr_go i0_60 rfl ?_
    refine xr_icmp_geT i0_61 (t := 88) (by decide) (show nI 5 ≤ nI 5 from nI_le (by omega) (by omega)) ?_
    exact hres
  | succ n ih =>
    intro i h sl hi hB hsf hS
    obtain ⟨sf, s1, s2⟩ := hsf
    obtain ⟨g1, e1⟩ : ∃ z : xH, z = xup h (B + 18 + 7 * i) (.inr (6, [.null, .null, .null, .null, .null, .null, .null, .null, .int 0, .int 0, .int 0, .int 0, .int 0])) := ⟨_, rfl⟩
    have a1 : g1 (B + 18 + 7 * i) = some (.inr (6, [.null, .null, .null, .null, .null, .null, .null, .null, .int 0, .int 0, .int 0, .int 0, .int 0])) := by rw [e1]; exact xup_s
    obtain ⟨g2, r2, b0, b1, b2, b3, b4, b5, b6, b7⟩ := c_58 (G := G) (d := d - 1) (nx := B + 18 + 7 * i + 1) (sl := sl + 13) (ah := B + 10) (am := B + 13) a1 (by omega) (by omega)
    have o2 : ∀ q, q < B + 18 + 7 * i → g2 q = h q := fun q hq => by
      rw [b7 q (by omega) (by omega), e1]
      exact xup_n (by omega)
    obtain ⟨g3, e3⟩ : ∃ z : xH, z = xup g2 (B + 17) (.inl (4, 5, .inr (.inr (.inr (.inr (va_up sf i (some (B + 18 + 7 * i)))))))) := ⟨_, rfl⟩
    have o3 : ∀ q, q ≠ B + 17 → g3 q = g2 q := fun q hq => by rw [e3]; exact xup_n hq
    obtain ⟨h', p1, p2, p3, p4⟩ := ih (i + 1) g3 (sl + 1582) (by omega) ((o3 _ (by omega)).trans ((o2 _ (by omega)).trans hB)) ⟨va_up sf i (some (B + 18 + 7 * i)), by rw [e3]; exact xup_s, fun k hk => by
      by_cases e : k = i
      · rw [e, vu_at]
      · rw [vu_ne e]
        exact s2 k (by omega)⟩ (fun k hk => by
      by_cases e : k = i
      · rw [e]
        exact xNS_kept ⟨b0, b1, b2, b3, b4, b5, b6⟩ (fun q h1 h2 => o3 q (by omega))
      · exact xNS_kept (hS k (by omega)) (fun q h1 h2 => (o3 q (by omega)).trans (o2 q (by omega))))
    refine ⟨h', p1, p2, fun q hq => (p3 q hq).trans ((o3 q (by omega)).trans (o2 q (by omega))), fun res hres => ?_⟩
    have hres' := p4 res (by rw [show sl + 1582 + 1582 * n = sl + 1582 * (n + 1) by omega]; exact hres)
    have c1 : g1 B = some (.inr (0, [.ref (B + 1), .ref (B + 3), .ref (B + 10), .ref (B + 17), .null, .null])) := by rw [e1]; exact (xup_n (by omega)).trans hB
    have c2 : g2 (B + 17) = some (.inl (4, 5, .inr (.inr (.inr (.inr sf))))) := (o2 _ (by omega)).trans s1
    refine xr_go i0_59 rfl ?_
    refine xr_go i0_60 rfl ?_
    refine xr_icmp_geF i0_61 (t := 88) (by decide) (show ¬ nI 5 ≤ nI i from nI_ge (by omega) (by omega)) ?_
    refine xr_go i0_64 rfl ?_
    refine xr_get i0_65 xf0_37 (by assumption) rfl rfl ?_
    refine xr_go i0_68 rfl ?_
    refine xr_new i0_69 xk0_35 rfl rfl rfl (fun z1 ez1 => ?_)
    obtain rfl : z1 = g1 := ez1.trans e1.symm
    refine xr_go i0_72 rfl ?_
    refine xr_go i0_73 rfl ?_
    refine xr_get i0_74 xf0_28 (by assumption) rfl rfl ?_
    refine xr_go i0_77 rfl ?_
    refine xr_I i0_78 xc0_41 ⟨by first | exact Or.inl rfl | exact Or.inr rfl, rfl⟩ xa_58 rfl rfl (Nat.le_of_ble_eq_true rfl) (by omega) ⟨Nat.le_of_ble_eq_true rfl, Nat.le_of_ble_eq_true rfl⟩ (r2) ?_
    refine xr_aast i0_81 c2 (j := i) rfl (by omega) (by omega) b0 rfl (fun z3 ez3 => ?_)
    obtain rfl : z3 = g3 := ez3.trans e3.symm
    refine xr_inc1 i0_82 rfl rfl ?_
    refine xr_goto i0_85 (t := 59) (by decide) ?_
    exact hres'
theorem c0_sessions (hd : 2 ≤ d) : ∀ (n i : Nat) (h : xH) (sl : Nat), i + n = 8 → h B = some (.inr (0, [.ref (B + 1), .ref (B + 3), .ref (B + 10), .ref (B + 17), .ref (B + 53), .null])) → (∃ sf, h (B + 53) = some (.inl (5, 8, .inr (.inr (.inr (.inr sf))))) ∧ ∀ k, k < i → sf k = some (B + 54 + 3 * k)) → (∀ k, k < i → xNE (B + 54 + 3 * k) h) →
    ∃ h', (∃ sf, h' (B + 53) = some (.inl (5, 8, .inr (.inr (.inr (.inr sf))))) ∧ ∀ k, k < 8 → sf k = some (B + 54 + 3 * k)) ∧ (∀ k, k < 8 → xNE (B + 54 + 3 * k) h') ∧ (∀ q, q < B + 53 → h' q = h q) ∧ ∀ res, xRun G d 0 (124, [some (.ref B), some (.ref (B + 13)), some (.int (nI 8))], [], (h', B + 78, sl + 13 * n)) res → xRun G d 0 (99, [some (.ref B), some (.ref (B + 13)), some (.int (nI i))], [], (h, B + 54 + 3 * i, sl)) res := by
  intro n
  induction n with
  | zero =>
    intro i h sl hi hB hsf hS
    have : i = 8 := by omega
    subst this
    refine ⟨h, hsf, hS, fun _ _ => rfl, fun res hres => ?_⟩
    refine xr_go i0_99 rfl ?_
    refine xr_go i0_100 rfl ?_
    refine xr_icmp_geT i0_102 (t := 124) (by decide) (show nI 8 ≤ nI 8 from nI_le (by omega) (by omega)) ?_
    exact hres
  | succ n ih =>
    intro i h sl hi hB hsf hS
    obtain ⟨sf, s1, s2⟩ := hsf
    obtain ⟨g1, e1⟩ : ∃ z : xH, z = xup h (B + 54 + 3 * i) (.inr (7, [.null, .null, .int 0])) := ⟨_, rfl⟩
    have a1 : g1 (B + 54 + 3 * i) = some (.inr (7, [.null, .null, .int 0])) := by rw [e1]; exact xup_s
    obtain ⟨g2, r2, b0, b1, b2, b7⟩ := c_69 (G := G) (d := d - 1) (nx := B + 54 + 3 * i + 1) (sl := sl + 3) a1 (by omega) (by omega)
    have o2 : ∀ q, q < B + 54 + 3 * i → g2 q = h q := fun q hq => by
      rw [b7 q (by omega) (by omega), e1]
      exact xup_n (by omega)
    obtain ⟨g3, e3⟩ : ∃ z : xH, z = xup g2 (B + 53) (.inl (5, 8, .inr (.inr (.inr (.inr (va_up sf i (some (B + 54 + 3 * i)))))))) := ⟨_, rfl⟩
    have o3 : ∀ q, q ≠ B + 53 → g3 q = g2 q := fun q hq => by rw [e3]; exact xup_n hq
    obtain ⟨h', p1, p2, p3, p4⟩ := ih (i + 1) g3 (sl + 13) (by omega) ((o3 _ (by omega)).trans ((o2 _ (by omega)).trans hB)) ⟨va_up sf i (some (B + 54 + 3 * i)), by rw [e3]; exact xup_s, fun k hk => by
      by_cases e : k = i
      · rw [e, vu_at]
      · rw [vu_ne e]
        exact s2 k (by omega)⟩ (fun k hk => by
      by_cases e : k = i
      · rw [e]
        exact xNE_kept ⟨b0, b1, b2⟩ (fun q h1 h2 => o3 q (by omega))
      · exact xNE_kept (hS k (by omega)) (fun q h1 h2 => (o3 q (by omega)).trans (o2 q (by omega))))
    refine ⟨h', p1, p2, fun q hq => (p3 q hq).trans ((o3 q (by omega)).trans (o2 q (by omega))), fun res hres => ?_⟩
    have hres' := p4 res (by rw [show sl + 13 + 13 * n = sl + 13 * (n + 1) by omega]; exact hres)
    have c2 : g2 (B + 53) = some (.inl (5, 8, .inr (.inr (.inr (.inr sf))))) := (o2 _ (by omega)).trans s1
    refine xr_go i0_99 rfl ?_
    refine xr_go i0_100 rfl ?_
    refine xr_icmp_geF i0_102 (t := 124) (by decide) (show ¬ nI 8 ≤ nI i from nI_ge (by omega) (by omega)) ?_
    refine xr_go i0_105 rfl ?_
    refine xr_get i0_106 xf0_46 (by assumption) rfl rfl ?_
    refine xr_go i0_109 rfl ?_
    refine xr_new i0_110 xk0_44 rfl rfl rfl (fun z1 ez1 => ?_)
    obtain rfl : z1 = g1 := ez1.trans e1.symm
    refine xr_go i0_113 rfl ?_
    refine xr_I i0_114 xc0_50 ⟨by first | exact Or.inl rfl | exact Or.inr rfl, rfl⟩ xa_69 rfl rfl (Nat.le_of_ble_eq_true rfl) (by omega) ⟨Nat.le_of_ble_eq_true rfl, Nat.le_of_ble_eq_true rfl⟩ (r2) ?_
    refine xr_aast i0_117 c2 (j := i) rfl (by omega) (by omega) b0 rfl (fun z3 ez3 => ?_)
    obtain rfl : z3 = g3 := ez3.trans e3.symm
    refine xr_inc1 i0_118 rfl rfl ?_
    refine xr_goto i0_121 (t := 99) (by decide) ?_
    exact hres'
set_option maxHeartbeats 4000000 in
theorem c_0 {h : xH} {sl : Nat} (hB : h B = some (.inr (0, [.null, .null, .null, .null, .null, .null]))) (hd : 3 ≤ d) : ∃ h', xRun G d 0 (0, [some (.ref B), none, none], [], (h, B + 1, sl)) (none, (h', B + 78, sl + 11498)) ∧ (∀ q, q < B → h' q = h q) ∧ ∀ nx h'', B + 119 ≤ nx → (∀ q, B ≤ q → q < B + 78 → h'' q = h' q) → xDS B nx 0 0 (fun _ => 0) (fun _ => 0) (fun _ => 0) (fun _ => 0) (fun _ => []) (fun _ => 0) (fun _ => 0) (fun _ => 0) (fun _ _ => 0) (fun _ => 0) (fun _ _ => 0) (fun _ _ => 0) none 0 (fun _ => 0) h'' := by
  /- the tape -/
  obtain ⟨g1, e1⟩ : ∃ z : xH, z = xup h (B + 1) (.inr (1, [.null, .int 0])) := ⟨_, rfl⟩
  have a1 : g1 (B + 1) = some (.inr (1, [.null, .int 0])) := by rw [e1]; exact xup_s
  have k1 : ∀ q, q < B + 1 → g1 q = h q := fun q hq => by rw [e1]; exact xup_n (by omega)
  obtain ⟨g2, r2, t0, t1, t2⟩ := c_20 (G := G) (d := d - 1) (nx := B + 2) (sl := sl + 2) a1 (by omega) (by omega)
  have b2 : g2 B = some (.inr (0, [.null, .null, .null, .null, .null, .null])) := (t2 _ (by omega) (by omega)).trans ((k1 _ (by omega)).trans hB)
  obtain ⟨g3, e3⟩ : ∃ z : xH, z = xup g2 B (.inr (0, [.ref (B + 1), .null, .null, .null, .null, .null])) := ⟨_, rfl⟩
  have k3 : ∀ q, q ≠ B → g3 q = g2 q := fun q hq => by rw [e3]; exact xup_n hq
  have b3 : g3 B = some (.inr (0, [.ref (B + 1), .null, .null, .null, .null, .null])) := by rw [e3]; exact xup_s
  /- the compiler -/
  obtain ⟨g4, e4⟩ : ∃ z : xH, z = xup g3 (B + 3) (.inr (2, [.null, .null, .null, .null, .int 0, .int 0, .int 0, .int 0])) := ⟨_, rfl⟩
  have a4 : g4 (B + 3) = some (.inr (2, [.null, .null, .null, .null, .int 0, .int 0, .int 0, .int 0])) := by rw [e4]; exact xup_s
  have k4 : ∀ q, q ≠ B + 3 → g4 q = g3 q := fun q hq => by rw [e4]; exact xup_n hq
  have b4 : g4 B = some (.inr (0, [.ref (B + 1), .null, .null, .null, .null, .null])) := (k4 _ (by omega)).trans b3
  obtain ⟨g5, r5, c0, c1, c2, c3, c4, c5, c6, c7⟩ := c_22 (G := G) (d := d - 1) (nx := B + 4) (sl := sl + 2 + 400 + 8) (t := B + 1) a4 (by omega) (by omega)
  have b5 : g5 B = some (.inr (0, [.ref (B + 1), .null, .null, .null, .null, .null])) := (c7 _ (by omega) (by omega)).trans b4
  obtain ⟨g6, e6⟩ : ∃ z : xH, z = xup g5 B (.inr (0, [.ref (B + 1), .ref (B + 3), .null, .null, .null, .null])) := ⟨_, rfl⟩
  have k6 : ∀ q, q ≠ B → g6 q = g5 q := fun q hq => by rw [e6]; exact xup_n hq
  have b6 : g6 B = some (.inr (0, [.ref (B + 1), .ref (B + 3), .null, .null, .null, .null])) := by rw [e6]; exact xup_s
  /- the history -/
  obtain ⟨g7, e7⟩ : ∃ z : xH, z = xup g6 (B + 10) (.inr (4, [.null, .null, .int 0, .int 0])) := ⟨_, rfl⟩
  have a7 : g7 (B + 10) = some (.inr (4, [.null, .null, .int 0, .int 0])) := by rw [e7]; exact xup_s
  have k7 : ∀ q, q ≠ B + 10 → g7 q = g6 q := fun q hq => by rw [e7]; exact xup_n hq
  have b7 : g7 B = some (.inr (0, [.ref (B + 1), .ref (B + 3), .null, .null, .null, .null])) := (k7 _ (by omega)).trans b6
  obtain ⟨g8, r8, h0, h1, h2, h3⟩ := c_45 (G := G) (d := d - 1) (nx := B + 11) (sl := sl + 2 + 400 + 8 + 4 + 401 + 401 + 401 + 406 + 406 + 4) a7 (by omega) (by omega)
  have b8 : g8 B = some (.inr (0, [.ref (B + 1), .ref (B + 3), .null, .null, .null, .null])) := (h3 _ (by omega) (by omega)).trans b7
  obtain ⟨g9, e9⟩ : ∃ z : xH, z = xup g8 B (.inr (0, [.ref (B + 1), .ref (B + 3), .ref (B + 10), .null, .null, .null])) := ⟨_, rfl⟩
  have k9 : ∀ q, q ≠ B → g9 q = g8 q := fun q hq => by rw [e9]; exact xup_n hq
  have b9 : g9 B = some (.inr (0, [.ref (B + 1), .ref (B + 3), .ref (B + 10), .null, .null, .null])) := by rw [e9]; exact xup_s
  /- the machine -/
  obtain ⟨p1, f1⟩ : ∃ z : xH, z = xup g9 (B + 13) (.inr (5, [.null, .null, .null, .int 0, .int 0, .int 0])) := ⟨_, rfl⟩
  have v1 : p1 (B + 13) = some (.inr (5, [.null, .null, .null, .int 0, .int 0, .int 0])) := by rw [f1]; exact xup_s
  have l1 : ∀ q, q ≠ B + 13 → p1 q = g9 q := fun q hq => by rw [f1]; exact xup_n hq
  obtain ⟨p2, r10, m0, m1, m2, m3, m4⟩ := c_49 (G := G) (d := d - 1) (nx := B + 14) (sl := sl + 2 + 400 + 8 + 4 + 401 + 401 + 401 + 406 + 406 + 4 + 500 + 500 + 6) v1 (by omega) (by omega)
  have w2 : p2 B = some (.inr (0, [.ref (B + 1), .ref (B + 3), .ref (B + 10), .null, .null, .null])) := (m4 _ (by omega) (by omega)).trans ((l1 _ (by omega)).trans b9)
  /- the servers -/
  obtain ⟨p3, f3⟩ : ∃ z : xH, z = xup p2 (B + 17) (.inl (4, 5, .inr (.inr (.inr (.inr (fun _ => none)))))) := ⟨_, rfl⟩
  have l3 : ∀ q, q ≠ B + 17 → p3 q = p2 q := fun q hq => by rw [f3]; exact xup_n hq
  have w3 : p3 B = some (.inr (0, [.ref (B + 1), .ref (B + 3), .ref (B + 10), .null, .null, .null])) := (l3 _ (by omega)).trans w2
  have v3 : p3 (B + 17) = some (.inl (4, 5, .inr (.inr (.inr (.inr (fun _ => none)))))) := by rw [f3]; exact xup_s
  obtain ⟨p4, f4⟩ : ∃ z : xH, z = xup p3 B (.inr (0, [.ref (B + 1), .ref (B + 3), .ref (B + 10), .ref (B + 17), .null, .null])) := ⟨_, rfl⟩
  have l4 : ∀ q, q ≠ B → p4 q = p3 q := fun q hq => by rw [f4]; exact xup_n hq
  have w4 : p4 B = some (.inr (0, [.ref (B + 1), .ref (B + 3), .ref (B + 10), .ref (B + 17), .null, .null])) := by rw [f4]; exact xup_s
  obtain ⟨p5, s1, s2, s3, run5⟩ := c0_servers (G := G) (B := B) (d := d) (by omega) 5 0 p4 (sl + 2 + 400 + 8 + 4 + 401 + 401 + 401 + 406 + 406 + 4 + 500 + 500 + 6 + 16 + 8 + 8 + 5) rfl w4 ⟨_, (l4 _ (by omega)).trans v3, fun k hk => by omega⟩ (fun k hk => by omega)
  have w5 : p5 B = some (.inr (0, [.ref (B + 1), .ref (B + 3), .ref (B + 10), .ref (B + 17), .null, .null])) := (s3 _ (by omega)).trans w4
  /- the sessions -/
  obtain ⟨p6, f6⟩ : ∃ z : xH, z = xup p5 (B + 53) (.inl (5, 8, .inr (.inr (.inr (.inr (fun _ => none)))))) := ⟨_, rfl⟩
  have l6 : ∀ q, q ≠ B + 53 → p6 q = p5 q := fun q hq => by rw [f6]; exact xup_n hq
  have w6 : p6 B = some (.inr (0, [.ref (B + 1), .ref (B + 3), .ref (B + 10), .ref (B + 17), .null, .null])) := (l6 _ (by omega)).trans w5
  have v6 : p6 (B + 53) = some (.inl (5, 8, .inr (.inr (.inr (.inr (fun _ => none)))))) := by rw [f6]; exact xup_s
  obtain ⟨p7, f7⟩ : ∃ z : xH, z = xup p6 B (.inr (0, [.ref (B + 1), .ref (B + 3), .ref (B + 10), .ref (B + 17), .ref (B + 53), .null])) := ⟨_, rfl⟩
  have l7 : ∀ q, q ≠ B → p7 q = p6 q := fun q hq => by rw [f7]; exact xup_n hq
  have w7 : p7 B = some (.inr (0, [.ref (B + 1), .ref (B + 3), .ref (B + 10), .ref (B + 17), .ref (B + 53), .null])) := by rw [f7]; exact xup_s
  obtain ⟨p8, y1, y2, y3, run8⟩ := c0_sessions (G := G) (B := B) (d := d) (by omega) 8 0 p7 (sl + 2 + 400 + 8 + 4 + 401 + 401 + 401 + 406 + 406 + 4 + 500 + 500 + 6 + 16 + 8 + 8 + 5 + 1582 * 5 + 8) rfl w7 ⟨_, (l7 _ (by omega)).trans v6, fun k hk => by omega⟩ (fun k hk => by omega)
  have w8 : p8 B = some (.inr (0, [.ref (B + 1), .ref (B + 3), .ref (B + 10), .ref (B + 17), .ref (B + 53), .null])) := (y3 _ (by omega)).trans w7
  /- what is where in the end -/
  have q5 : ∀ q, q ≠ B → q < B + 17 → p8 q = p2 q := fun q z1 z2 => (y3 q (by omega)).trans ((l7 q z1).trans ((l6 q (by omega)).trans ((s3 q (by omega)).trans ((l4 q z1).trans (l3 q (by omega))))))
  have q4 : ∀ q, q ≠ B → q < B + 13 → p8 q = g8 q := fun q z1 z2 => (q5 q z1 (by omega)).trans ((m4 q (by omega) (by omega)).trans ((l1 q (by omega)).trans (k9 q z1)))
  have q3 : ∀ q, q ≠ B → q < B + 10 → p8 q = g5 q := fun q z1 z2 => (q4 q z1 (by omega)).trans ((h3 q (by omega) (by omega)).trans ((k7 q (by omega)).trans (k6 q z1)))
  have q2 : ∀ q, q ≠ B → q < B + 3 → p8 q = g2 q := fun q z1 z2 => (q3 q z1 (by omega)).trans ((c7 q (by omega) (by omega)).trans ((k4 q (by omega)).trans (k3 q z1)))
  have q6 : ∀ q, B + 17 ≤ q → q < B + 53 → p8 q = p5 q := fun q z1 z2 => (y3 q z2).trans ((l7 q (by omega)).trans (l6 q (by omega)))
  refine ⟨p8, ?_, fun q hq => (q2 q (by omega) (by omega)).trans ((t2 q (by omega) (by omega)).trans (k1 q (by omega))), fun nx h'' hn hk => ?_⟩
  · rw [show sl + 11498 = sl + 2 + 400 + 8 + 4 + 401 + 401 + 401 + 406 + 406 + 4 + 500 + 500 + 6 + 16 + 8 + 8 + 5 + 1582 * 5 + 8 + 13 * 8 by omega]
    refine xr_go i0_0 rfl ?_
    refine xr_obj i0_1 xc0_3 rfl (by omega) (Nat.le_of_ble_eq_true rfl) ?_
    refine xr_go i0_4 rfl ?_
    refine xr_new i0_5 xk0_9 rfl rfl rfl (fun z1 ez1 => ?_)
    obtain rfl : z1 = g1 := ez1.trans e1.symm
    refine xr_go i0_8 rfl ?_
    refine xr_I i0_9 xc0_11 ⟨by first | exact Or.inl rfl | exact Or.inr rfl, rfl⟩ xa_20 rfl rfl (Nat.le_of_ble_eq_true rfl) (by omega) ⟨Nat.le_of_ble_eq_true rfl, Nat.le_of_ble_eq_true rfl⟩ (r2) ?_
    refine xr_put i0_12 xf0_12 (by assumption) ⟨rfl, Nat.le_of_ble_eq_true rfl, rfl, rfl, by first | exact Or.inl rfl | exact Or.inr ⟨rfl, rfl, rfl⟩⟩ (fun z3 ez3 => ?_)
    obtain rfl : z3 = g3 := ez3.trans e3.symm
    refine xr_go i0_15 rfl ?_
    refine xr_new i0_16 xk0_16 rfl rfl rfl (fun z4 ez4 => ?_)
    obtain rfl : z4 = g4 := ez4.trans e4.symm
    refine xr_go i0_19 rfl ?_
    refine xr_go i0_20 rfl ?_
    refine xr_get i0_21 xf0_12 (by assumption) rfl rfl ?_
    refine xr_I i0_24 xc0_18 ⟨by first | exact Or.inl rfl | exact Or.inr rfl, rfl⟩ xa_22 rfl rfl (Nat.le_of_ble_eq_true rfl) (by omega) ⟨Nat.le_of_ble_eq_true rfl, Nat.le_of_ble_eq_true rfl⟩ (r5) ?_
    refine xr_put i0_27 xf0_21 (by assumption) ⟨rfl, Nat.le_of_ble_eq_true rfl, rfl, rfl, by first | exact Or.inl rfl | exact Or.inr ⟨rfl, rfl, rfl⟩⟩ (fun z6 ez6 => ?_)
    obtain rfl : z6 = g6 := ez6.trans e6.symm
    refine xr_go i0_30 rfl ?_
    refine xr_new i0_31 xk0_25 rfl rfl rfl (fun z7 ez7 => ?_)
    obtain rfl : z7 = g7 := ez7.trans e7.symm
    refine xr_go i0_34 rfl ?_
    refine xr_I i0_35 xc0_27 ⟨by first | exact Or.inl rfl | exact Or.inr rfl, rfl⟩ xa_45 rfl rfl (Nat.le_of_ble_eq_true rfl) (by omega) ⟨Nat.le_of_ble_eq_true rfl, Nat.le_of_ble_eq_true rfl⟩ (r8) ?_
    refine xr_put i0_38 xf0_28 (by assumption) ⟨rfl, Nat.le_of_ble_eq_true rfl, rfl, rfl, by first | exact Or.inl rfl | exact Or.inr ⟨rfl, rfl, rfl⟩⟩ (fun z9 ez9 => ?_)
    obtain rfl : z9 = g9 := ez9.trans e9.symm
    refine xr_new i0_41 xk0_32 rfl rfl rfl (fun x1 ex1 => ?_)
    obtain rfl : x1 = p1 := ex1.trans f1.symm
    refine xr_go i0_44 rfl ?_
    refine xr_I i0_45 xc0_34 ⟨by first | exact Or.inl rfl | exact Or.inr rfl, rfl⟩ xa_49 rfl rfl (Nat.le_of_ble_eq_true rfl) (by omega) ⟨Nat.le_of_ble_eq_true rfl, Nat.le_of_ble_eq_true rfl⟩ (r10) ?_
    refine xr_go i0_48 rfl ?_
    refine xr_go i0_49 rfl ?_
    refine xr_go i0_50 rfl ?_
    refine xr_anew i0_51 xn0_35 rfl (by decide) (n := 5) rfl (by omega) (fun x3 ex3 => ?_)
    obtain rfl : x3 = p3 := ex3.trans f3.symm
    refine xr_put i0_54 xf0_37 (by assumption) ⟨rfl, Nat.le_of_ble_eq_true rfl, rfl, rfl, by first | exact Or.inl rfl | exact Or.inr ⟨rfl, rfl, rfl⟩⟩ (fun x4 ex4 => ?_)
    obtain rfl : x4 = p4 := ex4.trans f4.symm
    refine xr_go i0_57 rfl ?_
    refine xr_go i0_58 rfl ?_
    refine run5 _ ?_
    refine xr_go i0_88 rfl ?_
    refine xr_go i0_89 rfl ?_
    refine xr_anew i0_91 xn0_44 rfl (by decide) (n := 8) rfl (by omega) (fun x6 ex6 => ?_)
    obtain rfl : x6 = p6 := ex6.trans f6.symm
    refine xr_put i0_94 xf0_46 (by assumption) ⟨rfl, Nat.le_of_ble_eq_true rfl, rfl, rfl, by first | exact Or.inl rfl | exact Or.inr ⟨rfl, rfl, rfl⟩⟩ (fun x7 ex7 => ?_)
    obtain rfl : x7 = p7 := ex7.trans f7.symm
    refine xr_go i0_97 rfl ?_
    refine xr_go i0_98 rfl ?_
    refine run8 _ ?_
    refine xr_go i0_124 rfl ?_
    refine xr_go i0_125 rfl ?_
    refine xr_put i0_126 xf0_51 (by assumption) ⟨rfl, Nat.le_of_ble_eq_true rfl, rfl, rfl, by first | exact Or.inl rfl | exact Or.inr ⟨rfl, rfl, rfl⟩⟩ (fun x9 ex9 => ?_)
    have ex : x9 = p8 := by
      rw [ex9]
      funext q
      by_cases hq : q = B
      · subst hq
        rw [w8]
        exact xup_s
      · exact xup_n hq
    rw [ex]
    exact xr_end i0_129 rfl
  · have bk : ∀ {q e}, B ≤ q → q < B + 78 → p8 q = e → h'' q = e := fun z1 z2 z3 => (hk _ z1 z2).trans z3
    obtain ⟨sf, s11, s12⟩ := s1
    obtain ⟨ef, y11, y12⟩ := y1
    refine ⟨.null, fun _ => 0, fun _ => 0, fun _ => 0, fun _ => 0, ⟨bk (by omega) (by omega) w8, ⟨sf, bk (by omega) (by omega) ((q6 _ (by omega) (by omega)).trans s11), s12⟩, ⟨ef, bk (by omega) (by omega) y11, y12⟩⟩, Or.inl ⟨rfl, rfl⟩, ⟨fun _ => 0, bk (by omega) (by omega) ((q2 _ (by omega) (by omega)).trans t0), bk (by omega) (by omega) ((q2 _ (by omega) (by omega)).trans t1), by omega, fun j hj => by omega⟩, ⟨0, 0, 0, -2, 0, fun _ => 0, fun _ => 0, fun _ => 0, fun _ => 0, fun _ => 0, bk (by omega) (by omega) ((q3 _ (by omega) (by omega)).trans c0), bk (by omega) (by omega) ((q3 _ (by omega) (by omega)).trans c1), bk (by omega) (by omega) ((q3 _ (by omega) (by omega)).trans c2), bk (by omega) (by omega) ((q3 _ (by omega) (by omega)).trans c3), bk (by omega) (by omega) ((q3 _ (by omega) (by omega)).trans c4), bk (by omega) (by omega) ((q3 _ (by omega) (by omega)).trans c5), bk (by omega) (by omega) ((q3 _ (by omega) (by omega)).trans c6)⟩, ⟨⟨fun _ => none, bk (by omega) (by omega) ((q4 _ (by omega) (by omega)).trans h0), bk (by omega) (by omega) ((q4 _ (by omega) (by omega)).trans h1), fun w hw => by omega⟩, bk (by omega) (by omega) ((q4 _ (by omega) (by omega)).trans h2), by omega, by omega, fun w hw => by omega⟩, ⟨fun w hw => by omega, fun w v hw => by omega⟩, ⟨fun w v hw => by omega, fun r hr => by omega, fun r q hr => by omega⟩, fun w hw => by omega, ⟨[], [], true, fun _ => 0, fun _ => 0, fun _ => 0, ⟨bk (by omega) (by omega) ((q5 _ (by omega) (by omega)).trans m0), bk (by omega) (by omega) ((q5 _ (by omega) (by omega)).trans m1), bk (by omega) (by omega) ((q5 _ (by omega) (by omega)).trans m2), bk (by omega) (by omega) ((q5 _ (by omega) (by omega)).trans m3)⟩, fun j hj => by simp at hj, fun j hj => by simp at hj, by simp, by simp⟩, fun i hi => ?_, fun j hj => ?_, ⟨rfl, fun w hw => by omega, fun i hi => Nat.zero_le _, fun w hw => by omega⟩, hn⟩
    · obtain ⟨n0, n1, n2, n3, n4, n5, n6⟩ := xNS_kept (s2 i hi) (h' := h'') (fun q z1 z2 => bk (by omega) (by omega) (q6 q (by omega) (by omega)))
      exact xSI_new n0 n1 n2 n3 n4 n5 n6
    · obtain ⟨n0, n1, n2⟩ := xNE_kept (y2 j hj) (h' := h'') (fun q z1 z2 => bk (by omega) (by omega) rfl)
      exact ⟨fun _ => 0, fun _ => 0, n0, n1, n2, Nat.zero_lt_succ 15, fun k hk => ⟨rfl, rfl, Nat.two_pow_pos 31, Nat.two_pow_pos 31⟩⟩
end XINIT2

