/-! ===== the model: what it stands for ===== -/
def xMf (M : Nat) (tn tk rk : Int32) (lt : Value) (at_ sz kd fr to_ ft pt : Int32) (nu : Int64) (mn pc od : Int32) : List Value := [.ref (M + 1), .int tn, .ref (M + 2), .ref (M + 3), .ref (M + 4), .ref (M + 5), .ref (M + 6), .int tk, .int rk, .ref (M + 7), .ref (M + 13), .ref (M + 14), .ref (M + 15), .ref (M + 16), .ref (M + 17), .ref (M + 26), lt, .int at_, .int sz, .int kd, .int fr, .int to_, .int ft, .int pt, .long nu, .ref (M + 35), .int mn, .ref (M + 36), .ref (M + 37), .ref (M + 38), .ref (M + 39), .int pc, .ref (M + 40), .int od]
/-- writes, servers, sessions -/
def xMd (M cmt : Nat) (sv sp pl cm clk com fog : Nat → Nat) (kno : Nat → Nat → Nat) (bit : Nat → Nat) (rd wr : Nat → Nat → Nat) (h : xH) : Prop :=
  h (M + 2) = some (.inl (0, 500, .inl (fun w => nI (sv w)))) ∧ h (M + 3) = some (.inl (0, 500, .inl (fun w => nI (sp w)))) ∧ h (M + 4) = some (.inl (0, 500, .inl (fun w => nI (pl w)))) ∧
  (∃ f, h (M + 5) = some (.inl (0, 501, .inl f)) ∧ ∀ r, r < cmt → f (r + 1) = nI (cm r)) ∧
  (∃ f, h (M + 7) = some (.inl (7, 5, .inr (.inr (.inr (.inr f))))) ∧ ∀ i, i < 5 → f i = some (M + 8 + i)) ∧ (∀ i, i < 5 → h (M + 8 + i) = some (.inl (1, 500, .inl (fun w => nI (kno i w))))) ∧
  h (M + 13) = some (.inl (0, 5, .inl (fun i => nI (clk i)))) ∧ h (M + 14) = some (.inl (0, 5, .inl (fun i => nI (com i)))) ∧ h (M + 15) = some (.inl (0, 5, .inl (fun i => nI (fog i)))) ∧ h (M + 16) = some (.inl (0, 8, .inl (fun i => nI (bit i)))) ∧
  (∃ f, h (M + 17) = some (.inl (6, 8, .inr (.inr (.inr (.inr f))))) ∧ ∀ j, j < 8 → f j = some (M + 18 + j)) ∧ (∀ j, j < 8 → ∃ f, h (M + 18 + j) = some (.inl (0, 5, .inl f)) ∧ ∀ k, k < 5 → f k = nI (rd j k)) ∧
  (∃ f, h (M + 26) = some (.inl (6, 8, .inr (.inr (.inr (.inr f))))) ∧ ∀ j, j < 8 → f j = some (M + 27 + j)) ∧ (∀ j, j < 8 → ∃ f, h (M + 27 + j) = some (.inl (0, 5, .inl f)) ∧ ∀ k, k < 5 → f k = nI (wr j k))
/-- the rows that calls use again -/
def xMr (M : Nat) (h : xH) : Prop := (∃ f, h (M + 35) = some (.inl (0, 1600, .inl f))) ∧ (∃ f, h (M + 36) = some (.inl (0, 32, .inl f)) ∧ ∀ k, 32 ≤ k → f k = 0) ∧ (∃ f, h (M + 37) = some (.inl (0, 160, .inl f))) ∧ (∃ f, h (M + 38) = some (.inl (0, 8, .inl f))) ∧ (∃ f, h (M + 39) = some (.inl (0, 8, .inl f))) ∧ ∃ f, h (M + 40) = some (.inl (0, 500, .inl f))
theorem xMd_kept {M cmt : Nat} {sv sp pl cm clk com fog : Nat → Nat} {kno : Nat → Nat → Nat} {bit : Nat → Nat} {rd wr : Nat → Nat → Nat} {h h' : xH} (hd : xMd M cmt sv sp pl cm clk com fog kno bit rd wr h) (hk : ∀ q, M + 2 ≤ q → q ≤ M + 34 → q ≠ M + 6 → h' q = h q) : xMd M cmt sv sp pl cm clk com fog kno bit rd wr h' := by
  obtain ⟨h1, h2, h3, ⟨f4, h4, h4'⟩, ⟨f5, h5, h5'⟩, h6, h7, h8, h9, h10, ⟨f11, h11, h11'⟩, h12, ⟨f13, h13, h13'⟩, h14⟩ := hd
  refine ⟨(hk _ (by omega) (by omega) (by omega)).trans h1, (hk _ (by omega) (by omega) (by omega)).trans h2, (hk _ (by omega) (by omega) (by omega)).trans h3, ⟨f4, (hk _ (by omega) (by omega) (by omega)).trans h4, h4'⟩, ⟨f5, (hk _ (by omega) (by omega) (by omega)).trans h5, h5'⟩, fun i hi => (hk _ (by omega) (by omega) (by omega)).trans (h6 i hi), (hk _ (by omega) (by omega) (by omega)).trans h7, (hk _ (by omega) (by omega) (by omega)).trans h8, (hk _ (by omega) (by omega) (by omega)).trans h9, (hk _ (by omega) (by omega) (by omega)).trans h10, ⟨f11, (hk _ (by omega) (by omega) (by omega)).trans h11, h11'⟩, fun j hj => ?_, ⟨f13, (hk _ (by omega) (by omega) (by omega)).trans h13, h13'⟩, fun j hj => ?_⟩
  · obtain ⟨f, g1, g2⟩ := h12 j hj
    exact ⟨f, (hk _ (by omega) (by omega) (by omega)).trans g1, g2⟩
  · obtain ⟨f, g1, g2⟩ := h14 j hj
    exact ⟨f, (hk _ (by omega) (by omega) (by omega)).trans g1, g2⟩
theorem xMr_kept {M : Nat} {h h' : xH} (hr : xMr M h) (hk : ∀ q, M + 35 ≤ q → q ≤ M + 40 → h' q = h q) : xMr M h' := by
  obtain ⟨⟨f1, h1⟩, ⟨f2, h2, z2⟩, ⟨f3, h3⟩, ⟨f4, h4⟩, ⟨f5, h5⟩, ⟨f6, h6⟩⟩ := hr
  exact ⟨⟨f1, (hk _ (by omega) (by omega)).trans h1⟩, ⟨f2, (hk _ (by omega) (by omega)).trans h2, z2⟩, ⟨f3, (hk _ (by omega) (by omega)).trans h3⟩, ⟨f4, (hk _ (by omega) (by omega)).trans h4⟩, ⟨f5, (hk _ (by omega) (by omega)).trans h5⟩, ⟨f6, (hk _ (by omega) (by omega)).trans h6⟩⟩
/-- what is so of the numbers themselves -/
def xPI (tak cmt : Nat) (sv sp pl cm clk com fog : Nat → Nat) (kno : Nat → Nat → Nat) (bit : Nat → Nat) (rd wr : Nat → Nat → Nat) : Prop :=
  tak ≤ 500 ∧ cmt ≤ tak ∧ (∀ w, w < tak → sv w < 5 ∧ sp w < 2 ^ 31) ∧ xHU tak cmt sv sp cm ∧ xGI tak cmt sv pl cm clk com kno ∧ (∀ i, i < 5 → (∀ w, kno i w = 0 ∨ kno i w = 1) ∧ (∀ w, kno i w = 1 → w < tak) ∧ (∀ r, r < com i → kno i (cm r) = 1) ∧ com i ≤ cmt ∧ fog i ≤ com i ∧ clk i < 2 ^ 31 ∧ (∀ w, kno i w = 1 → sp w ≤ clk i) ∧ xTL tak sv sp cm (kno i) (com i) (xtl tak sv sp cm (kno i) (com i))) ∧ ∀ j, j < 8 → bit j < 16 ∧ ∀ k, k < 5 → rd j k < 2 ^ 31 ∧ wr j k < 2 ^ 31
theorem xDS_pure {B nx tak cmt : Nat} {sv sp pl cm : Nat → Nat} {pg : Nat → List (Nat × Int32)} {clk com fog : Nat → Nat} {kno : Nat → Nat → Nat} {bit : Nat → Nat} {rd wr : Nat → Nat → Nat} {lat : Option (List (Nat × Int32))} {tn : Nat} {tb : Nat → Nat} {h : xH} (hD : xDS B nx tak cmt sv sp pl cm pg clk com fog kno bit rd wr lat tn tb h) : xPI tak cmt sv sp pl cm clk com fog kno bit rd wr := by
  obtain ⟨lv, wad, pad, psa, poa, h1, h2, h3, h4, h5, h6, h7, h8, h9, h10, h11, h12, h13⟩ := hD
  refine ⟨h5.2.2.1, h5.2.2.2.1, fun w hw => (h5.2.2.2.2 w hw).2.2.2.2.2.2, h7, h12, fun i hi => ?_, fun j hj => ?_⟩
  · obtain ⟨_, _, tl, _, _, _, -, hT, k1, k2, k3, k4, k5, k6, k7, -⟩ := h10 i hi
    exact ⟨k1, k2, k3, k4, k5, k6, k7, by rw [xtl_eq hT]; exact hT⟩
  · obtain ⟨fr, fw, g1, g2, g3, g4, g5⟩ := h11 j hj
    exact ⟨g4, fun k hk => (g5 k hk).2.2⟩
section XMODEL
variable {G : xG} {d : Nat} {h : xH} {nx sl M tak cmt : Nat} {sv sp pl cm clk com fog : Nat → Nat} {kno : Nat → Nat → Nat} {bit : Nat → Nat} {rd wr : Nat → Nat → Nat} {tn tk rk at_ sz kd fr to_ ft pt mn pc od : Int32} {lt : Value} {nu : Int64}
theorem s_in64 {x y z : Int64} : xRun G d 82 (0, [some (.long x), none, some (.long y), none, some (.long z), none], [], (h, nx, sl)) (some (.int (xbi (decide (y ≤ x) && decide (x ≤ z)))), (h, nx, sl)) := by
  have no : xRun G d 82 (17, [some (.long x), none, some (.long y), none, some (.long z), none], [], (h, nx, sl)) (some (.int 0), (h, nx, sl)) := by
    refine xr_go i82_17 rfl ?_
    exact xr_iret i82_18 xt_82 rfl
  refine xr_go i82_0 rfl ?_
  refine xr_go i82_1 rfl ?_
  refine xr_go i82_2 rfl ?_
  by_cases h1 : y ≤ x
  · refine xr_if_ltF i82_3 (t := 17) (by decide) (fun e => absurd ((lg_cmp_lt x y).mp e) (Int64.not_lt.mpr h1)) ?_
    refine xr_go i82_6 rfl ?_
    refine xr_go i82_7 rfl ?_
    refine xr_go i82_9 rfl ?_
    by_cases h2 : x ≤ z
    · refine xr_if_gtF i82_10 (t := 17) (by decide) (fun e => absurd ((lg_cmp_gt x z).mp e) (Int64.not_lt.mpr h2)) ?_
      rw [decide_eq_true h1, decide_eq_true h2]
      refine xr_go i82_13 rfl ?_
      refine xr_goto i82_14 (t := 18) (by decide) ?_
      exact xr_iret i82_18 xt_82 rfl
    · refine xr_if_gtT i82_10 (t := 17) (by decide) ((lg_cmp_gt x z).mpr (Int64.not_le.mp h2)) ?_
      rw [decide_eq_true h1, decide_eq_false h2]
      exact no
  · refine xr_if_ltT i82_3 (t := 17) (by decide) ((lg_cmp_lt x y).mpr (Int64.not_le.mp h1)) ?_
    rw [decide_eq_false h1]
    exact no
theorem xrng_64 {x : Int32} {z : Int64} {n : Nat} (hz : z.toInt + 1 = n) (hn : n < 2 ^ 31) : (decide ((Int64.ofNat 0) ≤ x.toInt64) && decide (x.toInt64 ≤ z)) = xrng n x := by
  unfold xrng
  have e0 : ((Int64.ofNat 0) ≤ x.toInt64) ↔ (0 : Int32) ≤ x := by
    rw [Int64.le_iff_toInt_le, Int32.le_iff_toInt_le, Int32.toInt_toInt64]
    rfl
  have e1 : (x.toInt64 ≤ z) ↔ x < nI n := by
    rw [Int64.le_iff_toInt_le, Int32.lt_iff_toInt_lt, Int32.toInt_toInt64, nI_toInt hn]
    omega
  rw [decide_eq_decide.mpr e0, decide_eq_decide.mpr e1]
theorem s_in {x : Int32} {z : Int64} (n : Nat) (hz : z.toInt + 1 = n) (hn : n < 2 ^ 31) : xRun G d 82 (0, [some (.long x.toInt64), none, some (.long (Int64.ofNat 0)), none, some (.long z), none], [], (h, nx, sl)) (some (.int (xbi (xrng n x))), (h, nx, sl)) := by
  rw [← xrng_64 hz hn]
  exact s_in64
theorem in_z {t : Nat} (ht : t < 2 ^ 30) : (nI t - 1).toInt64.toInt + 1 = t := by
  rw [Int32.toInt_toInt64]
  cases t with
  | zero => rfl
  | succ t =>
    rw [show nI (t + 1) - 1 = nI t from pk_sub (a := t + 1) (b := 1) (by omega), nI_toInt (by omega)]
    omega
theorem in_n {t : Nat} (ht : t < 2 ^ 30) : (nI t).toInt64.toInt + 1 = t + 1 := by
  rw [Int32.toInt_toInt64, nI_toInt (by omega)]
theorem m_vector_loop {s j : Nat} (hO : h M = some (.inr (10, xMf M tn (nI tak) rk lt at_ sz kd fr to_ ft pt nu mn pc od))) (hm : xMd M cmt sv sp pl cm clk com fog kno bit rd wr h) (hs : s < 5) (hj : j < 5) (ht : tak ≤ 500) (hw : ∀ w, w < tak → sv w < 5 ∧ sp w < 2 ^ 31) (hk : ∀ w, kno s w = 0 ∨ kno s w = 1) (hd : 1 ≤ d) : ∀ n i, i + n = tak → xRun G d 100 (5, [some (.ref M), some (.int (nI s)), some (.int (nI j)), some (.int (nI (xvm sv sp (kno s) j i))), some (.int (nI i))], [], (h, nx, sl)) (some (.int (nI (xvm sv sp (kno s) j tak))), (h, nx, sl)) := by
  obtain ⟨h1, h2, h3, -, ⟨f5, h5, h5'⟩, h6, -⟩ := hm
  have hr := h5' s hs
  have hks := h6 s hs
  intro n
  induction n with
  | zero =>
    intro i hi
    have : i = tak := by omega
    subst this
    refine xr_go i100_5 rfl ?_
    refine xr_go i100_7 rfl ?_
    refine xr_get i100_8 xf100_239 (by assumption) rfl rfl ?_
    refine xr_icmp_geT i100_11 (t := 55) (by decide) (nI_le (by omega) (by omega)) ?_
    refine xr_go i100_55 rfl ?_
    exact xr_iret i100_56 xt_100 rfl
  | succ n ih =>
    intro i hi
    have hwi := hw i (by omega)
    have hx : xvm sv sp (kno s) j i < 2 ^ 31 := by
      rcases xvm_in (sv := sv) (sp := sp) (kno := kno s) (j := j) i with e | ⟨w, e1, -, -, e2⟩
      · omega
      · rw [e2]
        exact (hw w (by omega)).2
    refine xr_go i100_5 rfl ?_
    refine xr_go i100_7 rfl ?_
    refine xr_get i100_8 xf100_239 (by assumption) rfl rfl ?_
    refine xr_icmp_geF i100_11 (t := 55) (by decide) (nI_ge (by omega) (by omega)) ?_
    refine xr_go i100_14 rfl ?_
    refine xr_get i100_15 xf100_33 (by assumption) rfl rfl ?_
    refine xr_go i100_18 rfl ?_
    refine xr_aald i100_19 (by assumption) (by decide) rfl (by omega) (by omega) (by assumption) ?_
    refine xr_go i100_20 rfl ?_
    refine xr_zald i100_22 (by assumption) rfl (by omega) (by omega) ?_
    rcases hk i with e | e
    · refine xr_if_eqT i100_23 (t := 49) (by decide) (by rw [e]; decide) ?_
      have ex : xvm sv sp (kno s) j (i + 1) = xvm sv sp (kno s) j i := by
        show (if _ then _ else _) = _
        rw [if_neg (fun z => by omega)]
      rw [← ex]
      refine xr_inc1 i100_49 rfl rfl ?_
      refine xr_goto i100_52 (t := 5) (by decide) ?_
      exact ih (i + 1) (by omega)
    · refine xr_if_eqF i100_23 (t := 49) (by decide) (by rw [e]; decide) ?_
      refine xr_go i100_26 rfl ?_
      refine xr_get i100_27 xf100_13 (by assumption) rfl rfl ?_
      refine xr_go i100_30 rfl ?_
      refine xr_iald i100_32 (by assumption) rfl (by omega) (by omega) ?_
      refine xr_go i100_33 rfl ?_
      by_cases e2 : sv i = j
      · refine xr_icmp_neF i100_34 (t := 49) (by decide) (by rw [e2]) ?_
        have ex : xvm sv sp (kno s) j (i + 1) = max (xvm sv sp (kno s) j i) (sp i) := by
          show (if _ then _ else _) = _
          rw [if_pos ⟨e, e2⟩]
        refine xr_go i100_37 rfl ?_
        refine xr_go i100_38 rfl ?_
        refine xr_get i100_39 xf100_17 (by assumption) rfl rfl ?_
        refine xr_go i100_42 rfl ?_
        refine xr_iald i100_44 (by assumption) rfl (by omega) (by omega) ?_
        refine xr_max i100_45 xc100_259 rfl (by omega) (Nat.le_of_ble_eq_true rfl) ((show _ = nI (xvm sv sp (kno s) j (i + 1)) from (nI_max hx hwi.2).trans (by rw [ex]))) ?_
        refine xr_go i100_48 rfl ?_
        refine xr_inc1 i100_49 rfl rfl ?_
        refine xr_goto i100_52 (t := 5) (by decide) ?_
        exact ih (i + 1) (by omega)
      · refine xr_icmp_neT i100_34 (t := 49) (by decide) (fun z => e2 ((nI_eq (by omega) (by omega)).mp z)) ?_
        have ex : xvm sv sp (kno s) j (i + 1) = xvm sv sp (kno s) j i := by
          show (if _ then _ else _) = _
          rw [if_neg (fun z => e2 z.2)]
        rw [← ex]
        refine xr_inc1 i100_49 rfl rfl ?_
        refine xr_goto i100_52 (t := 5) (by decide) ?_
        exact ih (i + 1) (by omega)
theorem m_vector {s j : Nat} (hO : h M = some (.inr (10, xMf M tn (nI tak) rk lt at_ sz kd fr to_ ft pt nu mn pc od))) (hm : xMd M cmt sv sp pl cm clk com fog kno bit rd wr h) (hP : xPI tak cmt sv sp pl cm clk com fog kno bit rd wr) (hs : s < 5) (hj : j < 5) (hd : 1 ≤ d) : xRun G d 100 (0, [some (.ref M), some (.int (nI s)), some (.int (nI j)), none, none], [], (h, nx, sl)) (some (.int (nI (xvm sv sp (kno s) j tak))), (h, nx, sl)) := by
  obtain ⟨p1, p2, p3, p4, p5, p6, p7⟩ := hP
  refine xr_go i100_0 rfl ?_
  refine xr_go i100_1 rfl ?_
  refine xr_go i100_2 rfl ?_
  refine xr_go i100_3 rfl ?_
  exact m_vector_loop hO hm hs hj p1 p3 (p6 s hs).1 hd tak 0 (by omega)
theorem xvm_lt {s j : Nat} (hP : xPI tak cmt sv sp pl cm clk com fog kno bit rd wr) : xvm sv sp (kno s) j tak < 2 ^ 31 := by
  rcases xvm_in (sv := sv) (sp := sp) (kno := kno s) (j := j) tak with e | ⟨w, e1, -, -, e2⟩
  · omega
  · rw [e2]
    exact (hP.2.2.1 w e1).2
theorem m_atLeast_loop {s a : Nat} {g : Nat → Nat} {f : Nat → Int32} (hO : h M = some (.inr (10, xMf M tn (nI tak) rk lt at_ sz kd fr to_ ft pt nu mn pc od))) (hm : xMd M cmt sv sp pl cm clk com fog kno bit rd wr h) (hP : xPI tak cmt sv sp pl cm clk com fog kno bit rd wr) (hs : s < 5) (ha : h a = some (.inl (0, 5, .inl f))) (hf : ∀ k, k < 5 → f k = nI (g k) ∧ g k < 2 ^ 31) (hd : 2 ≤ d) : ∀ n i, i + n = 5 → (∀ k, k < i → g k ≤ xvm sv sp (kno s) k tak) → xRun G d 99 (2, [some (.ref M), some (.int (nI s)), some (.ref a), some (.int (nI i))], [], (h, nx, sl)) (some (.int (xbi (aAtl tak sv sp (kno s) g))), (h, nx, sl)) := by
  intro n
  induction n with
  | zero =>
    intro i hi hl
    have : i = 5 := by omega
    subst this
    rw [aAtl_iff.mpr hl]
    refine xr_go i99_2 rfl ?_
    refine xr_go i99_3 rfl ?_
    refine xr_icmp_geT i99_4 (t := 27) (by decide) (show nI 5 ≤ nI 5 from nI_le (by omega) (by omega)) ?_
    refine xr_go i99_27 rfl ?_
    exact xr_iret i99_28 xt_99 rfl
  | succ n ih =>
    intro i hi hl
    refine xr_go i99_2 rfl ?_
    refine xr_go i99_3 rfl ?_
    refine xr_icmp_geF i99_4 (t := 27) (by decide) (show ¬ nI 5 ≤ nI i from nI_ge (by omega) (by omega)) ?_
    refine xr_go i99_7 rfl ?_
    refine xr_go i99_8 rfl ?_
    refine xr_go i99_9 rfl ?_
    refine xr_V i99_10 xc99_263 ⟨rfl, rfl⟩ xa_100 rfl (by assumption) rfl (Nat.le_of_ble_eq_true rfl) (by omega) ⟨Nat.le_of_ble_eq_true rfl, Nat.le_of_ble_eq_true rfl⟩ ((m_vector (s := s) (j := i) hO hm hP hs (by omega) (by omega))) ?_
    refine xr_go i99_13 rfl ?_
    refine xr_go i99_14 rfl ?_
    refine xr_iald i99_15 (by assumption) rfl (by omega) (by omega) ?_
    rw [(hf i (by omega)).1]
    by_cases hle : g i ≤ xvm sv sp (kno s) i tak
    · refine xr_icmp_geT i99_16 (t := 21) (by decide) (nI_le hle (xvm_lt hP)) ?_
      refine xr_inc1 i99_21 rfl rfl ?_
      refine xr_goto i99_24 (t := 2) (by decide) ?_
      exact ih (i + 1) (by omega) (fun k hk => by
        by_cases e : k = i
        · rw [e]; exact hle
        · exact hl k (by omega))
    · refine xr_icmp_geF i99_16 (t := 21) (by decide) (nI_ge (by omega) (hf i (by omega)).2) ?_
      have e : aAtl tak sv sp (kno s) g = false := by
        rw [← Bool.not_eq_true]
        exact fun z => hle (aAtl_iff.mp z i (by omega))
      rw [e]
      refine xr_go i99_19 rfl ?_
      exact xr_iret i99_20 xt_99 rfl
theorem m_atLeast {s a : Nat} {g : Nat → Nat} {f : Nat → Int32} (hO : h M = some (.inr (10, xMf M tn (nI tak) rk lt at_ sz kd fr to_ ft pt nu mn pc od))) (hm : xMd M cmt sv sp pl cm clk com fog kno bit rd wr h) (hP : xPI tak cmt sv sp pl cm clk com fog kno bit rd wr) (hs : s < 5) (ha : h a = some (.inl (0, 5, .inl f))) (hf : ∀ k, k < 5 → f k = nI (g k) ∧ g k < 2 ^ 31) (hd : 2 ≤ d) : xRun G d 99 (0, [some (.ref M), some (.int (nI s)), some (.ref a), none], [], (h, nx, sl)) (some (.int (xbi (aAtl tak sv sp (kno s) g))), (h, nx, sl)) := by
  refine xr_go i99_0 rfl ?_
  refine xr_go i99_1 rfl ?_
  exact m_atLeast_loop hO hm hP hs ha hf hd 5 0 rfl (fun k hk => by omega)
theorem m_isCommitted {s w : Nat} (hO : h M = some (.inr (10, xMf M tn tk rk lt at_ sz kd fr to_ ft pt nu mn pc od))) (hm : xMd M cmt sv sp pl cm clk com fog kno bit rd wr h) (hP : xPI tak cmt sv sp pl cm clk com fog kno bit rd wr) (hs : s < 5) (hw : w < tak) : xRun G d 105 (0, [some (.ref M), some (.int (nI s)), some (.int (nI w))], [], (h, nx, sl)) (some (.int (xbi (decide (w ∈ xcms cm (com s))))), (h, nx, sl)) := by
  obtain ⟨p1, p2, p3, p4, p5, p6, p7⟩ := hP
  obtain ⟨h1, h2, h3, -, -, -, -, h8, -⟩ := hm
  have hc := (p6 s hs).2.2.2.1
  have no : w ∉ xcms cm (com s) → xRun G d 105 (28, [some (.ref M), some (.int (nI s)), some (.int (nI w))], [], (h, nx, sl)) (some (.int (xbi (decide (w ∈ xcms cm (com s))))), (h, nx, sl)) := by
    intro hn
    rw [decide_eq_false hn]
    refine xr_go i105_28 rfl ?_
    exact xr_iret i105_29 xt_105 rfl
  refine xr_go i105_0 rfl ?_
  refine xr_get i105_1 xf105_20 (by assumption) rfl rfl ?_
  refine xr_go i105_4 rfl ?_
  refine xr_iald i105_5 (by assumption) rfl (by omega) (by omega) ?_
  rcases p5.2.2.2 w hw with ⟨e1, e2⟩ | ⟨e1, e2, e3⟩
  · refine xr_if_leT i105_6 (t := 28) (by decide) (by rw [e1]; decide) ?_
    refine no (fun z => e2 ?_)
    obtain ⟨r, hr, e⟩ := xcms_mem.mp z
    exact xcms_mem.mpr ⟨r, by omega, e⟩
  · refine xr_if_leF i105_6 (t := 28) (by decide) (show ¬ nI (pl w) ≤ nI 0 from nI_ge (by omega) (by omega)) ?_
    refine xr_go i105_9 rfl ?_
    refine xr_get i105_10 xf105_20 (by assumption) rfl rfl ?_
    refine xr_go i105_13 rfl ?_
    refine xr_iald i105_14 (by assumption) rfl (by omega) (by omega) ?_
    refine xr_go i105_15 rfl ?_
    refine xr_get i105_16 xf105_39 (by assumption) rfl rfl ?_
    refine xr_go i105_19 rfl ?_
    refine xr_iald i105_20 (by assumption) rfl (by omega) (by omega) ?_
    by_cases hle : pl w ≤ com s
    · refine xr_icmp_gtF i105_21 (t := 28) (by decide) (nI_nlt hle (by omega)) ?_
      rw [decide_eq_true (xcms_mem.mpr ⟨pl w - 1, by omega, e3⟩)]
      refine xr_go i105_24 rfl ?_
      refine xr_goto i105_25 (t := 29) (by decide) ?_
      exact xr_iret i105_29 xt_105 rfl
    · refine xr_icmp_gtT i105_21 (t := 28) (by decide) (nI_lt (by omega) (by omega)) ?_
      refine no (fun z => ?_)
      obtain ⟨r, hr, e⟩ := xcms_mem.mp z
      have := p4.2.2 r (pl w - 1) (by omega) (by omega) (e.trans e3.symm)
      omega
theorem m_isBefore {w v : Nat} (hO : h M = some (.inr (10, xMf M tn tk rk lt at_ sz kd fr to_ ft pt nu mn pc od))) (hm : xMd M cmt sv sp pl cm clk com fog kno bit rd wr h) (hP : xPI tak cmt sv sp pl cm clk com fog kno bit rd wr) (hw : w < tak) (hv : v < tak) : xRun G d 106 (0, [some (.ref M), some (.int (nI w)), some (.int (nI v))], [], (h, nx, sl)) (some (.int (xbi (decide (sp w < sp v ∨ (sp w = sp v ∧ sv w < sv v))))), (h, nx, sl)) := by
  obtain ⟨p1, p2, p3, p4, p5, p6, p7⟩ := hP
  obtain ⟨h1, h2, h3, -⟩ := hm
  have bw := p3 w hw
  have bv := p3 v hv
  refine xr_go i106_0 rfl ?_
  refine xr_get i106_1 xf106_17 (by assumption) rfl rfl ?_
  refine xr_go i106_4 rfl ?_
  refine xr_iald i106_5 (by assumption) rfl (by omega) (by omega) ?_
  refine xr_go i106_6 rfl ?_
  refine xr_get i106_7 xf106_17 (by assumption) rfl rfl ?_
  refine xr_go i106_10 rfl ?_
  refine xr_iald i106_11 (by assumption) rfl (by omega) (by omega) ?_
  by_cases e : sp w = sp v
  · refine xr_icmp_eqT i106_12 (t := 38) (by decide) (by rw [e]) ?_
    refine xr_go i106_38 rfl ?_
    refine xr_get i106_39 xf106_13 (by assumption) rfl rfl ?_
    refine xr_go i106_42 rfl ?_
    refine xr_iald i106_43 (by assumption) rfl (by omega) (by omega) ?_
    refine xr_go i106_44 rfl ?_
    refine xr_get i106_45 xf106_13 (by assumption) rfl rfl ?_
    refine xr_go i106_48 rfl ?_
    refine xr_iald i106_49 (by assumption) rfl (by omega) (by omega) ?_
    by_cases e2 : sv w < sv v
    · refine xr_icmp_geF i106_50 (t := 57) (by decide) (nI_ge e2 (by omega)) ?_
      rw [decide_eq_true (Or.inr ⟨e, e2⟩)]
      refine xr_go i106_53 rfl ?_
      refine xr_goto i106_54 (t := 58) (by decide) ?_
      exact xr_iret i106_58 xt_106 rfl
    · refine xr_icmp_geT i106_50 (t := 57) (by decide) (nI_le (by omega) (by omega)) ?_
      rw [decide_eq_false (show ¬ (sp w < sp v ∨ (sp w = sp v ∧ sv w < sv v)) by omega)]
      refine xr_go i106_57 rfl ?_
      exact xr_iret i106_58 xt_106 rfl
  · refine xr_icmp_eqF i106_12 (t := 38) (by decide) (fun z => e ((nI_eq bw.2 bv.2).mp z)) ?_
    refine xr_go i106_15 rfl ?_
    refine xr_get i106_16 xf106_17 (by assumption) rfl rfl ?_
    refine xr_go i106_19 rfl ?_
    refine xr_iald i106_20 (by assumption) rfl (by omega) (by omega) ?_
    refine xr_go i106_21 rfl ?_
    refine xr_get i106_22 xf106_17 (by assumption) rfl rfl ?_
    refine xr_go i106_25 rfl ?_
    refine xr_iald i106_26 (by assumption) rfl (by omega) (by omega) ?_
    by_cases e2 : sp w < sp v
    · refine xr_icmp_geF i106_27 (t := 34) (by decide) (nI_ge e2 bv.2) ?_
      rw [decide_eq_true (Or.inl e2)]
      refine xr_go i106_30 rfl ?_
      refine xr_goto i106_31 (t := 58) (by decide) ?_
      exact xr_iret i106_58 xt_106 rfl
    · refine xr_icmp_geT i106_27 (t := 34) (by decide) (nI_le (by omega) bw.2) ?_
      rw [decide_eq_false (show ¬ (sp w < sp v ∨ (sp w = sp v ∧ sv w < sv v)) by omega)]
      refine xr_go i106_34 rfl ?_
      refine xr_goto i106_35 (t := 58) (by decide) ?_
      exact xr_iret i106_58 xt_106 rfl
end XMODEL

