/-! ===== the model: orders, cells, outcomes ===== -/
section XMCELL
variable {G : xG} {d : Nat} {h h' : xH} {sl : Nat} {M nx nx' tak cmt : Nat} {sv sp pl cm : Nat → Nat} {pg : Nat → List (Nat × Int32)} {clk com fog : Nat → Nat} {kno : Nat → Nat → Nat} {bit : Nat → Nat} {rd wr : Nat → Nat → Nat} {lat : Option (List (Nat × Int32))} {tn : Nat} {tb : Nat → Nat}
/-- only what is used again was changed -/
theorem xMod_scr {lt : Value} {at_ sz kd fr to_ ft pt mn pc od : Int32} {nu : Int64} (ht : xMt M tn tb h) (hm : xMd M cmt sv sp pl cm clk com fog kno bit rd wr h) (hw : xMw M nx tak pg h) (hl : xMl M nx lt lat h) (hn : M + 41 ≤ nx) (hO : h' M = some (.inr (10, xMf M (nI tn) (nI tak) (nI cmt) lt at_ sz kd fr to_ ft pt nu mn pc od))) (hr : xMr M h') (hk : ∀ q, q ≠ M → (q < M + 35 ∨ M + 40 < q) → h' q = h q) : xMod M nx tak cmt sv sp pl cm pg clk com fog kno bit rd wr lat tn tb h' := by
  obtain ⟨f1, t1, t2⟩ := ht
  exact ⟨lt, at_, sz, kd, fr, to_, ft, pt, nu, mn, pc, od, hO, ⟨f1, (hk _ (by omega) (by omega)).trans t1, t2⟩, xMd_kept hm (fun q a1 a2 a3 => hk q (by omega) (by omega)), hr, xMw_kept hw (hk _ (by omega) (by omega)) (Nat.le_refl _) (fun q a1 a2 a3 => hk q (by omega) (by omega)), xMl_kept hl (Nat.le_refl _) (fun q a1 a2 a3 => hk q (by omega) (by omega)), hn⟩
theorem M_order (hM : xMod M nx tak cmt sv sp pl cm pg clk com fog kno bit rd wr lat tn tb h) (hP : xPI tak cmt sv sp pl cm clk com fog kno bit rd wr) (x y : Int32) (hd : 2 ≤ d) : ∃ h', xRun G d 115 (0, [some (.ref M), some (.int x), some (.int y)], [], (h, nx, sl)) (some (.int (aOrder tak sv sp cm com kno x y)), (h', nx, sl)) ∧ xMod M nx tak cmt sv sp pl cm pg clk com fog kno bit rd wr lat tn tb h' ∧ xmo M nx h h' := by
  have hM0 := hM
  obtain ⟨lt, at_, sz, kd, fr, to_, ft, pt, nu, mn, pc, od, hO, ht, hm, hr, hw, hl, hn⟩ := hM
  unfold aOrder
  by_cases hx : xrng 5 x = true
  · rw [if_pos hx]
    obtain ⟨s, hs, rfl⟩ := xrng_of (by omega) hx
    rw [aN_nI (by omega)]
    obtain ⟨r35, r36, r37, r38, r39, ⟨fo, r40⟩⟩ := hr
    obtain ⟨h', f', r, i1, i2, i3, i4⟩ := m_arrange (G := G) (d := d - 1) (nx := nx) (sl := sl) hs hP (by omega) hO hm r40
    have hll := xLs_len hP hs
    have ht5 := hP.1
    generalize hL : xLs tak sv sp cm (kno s) (com s) = L at *
    refine ⟨h', ?_, xMod_scr ht hm hw hl hn i1 ?_ (fun q a1 a2 => i4 q a1 (by omega)), fun q a1 a2 => i4 q (by omega) (by omega)⟩
    · refine xr_go i115_0 rfl ?_
      refine xr_go i115_1 rfl ?_
      refine xr_go i115_2 rfl ?_
      refine xr_ldc2 i115_3 xl115_266 rfl ?_
      refine xr_S i115_6 xc115_77 ⟨by first | exact Or.inl rfl | exact Or.inr rfl, rfl⟩ xa_82 (Nat.le_of_ble_eq_true rfl) (Nat.le_of_ble_eq_true rfl) (by omega) ⟨Nat.le_of_ble_eq_true rfl, Nat.le_of_ble_eq_true rfl⟩ ((s_in (x := nI s) 5 rfl (by omega))) ?_
      refine xr_if_neT i115_9 (t := 14) (by decide) (xbi_1 hx) ?_
      refine xr_go i115_14 rfl ?_
      refine xr_go i115_15 rfl ?_
      refine xr_V i115_16 xc115_249 ⟨rfl, rfl⟩ xa_104 rfl (by assumption) rfl (Nat.le_of_ble_eq_true rfl) (by omega) ⟨Nat.le_of_ble_eq_true rfl, Nat.le_of_ble_eq_true rfl⟩ (r) ?_
      refine xr_go i115_19 rfl ?_
      refine xr_go i115_20 rfl ?_
      refine xr_go i115_21 rfl ?_
      refine xr_go i115_22 rfl ?_
      refine xr_get i115_23 xf115_236 (by assumption) rfl rfl ?_
      refine xr_go i115_26 rfl ?_
      refine xr_go i115_27 rfl ?_
      refine xr_go i115_28 rfl ?_
      refine xr_S i115_29 xc115_77 ⟨by first | exact Or.inl rfl | exact Or.inr rfl, rfl⟩ xa_82 (Nat.le_of_ble_eq_true rfl) (Nat.le_of_ble_eq_true rfl) (by omega) ⟨Nat.le_of_ble_eq_true rfl, Nat.le_of_ble_eq_true rfl⟩ ((s_in (x := y) L.length (in_z (by omega)) (by omega))) ?_
      by_cases hy : xrng L.length y = true
      · rw [if_pos hy]
        obtain ⟨k, hk, rfl⟩ := xrng_of (by omega) hy
        rw [aN_nI (by omega), ← i3 k hk]
        refine xr_if_eqF i115_32 (t := 44) (by decide) (xbi_1 hy) ?_
        refine xr_go i115_35 rfl ?_
        refine xr_get i115_36 xf115_70 (by assumption) rfl rfl ?_
        refine xr_go i115_39 rfl ?_
        refine xr_iald i115_40 (by assumption) rfl (by omega) (by omega) ?_
        refine xr_goto i115_41 (t := 46) (by decide) ?_
        exact xr_iret i115_46 xt_115 rfl
      · rw [if_neg hy]
        refine xr_if_eqT i115_32 (t := 44) (by decide) (xbi_f (by simpa using hy)) ?_
        refine xr_go i115_44 rfl ?_
        exact xr_iret i115_46 xt_115 rfl
    · refine ⟨?_, ?_, ?_, ?_, ?_, ⟨f', i2⟩⟩
      · obtain ⟨f, e⟩ := r35
        exact ⟨f, (i4 _ (by omega) (by omega)).trans e⟩
      · obtain ⟨f, e, z⟩ := r36
        exact ⟨f, (i4 _ (by omega) (by omega)).trans e, z⟩
      · obtain ⟨f, e⟩ := r37
        exact ⟨f, (i4 _ (by omega) (by omega)).trans e⟩
      · obtain ⟨f, e⟩ := r38
        exact ⟨f, (i4 _ (by omega) (by omega)).trans e⟩
      · obtain ⟨f, e⟩ := r39
        exact ⟨f, (i4 _ (by omega) (by omega)).trans e⟩
  · rw [if_neg hx]
    refine ⟨h, ?_, hM0, xmo.refl⟩
    refine xr_go i115_0 rfl ?_
    refine xr_go i115_1 rfl ?_
    refine xr_go i115_2 rfl ?_
    refine xr_ldc2 i115_3 xl115_266 rfl ?_
    refine xr_S i115_6 xc115_77 ⟨by first | exact Or.inl rfl | exact Or.inr rfl, rfl⟩ xa_82 (Nat.le_of_ble_eq_true rfl) (Nat.le_of_ble_eq_true rfl) (by omega) ⟨Nat.le_of_ble_eq_true rfl, Nat.le_of_ble_eq_true rfl⟩ ((s_in (x := x) 5 rfl (by omega))) ?_
    refine xr_if_neF i115_9 (t := 14) (by decide) (by rw [Bool.not_eq_true] at hx; rw [hx]; decide) ?_
    refine xr_go i115_12 rfl ?_
    exact xr_iret i115_13 xt_115 rfl
theorem M_end (hM : xMod M nx tak cmt sv sp pl cm pg clk com fog kno bit rd wr lat tn tb h) (htn : tn ≤ 400) (x : Int32) (hd : 1 ≤ d) : ∃ h', xRun G d 81 (0, [some (.ref M), some (.int x)], [], (h, nx, sl)) (some (.int (aEnd tn x)), (h', nx, sl)) ∧ xMod M nx tak cmt sv sp pl cm pg clk com fog kno bit rd wr lat (nEnd tn x) tb h' ∧ xmo M nx h h' := by
  have hM0 := hM
  obtain ⟨lt, at_, sz, kd, fr, to_, ft, pt, nu, mn, pc, od, hO, ⟨ft1, t1, t2⟩, hm, hr, hw, hl, hn⟩ := hM
  unfold aEnd nEnd
  by_cases hx : xrng (tn + 1) x = true
  · rw [if_pos hx, if_pos hx]
    obtain ⟨n, hn1, rfl⟩ := xrng_of (by omega) hx
    rw [aN_nI (by omega)]
    obtain ⟨k1, ek1⟩ : ∃ z : xH, z = xup h M (.inr (10, xMf M (nI n) (nI tak) (nI cmt) lt at_ sz kd fr to_ ft pt nu mn pc od)) := ⟨_, rfl⟩
    have k1n : ∀ q, q ≠ M → k1 q = h q := fun q hq => by rw [ek1]; exact xup_n hq
    refine ⟨k1, ?_, xMod_scr ⟨ft1, t1, fun j hj => t2 j (by omega)⟩ hm hw hl hn (by rw [ek1]; exact xup_s) (xMr_kept hr (fun q a1 a2 => k1n q (by omega))) (fun q a1 a2 => k1n q a1), fun q a1 a2 => k1n q (by omega)⟩
    refine xr_go i81_0 rfl ?_
    refine xr_go i81_1 rfl ?_
    refine xr_go i81_2 rfl ?_
    refine xr_go i81_3 rfl ?_
    refine xr_get i81_4 xf81_73 (by assumption) rfl rfl ?_
    refine xr_go i81_7 rfl ?_
    refine xr_S i81_8 xc81_77 ⟨by first | exact Or.inl rfl | exact Or.inr rfl, rfl⟩ xa_82 (Nat.le_of_ble_eq_true rfl) (Nat.le_of_ble_eq_true rfl) (by omega) ⟨Nat.le_of_ble_eq_true rfl, Nat.le_of_ble_eq_true rfl⟩ ((s_in (x := nI n) (tn + 1) (in_n (by omega)) (by omega))) ?_
    refine xr_if_neT i81_11 (t := 16) (by decide) (xbi_1 hx) ?_
    refine xr_go i81_16 rfl ?_
    refine xr_go i81_17 rfl ?_
    refine xr_put i81_18 xf81_73 (by assumption) ⟨rfl, Nat.le_of_ble_eq_true rfl, rfl, rfl, Or.inl rfl⟩ (fun z1 ez1 => ?_)
    obtain rfl : z1 = k1 := ez1.trans ek1.symm
    refine xr_go i81_21 rfl ?_
    exact xr_iret i81_22 xt_81 rfl
  · rw [if_neg hx, if_neg hx]
    refine ⟨h, ?_, hM0, xmo.refl⟩
    refine xr_go i81_0 rfl ?_
    refine xr_go i81_1 rfl ?_
    refine xr_go i81_2 rfl ?_
    refine xr_go i81_3 rfl ?_
    refine xr_get i81_4 xf81_73 (by assumption) rfl rfl ?_
    refine xr_go i81_7 rfl ?_
    refine xr_S i81_8 xc81_77 ⟨by first | exact Or.inl rfl | exact Or.inr rfl, rfl⟩ xa_82 (Nat.le_of_ble_eq_true rfl) (Nat.le_of_ble_eq_true rfl) (by omega) ⟨Nat.le_of_ble_eq_true rfl, Nat.le_of_ble_eq_true rfl⟩ ((s_in (x := x) (tn + 1) (in_n (by omega)) (by omega))) ?_
    refine xr_if_neF i81_11 (t := 16) (by decide) (by rw [Bool.not_eq_true] at hx; rw [hx]; decide) ?_
    refine xr_go i81_14 rfl ?_
    exact xr_iret i81_15 xt_81 rfl
theorem m_run_loop {lt : Value} {at_ sz kd fr to_ ft pt mn od : Int32} {nu : Int64} {f : Nat → Int32} (hP : xPI tak cmt sv sp pl cm clk com fog kno bit rd wr) (hd : 3 ≤ d) (n : Nat) (hn : n ≤ 500) (L1 L2 : Option Value) (hok : ∀ w, w < tak → xOKp (pg w)) : ∀ (l : List Nat) (k : Nat) (c : Nat → Int32) (pc : Int32) (h : xH), k + l.length = n → (∀ j, j < l.length → f (k + j) = nI (l.getD j 0)) → (∀ x ∈ l, x < tak) → h M = some (.inr (10, xMf M (nI tn) (nI tak) (nI cmt) lt at_ sz kd fr to_ ft pt nu mn pc od)) → xMd M cmt sv sp pl cm clk com fog kno bit rd wr h → xMr M h → xMw M nx tak pg h → h (M + 36) = some (.inl (0, 32, .inl c)) → (∀ k, 32 ≤ k → c k = 0) → h (M + 40) = some (.inl (0, 500, .inl f)) →
    ∃ h' pc', xRun G d 103 (34, [some (.ref M), L1, L2, some (.int (nI n)), some (.int (nI k))], [], (h, nx, sl)) (none, (h', nx, sl)) ∧ h' M = some (.inr (10, xMf M (nI tn) (nI tak) (nI cmt) lt at_ sz kd fr to_ ft pt nu mn pc' od)) ∧ xMr M h' ∧ h' (M + 36) = some (.inl (0, 32, .inl (xruns sv sp pg c l))) ∧ ∀ q, q ≠ M → q ≠ M + 36 → q ≠ M + 37 → q ≠ M + 38 → q ≠ M + 39 → h' q = h q := by
  intro l
  induction l with
  | nil =>
    intro k c pc h hk hf hl hO hm hr hw hc hz h40
    simp only [List.length_nil, Nat.add_zero] at hk
    refine ⟨h, pc, ?_, hO, hr, hc, fun _ _ _ _ _ _ => rfl⟩
    refine xr_go i103_34 rfl ?_
    refine xr_go i103_36 rfl ?_
    refine xr_icmp_geT i103_37 (t := 58) (by decide) (nI_le (by omega) (by omega)) ?_
    exact xr_end i103_58 rfl
  | cons w l ih =>
    intro k c pc h hk hf hl hO hm hr hw hc hz h40
    simp only [List.length_cons] at hk
    have hwt := hl w List.mem_cons_self
    have ht5 := hP.1
    have hfk := hf 0 (by simp)
    rw [Nat.add_zero, List.getD_cons_zero] at hfk
    obtain ⟨wf, w1, w2⟩ := id hw
    obtain ⟨a, q1, q2, q3, q4⟩ := w2 w hwt
    obtain ⟨r35, r36, ⟨g, r37⟩, r38, r39, r40⟩ := hr
    obtain ⟨k1, pc1, r1, k1M, k1c, k1s, k1f, k1g, k1n⟩ := m_perform (G := G) (d := d - 1) (nx := nx) (sl := sl) (w := w) (sv := sv) (sp := sp) (c := c) (by omega) (by omega) hO w1 q1 q2 q4 hc hm.1 hm.2.1 r37 r38 r39
    have hz1 : ∀ k, 32 ≤ k → xpC (pg w) (nI (sv w)) (nI (sp w)) c k = 0 := fun k hk => by rw [xpC_hi (hok w hwt) hk]; exact hz k hk
    have hr1 : xMr M k1 := by
      obtain ⟨f, e⟩ := r35
      exact ⟨⟨f, (k1n _ (by omega) (by omega) (by omega) (by omega) (by omega)).trans e⟩, ⟨_, k1c, hz1⟩, k1s, k1f, k1g, ⟨_, (k1n _ (by omega) (by omega) (by omega) (by omega) (by omega)).trans h40⟩⟩
    obtain ⟨h', pc', r, i1, i2, i3, i4⟩ := ih (k + 1) _ pc1 k1 (by omega) (fun j hj => by
      have := hf (j + 1) (by simpa using hj)
      rw [List.getD_cons_succ, show k + (j + 1) = k + 1 + j by omega] at this
      exact this) (fun x hx => hl x (List.mem_cons_of_mem _ hx)) k1M (xMd_kept hm (fun q a1 a2 a3 => k1n q (by omega) (by omega) (by omega) (by omega) (by omega))) hr1 (xMw_kept hw (k1n _ (by omega) (by omega) (by omega) (by omega) (by omega)) (Nat.le_refl _) (fun q a1 a2 a3 => k1n q (by omega) (by omega) (by omega) (by omega) (by omega))) k1c hz1 ((k1n _ (by omega) (by omega) (by omega) (by omega) (by omega)).trans h40)
    refine ⟨h', pc', ?_, i1, i2, i3, fun q a1 a2 a3 a4 a5 => (i4 q a1 a2 a3 a4 a5).trans (k1n q a1 a2 a3 a4 a5)⟩
    refine xr_go i103_34 rfl ?_
    refine xr_go i103_36 rfl ?_
    refine xr_icmp_geF i103_37 (t := 58) (by decide) (nI_ge (by omega) (by omega)) ?_
    refine xr_go i103_40 rfl ?_
    refine xr_go i103_41 rfl ?_
    refine xr_get i103_42 xf103_70 (by assumption) rfl rfl ?_
    refine xr_go i103_45 rfl ?_
    refine xr_iald i103_47 (by assumption) rfl (by omega) (by omega) ?_
    rw [hfk]
    refine xr_V i103_48 xc103_256 ⟨rfl, rfl⟩ xa_107 rfl (by assumption) rfl (Nat.le_of_ble_eq_true rfl) (by omega) ⟨Nat.le_of_ble_eq_true rfl, Nat.le_of_ble_eq_true rfl⟩ (r1) ?_
    refine xr_go i103_51 rfl ?_
    refine xr_inc1 i103_52 rfl rfl ?_
    refine xr_goto i103_55 (t := 34) (by decide) ?_
    exact r
theorem xcms_row {s : Nat} {f : Nat → Int32} (hP : xPI tak cmt sv sp pl cm clk com fog kno bit rd wr) (hs : s < 5) (h : xrow f (xLs tak sv sp cm (kno s) (com s))) : xrow f (xcms cm (com s)) := by
  obtain ⟨a1, a2, a3, a4, a5, a6, a7, a8⟩ := hP.2.2.2.2.2.1 s hs
  rw [xLs_eq a8] at h
  intro j hj
  have hl : j < (xord cm (com s) (xtl tak sv sp cm (kno s) (com s))).length := by
    unfold xord
    rw [List.length_append]
    omega
  rw [h j hl]
  unfold xord
  rw [getD_app_l hj]
theorem m_run {s : Nat} {b : Int32} (hs : s < 5) (hM : xMod M nx tak cmt sv sp pl cm pg clk com fog kno bit rd wr lat tn tb h) (hP : xPI tak cmt sv sp pl cm clk com fog kno bit rd wr) (hok : ∀ w, w < tak → xOKp (pg w)) (hd : 3 ≤ d) : ∃ h', xRun G d 103 (0, [some (.ref M), some (.int (nI s)), some (.int b), none, none], [], (h, nx, sl)) (none, (h', nx, sl)) ∧ xMod M nx tak cmt sv sp pl cm pg clk com fog kno bit rd wr lat tn tb h' ∧ h' (M + 36) = some (.inl (0, 32, .inl (xruns sv sp pg xz (if b = 0 then xLs tak sv sp cm (kno s) (com s) else xcms cm (com s))))) ∧ xmo M nx h h' := by
  obtain ⟨lt, at_, sz, kd, fr, to_, ft, pt, nu, mn, pc, od, hO, ht, hm, hr, hw, hl, hn⟩ := hM
  obtain ⟨⟨c35, r35⟩, ⟨c36, r36, z36⟩, ⟨c37, r37⟩, ⟨c38, r38⟩, ⟨c39, r39⟩, ⟨fo, r40⟩⟩ := hr
  obtain ⟨k1, f1, r1, i1, i2, i3, i4⟩ := m_arrange (G := G) (d := d - 1) (nx := nx) (sl := sl) hs hP (by omega) hO hm r40
  have hll := xLs_len hP hs
  have ht5 := hP.1
  have hc5 : com s ≤ 500 := by
    have := (hP.2.2.2.2.2.1 s hs).2.2.2.1
    have := hP.2.1
    omega
  have k136 := (i4 (M + 36) (by omega) (by omega)).trans r36
  have rf := s_fill (G := G) (d := d - 1) (nx := nx) (sl := sl) (v := 0) k136 (by omega)
  have efill : xfill c36 32 0 = xz := by
    funext j
    unfold xfill xz
    split
    · rfl
    · exact z36 j (by omega)
  rw [efill] at rf
  obtain ⟨k2, ek2⟩ : ∃ z : xH, z = xup k1 (M + 36) (.inl (0, 32, .inl xz)) := ⟨_, rfl⟩
  rw [← ek2] at rf
  have k2n : ∀ q, q ≠ M + 36 → k2 q = k1 q := fun q hq => by rw [ek2]; exact xup_n hq
  have k2c : k2 (M + 36) = some (.inl (0, 32, .inl xz)) := by rw [ek2]; exact xup_s
  have o2 : ∀ q, q ≠ M → q ≠ M + 36 → q ≠ M + 40 → k2 q = h q := fun q a1 a2 a3 => (k2n q a2).trans (i4 q a1 a3)
  have k2M := (k2n M (by omega)).trans i1
  have k2r : xMr M k2 := ⟨⟨_, (o2 _ (by omega) (by omega) (by omega)).trans r35⟩, ⟨_, k2c, fun _ _ => rfl⟩, ⟨_, (o2 _ (by omega) (by omega) (by omega)).trans r37⟩, ⟨_, (o2 _ (by omega) (by omega) (by omega)).trans r38⟩, ⟨_, (o2 _ (by omega) (by omega) (by omega)).trans r39⟩, ⟨f1, (k2n _ (by omega)).trans i2⟩⟩
  have k2m := xMd_kept hm (h' := k2) (fun q a1 a2 a3 => o2 q (by omega) (by omega) (by omega))
  have k2w := xMw_kept hw (h' := k2) (o2 _ (by omega) (by omega) (by omega)) (Nat.le_refl _) (fun q a1 a2 a3 => o2 q (by omega) (by omega) (by omega))
  have k214 := k2m.2.2.2.2.2.2.2.1
  have key : ∀ (l : List Nat), xrow f1 l → (∀ x ∈ l, x < tak) → l.length ≤ 500 → ∃ h', xRun G d 103 (30, [some (.ref M), some (.int (nI s)), some (.int b), none, none], [.int (nI l.length)], (k2, nx, sl)) (none, (h', nx, sl)) ∧ xMod M nx tak cmt sv sp pl cm pg clk com fog kno bit rd wr lat tn tb h' ∧ h' (M + 36) = some (.inl (0, 32, .inl (xruns sv sp pg xz l))) ∧ xmo M nx h h' := by
    intro l hrow hlt hl5
    obtain ⟨h', pc', r, j1, j2, j3, j4⟩ := m_run_loop (G := G) (d := d) (nx := nx) (sl := sl) hP hd l.length hl5 (some (.int (nI s))) (some (.int b)) hok l 0 xz pc k2 (by omega) (fun j hj => by rw [Nat.zero_add]; exact hrow j hj) hlt k2M k2m k2r k2w k2c (fun _ _ => rfl) ((k2n _ (by omega)).trans i2)
    refine ⟨h', ?_, xMod_scr ht hm hw hl hn j1 j2 (fun q a1 a2 => (j4 q a1 (by omega) (by omega) (by omega) (by omega)).trans (o2 q a1 (by omega) (by omega))), j3, fun q a1 a2 => (j4 q (by omega) (by omega) (by omega) (by omega) (by omega)).trans (o2 q (by omega) (by omega) (by omega))⟩
    refine xr_go i103_30 rfl ?_
    refine xr_go i103_31 rfl ?_
    refine xr_go i103_32 rfl ?_
    exact r
  have k1M := i1
  by_cases hb : b = 0
  · rw [if_pos hb]
    obtain ⟨h', r, g⟩ := key _ i3 (fun x hx => ((xLs_mem hP hs x).mp hx).1) (by omega)
    refine ⟨h', ?_, g⟩
    refine xr_go i103_0 rfl ?_
    refine xr_go i103_1 rfl ?_
    refine xr_V i103_2 xc103_249 ⟨rfl, rfl⟩ xa_104 rfl (by assumption) rfl (Nat.le_of_ble_eq_true rfl) (by omega) ⟨Nat.le_of_ble_eq_true rfl, Nat.le_of_ble_eq_true rfl⟩ (r1) ?_
    refine xr_go i103_5 rfl ?_
    refine xr_get i103_6 xf103_58 (by assumption) rfl rfl ?_
    refine xr_go i103_9 rfl ?_
    refine xr_S i103_10 xc103_252 ⟨by first | exact Or.inl rfl | exact Or.inr rfl, rfl⟩ xa_122 (Nat.le_of_ble_eq_true rfl) (Nat.le_of_ble_eq_true rfl) (by omega) ⟨Nat.le_of_ble_eq_true rfl, Nat.le_of_ble_eq_true rfl⟩ (rf) ?_
    refine xr_go i103_13 rfl ?_
    refine xr_if_eqT i103_14 (t := 26) (by decide) hb ?_
    refine xr_go i103_26 rfl ?_
    refine xr_get i103_27 xf103_236 (by assumption) rfl rfl ?_
    exact r
  · rw [if_neg hb]
    obtain ⟨h', r, g⟩ := key _ (xcms_row hP hs i3) (fun x hx => by
      obtain ⟨r, hr, e⟩ := xcms_mem.mp hx
      have := (hP.2.2.2.2.2.1 s hs).2.2.1 r hr
      rw [e] at this
      exact (hP.2.2.2.2.2.1 s hs).2.1 x this) (by rw [xcms_len]; exact hc5)
    rw [xcms_len] at r
    refine ⟨h', ?_, g⟩
    refine xr_go i103_0 rfl ?_
    refine xr_go i103_1 rfl ?_
    refine xr_V i103_2 xc103_249 ⟨rfl, rfl⟩ xa_104 rfl (by assumption) rfl (Nat.le_of_ble_eq_true rfl) (by omega) ⟨Nat.le_of_ble_eq_true rfl, Nat.le_of_ble_eq_true rfl⟩ (r1) ?_
    refine xr_go i103_5 rfl ?_
    refine xr_get i103_6 xf103_58 (by assumption) rfl rfl ?_
    refine xr_go i103_9 rfl ?_
    refine xr_S i103_10 xc103_252 ⟨by first | exact Or.inl rfl | exact Or.inr rfl, rfl⟩ xa_122 (Nat.le_of_ble_eq_true rfl) (Nat.le_of_ble_eq_true rfl) (by omega) ⟨Nat.le_of_ble_eq_true rfl, Nat.le_of_ble_eq_true rfl⟩ (rf) ?_
    refine xr_go i103_13 rfl ?_
    refine xr_if_eqF i103_14 (t := 26) (by decide) hb ?_
    refine xr_go i103_17 rfl ?_
    refine xr_get i103_18 xf103_39 (by assumption) rfl rfl ?_
    refine xr_go i103_21 rfl ?_
    refine xr_iald i103_22 (by assumption) rfl (by omega) (by omega) ?_
    refine xr_goto i103_23 (t := 30) (by decide) ?_
    exact r
theorem M_cell (hM : xMod M nx tak cmt sv sp pl cm pg clk com fog kno bit rd wr lat tn tb h) (hP : xPI tak cmt sv sp pl cm clk com fog kno bit rd wr) (hok : ∀ w, w < tak → xOKp (pg w)) (x y b : Int32) (hd : 4 ≤ d) : ∃ h', xRun G d 102 (0, [some (.ref M), some (.int x), some (.int y), some (.int b)], [], (h, nx, sl)) (some (.long (aCell tak sv sp cm pg com kno x y b)), (h', nx, sl)) ∧ xMod M nx tak cmt sv sp pl cm pg clk com fog kno bit rd wr lat tn tb h' ∧ xmo M nx h h' := by
  have hM0 := hM
  unfold aCell
  have hO : ∃ x, h M = some (.inr (10, x)) := by
    obtain ⟨lt, at_, sz, kd, fr, to_, ft, pt, nu, mn, pc, od, hO, -⟩ := hM
    exact ⟨_, hO⟩
  obtain ⟨x0, hO⟩ := hO
  have tail : xRun G d 102 (24, [some (.ref M), some (.int x), some (.int y), some (.int b)], [], (h, nx, sl)) (some (.long 1099511627776), (h, nx, sl)) := by
    refine xr_ldc2 i102_24 xl102_123 rfl ?_
    exact xr_lret i102_27 xt_102
  by_cases hx : xrng 5 x = true
  · by_cases hy : xrng 32 y = true
    · rw [if_pos ⟨hx, hy⟩]
      obtain ⟨s, hs, rfl⟩ := xrng_of (by omega) hx
      obtain ⟨c, hc, rfl⟩ := xrng_of (by omega) hy
      rw [aN_nI (by omega), aN_nI (by omega)]
      obtain ⟨h', r, g1, g2, g3⟩ := m_run (G := G) (d := d - 1) (nx := nx) (sl := sl) (b := b) hs hM hP hok (by omega)
      refine ⟨h', ?_, g1, g3⟩
      obtain ⟨lt, at_, sz, kd, fr, to_, ft, pt, nu, mn, pc, od, hO', -⟩ := g1
      unfold aVal
      refine xr_go i102_0 rfl ?_
      refine xr_go i102_1 rfl ?_
      refine xr_go i102_2 rfl ?_
      refine xr_ldc2 i102_3 xl102_266 rfl ?_
      refine xr_S i102_6 xc102_77 ⟨by first | exact Or.inl rfl | exact Or.inr rfl, rfl⟩ xa_82 (Nat.le_of_ble_eq_true rfl) (Nat.le_of_ble_eq_true rfl) (by omega) ⟨Nat.le_of_ble_eq_true rfl, Nat.le_of_ble_eq_true rfl⟩ ((s_in (x := nI s) 5 rfl (by omega))) ?_
      refine xr_stk (st' := [.int (xbi (xrng 5 (nI s)))]) rfl ?_
      refine xr_if_eqF i102_9 (t := 24) (by decide) (xbi_1 hx) ?_
      refine xr_go i102_12 rfl ?_
      refine xr_go i102_13 rfl ?_
      refine xr_go i102_14 rfl ?_
      refine xr_ldc2 i102_15 xl102_276 rfl ?_
      refine xr_S i102_18 xc102_77 ⟨by first | exact Or.inl rfl | exact Or.inr rfl, rfl⟩ xa_82 (Nat.le_of_ble_eq_true rfl) (Nat.le_of_ble_eq_true rfl) (by omega) ⟨Nat.le_of_ble_eq_true rfl, Nat.le_of_ble_eq_true rfl⟩ ((s_in (x := nI c) 32 rfl (by omega))) ?_
      refine xr_stk (st' := [.int (xbi (xrng 32 (nI c)))]) rfl ?_
      refine xr_if_neT i102_21 (t := 28) (by decide) (xbi_1 hy) ?_
      refine xr_go i102_28 rfl ?_
      refine xr_go i102_29 rfl ?_
      refine xr_go i102_30 rfl ?_
      refine xr_V i102_31 xc102_292 ⟨rfl, rfl⟩ xa_103 rfl (by assumption) rfl (Nat.le_of_ble_eq_true rfl) (by omega) ⟨Nat.le_of_ble_eq_true rfl, Nat.le_of_ble_eq_true rfl⟩ (r) ?_
      refine xr_go i102_34 rfl ?_
      refine xr_get i102_35 xf102_58 (by assumption) rfl rfl ?_
      refine xr_go i102_38 rfl ?_
      refine xr_iald i102_39 (by assumption) rfl (by omega) (by omega) ?_
      refine xr_go i102_40 rfl ?_
      exact xr_lret i102_41 xt_102
    · rw [if_neg (fun z => hy z.2)]
      refine ⟨h, ?_, hM0, xmo.refl⟩
      refine xr_go i102_0 rfl ?_
      refine xr_go i102_1 rfl ?_
      refine xr_go i102_2 rfl ?_
      refine xr_ldc2 i102_3 xl102_266 rfl ?_
      refine xr_S i102_6 xc102_77 ⟨by first | exact Or.inl rfl | exact Or.inr rfl, rfl⟩ xa_82 (Nat.le_of_ble_eq_true rfl) (Nat.le_of_ble_eq_true rfl) (by omega) ⟨Nat.le_of_ble_eq_true rfl, Nat.le_of_ble_eq_true rfl⟩ ((s_in (x := x) 5 rfl (by omega))) ?_
      refine xr_stk (st' := [.int (xbi (xrng 5 x))]) rfl ?_
      refine xr_if_eqF i102_9 (t := 24) (by decide) (xbi_1 hx) ?_
      refine xr_go i102_12 rfl ?_
      refine xr_go i102_13 rfl ?_
      refine xr_go i102_14 rfl ?_
      refine xr_ldc2 i102_15 xl102_276 rfl ?_
      refine xr_S i102_18 xc102_77 ⟨by first | exact Or.inl rfl | exact Or.inr rfl, rfl⟩ xa_82 (Nat.le_of_ble_eq_true rfl) (Nat.le_of_ble_eq_true rfl) (by omega) ⟨Nat.le_of_ble_eq_true rfl, Nat.le_of_ble_eq_true rfl⟩ ((s_in (x := y) 32 rfl (by omega))) ?_
      refine xr_stk (st' := [.int (xbi (xrng 32 y))]) rfl ?_
      refine xr_if_neF i102_21 (t := 28) (by decide) (by rw [Bool.not_eq_true] at hy; rw [hy]; decide) ?_
      exact tail
  · rw [if_neg (fun z => hx z.1)]
    refine ⟨h, ?_, hM0, xmo.refl⟩
    refine xr_go i102_0 rfl ?_
    refine xr_go i102_1 rfl ?_
    refine xr_go i102_2 rfl ?_
    refine xr_ldc2 i102_3 xl102_266 rfl ?_
    refine xr_S i102_6 xc102_77 ⟨by first | exact Or.inl rfl | exact Or.inr rfl, rfl⟩ xa_82 (Nat.le_of_ble_eq_true rfl) (Nat.le_of_ble_eq_true rfl) (by omega) ⟨Nat.le_of_ble_eq_true rfl, Nat.le_of_ble_eq_true rfl⟩ ((s_in (x := x) 5 rfl (by omega))) ?_
    refine xr_stk (st' := [.int (xbi (xrng 5 x))]) rfl ?_
    refine xr_if_eqT i102_9 (t := 24) (by decide) (xbi_f (by simpa using hx)) ?_
    exact tail
end XMCELL

