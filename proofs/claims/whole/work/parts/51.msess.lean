/-! ===== the model: outcomes, sessions ===== -/
section XMSESS
variable {G : xG} {d : Nat} {h h' : xH} {sl : Nat} {M nx nx' tak cmt : Nat} {sv sp pl cm : Nat → Nat} {pg : Nat → List (Nat × Int32)} {clk com fog : Nat → Nat} {kno : Nat → Nat → Nat} {bit : Nat → Nat} {rd wr : Nat → Nat → Nat} {lat : Option (List (Nat × Int32))} {tn : Nat} {tb : Nat → Nat}
theorem m_out_loop {lt : Value} {at_ sz kd fr to_ ft pt mn : Int32} {nu : Int64} {f : Nat → Int32} {L : List Nat} {v : Nat} (hP : xPI tak cmt sv sp pl cm clk com fog kno bit rd wr) (hd : 3 ≤ d) (hL5 : L.length ≤ 500) (hv : v < tak) (L1 : Option Value) (hok : ∀ w, w < tak → xOKp (pg w)) (hLt : ∀ x ∈ L, x < tak) (hf : xrow f L) : ∀ (l pre : List Nat) (is : Int32) (c : Nat → Int32) (pc : Int32) (h : xH), L = pre ++ l → v ∈ l → v ∉ pre → c = xruns sv sp pg xz pre → h M = some (.inr (10, xMf M (nI tn) (nI tak) (nI cmt) lt at_ sz kd fr to_ ft pt nu mn pc (nI L.length))) → xMd M cmt sv sp pl cm clk com fog kno bit rd wr h → xMr M h → xMw M nx tak pg h → h (M + 36) = some (.inl (0, 32, .inl c)) → (∀ k, 32 ≤ k → c k = 0) → h (M + 40) = some (.inl (0, 500, .inl f)) →
    ∃ h' pc', xRun G d 116 (62, [some (.ref M), L1, some (.int (nI v)), some (.int is), some (.int (nI pre.length))], [], (h, nx, sl)) (some (.int (nI (xoutAt sv sp pg L (L.idxOf v)))), (h', nx, sl)) ∧ h' M = some (.inr (10, xMf M (nI tn) (nI tak) (nI cmt) lt at_ sz kd fr to_ ft pt nu mn pc' (nI L.length))) ∧ xMr M h' ∧ ∀ q, q ≠ M → q ≠ M + 36 → q ≠ M + 37 → q ≠ M + 38 → q ≠ M + 39 → h' q = h q := by
  intro l
  induction l with
  | nil => intro pre is c pc h _ hv; simp at hv
  | cons w l ih =>
    intro pre is c pc h hLe hvl hvp hce hO hm hr hw hc hz h40
    have ht5 := hP.1
    have hpl : pre.length < L.length := by
      rw [hLe, List.length_append, List.length_cons]
      omega
    have hLw : L.getD pre.length 0 = w := by
      rw [hLe, getD_app_r (Nat.le_refl _), Nat.sub_self]
      rfl
    have hfk : f pre.length = nI w := by rw [hf _ hpl, hLw]
    have hwt : w < tak := hLt w (by rw [hLe]; exact List.mem_append_right _ List.mem_cons_self)
    obtain ⟨wf, w1, w2⟩ := id hw
    obtain ⟨a, q1, q2, q3, q4⟩ := w2 w hwt
    obtain ⟨r35, r36, ⟨g, r37⟩, r38, r39, r40⟩ := hr
    obtain ⟨k1, pc1, r1, k1M, k1c, k1s, k1f, k1g, k1n⟩ := m_perform (G := G) (d := d - 1) (nx := nx) (sl := sl) (w := w) (sv := sv) (sp := sp) (c := c) (by omega) (by omega) hO w1 q1 q2 q4 hc hm.1 hm.2.1 r37 r38 r39
    have hz1 : ∀ k, 32 ≤ k → xpC (pg w) (nI (sv w)) (nI (sp w)) c k = 0 := fun k hk => by rw [xpC_hi (hok w hwt) hk]; exact hz k hk
    have k140 := (k1n (M + 40) (by omega) (by omega) (by omega) (by omega) (by omega)).trans h40
    have hr1 : xMr M k1 := by
      obtain ⟨f, e⟩ := r35
      exact ⟨⟨f, (k1n _ (by omega) (by omega) (by omega) (by omega) (by omega)).trans e⟩, ⟨_, k1c, hz1⟩, k1s, k1f, k1g, ⟨_, k140⟩⟩
    by_cases e : w = v
    · subst e
      have ei : L.idxOf w = pre.length := by
        rw [hLe, List.idxOf_append, if_neg hvp, List.idxOf_cons_self, Nat.zero_add]
      have eo : xoutAt sv sp pg L (L.idxOf w) = xpO (pg w) (nI (sv w)) (nI (sp w)) c := by
        unfold xoutAt
        rw [ei, hLw, hce]
        congr 2
        rw [hLe, List.take_left]
      rw [eo]
      refine ⟨k1, pc1, ?_, k1M, hr1, k1n⟩
      refine xr_go i116_62 rfl ?_
      refine xr_go i116_64 rfl ?_
      refine xr_get i116_65 xf116_236 (by assumption) rfl rfl ?_
      refine xr_icmp_geF i116_68 (t := 102) (by decide) (nI_ge hpl (by omega)) ?_
      refine xr_go i116_71 rfl ?_
      refine xr_go i116_72 rfl ?_
      refine xr_get i116_73 xf116_70 (by assumption) rfl rfl ?_
      refine xr_go i116_76 rfl ?_
      refine xr_iald i116_78 (by assumption) rfl (by omega) (by omega) ?_
      rw [hfk]
      refine xr_V i116_79 xc116_256 ⟨rfl, rfl⟩ xa_107 rfl (by assumption) rfl (Nat.le_of_ble_eq_true rfl) (by omega) ⟨Nat.le_of_ble_eq_true rfl, Nat.le_of_ble_eq_true rfl⟩ (r1) ?_
      refine xr_go i116_82 rfl ?_
      refine xr_go i116_83 rfl ?_
      refine xr_get i116_84 xf116_70 (by assumption) rfl rfl ?_
      refine xr_go i116_87 rfl ?_
      refine xr_iald i116_89 (by assumption) rfl (by omega) (by omega) ?_
      refine xr_go i116_90 rfl ?_
      rw [hfk]
      refine xr_icmp_neF i116_91 (t := 96) (by decide) rfl ?_
      refine xr_go i116_94 rfl ?_
      exact xr_iret i116_95 xt_116 rfl
    · have hvl2 : v ∈ l := by
        rcases List.mem_cons.mp hvl with z | z
        · exact absurd z.symm e
        · exact z
      have hl1 : (pre ++ [w]).length = pre.length + 1 := by simp
      obtain ⟨h', pc', r, i1, i2, i3⟩ := ih (pre ++ [w]) (nI (xpO (pg w) (nI (sv w)) (nI (sp w)) c)) _ pc1 k1 (by rw [hLe]; simp) hvl2 (fun z => by
        rcases List.mem_append.mp z with z | z
        · exact hvp z
        · rw [List.mem_singleton] at z
          exact e z.symm) (by rw [xruns_app, xruns_one, hce]) k1M (xMd_kept hm (fun q a1 a2 a3 => k1n q (by omega) (by omega) (by omega) (by omega) (by omega))) hr1 (xMw_kept hw (k1n _ (by omega) (by omega) (by omega) (by omega) (by omega)) (Nat.le_refl _) (fun q a1 a2 a3 => k1n q (by omega) (by omega) (by omega) (by omega) (by omega))) k1c hz1 k140
      rw [hl1] at r
      refine ⟨h', pc', ?_, i1, i2, fun q a1 a2 a3 a4 a5 => (i3 q a1 a2 a3 a4 a5).trans (k1n q a1 a2 a3 a4 a5)⟩
      refine xr_go i116_62 rfl ?_
      refine xr_go i116_64 rfl ?_
      refine xr_get i116_65 xf116_236 (by assumption) rfl rfl ?_
      refine xr_icmp_geF i116_68 (t := 102) (by decide) (nI_ge hpl (by omega)) ?_
      refine xr_go i116_71 rfl ?_
      refine xr_go i116_72 rfl ?_
      refine xr_get i116_73 xf116_70 (by assumption) rfl rfl ?_
      refine xr_go i116_76 rfl ?_
      refine xr_iald i116_78 (by assumption) rfl (by omega) (by omega) ?_
      rw [hfk]
      refine xr_V i116_79 xc116_256 ⟨rfl, rfl⟩ xa_107 rfl (by assumption) rfl (Nat.le_of_ble_eq_true rfl) (by omega) ⟨Nat.le_of_ble_eq_true rfl, Nat.le_of_ble_eq_true rfl⟩ (r1) ?_
      refine xr_go i116_82 rfl ?_
      refine xr_go i116_83 rfl ?_
      refine xr_get i116_84 xf116_70 (by assumption) rfl rfl ?_
      refine xr_go i116_87 rfl ?_
      refine xr_iald i116_89 (by assumption) rfl (by omega) (by omega) ?_
      refine xr_go i116_90 rfl ?_
      rw [hfk]
      refine xr_icmp_neT i116_91 (t := 96) (by decide) (fun z => e ((nI_eq (by omega) (by omega)).mp z)) ?_
      refine xr_inc1 i116_96 rfl rfl ?_
      refine xr_goto i116_99 (t := 62) (by decide) ?_
      exact r
theorem M_outcome (hM : xMod M nx tak cmt sv sp pl cm pg clk com fog kno bit rd wr lat tn tb h) (hP : xPI tak cmt sv sp pl cm clk com fog kno bit rd wr) (hok : ∀ w, w < tak → xOKp (pg w)) (x y : Int32) (hd : 3 ≤ d) : ∃ h', xRun G d 116 (0, [some (.ref M), some (.int x), some (.int y), none, none], [], (h, nx, sl)) (some (.int (aOut tak sv sp cm pg com kno x y)), (h', nx, sl)) ∧ xMod M nx tak cmt sv sp pl cm pg clk com fog kno bit rd wr lat tn tb h' ∧ xmo M nx h h' := by
  have hM0 := hM
  obtain ⟨lt, at_, sz, kd, fr, to_, ft, pt, nu, mn, pc, od, hO, ht, hm, hr, hw, hl, hn⟩ := hM
  have ht5 := hP.1
  unfold aOut
  by_cases hx : xrng 5 x = true
  · rw [if_pos hx]
    obtain ⟨s, hs, rfl⟩ := xrng_of (by omega) hx
    rw [aN_nI (by omega)]
    have tail : xRun G d 116 (41, [some (.ref M), some (.int (nI s)), some (.int y), none, none], [], (h, nx, sl)) (some (.int (-2)), (h, nx, sl)) := by
      refine xr_go i116_41 rfl ?_
      exact xr_iret i116_43 xt_116 rfl
    by_cases hy : xrng tak y = true
    · obtain ⟨w, hw1, rfl⟩ := xrng_of (by omega) hy
      rw [aN_nI (by omega)]
      obtain ⟨fk, hk7, hk8⟩ := hm.2.2.2.2.1
      have hks := hk8 s hs
      have hkr := hm.2.2.2.2.2.1 s hs
      have pre : ∀ res, xRun G d 116 (38, [some (.ref M), some (.int (nI s)), some (.int (nI w)), none, none], [.int (nI (kno s w))], (h, nx, sl)) res → xRun G d 116 (0, [some (.ref M), some (.int (nI s)), some (.int (nI w)), none, none], [], (h, nx, sl)) res := by
        intro res k
        refine xr_go i116_0 rfl ?_
        refine xr_go i116_1 rfl ?_
        refine xr_go i116_2 rfl ?_
        refine xr_ldc2 i116_3 xl116_266 rfl ?_
        refine xr_S i116_6 xc116_77 ⟨by first | exact Or.inl rfl | exact Or.inr rfl, rfl⟩ xa_82 (Nat.le_of_ble_eq_true rfl) (Nat.le_of_ble_eq_true rfl) (by omega) ⟨Nat.le_of_ble_eq_true rfl, Nat.le_of_ble_eq_true rfl⟩ ((s_in (x := nI s) 5 rfl (by omega))) ?_
        refine xr_stk (st' := [.int (xbi (xrng 5 (nI s)))]) rfl ?_
        refine xr_if_neT i116_9 (t := 14) (by decide) (xbi_1 hx) ?_
        refine xr_go i116_14 rfl ?_
        refine xr_go i116_15 rfl ?_
        refine xr_go i116_16 rfl ?_
        refine xr_go i116_17 rfl ?_
        refine xr_get i116_18 xf116_239 (by assumption) rfl rfl ?_
        refine xr_go i116_21 rfl ?_
        refine xr_go i116_22 rfl ?_
        refine xr_go i116_23 rfl ?_
        refine xr_S i116_24 xc116_77 ⟨by first | exact Or.inl rfl | exact Or.inr rfl, rfl⟩ xa_82 (Nat.le_of_ble_eq_true rfl) (Nat.le_of_ble_eq_true rfl) (by omega) ⟨Nat.le_of_ble_eq_true rfl, Nat.le_of_ble_eq_true rfl⟩ ((s_in (x := nI w) tak (in_z (by omega)) (by omega))) ?_
        refine xr_stk (st' := [.int (xbi (xrng tak (nI w)))]) rfl ?_
        refine xr_if_eqF i116_27 (t := 41) (by decide) (xbi_1 hy) ?_
        refine xr_go i116_30 rfl ?_
        refine xr_get i116_31 xf116_33 (by assumption) rfl rfl ?_
        refine xr_go i116_34 rfl ?_
        refine xr_aald i116_35 (by assumption) (by decide) rfl (by omega) (by omega) (by assumption) ?_
        refine xr_go i116_36 rfl ?_
        refine xr_zald i116_37 (by assumption) rfl (by omega) (by omega) ?_
        exact k
      rcases (hP.2.2.2.2.2.1 s hs).1 w with hk | hk
      · rw [if_neg (fun z => by omega)]
        refine ⟨h, pre _ ?_, hM0, xmo.refl⟩
        refine xr_if_neF i116_38 (t := 44) (by decide) (by rw [hk]; decide) ?_
        exact tail
      · rw [if_pos ⟨hy, hk⟩]
        obtain ⟨⟨c35, r35⟩, ⟨c36, r36, z36⟩, ⟨c37, r37⟩, ⟨c38, r38⟩, ⟨c39, r39⟩, ⟨fo, r40⟩⟩ := hr
        obtain ⟨k1, f1, r1, i1, i2, i3, i4⟩ := m_arrange (G := G) (d := d - 1) (nx := nx) (sl := sl) hs hP (by omega) hO hm r40
        have hll := xLs_len hP hs
        have k136 := (i4 (M + 36) (by omega) (by omega)).trans r36
        have rf := s_fill (G := G) (d := d - 1) (nx := nx) (sl := sl) (v := 0) k136 (by omega)
        have efill : xfill c36 32 0 = xz := by
          funext j
          unfold xfill xz
          split
          · rfl
          · exact z36 j (by omega)
        rw [efill] at rf
        obtain ⟨k2, ek2⟩ : ∃ z : xH, z = xup k1 (M + 36) (.inl (0, 32, .inl xz)) := ⟨_, rfl⟩
        rw [← ek2] at rf
        have k2n : ∀ q, q ≠ M + 36 → k2 q = k1 q := fun q hq => by rw [ek2]; exact xup_n hq
        have k2c : k2 (M + 36) = some (.inl (0, 32, .inl xz)) := by rw [ek2]; exact xup_s
        have o2 : ∀ q, q ≠ M → q ≠ M + 36 → q ≠ M + 40 → k2 q = h q := fun q a1 a2 a3 => (k2n q a2).trans (i4 q a1 a3)
        have k2M := (k2n M (by omega)).trans i1
        have k2r : xMr M k2 := ⟨⟨_, (o2 _ (by omega) (by omega) (by omega)).trans r35⟩, ⟨_, k2c, fun _ _ => rfl⟩, ⟨_, (o2 _ (by omega) (by omega) (by omega)).trans r37⟩, ⟨_, (o2 _ (by omega) (by omega) (by omega)).trans r38⟩, ⟨_, (o2 _ (by omega) (by omega) (by omega)).trans r39⟩, ⟨f1, (k2n _ (by omega)).trans i2⟩⟩
        have k2m := xMd_kept hm (h' := k2) (fun q a1 a2 a3 => o2 q (by omega) (by omega) (by omega))
        have k2w := xMw_kept hw (h' := k2) (o2 _ (by omega) (by omega) (by omega)) (Nat.le_refl _) (fun q a1 a2 a3 => o2 q (by omega) (by omega) (by omega))
        obtain ⟨h', pc', r, j1, j2, j3⟩ := m_out_loop (G := G) (d := d) (nx := nx) (sl := sl) (L := xLs tak sv sp cm (kno s) (com s)) (v := w) hP (by omega) (by omega) hw1 (some (.int (nI s))) hok (fun x hx => ((xLs_mem hP hs x).mp hx).1) i3 _ [] 0 xz pc k2 rfl ((xLs_mem hP hs w).mpr ⟨hw1, hk⟩) (by simp) rfl k2M k2m k2r k2w k2c (fun _ _ => rfl) ((k2n _ (by omega)).trans i2)
        refine ⟨h', pre _ ?_, xMod_scr ht hm hw hl hn j1 j2 (fun q a1 a2 => (j3 q a1 (by omega) (by omega) (by omega) (by omega)).trans (o2 q a1 (by omega) (by omega))), fun q a1 a2 => (j3 q (by omega) (by omega) (by omega) (by omega) (by omega)).trans (o2 q (by omega) (by omega) (by omega))⟩
        have k1M := i1
        refine xr_if_neT i116_38 (t := 44) (by decide) (by rw [hk]; decide) ?_
        refine xr_go i116_44 rfl ?_
        refine xr_go i116_45 rfl ?_
        refine xr_V i116_46 xc116_249 ⟨rfl, rfl⟩ xa_104 rfl (by assumption) rfl (Nat.le_of_ble_eq_true rfl) (by omega) ⟨Nat.le_of_ble_eq_true rfl, Nat.le_of_ble_eq_true rfl⟩ (r1) ?_
        refine xr_go i116_49 rfl ?_
        refine xr_get i116_50 xf116_58 (by assumption) rfl rfl ?_
        refine xr_go i116_53 rfl ?_
        refine xr_S i116_54 xc116_252 ⟨by first | exact Or.inl rfl | exact Or.inr rfl, rfl⟩ xa_122 (Nat.le_of_ble_eq_true rfl) (Nat.le_of_ble_eq_true rfl) (by omega) ⟨Nat.le_of_ble_eq_true rfl, Nat.le_of_ble_eq_true rfl⟩ (rf) ?_
        refine xr_go i116_57 rfl ?_
        refine xr_go i116_58 rfl ?_
        refine xr_go i116_59 rfl ?_
        refine xr_go i116_60 rfl ?_
        exact r
    · rw [if_neg (fun z => hy z.1)]
      refine ⟨h, ?_, hM0, xmo.refl⟩
      refine xr_go i116_0 rfl ?_
      refine xr_go i116_1 rfl ?_
      refine xr_go i116_2 rfl ?_
      refine xr_ldc2 i116_3 xl116_266 rfl ?_
      refine xr_S i116_6 xc116_77 ⟨by first | exact Or.inl rfl | exact Or.inr rfl, rfl⟩ xa_82 (Nat.le_of_ble_eq_true rfl) (Nat.le_of_ble_eq_true rfl) (by omega) ⟨Nat.le_of_ble_eq_true rfl, Nat.le_of_ble_eq_true rfl⟩ ((s_in (x := nI s) 5 rfl (by omega))) ?_
      refine xr_stk (st' := [.int (xbi (xrng 5 (nI s)))]) rfl ?_
      refine xr_if_neT i116_9 (t := 14) (by decide) (xbi_1 hx) ?_
      refine xr_go i116_14 rfl ?_
      refine xr_go i116_15 rfl ?_
      refine xr_go i116_16 rfl ?_
      refine xr_go i116_17 rfl ?_
      refine xr_get i116_18 xf116_239 (by assumption) rfl rfl ?_
      refine xr_go i116_21 rfl ?_
      refine xr_go i116_22 rfl ?_
      refine xr_go i116_23 rfl ?_
      refine xr_S i116_24 xc116_77 ⟨by first | exact Or.inl rfl | exact Or.inr rfl, rfl⟩ xa_82 (Nat.le_of_ble_eq_true rfl) (Nat.le_of_ble_eq_true rfl) (by omega) ⟨Nat.le_of_ble_eq_true rfl, Nat.le_of_ble_eq_true rfl⟩ ((s_in (x := y) tak (in_z (by omega)) (by omega))) ?_
      refine xr_stk (st' := [.int (xbi (xrng tak y))]) rfl ?_
      refine xr_if_eqT i116_27 (t := 41) (by decide) (xbi_f (by simpa using hy)) ?_
      exact tail
  · rw [if_neg hx]
    refine ⟨h, ?_, hM0, xmo.refl⟩
    refine xr_go i116_0 rfl ?_
    refine xr_go i116_1 rfl ?_
    refine xr_go i116_2 rfl ?_
    refine xr_ldc2 i116_3 xl116_266 rfl ?_
    refine xr_S i116_6 xc116_77 ⟨by first | exact Or.inl rfl | exact Or.inr rfl, rfl⟩ xa_82 (Nat.le_of_ble_eq_true rfl) (Nat.le_of_ble_eq_true rfl) (by omega) ⟨Nat.le_of_ble_eq_true rfl, Nat.le_of_ble_eq_true rfl⟩ ((s_in (x := x) 5 rfl (by omega))) ?_
    refine xr_stk (st' := [.int (xbi (xrng 5 x))]) rfl ?_
    refine xr_if_neF i116_9 (t := 14) (by decide) (by rw [Bool.not_eq_true] at hx; rw [hx]; decide) ?_
    refine xr_go i116_12 rfl ?_
    exact xr_iret i116_13 xt_116 rfl
theorem M_assure (hM : xMod M nx tak cmt sv sp pl cm pg clk com fog kno bit rd wr lat tn tb h) (x y z : Int32) (hd : 1 ≤ d) : ∃ h', xRun G d 110 (0, [some (.ref M), some (.int x), some (.int y), some (.int z), none], [], (h, nx, sl)) (some (.int (aAssure bit x y)), (h', nx, sl)) ∧ xMod M nx tak cmt sv sp pl cm pg clk com fog kno (bAssure bit x y) (bClear rd x y z) (bClear wr x y z) lat tn tb h' ∧ xmo M nx h h' := by
  have hM0 := hM
  obtain ⟨lt, at_, sz, kd, fr, to_, ft, pt, nu, mn, pc, od, hO, ⟨ft1, t1, t2⟩, hm, hr, hw, hl, hn⟩ := hM
  unfold aAssure bAssure bClear
  have tail : xRun G d 110 (24, [some (.ref M), some (.int x), some (.int y), some (.int z), none], [], (h, nx, sl)) (some (.int (-1)), (h, nx, sl)) := by
    refine xr_go i110_24 rfl ?_
    exact xr_iret i110_25 xt_110 rfl
  by_cases hx : xrng 8 x = true
  · by_cases hy : xrng 16 y = true
    · rw [if_pos ⟨hx, hy⟩, if_pos ⟨hx, hy⟩]
      obtain ⟨s, hs, rfl⟩ := xrng_of (by omega) hx
      obtain ⟨n, hn1, rfl⟩ := xrng_of (by omega) hy
      rw [aN_nI (by omega), aN_nI (by omega)]
      have h16 := hm.2.2.2.2.2.2.2.2.2.1
      obtain ⟨k1, ek1⟩ : ∃ z : xH, z = xup h (M + 16) (.inl (0, 8, .inl (fun i => nI (va_up bit s n i)))) := ⟨_, rfl⟩
      have k1n : ∀ q, q ≠ M + 16 → k1 q = h q := fun q hq => by rw [ek1]; exact xup_n hq
      have k1M := (k1n M (by omega)).trans hO
      have m1 := xMd_bit (h' := k1) (bit' := va_up bit s n) hm (fun q a1 a2 a3 a4 => k1n q a4) (by rw [ek1]; exact xup_s)
      have pre : ∀ res, xRun G d 110 (42, [some (.ref M), some (.int (nI s)), some (.int (nI n)), some (.int z), some (.int (nI (bit s)))], [.int z], (k1, nx, sl)) res → xRun G d 110 (0, [some (.ref M), some (.int (nI s)), some (.int (nI n)), some (.int z), none], [], (h, nx, sl)) res := by
        intro res k
        refine xr_go i110_0 rfl ?_
        refine xr_go i110_1 rfl ?_
        refine xr_go i110_2 rfl ?_
        refine xr_ldc2 i110_3 xl110_268 rfl ?_
        refine xr_S i110_6 xc110_77 ⟨by first | exact Or.inl rfl | exact Or.inr rfl, rfl⟩ xa_82 (Nat.le_of_ble_eq_true rfl) (Nat.le_of_ble_eq_true rfl) (by omega) ⟨Nat.le_of_ble_eq_true rfl, Nat.le_of_ble_eq_true rfl⟩ ((s_in (x := nI s) 8 rfl (by omega))) ?_
        refine xr_stk (st' := [.int (xbi (xrng 8 (nI s)))]) rfl ?_
        refine xr_if_eqF i110_9 (t := 24) (by decide) (xbi_1 hx) ?_
        refine xr_go i110_12 rfl ?_
        refine xr_go i110_13 rfl ?_
        refine xr_go i110_14 rfl ?_
        refine xr_ldc2 i110_15 xl110_283 rfl ?_
        refine xr_S i110_18 xc110_77 ⟨by first | exact Or.inl rfl | exact Or.inr rfl, rfl⟩ xa_82 (Nat.le_of_ble_eq_true rfl) (Nat.le_of_ble_eq_true rfl) (by omega) ⟨Nat.le_of_ble_eq_true rfl, Nat.le_of_ble_eq_true rfl⟩ ((s_in (x := nI n) 16 rfl (by omega))) ?_
        refine xr_stk (st' := [.int (xbi (xrng 16 (nI n)))]) rfl ?_
        refine xr_if_neT i110_21 (t := 26) (by decide) (xbi_1 hy) ?_
        refine xr_go i110_26 rfl ?_
        refine xr_get i110_27 xf110_45 (by assumption) rfl rfl ?_
        refine xr_go i110_30 rfl ?_
        refine xr_iald i110_31 (by assumption) rfl (by omega) (by omega) ?_
        refine xr_go i110_32 rfl ?_
        refine xr_go i110_34 rfl ?_
        refine xr_get i110_35 xf110_45 (by assumption) rfl rfl ?_
        refine xr_go i110_38 rfl ?_
        refine xr_go i110_39 rfl ?_
        refine xr_iast i110_40 (by assumption) rfl (by omega) (by omega) (fun z1 ez1 => ?_)
        obtain rfl : z1 = k1 := ez1.trans (by rw [ek1, xupdN])
        refine xr_go i110_41 rfl ?_
        exact k
      by_cases hz : z = 0
      · rw [if_neg (fun e => e.2.2 hz), if_neg (fun e => e.2.2 hz)]
        refine ⟨k1, pre _ ?_, ⟨lt, at_, sz, kd, fr, to_, ft, pt, nu, mn, pc, od, k1M, ⟨ft1, (k1n _ (by omega)).trans t1, t2⟩, m1, xMr_kept hr (fun q a1 a2 => k1n q (by omega)), xMw_kept hw (k1n _ (by omega)) (Nat.le_refl _) (fun q a1 a2 a3 => k1n q (by omega)), xMl_kept hl (Nat.le_refl _) (fun q a1 a2 a3 => k1n q (by omega)), hn⟩, fun q a1 a2 => k1n q (by omega)⟩
        refine xr_if_eqT i110_42 (t := 65) (by decide) hz ?_
        refine xr_go i110_65 rfl ?_
        exact xr_iret i110_67 xt_110 rfl
      · rw [if_pos ⟨hx, hy, hz⟩, if_pos ⟨hx, hy, hz⟩]
        obtain ⟨f17, h17, h17'⟩ := m1.2.2.2.2.2.2.2.2.2.2.1
        obtain ⟨fr1, r1, r2⟩ := m1.2.2.2.2.2.2.2.2.2.2.2.1 s hs
        have h17s := h17' s hs
        have rf1 := s_fill (G := G) (d := d - 1) (nx := nx) (sl := sl) (v := 0) r1 (by omega)
        obtain ⟨k2, ek2⟩ : ∃ z : xH, z = xup k1 (M + 18 + s) (.inl (0, 5, .inl (xfill fr1 5 0))) := ⟨_, rfl⟩
        rw [← ek2] at rf1
        have k2n : ∀ q, q ≠ M + 18 + s → k2 q = k1 q := fun q hq => by rw [ek2]; exact xup_n hq
        have k2M := (k2n M (by omega)).trans k1M
        have m2 := xMd_rd (h' := k2) (j0 := s) (r' := fun _ => 0) m1 (fun q a1 a2 a3 a4 => k2n q a4) hs ⟨xfill fr1 5 0, by rw [ek2]; exact xup_s, fun k hk => by unfold xfill; rw [if_pos hk]; rfl⟩
        obtain ⟨f26, h26, h26'⟩ := m2.2.2.2.2.2.2.2.2.2.2.2.2.1
        obtain ⟨fw1, w1, w2⟩ := m2.2.2.2.2.2.2.2.2.2.2.2.2.2 s hs
        have h26s := h26' s hs
        have rf2 := s_fill (G := G) (d := d - 1) (nx := nx) (sl := sl) (v := 0) w1 (by omega)
        obtain ⟨k3, ek3⟩ : ∃ z : xH, z = xup k2 (M + 27 + s) (.inl (0, 5, .inl (xfill fw1 5 0))) := ⟨_, rfl⟩
        rw [← ek3] at rf2
        have k3n : ∀ q, q ≠ M + 27 + s → k3 q = k2 q := fun q hq => by rw [ek3]; exact xup_n hq
        have m3 := xMd_wr (h' := k3) (j0 := s) (r' := fun _ => 0) m2 (fun q a1 a2 a3 a4 => k3n q a4) hs ⟨xfill fw1 5 0, by rw [ek3]; exact xup_s, fun k hk => by unfold xfill; rw [if_pos hk]; rfl⟩
        have o3 : ∀ q, q ≠ M + 16 → q ≠ M + 18 + s → q ≠ M + 27 + s → k3 q = h q := fun q a1 a2 a3 => (k3n q a3).trans ((k2n q a2).trans (k1n q a1))
        refine ⟨k3, pre _ ?_, ⟨lt, at_, sz, kd, fr, to_, ft, pt, nu, mn, pc, od, (k3n M (by omega)).trans k2M, ⟨ft1, (o3 _ (by omega) (by omega) (by omega)).trans t1, t2⟩, m3, xMr_kept hr (fun q a1 a2 => o3 q (by omega) (by omega) (by omega)), xMw_kept hw (o3 _ (by omega) (by omega) (by omega)) (Nat.le_refl _) (fun q a1 a2 a3 => o3 q (by omega) (by omega) (by omega)), xMl_kept hl (Nat.le_refl _) (fun q a1 a2 a3 => o3 q (by omega) (by omega) (by omega)), hn⟩, fun q a1 a2 => o3 q (by omega) (by omega) (by omega)⟩
        refine xr_if_eqF i110_42 (t := 65) (by decide) hz ?_
        refine xr_go i110_45 rfl ?_
        refine xr_get i110_46 xf110_49 (by assumption) rfl rfl ?_
        refine xr_go i110_49 rfl ?_
        refine xr_aald i110_50 (by assumption) (by decide) rfl (by omega) (by omega) (by assumption) ?_
        refine xr_go i110_51 rfl ?_
        refine xr_S i110_52 xc110_252 ⟨by first | exact Or.inl rfl | exact Or.inr rfl, rfl⟩ xa_122 (Nat.le_of_ble_eq_true rfl) (Nat.le_of_ble_eq_true rfl) (by omega) ⟨Nat.le_of_ble_eq_true rfl, Nat.le_of_ble_eq_true rfl⟩ (rf1) ?_
        refine xr_go i110_55 rfl ?_
        refine xr_get i110_56 xf110_52 (by assumption) rfl rfl ?_
        refine xr_go i110_59 rfl ?_
        refine xr_aald i110_60 (by assumption) (by decide) rfl (by omega) (by omega) (by assumption) ?_
        refine xr_go i110_61 rfl ?_
        refine xr_S i110_62 xc110_252 ⟨by first | exact Or.inl rfl | exact Or.inr rfl, rfl⟩ xa_122 (Nat.le_of_ble_eq_true rfl) (Nat.le_of_ble_eq_true rfl) (by omega) ⟨Nat.le_of_ble_eq_true rfl, Nat.le_of_ble_eq_true rfl⟩ (rf2) ?_
        refine xr_go i110_65 rfl ?_
        exact xr_iret i110_67 xt_110 rfl
    · rw [if_neg (fun e => hy e.2), if_neg (fun e => hy e.2), if_neg (fun e => hy e.2.1), if_neg (fun e => hy e.2.1)]
      refine ⟨h, ?_, hM0, xmo.refl⟩
      refine xr_go i110_0 rfl ?_
      refine xr_go i110_1 rfl ?_
      refine xr_go i110_2 rfl ?_
      refine xr_ldc2 i110_3 xl110_268 rfl ?_
      refine xr_S i110_6 xc110_77 ⟨by first | exact Or.inl rfl | exact Or.inr rfl, rfl⟩ xa_82 (Nat.le_of_ble_eq_true rfl) (Nat.le_of_ble_eq_true rfl) (by omega) ⟨Nat.le_of_ble_eq_true rfl, Nat.le_of_ble_eq_true rfl⟩ ((s_in (x := x) 8 rfl (by omega))) ?_
      refine xr_stk (st' := [.int (xbi (xrng 8 x))]) rfl ?_
      refine xr_if_eqF i110_9 (t := 24) (by decide) (xbi_1 hx) ?_
      refine xr_go i110_12 rfl ?_
      refine xr_go i110_13 rfl ?_
      refine xr_go i110_14 rfl ?_
      refine xr_ldc2 i110_15 xl110_283 rfl ?_
      refine xr_S i110_18 xc110_77 ⟨by first | exact Or.inl rfl | exact Or.inr rfl, rfl⟩ xa_82 (Nat.le_of_ble_eq_true rfl) (Nat.le_of_ble_eq_true rfl) (by omega) ⟨Nat.le_of_ble_eq_true rfl, Nat.le_of_ble_eq_true rfl⟩ ((s_in (x := y) 16 rfl (by omega))) ?_
      refine xr_stk (st' := [.int (xbi (xrng 16 y))]) rfl ?_
      refine xr_if_neF i110_21 (t := 26) (by decide) (by rw [Bool.not_eq_true] at hy; rw [hy]; decide) ?_
      exact tail
  · rw [if_neg (fun e => hx e.1), if_neg (fun e => hx e.1), if_neg (fun e => hx e.1), if_neg (fun e => hx e.1)]
    refine ⟨h, ?_, hM0, xmo.refl⟩
    refine xr_go i110_0 rfl ?_
    refine xr_go i110_1 rfl ?_
    refine xr_go i110_2 rfl ?_
    refine xr_ldc2 i110_3 xl110_268 rfl ?_
    refine xr_S i110_6 xc110_77 ⟨by first | exact Or.inl rfl | exact Or.inr rfl, rfl⟩ xa_82 (Nat.le_of_ble_eq_true rfl) (Nat.le_of_ble_eq_true rfl) (by omega) ⟨Nat.le_of_ble_eq_true rfl, Nat.le_of_ble_eq_true rfl⟩ ((s_in (x := x) 8 rfl (by omega))) ?_
    refine xr_stk (st' := [.int (xbi (xrng 8 x))]) rfl ?_
    refine xr_if_eqT i110_9 (t := 24) (by decide) (xbi_f (by simpa using hx)) ?_
    exact tail
end XMSESS

