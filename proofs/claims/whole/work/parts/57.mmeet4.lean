/-! ===== the model: meet ===== -/
section XMMEET4
variable {G : xG} {d : Nat} {h h' : xH} {sl : Nat} {M nx nx' tak cmt : Nat} {sv sp pl cm : Nat → Nat} {pg : Nat → List (Nat × Int32)} {clk com fog : Nat → Nat} {kno : Nat → Nat → Nat} {bit : Nat → Nat} {rd wr : Nat → Nat → Nat} {lat : Option (List (Nat × Int32))} {tn : Nat} {tb : Nat → Nat}
theorem xPI_pl (hP : xPI tak cmt sv sp pl cm clk com fog kno bit rd wr) : ∀ r, r < cmt → pl (cm r) = r + 1 := by
  intro r hr
  obtain ⟨p1, p2, p3, p4, p5, p6, p7⟩ := hP
  have hw := p4.2.1 r hr
  rcases p5.2.2.2 (cm r) hw with ⟨-, e2⟩ | ⟨e1, e2, e3⟩
  · exact absurd (xcms_mem.mpr ⟨r, hr, rfl⟩) e2
  · have := p4.2.2 (pl (cm r) - 1) r (by omega) hr e3
    omega
theorem M_meet (hM : xMod M nx tak cmt sv sp pl cm pg clk com fog kno bit rd wr lat tn tb h) (hP : xPI tak cmt sv sp pl cm clk com fog kno bit rd wr) (x y z : Int32) (hd : 2 ≤ d) :
    (¬ pMeet x y z → xRun G d 112 (0, [some (.ref M), some (.int x), some (.int y), some (.int z), none, none, none], [], (h, nx, sl)) (some (.int (-1)), (h, nx, sl))) ∧ ∀ f t n, pMeet x y z → x = nI f → y = nI t → z = nI n → f < 5 → t < 5 → n < 2 ^ 31 → ∃ h', xRun G d 112 (0, [some (.ref M), some (.int x), some (.int y), some (.int z), none, none, none], [], (h, nx, sl)) (some (.int (nI (vMeet tak sv sp cm clk com fog kno f t n).1)), (h', nx, sl)) ∧ xMod M nx tak cmt sv sp pl cm pg (va_up clk t (vMeet tak sv sp cm clk com fog kno f t n).2.1) (va_up com t (vMeet tak sv sp cm clk com fog kno f t n).2.2.1) (va_up fog t (vMeet tak sv sp cm clk com fog kno f t n).2.2.2.1) (va_up kno t (vMeet tak sv sp cm clk com fog kno f t n).2.2.2.2) bit rd wr lat tn tb h' ∧ xmo M nx h h' := by
  obtain ⟨lt, at_, sz, kd, fr, to_, ft, pt, nu, mn, pc, od, hO, ⟨ft1, t1, t2⟩, hm, hr, hw, hl, hnx⟩ := hM
  constructor
  · intro hp
    have tail : xRun G d 112 (33, [some (.ref M), some (.int x), some (.int y), some (.int z), none, none, none], [], (h, nx, sl)) (some (.int (-1)), (h, nx, sl)) := by
      refine xr_go i112_33 rfl ?_
      exact xr_iret i112_34 xt_112 rfl
    refine xr_go i112_0 rfl ?_
    by_cases hz : z < 0
    · refine xr_if_ltT i112_1 (t := 33) (by decide) hz ?_
      exact tail
    · refine xr_if_ltF i112_1 (t := 33) (by decide) hz ?_
      refine xr_go i112_4 rfl ?_
      refine xr_go i112_5 rfl ?_
      refine xr_go i112_6 rfl ?_
      refine xr_ldc2 i112_7 xl112_266 rfl ?_
      refine xr_S i112_10 xc112_77 ⟨by first | exact Or.inl rfl | exact Or.inr rfl, rfl⟩ xa_82 (Nat.le_of_ble_eq_true rfl) (Nat.le_of_ble_eq_true rfl) (by omega) ⟨Nat.le_of_ble_eq_true rfl, Nat.le_of_ble_eq_true rfl⟩ ((s_in (x := x) 5 rfl (by omega))) ?_
      refine xr_stk (st' := [.int (xbi (xrng 5 x))]) rfl ?_
      by_cases hx : xrng 5 x = true
      · refine xr_if_eqF i112_13 (t := 33) (by decide) (xbi_1 hx) ?_
        refine xr_go i112_16 rfl ?_
        refine xr_go i112_17 rfl ?_
        refine xr_go i112_18 rfl ?_
        refine xr_ldc2 i112_19 xl112_266 rfl ?_
        refine xr_S i112_22 xc112_77 ⟨by first | exact Or.inl rfl | exact Or.inr rfl, rfl⟩ xa_82 (Nat.le_of_ble_eq_true rfl) (Nat.le_of_ble_eq_true rfl) (by omega) ⟨Nat.le_of_ble_eq_true rfl, Nat.le_of_ble_eq_true rfl⟩ ((s_in (x := y) 5 rfl (by omega))) ?_
        refine xr_stk (st' := [.int (xbi (xrng 5 y))]) rfl ?_
        by_cases hy : xrng 5 y = true
        · refine xr_if_eqF i112_25 (t := 33) (by decide) (xbi_1 hy) ?_
          refine xr_go i112_28 rfl ?_
          refine xr_go i112_29 rfl ?_
          by_cases hxy : x = y
          · refine xr_icmp_neF i112_30 (t := 35) (by decide) hxy ?_
            exact tail
          · exact absurd ⟨hx, hy, hxy, hz⟩ hp
        · refine xr_if_eqT i112_25 (t := 33) (by decide) (xbi_f (by simpa using hy)) ?_
          exact tail
      · refine xr_if_eqT i112_13 (t := 33) (by decide) (xbi_f (by simpa using hx)) ?_
        exact tail
  · rintro f t n ⟨hx, hy, hxy, hz⟩ rfl rfl rfl hf ht hn
    have hft : f ≠ t := fun e => hxy (by rw [e])
    obtain ⟨r35, r36, r37, r38, r39, ⟨fo, r40⟩⟩ := id hr
    obtain ⟨k1, f1, r1, i1, i2, i3, i4⟩ := m_arrange (G := G) (d := d - 1) (nx := nx) (sl := sl) (s := f) hf hP (by omega) hO hm r40
    have hll := xLs_len hP hf
    have hLm := xLs_mem hP hf
    have ht5 := hP.1
    have hct := hP.2.1
    have hU := hP.2.2.2.1
    have hpl := xPI_pl hP
    obtain ⟨a1, a2, a3, a4, a5, a6, a7, a8⟩ := hP.2.2.2.2.2.1 f hf
    obtain ⟨b1, b2, b3, b4, b5, b6, b7, b8⟩ := hP.2.2.2.2.2.1 t ht
    have hLb : ∀ w ∈ xLs tak sv sp cm (kno f) (com f), w < 500 ∧ sp w < 2 ^ 31 := fun w hw => by
      have := (hLm w).mp hw
      exact ⟨by omega, (hP.2.2.1 w this.1).2⟩
    have hcmb : ∀ r, r < cmt → cm r < 500 ∧ sp (cm r) < 2 ^ 31 := fun r hr => by
      have := hU.2.1 r hr
      exact ⟨by omega, (hP.2.2.1 _ this).2⟩
    rw [xLs_eq a8] at i1 i3 hLb hll
    have hol : (xord cm (com f) (xtl tak sv sp cm (kno f) (com f))).length = com f + (xtl tak sv sp cm (kno f) (com f)).length := by
      unfold xord
      rw [List.length_append, xcms_len]
    rw [hol] at i1 hll
    unfold vMeet
    generalize htl : xtl tak sv sp cm (kno f) (com f) = tl at *
    have m1 := xMd_kept hm (h' := k1) (fun q z1 z2 z3 => i4 q (by omega) (by omega))
    have k114 := m1.2.2.2.2.2.2.2.1
    have k115 := m1.2.2.2.2.2.2.2.2.1
    have m1' : xMd M cmt sv sp pl cm (va_up clk t (clk t)) com fog (va_up kno t (kno t)) bit rd wr k1 := by rw [vu_id, vu_id]; exact m1
    have pre : ∀ res, xRun G d 112 (55, [some (.ref M), some (.int (nI f)), some (.int (nI t)), some (.int (nI n)), some (.int 0), none, none], [.int (nI (com t)), .int (nI (fog f))], (k1, nx, sl)) res → xRun G d 112 (0, [some (.ref M), some (.int (nI f)), some (.int (nI t)), some (.int (nI n)), none, none, none], [], (h, nx, sl)) res := by
      intro res r
      have k1M := i1
      refine xr_go i112_0 rfl ?_
      refine xr_if_ltF i112_1 (t := 33) (by decide) (nI_pos hn) ?_
      refine xr_go i112_4 rfl ?_
      refine xr_go i112_5 rfl ?_
      refine xr_go i112_6 rfl ?_
      refine xr_ldc2 i112_7 xl112_266 rfl ?_
      refine xr_S i112_10 xc112_77 ⟨by first | exact Or.inl rfl | exact Or.inr rfl, rfl⟩ xa_82 (Nat.le_of_ble_eq_true rfl) (Nat.le_of_ble_eq_true rfl) (by omega) ⟨Nat.le_of_ble_eq_true rfl, Nat.le_of_ble_eq_true rfl⟩ ((s_in (x := nI f) 5 rfl (by omega))) ?_
      refine xr_stk (st' := [.int (xbi (xrng 5 (nI f)))]) rfl ?_
      refine xr_if_eqF i112_13 (t := 33) (by decide) (xbi_1 hx) ?_
      refine xr_go i112_16 rfl ?_
      refine xr_go i112_17 rfl ?_
      refine xr_go i112_18 rfl ?_
      refine xr_ldc2 i112_19 xl112_266 rfl ?_
      refine xr_S i112_22 xc112_77 ⟨by first | exact Or.inl rfl | exact Or.inr rfl, rfl⟩ xa_82 (Nat.le_of_ble_eq_true rfl) (Nat.le_of_ble_eq_true rfl) (by omega) ⟨Nat.le_of_ble_eq_true rfl, Nat.le_of_ble_eq_true rfl⟩ ((s_in (x := nI t) 5 rfl (by omega))) ?_
      refine xr_stk (st' := [.int (xbi (xrng 5 (nI t)))]) rfl ?_
      refine xr_if_eqF i112_25 (t := 33) (by decide) (xbi_1 hy) ?_
      refine xr_go i112_28 rfl ?_
      refine xr_go i112_29 rfl ?_
      refine xr_icmp_neT i112_30 (t := 35) (by decide) hxy ?_
      refine xr_go i112_35 rfl ?_
      refine xr_go i112_36 rfl ?_
      refine xr_go i112_38 rfl ?_
      refine xr_go i112_39 rfl ?_
      refine xr_V i112_40 xc112_249 ⟨rfl, rfl⟩ xa_104 rfl (by assumption) rfl (Nat.le_of_ble_eq_true rfl) (by omega) ⟨Nat.le_of_ble_eq_true rfl, Nat.le_of_ble_eq_true rfl⟩ (r1) ?_
      refine xr_go i112_43 rfl ?_
      refine xr_get i112_44 xf112_42 (by assumption) rfl rfl ?_
      refine xr_go i112_47 rfl ?_
      refine xr_iald i112_48 (by assumption) rfl (by omega) (by omega) ?_
      refine xr_go i112_49 rfl ?_
      refine xr_get i112_50 xf112_39 (by assumption) rfl rfl ?_
      refine xr_go i112_53 rfl ?_
      refine xr_iald i112_54 (by assumption) rfl (by omega) (by omega) ?_
      exact r
    /- putting the model together again -/
    have fin : ∀ (h' : xH) (clk' com' fog' : Nat → Nat) (kno' : Nat → Nat → Nat), xMd M cmt sv sp pl cm clk' com' fog' kno' bit rd wr h' → (∀ q, q ≠ M → (q < M + 8 ∨ M + 15 < q) → h' q = k1 q) → h' M = k1 M → xMod M nx tak cmt sv sp pl cm pg clk' com' fog' kno' bit rd wr lat tn tb h' ∧ xmo M nx h h' := by
      intro h' clk' com' fog' kno' m9 o9 eM
      have oo : ∀ q, q ≠ M → (q < M + 8 ∨ M + 15 < q) → q ≠ M + 40 → h' q = h q := fun q z1 z2 z3 => (o9 q z1 z2).trans (i4 q z1 z3)
      refine ⟨⟨lt, at_, sz, kd, fr, to_, ft, pt, nu, mn, pc, _, eM.trans i1, ⟨ft1, (oo _ (by omega) (by omega) (by omega)).trans t1, t2⟩, m9, ?_, xMw_kept hw (oo _ (by omega) (by omega) (by omega)) (Nat.le_refl _) (fun q z1 z2 z3 => oo q (by omega) (by omega) (by omega)), xMl_kept hl (Nat.le_refl _) (fun q z1 z2 z3 => oo q (by omega) (by omega) (by omega)), hnx⟩, fun q z1 z2 => oo q (by omega) (by omega) (by omega)⟩
      obtain ⟨f0, e0⟩ := r35
      obtain ⟨f', e', z'⟩ := r36
      obtain ⟨f2, e2⟩ := r37
      obtain ⟨f3, e3⟩ := r38
      obtain ⟨f4, e4⟩ := r39
      exact ⟨⟨f0, (oo _ (by omega) (by omega) (by omega)).trans e0⟩, ⟨f', (oo _ (by omega) (by omega) (by omega)).trans e', z'⟩, ⟨f2, (oo _ (by omega) (by omega) (by omega)).trans e2⟩, ⟨f3, (oo _ (by omega) (by omega) (by omega)).trans e3⟩, ⟨f4, (oo _ (by omega) (by omega) (by omega)).trans e4⟩, ⟨f1, (o9 _ (by omega) (by omega)).trans i2⟩⟩
    by_cases hc : 0 < n ∧ com t < fog f
    · /- the forgotten part comes as one -/
      obtain ⟨k2, j1, j2, j3⟩ := m_meet_fog (G := G) (d := d) (nx := nx) (sl := sl) (M := M) (clk := clk) (kno := kno) (f := f) (t := t) (L3 := some (.int (nI n))) hf ht (by omega) (by omega) hcmb hd (fog f) 0 (clk t) (kno t) k1 (by omega) b6 i1 m1'
      have exa : xadv sp cm (fog f) (clk t) 0 (kno t) = xadv sp cm (fog f - com t) (clk t) (com t) (kno t) := by
        have e := xadv_add (sp := sp) (cm := cm) (com t) (fog f - com t) (clk t) 0 (kno t)
        rw [xadv_known (com t) 0 (fun r z1 z2 => ⟨b3 r (by omega), b7 _ (b3 r (by omega))⟩), show com t + (fog f - com t) = fog f by omega, Nat.zero_add] at e
        exact e
      rw [exa] at j1
      generalize hs1 : xadv sp cm (fog f - com t) (clk t) (com t) (kno t) = s1 at j1
      have hs1c : s1.1 < 2 ^ 31 := by
        rw [← hs1]
        have := xadv_le (sp := sp) (cm := cm) (K := 2 ^ 31 - 1) (fog f - com t) (clk t) (com t) (kno t) (fun r z1 z2 => by
          have := (hcmb r (by omega)).2
          omega) (by omega)
        omega
      have hs1K : (∀ w, s1.2 w = 0 ∨ s1.2 w = 1) ∧ ∀ w, s1.2 w = 1 → sp w ≤ s1.1 := by
        rw [← hs1]
        have key : ∀ (m c r : Nat) (K : Nat → Nat), (∀ w, K w = 0 ∨ K w = 1) → (∀ w, K w = 1 → sp w ≤ c) → (∀ w, (xadv sp cm m c r K).2 w = 0 ∨ (xadv sp cm m c r K).2 w = 1) ∧ ∀ w, (xadv sp cm m c r K).2 w = 1 → sp w ≤ (xadv sp cm m c r K).1 := by
          intro m
          induction m with
          | zero => intro c r K h1 h2; exact ⟨h1, h2⟩
          | succ m ih =>
            intro c r K h1 h2
            refine ih _ _ _ (fun v => ?_) (fun v hv => ?_)
            · unfold va_up
              split
              · exact Or.inr rfl
              · exact h1 v
            · by_cases e : v = cm r
              · rw [e]
                omega
              · rw [vu_ne e] at hv
                have := h2 v hv
                omega
        exact key _ _ _ _ b1 b7
      have k214 := j1.2.2.2.2.2.2.2.1
      have k215 := j1.2.2.2.2.2.2.2.2.1
      have k2M := (j2 M (by omega) (by omega)).trans i1
      obtain ⟨k3, ek3⟩ : ∃ z : xH, z = xup k2 (M + 14) (.inl (0, 5, .inl (fun i => nI (va_up com t (fog f) i)))) := ⟨_, rfl⟩
      have k3n : ∀ q, q ≠ M + 14 → k3 q = k2 q := fun q hq => by rw [ek3]; exact xup_n hq
      have m3 := xMd_com (h' := k3) (com' := va_up com t (fog f)) j1 (fun q z1 z2 z3 z4 => k3n q z4) (by rw [ek3]; exact xup_s)
      have k3M := (k3n M (by omega)).trans k2M
      have k315 := (k3n (M + 15) (by omega)).trans k215
      obtain ⟨k4, ek4⟩ : ∃ z : xH, z = xup k3 (M + 15) (.inl (0, 5, .inl (fun i => nI (va_up fog t (fog f) i)))) := ⟨_, rfl⟩
      have k4n : ∀ q, q ≠ M + 15 → k4 q = k3 q := fun q hq => by rw [ek4]; exact xup_n hq
      have m4 := xMd_fog (h' := k4) (fog' := va_up fog t (fog f)) m3 (fun q z1 z2 z3 z4 => k4n q z4) (by rw [ek4]; exact xup_s)
      have k4M := (k4n M (by omega)).trans k3M
      have k415 := m4.2.2.2.2.2.2.2.2.1
      have o4 : ∀ q, q ≠ M + 8 + t → q ≠ M + 13 → q ≠ M + 14 → q ≠ M + 15 → k4 q = k1 q := fun q z1 z2 z3 z4 => (k4n q z4).trans ((k3n q z3).trans (j2 q z1 z2))
      obtain ⟨h', r, g1, g2⟩ := m_meet_mid (G := G) (d := d) (nx := nx) (sl := sl) (f := f) (t := t) (fo := f1) (tl := tl) (com := com) hf ht (by omega) i3 hLb a4 (by omega) hpl hn hft hd (com f - fog f) (fog f) (fog f) 1 s1.1 s1.2 k4 none (by omega) (Nat.le_refl _) (by omega) (by omega) (by omega) hs1c hs1K.1 hs1K.2 k4M ((o4 _ (by omega) (by omega) (by omega) (by omega)).trans i2) m4
      obtain ⟨q1, q2⟩ := fin h' _ _ _ _ g1 (fun q z1 z2 => (g2 q (by omega) (by omega) (by omega)).trans (o4 q (by omega) (by omega) (by omega) (by omega))) ((g2 M (by omega) (by omega) (by omega)).trans (o4 M (by omega) (by omega) (by omega) (by omega)))
      have ev : xMeet sp cm tl n (clk t) (com t) (fog t) (kno t) (com f) (fog f) = (1 + min (n - 1) (com f - fog f) + (xbring sp tl (n - 1 - min (n - 1) (com f - fog f)) (xadv sp cm (min (n - 1) (com f - fog f)) s1.1 (fog f) s1.2).1 (xadv sp cm (min (n - 1) (com f - fog f)) s1.1 (fog f) s1.2).2).1, (xbring sp tl (n - 1 - min (n - 1) (com f - fog f)) (xadv sp cm (min (n - 1) (com f - fog f)) s1.1 (fog f) s1.2).1 (xadv sp cm (min (n - 1) (com f - fog f)) s1.1 (fog f) s1.2).2).2.1, fog f + min (n - 1) (com f - fog f), fog f, (xbring sp tl (n - 1 - min (n - 1) (com f - fog f)) (xadv sp cm (min (n - 1) (com f - fog f)) s1.1 (fog f) s1.2).1 (xadv sp cm (min (n - 1) (com f - fog f)) s1.1 (fog f) s1.2).2).2.2) := by
        unfold xMeet
        simp only [if_pos hc, hs1]
      rw [ev]
      refine ⟨h', pre _ ?_, q1, q2⟩
      have k1M := i1
      refine xr_icmp_leF i112_55 (t := 123) (by decide) (nI_ge hc.2 (by omega)) ?_
      refine xr_go i112_58 rfl ?_
      refine xr_go i112_60 rfl ?_
      refine xr_icmp_geF i112_61 (t := 123) (by decide) (show ¬ nI n ≤ nI 0 from nI_ge (by omega) hn) ?_
      refine xr_go i112_64 rfl ?_
      refine xr_go i112_65 rfl ?_
      refine j3 _ ?_
      refine xr_go i112_96 rfl ?_
      refine xr_get i112_97 xf112_39 (by assumption) rfl rfl ?_
      refine xr_go i112_100 rfl ?_
      refine xr_go i112_101 rfl ?_
      refine xr_get i112_102 xf112_42 (by assumption) rfl rfl ?_
      refine xr_go i112_105 rfl ?_
      refine xr_iald i112_106 (by assumption) rfl (by omega) (by omega) ?_
      refine xr_iast i112_107 (by assumption) rfl (by omega) (by omega) (fun z3 ez3 => ?_)
      obtain rfl : z3 = k3 := ez3.trans (by rw [ek3, xupdN])
      refine xr_go i112_108 rfl ?_
      refine xr_get i112_109 xf112_42 (by assumption) rfl rfl ?_
      refine xr_go i112_112 rfl ?_
      refine xr_go i112_113 rfl ?_
      refine xr_get i112_114 xf112_42 (by assumption) rfl rfl ?_
      refine xr_go i112_117 rfl ?_
      refine xr_iald i112_118 (by assumption) rfl (by omega) (by omega) ?_
      refine xr_iast i112_119 (by assumption) rfl (by omega) (by omega) (fun z4 ez4 => ?_)
      obtain rfl : z4 = k4 := ez4.trans (by rw [ek4, xupdN])
      refine xr_inc1 i112_120 (j := 0) rfl rfl ?_
      refine xr_go i112_123 rfl ?_
      refine xr_get i112_124 xf112_42 (by assumption) rfl rfl ?_
      refine xr_go i112_127 rfl ?_
      refine xr_iald i112_128 (by assumption) rfl (by omega) (by omega) ?_
      rw [vu_ne hft]
      refine xr_go i112_129 rfl ?_
      exact r
    · /- nothing forgotten comes -/
      have m1'' : xMd M cmt sv sp pl cm (va_up clk t (clk t)) (va_up com t (com t)) fog (va_up kno t (kno t)) bit rd wr k1 := by rw [vu_id, vu_id, vu_id]; exact m1
      have ev : xMeet sp cm tl n (clk t) (com t) (fog t) (kno t) (com f) (fog f) = (0 + min (n - 0) (com f - com t) + (xbring sp tl (n - 0 - min (n - 0) (com f - com t)) (xadv sp cm (min (n - 0) (com f - com t)) (clk t) (com t) (kno t)).1 (xadv sp cm (min (n - 0) (com f - com t)) (clk t) (com t) (kno t)).2).1, (xbring sp tl (n - 0 - min (n - 0) (com f - com t)) (xadv sp cm (min (n - 0) (com f - com t)) (clk t) (com t) (kno t)).1 (xadv sp cm (min (n - 0) (com f - com t)) (clk t) (com t) (kno t)).2).2.1, com t + min (n - 0) (com f - com t), fog t, (xbring sp tl (n - 0 - min (n - 0) (com f - com t)) (xadv sp cm (min (n - 0) (com f - com t)) (clk t) (com t) (kno t)).1 (xadv sp cm (min (n - 0) (com f - com t)) (clk t) (com t) (kno t)).2).2.2) := by
        unfold xMeet
        simp only [if_neg hc, Nat.sub_self]
        rfl
      rw [ev]
      have main : ∃ h', xRun G d 112 (131, [some (.ref M), some (.int (nI f)), some (.int (nI t)), some (.int (nI n)), some (.int (nI 0)), some (.int (nI (fog f))), none], [], (k1, nx, sl)) (some (.int (nI (0 + min (n - 0) (com f - com t) + (xbring sp tl (n - 0 - min (n - 0) (com f - com t)) (xadv sp cm (min (n - 0) (com f - com t)) (clk t) (com t) (kno t)).1 (xadv sp cm (min (n - 0) (com f - com t)) (clk t) (com t) (kno t)).2).1))), (h', nx, sl)) ∧ xMd M cmt sv sp pl cm (va_up clk t (xbring sp tl (n - 0 - min (n - 0) (com f - com t)) (xadv sp cm (min (n - 0) (com f - com t)) (clk t) (com t) (kno t)).1 (xadv sp cm (min (n - 0) (com f - com t)) (clk t) (com t) (kno t)).2).2.1) (va_up com t (com t + min (n - 0) (com f - com t))) fog (va_up kno t (xbring sp tl (n - 0 - min (n - 0) (com f - com t)) (xadv sp cm (min (n - 0) (com f - com t)) (clk t) (com t) (kno t)).1 (xadv sp cm (min (n - 0) (com f - com t)) (clk t) (com t) (kno t)).2).2.2) bit rd wr h' ∧ ∀ q, q ≠ M + 8 + t → q ≠ M + 13 → q ≠ M + 14 → h' q = k1 q := by
        by_cases hn0 : n = 0
        · subst hn0
          rw [Nat.sub_zero, Nat.zero_min, Nat.sub_zero]
          show ∃ h', xRun G d 112 _ (some (.int (nI (0 + 0 + (xbring sp tl 0 (clk t) (kno t)).1))), (h', nx, sl)) ∧ xMd M cmt sv sp pl cm (va_up clk t (xbring sp tl 0 (clk t) (kno t)).2.1) (va_up com t (com t)) fog (va_up kno t (xbring sp tl 0 (clk t) (kno t)).2.2) bit rd wr h' ∧ ∀ q, q ≠ M + 8 + t → q ≠ M + 13 → q ≠ M + 14 → h' q = k1 q
          rw [xbring_0]
          exact ⟨k1, m_meet_exit hn i1, m1'', fun _ _ _ _ => rfl⟩
        · exact m_meet_mid (G := G) (d := d) (nx := nx) (sl := sl) (f := f) (t := t) (fo := f1) (tl := tl) (com := com) hf ht (by omega) i3 hLb a4 (by omega) hpl hn hft hd (com f - fog f) (fog f) (com t) 0 (clk t) (kno t) k1 none (by omega) (by omega) (by omega) (by omega) (by omega) b6 b1 b7 i1 i2 m1''
      obtain ⟨h', r, g1, g2⟩ := main
      obtain ⟨q1, q2⟩ := fin h' _ _ _ _ g1 (fun q z1 z2 => g2 q (by omega) (by omega) (by omega)) (g2 M (by omega) (by omega) (by omega))
      have ef : va_up fog t (fog t) = fog := vu_id
      refine ⟨h', pre _ ?_, by rw [ef]; exact q1, q2⟩
      have k1M := i1
      have tail : xRun G d 112 (123, [some (.ref M), some (.int (nI f)), some (.int (nI t)), some (.int (nI n)), some (.int 0), none, none], [], (k1, nx, sl)) (some (.int (nI (0 + min (n - 0) (com f - com t) + (xbring sp tl (n - 0 - min (n - 0) (com f - com t)) (xadv sp cm (min (n - 0) (com f - com t)) (clk t) (com t) (kno t)).1 (xadv sp cm (min (n - 0) (com f - com t)) (clk t) (com t) (kno t)).2).1))), (h', nx, sl)) := by
        refine xr_go i112_123 rfl ?_
        refine xr_get i112_124 xf112_42 (by assumption) rfl rfl ?_
        refine xr_go i112_127 rfl ?_
        refine xr_iald i112_128 (by assumption) rfl (by omega) (by omega) ?_
        refine xr_go i112_129 rfl ?_
        exact r
      by_cases hle : fog f ≤ com t
      · refine xr_icmp_leT i112_55 (t := 123) (by decide) (nI_le hle (by omega)) ?_
        exact tail
      · refine xr_icmp_leF i112_55 (t := 123) (by decide) (nI_ge (by omega) (by omega)) ?_
        refine xr_go i112_58 rfl ?_
        refine xr_go i112_60 rfl ?_
        refine xr_icmp_geT i112_61 (t := 123) (by decide) (show nI n ≤ nI 0 from nI_le (by omega) (by omega)) ?_
        exact tail
end XMMEET4

