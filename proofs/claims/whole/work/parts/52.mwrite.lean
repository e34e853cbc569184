/-! ===== the model: reading, learning, writes ===== -/
section XMWR
variable {G : xG} {d : Nat} {h h' : xH} {sl : Nat} {M nx nx' tak cmt : Nat} {sv sp pl cm : Nat → Nat} {pg : Nat → List (Nat × Int32)} {clk com fog : Nat → Nat} {kno : Nat → Nat → Nat} {bit : Nat → Nat} {rd wr : Nat → Nat → Nat} {lat : Option (List (Nat × Int32))} {tn : Nat} {tb : Nat → Nat}
theorem m_vector2 {s j : Nat} {tn rk at_ sz kd fr to_ ft pt mn pc od : Int32} {lt : Value} {nu : Int64} (hO : h M = some (.inr (10, xMf M tn (nI tak) rk lt at_ sz kd fr to_ ft pt nu mn pc od))) (hm : xMd M cmt sv sp pl cm clk com fog kno bit rd wr h) (hs : s < 5) (hj : j < 5) (ht : tak ≤ 500) (hw : ∀ w, w < tak → sv w < 5 ∧ sp w < 2 ^ 31) (hk : ∀ w, kno s w = 0 ∨ kno s w = 1) (hd : 1 ≤ d) : xRun G d 100 (0, [some (.ref M), some (.int (nI s)), some (.int (nI j)), none, none], [], (h, nx, sl)) (some (.int (nI (xvm sv sp (kno s) j tak))), (h, nx, sl)) := by
  refine xr_go i100_0 rfl ?_
  refine xr_go i100_1 rfl ?_
  refine xr_go i100_2 rfl ?_
  refine xr_go i100_3 rfl ?_
  exact m_vector_loop hO hm hs hj ht hw hk hd tak 0 (by omega)
theorem m_read_loop {tn rk at_ sz kd fr to_ ft pt mn pc od : Int32} {lt : Value} {nu : Int64} {s j : Nat} {L3 : Option Value} {b4 : Int32} (hs : s < 5) (hj : j < 8) (hP : xPI tak cmt sv sp pl cm clk com fog kno bit rd wr) (hd : 2 ≤ d) : ∀ (n k : Nat) (rj : Nat → Nat) (h : xH), k + n = 5 → (∀ i, i < 5 → rj i = if i < k then max (rd j i) (xvm sv sp (kno s) i tak) else rd j i) → h M = some (.inr (10, xMf M tn (nI tak) rk lt at_ sz kd fr to_ ft pt nu mn pc od)) → xMd M cmt sv sp pl cm clk com fog kno bit (va_up rd j rj) wr h →
    ∃ h' rj', (∀ i, i < 5 → rj' i = max (rd j i) (xvm sv sp (kno s) i tak)) ∧ xMd M cmt sv sp pl cm clk com fog kno bit (va_up rd j rj') wr h' ∧ (∀ q, q ≠ M + 18 + j → h' q = h q) ∧ ∀ res, xRun G d 101 (137, [some (.ref M), some (.int (nI s)), some (.int (nI j)), L3, some (.int b4), some (.int (nI 5))], [], (h', nx, sl)) res → xRun G d 101 (97, [some (.ref M), some (.int (nI s)), some (.int (nI j)), L3, some (.int b4), some (.int (nI k))], [], (h, nx, sl)) res := by
  intro n
  induction n with
  | zero =>
    intro k rj h hk hrj hO hm
    have : k = 5 := by omega
    subst this
    refine ⟨h, rj, fun i hi => by rw [hrj i hi, if_pos hi], hm, fun _ _ => rfl, fun res r => ?_⟩
    refine xr_go i101_97 rfl ?_
    refine xr_go i101_99 rfl ?_
    refine xr_icmp_geT i101_100 (t := 137) (by decide) (show nI 5 ≤ nI 5 from nI_le (by omega) (by omega)) ?_
    exact r
  | succ n ih =>
    intro k rj h hk hrj hO hm
    obtain ⟨f17, h17, h17'⟩ := hm.2.2.2.2.2.2.2.2.2.2.1
    obtain ⟨fr1, r1, r2⟩ := hm.2.2.2.2.2.2.2.2.2.2.2.1 j hj
    rw [vu_at] at r2
    have h17s := h17' j hj
    have hrk : rj k = rd j k := by rw [hrj k (by omega), if_neg (by omega)]
    have hfk := r2 k (by omega)
    rw [hrk] at hfk
    have hb := ((hP.2.2.2.2.2.2 j hj).2 k (by omega)).1
    have hv := xvm_lt (s := s) (j := k) hP
    have rv := m_vector2 (G := G) (d := d - 1) (nx := nx) (sl := sl) (s := s) (j := k) hO hm hs (by omega) hP.1 hP.2.2.1 (hP.2.2.2.2.2.1 s hs).1 (by omega)
    obtain ⟨k1, ek1⟩ : ∃ z : xH, z = xup h (M + 18 + j) (.inl (0, 5, .inl (upd fr1 k (nI (max (rd j k) (xvm sv sp (kno s) k tak)))))) := ⟨_, rfl⟩
    have k1n : ∀ q, q ≠ M + 18 + j → k1 q = h q := fun q hq => by rw [ek1]; exact xup_n hq
    have m1 := xMd_rd (h' := k1) (j0 := j) (r' := va_up rj k (max (rd j k) (xvm sv sp (kno s) k tak))) hm (fun q a1 a2 a3 a4 => k1n q a4) hj ⟨_, by rw [ek1]; exact xup_s, fun i hi => by
      unfold upd
      by_cases e : i = k
      · rw [if_pos e, e, vu_at]
      · rw [if_neg e, vu_ne e]
        exact r2 i hi⟩
    have e2 : va_up (va_up rd j rj) j (va_up rj k (max (rd j k) (xvm sv sp (kno s) k tak))) = va_up rd j (va_up rj k (max (rd j k) (xvm sv sp (kno s) k tak))) := by
      funext i
      unfold va_up
      split
      · rfl
      · rfl
    rw [e2] at m1
    obtain ⟨h', rj', i1, i2, i3, i4⟩ := ih (k + 1) _ k1 (by omega) (fun i hi => by
      by_cases e : i = k
      · rw [e, vu_at, if_pos (by omega)]
      · rw [vu_ne e, hrj i hi]
        by_cases e3 : i < k
        · rw [if_pos e3, if_pos (by omega)]
        · rw [if_neg e3, if_neg (by omega)]) ((k1n _ (by omega)).trans hO) m1
    refine ⟨h', rj', i1, i2, fun q hq => (i3 q hq).trans (k1n q hq), fun res r => ?_⟩
    refine xr_go i101_97 rfl ?_
    refine xr_go i101_99 rfl ?_
    refine xr_icmp_geF i101_100 (t := 137) (by decide) (show ¬ nI 5 ≤ nI k from nI_ge (by omega) (by omega)) ?_
    refine xr_go i101_103 rfl ?_
    refine xr_get i101_104 xf101_49 (by assumption) rfl rfl ?_
    refine xr_go i101_107 rfl ?_
    refine xr_aald i101_108 (by assumption) (by decide) rfl (by omega) (by omega) (by assumption) ?_
    refine xr_go i101_109 rfl ?_
    refine xr_go i101_111 rfl ?_
    refine xr_get i101_112 xf101_49 (by assumption) rfl rfl ?_
    refine xr_go i101_115 rfl ?_
    refine xr_aald i101_116 (by assumption) (by decide) rfl (by omega) (by omega) (by assumption) ?_
    refine xr_go i101_117 rfl ?_
    refine xr_iald i101_119 (by assumption) rfl (by omega) (by omega) ?_
    rw [hfk]
    refine xr_go i101_120 rfl ?_
    refine xr_go i101_121 rfl ?_
    refine xr_go i101_122 rfl ?_
    refine xr_V i101_124 xc101_263 ⟨rfl, rfl⟩ xa_100 rfl (by assumption) rfl (Nat.le_of_ble_eq_true rfl) (by omega) ⟨Nat.le_of_ble_eq_true rfl, Nat.le_of_ble_eq_true rfl⟩ (rv) ?_
    refine xr_max i101_127 xc101_259 rfl (by omega) (Nat.le_of_ble_eq_true rfl) ((nI_max hb hv)) ?_
    refine xr_iast i101_130 (by assumption) rfl (by omega) (by omega) (fun z1 ez1 => ?_)
    obtain rfl : z1 = k1 := ez1.trans ek1.symm
    refine xr_inc1 i101_131 rfl rfl ?_
    refine xr_goto i101_134 (t := 97) (by decide) ?_
    exact i4 res r
theorem M_read (hM : xMod M nx tak cmt sv sp pl cm pg clk com fog kno bit rd wr lat tn tb h) (hP : xPI tak cmt sv sp pl cm clk com fog kno bit rd wr) (hok : ∀ w, w < tak → xOKp (pg w)) (x y c b : Int32) (hd : 5 ≤ d) : ∃ h', xRun G d 101 (0, [some (.ref M), some (.int x), some (.int y), some (.int c), some (.int b), none], [], (h, nx, sl)) (some (.long (aRead tak sv sp cm pg com kno bit rd wr x y c b)), (h', nx, sl)) ∧ (∃ rd', (∀ j, j < 8 → ∀ k, k < 5 → rd' j k = bRead tak sv sp kno bit rd wr x y c j k) ∧ xMod M nx tak cmt sv sp pl cm pg clk com fog kno bit rd' wr lat tn tb h') ∧ xmo M nx h h' := by
  have hM0 := hM
  obtain ⟨lt, at_, sz, kd, fr, to_, ft, pt, nu, mn, pc, od, hO, ht, hm, hr, hw, hl, hn⟩ := hM
  unfold aRead
  have tail : xRun G d 101 (36, [some (.ref M), some (.int x), some (.int y), some (.int c), some (.int b), none], [], (h, nx, sl)) (some (.long 1099511627776), (h, nx, sl)) := by
    refine xr_ldc2 i101_36 xl101_123 rfl ?_
    exact xr_lret i101_39 xt_101
  have no : ¬ (xrng 5 x = true ∧ xrng 8 y = true ∧ xrng 32 c = true ∧ aMay tak sv sp (kno (aN x)) (bit (aN y)) 1 2 (wr (aN y)) (rd (aN y)) = true) → ∃ rd', (∀ j, j < 8 → ∀ k, k < 5 → rd' j k = bRead tak sv sp kno bit rd wr x y c j k) ∧ xMod M nx tak cmt sv sp pl cm pg clk com fog kno bit rd' wr lat tn tb h := fun z => ⟨rd, fun j _ k _ => by unfold bRead; rw [if_neg z], hM0⟩
  by_cases hx : xrng 5 x = true
  · by_cases hy : xrng 8 y = true
    · by_cases hc : xrng 32 c = true
      · rw [if_pos ⟨hx, hy, hc⟩]
        have hx' := hx
        have hy' := hy
        have hc' := hc
        obtain ⟨s, hs, rfl⟩ := xrng_of (by omega) hx
        obtain ⟨j, hj, rfl⟩ := xrng_of (by omega) hy
        obtain ⟨k, hk, rfl⟩ := xrng_of (by omega) hc
        unfold bRead at no ⊢
        rw [aN_nI (by omega), aN_nI (by omega)] at no ⊢
        have pre : ∀ res, xRun G d 101 (40, [some (.ref M), some (.int (nI s)), some (.int (nI j)), some (.int (nI k)), some (.int b), none], [], (h, nx, sl)) res → xRun G d 101 (0, [some (.ref M), some (.int (nI s)), some (.int (nI j)), some (.int (nI k)), some (.int b), none], [], (h, nx, sl)) res := by
          intro res r
          refine xr_go i101_0 rfl ?_
          refine xr_go i101_1 rfl ?_
          refine xr_go i101_2 rfl ?_
          refine xr_ldc2 i101_3 xl101_266 rfl ?_
          refine xr_S i101_6 xc101_77 ⟨by first | exact Or.inl rfl | exact Or.inr rfl, rfl⟩ xa_82 (Nat.le_of_ble_eq_true rfl) (Nat.le_of_ble_eq_true rfl) (by omega) ⟨Nat.le_of_ble_eq_true rfl, Nat.le_of_ble_eq_true rfl⟩ ((s_in (x := nI s) 5 rfl (by omega))) ?_
          refine xr_stk (st' := [.int (xbi (xrng 5 (nI s)))]) rfl ?_
          refine xr_if_eqF i101_9 (t := 36) (by decide) (xbi_1 hx) ?_
          refine xr_go i101_12 rfl ?_
          refine xr_go i101_13 rfl ?_
          refine xr_go i101_14 rfl ?_
          refine xr_ldc2 i101_15 xl101_268 rfl ?_
          refine xr_S i101_18 xc101_77 ⟨by first | exact Or.inl rfl | exact Or.inr rfl, rfl⟩ xa_82 (Nat.le_of_ble_eq_true rfl) (Nat.le_of_ble_eq_true rfl) (by omega) ⟨Nat.le_of_ble_eq_true rfl, Nat.le_of_ble_eq_true rfl⟩ ((s_in (x := nI j) 8 rfl (by omega))) ?_
          refine xr_stk (st' := [.int (xbi (xrng 8 (nI j)))]) rfl ?_
          refine xr_if_eqF i101_21 (t := 36) (by decide) (xbi_1 hy) ?_
          refine xr_go i101_24 rfl ?_
          refine xr_go i101_25 rfl ?_
          refine xr_go i101_26 rfl ?_
          refine xr_ldc2 i101_27 xl101_276 rfl ?_
          refine xr_S i101_30 xc101_77 ⟨by first | exact Or.inl rfl | exact Or.inr rfl, rfl⟩ xa_82 (Nat.le_of_ble_eq_true rfl) (Nat.le_of_ble_eq_true rfl) (by omega) ⟨Nat.le_of_ble_eq_true rfl, Nat.le_of_ble_eq_true rfl⟩ ((s_in (x := nI k) 32 rfl (by omega))) ?_
          refine xr_stk (st' := [.int (xbi (xrng 32 (nI k)))]) rfl ?_
          refine xr_if_neT i101_33 (t := 40) (by decide) (xbi_1 hc) ?_
          exact r
        have h16 := hm.2.2.2.2.2.2.2.2.2.1
        obtain ⟨f17, h17, h17'⟩ := hm.2.2.2.2.2.2.2.2.2.2.1
        obtain ⟨fr1, r1, r2⟩ := hm.2.2.2.2.2.2.2.2.2.2.2.1 j hj
        have h17s := h17' j hj
        obtain ⟨f26, h26, h26'⟩ := hm.2.2.2.2.2.2.2.2.2.2.2.2.1
        obtain ⟨fw1, w1, w2⟩ := hm.2.2.2.2.2.2.2.2.2.2.2.2.2 j hj
        have h26s := h26' j hj
        have ra1 := m_atLeast (G := G) (d := d - 1) (nx := nx) (sl := sl) (s := s) (g := wr j) hO hm hP hs w1 (fun i hi => ⟨w2 i hi, ((hP.2.2.2.2.2.2 j hj).2 i hi).2⟩) (by omega)
        have ra2 := m_atLeast (G := G) (d := d - 1) (nx := nx) (sl := sl) (s := s) (g := rd j) hO hm hP hs r1 (fun i hi => ⟨r2 i hi, ((hP.2.2.2.2.2.2 j hj).2 i hi).1⟩) (by omega)
        have den : xRun G d 101 (90, [some (.ref M), some (.int (nI s)), some (.int (nI j)), some (.int (nI k)), some (.int b), none], [], (h, nx, sl)) (some (.long 1099511627777), (h, nx, sl)) := by
          refine xr_ldc2 i101_90 xl101_278 rfl ?_
          exact xr_lret i101_93 xt_101
        have hmay : aMay tak sv sp (kno s) (bit j) 1 2 (wr j) (rd j) = true ↔ (nI (bit j) &&& 1 = 0 ∨ aAtl tak sv sp (kno s) (wr j) = true) ∧ (nI (bit j) &&& 2 = 0 ∨ aAtl tak sv sp (kno s) (rd j) = true) := by
          unfold aMay
          simp
        by_cases hmy : aMay tak sv sp (kno s) (bit j) 1 2 (wr j) (rd j) = true
        · rw [if_pos hmy, if_pos ⟨hx', hy', hc', hmy⟩]
          obtain ⟨g1, g2⟩ := hmay.mp hmy
          have gate : ∀ res, xRun G d 101 (94, [some (.ref M), some (.int (nI s)), some (.int (nI j)), some (.int (nI k)), some (.int b), none], [], (h, nx, sl)) res → xRun G d 101 (40, [some (.ref M), some (.int (nI s)), some (.int (nI j)), some (.int (nI k)), some (.int b), none], [], (h, nx, sl)) res := by
            intro res r
            have gate2 : xRun G d 101 (65, [some (.ref M), some (.int (nI s)), some (.int (nI j)), some (.int (nI k)), some (.int b), none], [], (h, nx, sl)) res := by
              refine xr_go i101_65 rfl ?_
              refine xr_get i101_66 xf101_45 (by assumption) rfl rfl ?_
              refine xr_go i101_69 rfl ?_
              refine xr_iald i101_70 (by assumption) rfl (by omega) (by omega) ?_
              refine xr_go i101_71 rfl ?_
              refine xr_go i101_72 rfl ?_
              by_cases e : nI (bit j) &&& 2 = 0
              · refine xr_if_eqT i101_73 (t := 94) (by decide) e ?_
                exact r
              · refine xr_if_eqF i101_73 (t := 94) (by decide) e ?_
                refine xr_go i101_76 rfl ?_
                refine xr_go i101_77 rfl ?_
                refine xr_go i101_78 rfl ?_
                refine xr_get i101_79 xf101_49 (by assumption) rfl rfl ?_
                refine xr_go i101_82 rfl ?_
                refine xr_aald i101_83 (by assumption) (by decide) rfl (by omega) (by omega) (by assumption) ?_
                refine xr_V i101_84 xc101_272 ⟨rfl, rfl⟩ xa_99 rfl (by assumption) rfl (Nat.le_of_ble_eq_true rfl) (by omega) ⟨Nat.le_of_ble_eq_true rfl, Nat.le_of_ble_eq_true rfl⟩ (ra2) ?_
                refine xr_if_neT i101_87 (t := 94) (by decide) (xbi_1 (g2.resolve_left e)) ?_
                exact r
            refine xr_go i101_40 rfl ?_
            refine xr_get i101_41 xf101_45 (by assumption) rfl rfl ?_
            refine xr_go i101_44 rfl ?_
            refine xr_iald i101_45 (by assumption) rfl (by omega) (by omega) ?_
            refine xr_go i101_46 rfl ?_
            refine xr_go i101_47 rfl ?_
            by_cases e : nI (bit j) &&& 1 = 0
            · refine xr_if_eqT i101_48 (t := 65) (by decide) e ?_
              exact gate2
            · refine xr_if_eqF i101_48 (t := 65) (by decide) e ?_
              refine xr_go i101_51 rfl ?_
              refine xr_go i101_52 rfl ?_
              refine xr_go i101_53 rfl ?_
              refine xr_get i101_54 xf101_52 (by assumption) rfl rfl ?_
              refine xr_go i101_57 rfl ?_
              refine xr_aald i101_58 (by assumption) (by decide) rfl (by omega) (by omega) (by assumption) ?_
              refine xr_V i101_59 xc101_272 ⟨rfl, rfl⟩ xa_99 rfl (by assumption) rfl (Nat.le_of_ble_eq_true rfl) (by omega) ⟨Nat.le_of_ble_eq_true rfl, Nat.le_of_ble_eq_true rfl⟩ (ra1) ?_
              refine xr_if_eqF i101_62 (t := 90) (by decide) (xbi_1 (g1.resolve_left e)) ?_
              exact gate2
          obtain ⟨k1, rj, i1, i2, i3, i4⟩ := m_read_loop (G := G) (d := d) (nx := nx) (sl := sl) (s := s) (j := j) (L3 := some (.int (nI k))) (b4 := b) hs hj hP (by omega) 5 0 (rd j) h rfl (fun i hi => by rw [if_neg (by omega)]) hO (by rw [vu_id]; exact hm)
          have hM1 : xMod M nx tak cmt sv sp pl cm pg clk com fog kno bit (va_up rd j rj) wr lat tn tb k1 := by
            obtain ⟨ft1, t1, t2⟩ := ht
            exact ⟨lt, at_, sz, kd, fr, to_, ft, pt, nu, mn, pc, od, (i3 _ (by omega)).trans hO, ⟨ft1, (i3 _ (by omega)).trans t1, t2⟩, i2, xMr_kept hr (fun q a1 a2 => i3 q (by omega)), xMw_kept hw (i3 _ (by omega)) (Nat.le_refl _) (fun q a1 a2 a3 => i3 q (by omega)), xMl_kept hl (Nat.le_refl _) (fun q a1 a2 a3 => i3 q (by omega)), hn⟩
          have hP1 : xPI tak cmt sv sp pl cm clk com fog kno bit (va_up rd j rj) wr := by
            obtain ⟨p1, p2, p3, p4, p5, p6, p7⟩ := hP
            refine ⟨p1, p2, p3, p4, p5, p6, fun a ha => ⟨(p7 a ha).1, fun i hi => ?_⟩⟩
            refine ⟨?_, ((p7 a ha).2 i hi).2⟩
            by_cases e : a = j
            · rw [e, vu_at, i1 i hi]
              have h1 := ((p7 j hj).2 i hi).1
              have h2 := xvm_lt (s := s) (j := i) (tak := tak) (cmt := cmt) (sv := sv) (sp := sp) (pl := pl) (cm := cm) (clk := clk) (com := com) (fog := fog) (kno := kno) (bit := bit) (rd := rd) (wr := wr) ⟨p1, p2, p3, p4, p5, p6, p7⟩
              omega
            · rw [vu_ne e]
              exact ((p7 a ha).2 i hi).1
          obtain ⟨h', r, j1, j2⟩ := M_cell (G := G) (d := d - 1) (nx := nx) (sl := sl) hM1 hP1 hok (nI s) (nI k) b (by omega)
          have ecell : aCell tak sv sp cm pg com kno (nI s) (nI k) b = (aVal tak sv sp cm pg (com s) (kno s) k b).toInt64 := by
            unfold aCell
            rw [if_pos ⟨hx', hc'⟩, aN_nI (by omega), aN_nI (by omega)]
          rw [ecell] at r
          rw [aN_nI (by omega)]
          have k1M : ∃ x, k1 M = some (.inr (10, x)) := ⟨_, (i3 _ (by omega)).trans hO⟩
          obtain ⟨x1, k1M⟩ := k1M
          refine ⟨h', pre _ (gate _ ?_), ⟨va_up rd j rj, fun a ha i hi => ?_, j1⟩, fun q a1 a2 => (j2 q a1 a2).trans (i3 q (by omega))⟩
          · refine xr_go i101_94 rfl ?_
            refine xr_go i101_95 rfl ?_
            refine i4 _ ?_
            refine xr_go i101_137 rfl ?_
            refine xr_go i101_138 rfl ?_
            refine xr_go i101_139 rfl ?_
            refine xr_go i101_140 rfl ?_
            refine xr_V i101_142 xc101_280 ⟨rfl, rfl⟩ xa_102 rfl (by assumption) rfl (Nat.le_of_ble_eq_true rfl) (by omega) ⟨Nat.le_of_ble_eq_true rfl, Nat.le_of_ble_eq_true rfl⟩ (r) ?_
            exact xr_lret i101_145 xt_101
          · by_cases e : a = j
            · rw [e, vu_at, vu_at, i1 i hi]
            · rw [vu_ne e, vu_ne e]
        · rw [if_neg hmy]
          rw [if_neg (fun z => hmy z.2.2.2)] at no ⊢
          refine ⟨h, pre _ ?_, no (fun z => hmy z.2.2.2), xmo.refl⟩
          have hor : (¬ nI (bit j) &&& 1 = 0 ∧ aAtl tak sv sp (kno s) (wr j) = false) ∨ (¬ nI (bit j) &&& 2 = 0 ∧ aAtl tak sv sp (kno s) (rd j) = false) := by
            rw [hmay] at hmy
            by_cases e1 : nI (bit j) &&& 1 = 0
            · by_cases e2 : nI (bit j) &&& 2 = 0
              · exact absurd ⟨Or.inl e1, Or.inl e2⟩ hmy
              · cases e3 : aAtl tak sv sp (kno s) (rd j) with
                | true => exact absurd ⟨Or.inl e1, Or.inr e3⟩ hmy
                | false => exact Or.inr ⟨e2, rfl⟩
            · cases e4 : aAtl tak sv sp (kno s) (wr j) with
              | false => exact Or.inl ⟨e1, rfl⟩
              | true =>
                by_cases e2 : nI (bit j) &&& 2 = 0
                · exact absurd ⟨Or.inr e4, Or.inl e2⟩ hmy
                · cases e3 : aAtl tak sv sp (kno s) (rd j) with
                  | true => exact absurd ⟨Or.inr e4, Or.inr e3⟩ hmy
                  | false => exact Or.inr ⟨e2, rfl⟩
          have g65 : ¬ nI (bit j) &&& 2 = 0 → aAtl tak sv sp (kno s) (rd j) = false → xRun G d 101 (65, [some (.ref M), some (.int (nI s)), some (.int (nI j)), some (.int (nI k)), some (.int b), none], [], (h, nx, sl)) (some (.long 1099511627777), (h, nx, sl)) := by
            intro e1 e2
            refine xr_go i101_65 rfl ?_
            refine xr_get i101_66 xf101_45 (by assumption) rfl rfl ?_
            refine xr_go i101_69 rfl ?_
            refine xr_iald i101_70 (by assumption) rfl (by omega) (by omega) ?_
            refine xr_go i101_71 rfl ?_
            refine xr_go i101_72 rfl ?_
            refine xr_if_eqF i101_73 (t := 94) (by decide) e1 ?_
            refine xr_go i101_76 rfl ?_
            refine xr_go i101_77 rfl ?_
            refine xr_go i101_78 rfl ?_
            refine xr_get i101_79 xf101_49 (by assumption) rfl rfl ?_
            refine xr_go i101_82 rfl ?_
            refine xr_aald i101_83 (by assumption) (by decide) rfl (by omega) (by omega) (by assumption) ?_
            refine xr_V i101_84 xc101_272 ⟨rfl, rfl⟩ xa_99 rfl (by assumption) rfl (Nat.le_of_ble_eq_true rfl) (by omega) ⟨Nat.le_of_ble_eq_true rfl, Nat.le_of_ble_eq_true rfl⟩ (ra2) ?_
            refine xr_if_neF i101_87 (t := 94) (by decide) (by rw [e2]; decide) ?_
            exact den
          refine xr_go i101_40 rfl ?_
          refine xr_get i101_41 xf101_45 (by assumption) rfl rfl ?_
          refine xr_go i101_44 rfl ?_
          refine xr_iald i101_45 (by assumption) rfl (by omega) (by omega) ?_
          refine xr_go i101_46 rfl ?_
          refine xr_go i101_47 rfl ?_
          by_cases e : nI (bit j) &&& 1 = 0
          · refine xr_if_eqT i101_48 (t := 65) (by decide) e ?_
            rcases hor with z | z
            · exact absurd e z.1
            · exact g65 z.1 z.2
          · refine xr_if_eqF i101_48 (t := 65) (by decide) e ?_
            refine xr_go i101_51 rfl ?_
            refine xr_go i101_52 rfl ?_
            refine xr_go i101_53 rfl ?_
            refine xr_get i101_54 xf101_52 (by assumption) rfl rfl ?_
            refine xr_go i101_57 rfl ?_
            refine xr_aald i101_58 (by assumption) (by decide) rfl (by omega) (by omega) (by assumption) ?_
            refine xr_V i101_59 xc101_272 ⟨rfl, rfl⟩ xa_99 rfl (by assumption) rfl (Nat.le_of_ble_eq_true rfl) (by omega) ⟨Nat.le_of_ble_eq_true rfl, Nat.le_of_ble_eq_true rfl⟩ (ra1) ?_
            cases e4 : aAtl tak sv sp (kno s) (wr j) with
            | false =>
              refine xr_if_eqT i101_62 (t := 90) (by decide) (by decide) ?_
              exact den
            | true =>
              refine xr_if_eqF i101_62 (t := 90) (by decide) (by decide) ?_
              rcases hor with z | z
              · rw [e4] at z
                cases z.2
              · exact g65 z.1 z.2
      · rw [if_neg (fun e => hc e.2.2)]
        refine ⟨h, ?_, no (fun e => hc e.2.2.1), xmo.refl⟩
        refine xr_go i101_0 rfl ?_
        refine xr_go i101_1 rfl ?_
        refine xr_go i101_2 rfl ?_
        refine xr_ldc2 i101_3 xl101_266 rfl ?_
        refine xr_S i101_6 xc101_77 ⟨by first | exact Or.inl rfl | exact Or.inr rfl, rfl⟩ xa_82 (Nat.le_of_ble_eq_true rfl) (Nat.le_of_ble_eq_true rfl) (by omega) ⟨Nat.le_of_ble_eq_true rfl, Nat.le_of_ble_eq_true rfl⟩ ((s_in (x := x) 5 rfl (by omega))) ?_
        refine xr_stk (st' := [.int (xbi (xrng 5 x))]) rfl ?_
        refine xr_if_eqF i101_9 (t := 36) (by decide) (xbi_1 hx) ?_
        refine xr_go i101_12 rfl ?_
        refine xr_go i101_13 rfl ?_
        refine xr_go i101_14 rfl ?_
        refine xr_ldc2 i101_15 xl101_268 rfl ?_
        refine xr_S i101_18 xc101_77 ⟨by first | exact Or.inl rfl | exact Or.inr rfl, rfl⟩ xa_82 (Nat.le_of_ble_eq_true rfl) (Nat.le_of_ble_eq_true rfl) (by omega) ⟨Nat.le_of_ble_eq_true rfl, Nat.le_of_ble_eq_true rfl⟩ ((s_in (x := y) 8 rfl (by omega))) ?_
        refine xr_stk (st' := [.int (xbi (xrng 8 y))]) rfl ?_
        refine xr_if_eqF i101_21 (t := 36) (by decide) (xbi_1 hy) ?_
        refine xr_go i101_24 rfl ?_
        refine xr_go i101_25 rfl ?_
        refine xr_go i101_26 rfl ?_
        refine xr_ldc2 i101_27 xl101_276 rfl ?_
        refine xr_S i101_30 xc101_77 ⟨by first | exact Or.inl rfl | exact Or.inr rfl, rfl⟩ xa_82 (Nat.le_of_ble_eq_true rfl) (Nat.le_of_ble_eq_true rfl) (by omega) ⟨Nat.le_of_ble_eq_true rfl, Nat.le_of_ble_eq_true rfl⟩ ((s_in (x := c) 32 rfl (by omega))) ?_
        refine xr_stk (st' := [.int (xbi (xrng 32 c))]) rfl ?_
        refine xr_if_neF i101_33 (t := 40) (by decide) (by rw [Bool.not_eq_true] at hc; rw [hc]; decide) ?_
        exact tail
    · rw [if_neg (fun e => hy e.2.1)]
      refine ⟨h, ?_, no (fun e => hy e.2.1), xmo.refl⟩
      refine xr_go i101_0 rfl ?_
      refine xr_go i101_1 rfl ?_
      refine xr_go i101_2 rfl ?_
      refine xr_ldc2 i101_3 xl101_266 rfl ?_
      refine xr_S i101_6 xc101_77 ⟨by first | exact Or.inl rfl | exact Or.inr rfl, rfl⟩ xa_82 (Nat.le_of_ble_eq_true rfl) (Nat.le_of_ble_eq_true rfl) (by omega) ⟨Nat.le_of_ble_eq_true rfl, Nat.le_of_ble_eq_true rfl⟩ ((s_in (x := x) 5 rfl (by omega))) ?_
      refine xr_stk (st' := [.int (xbi (xrng 5 x))]) rfl ?_
      refine xr_if_eqF i101_9 (t := 36) (by decide) (xbi_1 hx) ?_
      refine xr_go i101_12 rfl ?_
      refine xr_go i101_13 rfl ?_
      refine xr_go i101_14 rfl ?_
      refine xr_ldc2 i101_15 xl101_268 rfl ?_
      refine xr_S i101_18 xc101_77 ⟨by first | exact Or.inl rfl | exact Or.inr rfl, rfl⟩ xa_82 (Nat.le_of_ble_eq_true rfl) (Nat.le_of_ble_eq_true rfl) (by omega) ⟨Nat.le_of_ble_eq_true rfl, Nat.le_of_ble_eq_true rfl⟩ ((s_in (x := y) 8 rfl (by omega))) ?_
      refine xr_stk (st' := [.int (xbi (xrng 8 y))]) rfl ?_
      refine xr_if_eqT i101_21 (t := 36) (by decide) (xbi_f (by simpa using hy)) ?_
      exact tail
  · rw [if_neg (fun e => hx e.1)]
    refine ⟨h, ?_, no (fun e => hx e.1), xmo.refl⟩
    refine xr_go i101_0 rfl ?_
    refine xr_go i101_1 rfl ?_
    refine xr_go i101_2 rfl ?_
    refine xr_ldc2 i101_3 xl101_266 rfl ?_
    refine xr_S i101_6 xc101_77 ⟨by first | exact Or.inl rfl | exact Or.inr rfl, rfl⟩ xa_82 (Nat.le_of_ble_eq_true rfl) (Nat.le_of_ble_eq_true rfl) (by omega) ⟨Nat.le_of_ble_eq_true rfl, Nat.le_of_ble_eq_true rfl⟩ ((s_in (x := x) 5 rfl (by omega))) ?_
    refine xr_stk (st' := [.int (xbi (xrng 5 x))]) rfl ?_
    refine xr_if_eqT i101_9 (t := 36) (by decide) (xbi_f (by simpa using hx)) ?_
    exact tail
theorem xMod_rd {rd' : Nat → Nat → Nat} (hM : xMod M nx tak cmt sv sp pl cm pg clk com fog kno bit rd wr lat tn tb h) (e : ∀ j, j < 8 → ∀ k, k < 5 → rd j k = rd' j k) : xMod M nx tak cmt sv sp pl cm pg clk com fog kno bit rd' wr lat tn tb h := by
  obtain ⟨lt, at_, sz, kd, fr, to_, ft, pt, nu, mn, pc, od, hO, ht, ⟨m0, m1, m2, m3, m4, m5, m6, m7, m8, m9, m10, m11, m12⟩, hr, hw, hl, hn⟩ := hM
  refine ⟨lt, at_, sz, kd, fr, to_, ft, pt, nu, mn, pc, od, hO, ht, ⟨m0, m1, m2, m3, m4, m5, m6, m7, m8, m9, m10, fun j hj => ?_, m12⟩, hr, hw, hl, hn⟩
  obtain ⟨f, g1, g2⟩ := m11 j hj
  exact ⟨f, g1, fun k hk => by rw [g2 k hk, e j hj k hk]⟩
theorem m_learn {s w : Nat} {tn rk at_ sz kd fr to_ ft pt mn pc od tk : Int32} {lt : Value} {nu : Int64} (hO : h M = some (.inr (10, xMf M tn tk rk lt at_ sz kd fr to_ ft pt nu mn pc od))) (hm : xMd M cmt sv sp pl cm clk com fog kno bit rd wr h) (hs : s < 5) (hw : w < 500) (hsp : sp w < 2 ^ 31) (hc : clk s < 2 ^ 31) (hd : 1 ≤ d) : ∃ h', xRun G d 113 (0, [some (.ref M), some (.int (nI s)), some (.int (nI w))], [], (h, nx, sl)) (none, (h', nx, sl)) ∧ xMd M cmt sv sp pl cm (va_up clk s (max (clk s) (sp w))) com fog (va_up kno s (va_up (kno s) w 1)) bit rd wr h' ∧ ∀ q, q ≠ M + 8 + s → q ≠ M + 13 → h' q = h q := by
  obtain ⟨f7, h7, h7'⟩ := hm.2.2.2.2.1
  have h7s := h7' s hs
  have h8s := hm.2.2.2.2.2.1 s hs
  have h3 := hm.2.1
  obtain ⟨k1, ek1⟩ : ∃ z : xH, z = xup h (M + 8 + s) (.inl (1, 500, .inl (fun i => nI (va_up (kno s) w 1 i)))) := ⟨_, rfl⟩
  have k1n : ∀ q, q ≠ M + 8 + s → k1 q = h q := fun q hq => by rw [ek1]; exact xup_n hq
  have k1M := (k1n M (by omega)).trans hO
  have m1 := xMd_kno (h' := k1) (j0 := s) (k' := va_up (kno s) w 1) hm (fun q a1 a2 a3 a4 => k1n q a4) hs (by rw [ek1]; exact xup_s)
  have k13 := m1.2.2.2.2.2.2.1
  have k3 := m1.2.1
  obtain ⟨k2, ek2⟩ : ∃ z : xH, z = xup k1 (M + 13) (.inl (0, 5, .inl (fun i => nI (va_up clk s (max (clk s) (sp w)) i)))) := ⟨_, rfl⟩
  have k2n : ∀ q, q ≠ M + 13 → k2 q = k1 q := fun q hq => by rw [ek2]; exact xup_n hq
  have m2 := xMd_clk (h' := k2) (clk' := va_up clk s (max (clk s) (sp w))) m1 (fun q a1 a2 a3 a4 => k2n q a4) (by rw [ek2]; exact xup_s)
  refine ⟨k2, ?_, m2, fun q a1 a2 => (k2n q a2).trans (k1n q a1)⟩
  refine xr_go i113_0 rfl ?_
  refine xr_get i113_1 xf113_33 (by assumption) rfl rfl ?_
  refine xr_go i113_4 rfl ?_
  refine xr_aald i113_5 (by assumption) (by decide) rfl (by omega) (by omega) (by assumption) ?_
  refine xr_go i113_6 rfl ?_
  refine xr_go i113_7 rfl ?_
  refine xr_zast i113_8 (by assumption) rfl (by omega) (by omega) rfl (fun z1 ez1 => ?_)
  obtain rfl : z1 = k1 := ez1.trans (by rw [ek1, show (Int32.ofInt 1 : Int32) = nI 1 from rfl, xupdN])
  refine xr_go i113_9 rfl ?_
  refine xr_get i113_10 xf113_36 (by assumption) rfl rfl ?_
  refine xr_go i113_13 rfl ?_
  refine xr_go i113_14 rfl ?_
  refine xr_get i113_15 xf113_36 (by assumption) rfl rfl ?_
  refine xr_go i113_18 rfl ?_
  refine xr_iald i113_19 (by assumption) rfl (by omega) (by omega) ?_
  refine xr_go i113_20 rfl ?_
  refine xr_get i113_21 xf113_17 (by assumption) rfl rfl ?_
  refine xr_go i113_24 rfl ?_
  refine xr_iald i113_25 (by assumption) rfl (by omega) (by omega) ?_
  refine xr_max i113_26 xc113_259 rfl (by omega) (Nat.le_of_ble_eq_true rfl) ((nI_max hc hsp)) ?_
  refine xr_iast i113_29 (by assumption) rfl (by omega) (by omega) (fun z2 ez2 => ?_)
  obtain rfl : z2 = k2 := ez2.trans (by rw [ek2, xupdN])
  exact xr_end i113_30 rfl
end XMWR

