/-! ===== the model: taking a write, committing ===== -/
section XMWR2
variable {G : xG} {d : Nat} {h h' : xH} {sl : Nat} {M nx nx' tak cmt : Nat} {sv sp pl cm : Nat → Nat} {pg : Nat → List (Nat × Int32)} {clk com fog : Nat → Nat} {kno : Nat → Nat → Nat} {bit : Nat → Nat} {rd wr : Nat → Nat → Nat} {lat : Option (List (Nat × Int32))} {tn : Nat} {tb : Nat → Nat}
theorem M_write_pre {x y z : Int32} {res : Option Value × xW} (hp : pWrite x y z) (hd : 1 ≤ d) (k : xRun G d 98 (38, [some (.ref M), some (.int x), some (.int y), some (.int z)], [], (h, nx, sl)) res) : xRun G d 98 (0, [some (.ref M), some (.int x), some (.int y), some (.int z)], [], (h, nx, sl)) res := by
  obtain ⟨hx, hy, hz⟩ := hp
  refine xr_go i98_0 rfl ?_
  refine xr_go i98_1 rfl ?_
  refine xr_go i98_2 rfl ?_
  refine xr_ldc2 i98_3 xl98_266 rfl ?_
  refine xr_S i98_6 xc98_77 ⟨by first | exact Or.inl rfl | exact Or.inr rfl, rfl⟩ xa_82 (Nat.le_of_ble_eq_true rfl) (Nat.le_of_ble_eq_true rfl) (by omega) ⟨Nat.le_of_ble_eq_true rfl, Nat.le_of_ble_eq_true rfl⟩ ((s_in (x := x) 5 rfl (by omega))) ?_
  refine xr_stk (st' := [.int (xbi (xrng 5 x))]) rfl ?_
  refine xr_if_eqF i98_9 (t := 36) (by decide) (xbi_1 hx) ?_
  refine xr_go i98_12 rfl ?_
  refine xr_go i98_13 rfl ?_
  refine xr_go i98_14 rfl ?_
  refine xr_ldc2 i98_15 xl98_268 rfl ?_
  refine xr_S i98_18 xc98_77 ⟨by first | exact Or.inl rfl | exact Or.inr rfl, rfl⟩ xa_82 (Nat.le_of_ble_eq_true rfl) (Nat.le_of_ble_eq_true rfl) (by omega) ⟨Nat.le_of_ble_eq_true rfl, Nat.le_of_ble_eq_true rfl⟩ ((s_in (x := y) 8 rfl (by omega))) ?_
  refine xr_stk (st' := [.int (xbi (xrng 8 y))]) rfl ?_
  refine xr_if_eqF i98_21 (t := 36) (by decide) (xbi_1 hy) ?_
  refine xr_go i98_24 rfl ?_
  refine xr_go i98_25 rfl ?_
  refine xr_go i98_26 rfl ?_
  refine xr_ldc2 i98_27 xl98_270 rfl ?_
  refine xr_S i98_30 xc98_77 ⟨by first | exact Or.inl rfl | exact Or.inr rfl, rfl⟩ xa_82 (Nat.le_of_ble_eq_true rfl) (Nat.le_of_ble_eq_true rfl) (by omega) ⟨Nat.le_of_ble_eq_true rfl, Nat.le_of_ble_eq_true rfl⟩ ((s_in (x := z) 1000000001 rfl (by omega))) ?_
  refine xr_stk (st' := [.int (xbi (xrng 1000000001 z))]) rfl ?_
  refine xr_if_neT i98_33 (t := 38) (by decide) (xbi_1 hz) ?_
  exact k
theorem M_write_no {x y z : Int32} (hp : ¬ pWrite x y z) (hd : 1 ≤ d) : xRun G d 98 (0, [some (.ref M), some (.int x), some (.int y), some (.int z)], [], (h, nx, sl)) (some (.int (-1)), (h, nx, sl)) := by
  have tail : xRun G d 98 (36, [some (.ref M), some (.int x), some (.int y), some (.int z)], [], (h, nx, sl)) (some (.int (-1)), (h, nx, sl)) := by
    refine xr_go i98_36 rfl ?_
    exact xr_iret i98_37 xt_98 rfl
  refine xr_go i98_0 rfl ?_
  refine xr_go i98_1 rfl ?_
  refine xr_go i98_2 rfl ?_
  refine xr_ldc2 i98_3 xl98_266 rfl ?_
  refine xr_S i98_6 xc98_77 ⟨by first | exact Or.inl rfl | exact Or.inr rfl, rfl⟩ xa_82 (Nat.le_of_ble_eq_true rfl) (Nat.le_of_ble_eq_true rfl) (by omega) ⟨Nat.le_of_ble_eq_true rfl, Nat.le_of_ble_eq_true rfl⟩ ((s_in (x := x) 5 rfl (by omega))) ?_
  refine xr_stk (st' := [.int (xbi (xrng 5 x))]) rfl ?_
  by_cases hx : xrng 5 x = true
  · refine xr_if_eqF i98_9 (t := 36) (by decide) (xbi_1 hx) ?_
    refine xr_go i98_12 rfl ?_
    refine xr_go i98_13 rfl ?_
    refine xr_go i98_14 rfl ?_
    refine xr_ldc2 i98_15 xl98_268 rfl ?_
    refine xr_S i98_18 xc98_77 ⟨by first | exact Or.inl rfl | exact Or.inr rfl, rfl⟩ xa_82 (Nat.le_of_ble_eq_true rfl) (Nat.le_of_ble_eq_true rfl) (by omega) ⟨Nat.le_of_ble_eq_true rfl, Nat.le_of_ble_eq_true rfl⟩ ((s_in (x := y) 8 rfl (by omega))) ?_
    refine xr_stk (st' := [.int (xbi (xrng 8 y))]) rfl ?_
    by_cases hy : xrng 8 y = true
    · refine xr_if_eqF i98_21 (t := 36) (by decide) (xbi_1 hy) ?_
      refine xr_go i98_24 rfl ?_
      refine xr_go i98_25 rfl ?_
      refine xr_go i98_26 rfl ?_
      refine xr_ldc2 i98_27 xl98_270 rfl ?_
      refine xr_S i98_30 xc98_77 ⟨by first | exact Or.inl rfl | exact Or.inr rfl, rfl⟩ xa_82 (Nat.le_of_ble_eq_true rfl) (Nat.le_of_ble_eq_true rfl) (by omega) ⟨Nat.le_of_ble_eq_true rfl, Nat.le_of_ble_eq_true rfl⟩ ((s_in (x := z) 1000000001 rfl (by omega))) ?_
      refine xr_stk (st' := [.int (xbi (xrng 1000000001 z))]) rfl ?_
      by_cases hz : xrng 1000000001 z = true
      · exact absurd ⟨hx, hy, hz⟩ hp
      · refine xr_if_neF i98_33 (t := 38) (by decide) (by rw [Bool.not_eq_true] at hz; rw [hz]; decide) ?_
        exact tail
    · refine xr_if_eqT i98_21 (t := 36) (by decide) (xbi_f (by simpa using hy)) ?_
      exact tail
  · refine xr_if_eqT i98_9 (t := 36) (by decide) (xbi_f (by simpa using hx)) ?_
    exact tail
theorem M_write_none {x y z : Int32} (hM : xMod M nx tak cmt sv sp pl cm pg clk com fog kno bit rd wr none tn tb h) (hp : pWrite x y z) (hd : 1 ≤ d) : xRun G d 98 (0, [some (.ref M), some (.int x), some (.int y), some (.int z)], [], (h, nx, sl)) (some (.int (-2)), (h, nx, sl)) := by
  obtain ⟨lt, at_, sz, kd, fr, to_, ft, pt, nu, mn, pc, od, hO, ht, hm, hr, hw, hl, hn⟩ := hM
  have el : lt = .null := by
    rcases hl with hl | ⟨p, a, e, -⟩
    · exact hl.2
    · cases e
  subst el
  refine M_write_pre hp hd ?_
  refine xr_go i98_38 rfl ?_
  refine xr_get i98_39 xf98_174 (by assumption) rfl rfl ?_
  refine xr_go i98_42 rfl ?_
  refine xr_go i98_45 rfl ?_
  exact xr_iret i98_47 xt_98 rfl
theorem M_write_full {x y z : Int32} {p : List (Nat × Int32)} (hM : xMod M nx tak cmt sv sp pl cm pg clk com fog kno bit rd wr (some p) tn tb h) (hp : pWrite x y z) (h5 : tak = 500) (hd : 1 ≤ d) : xRun G d 98 (0, [some (.ref M), some (.int x), some (.int y), some (.int z)], [], (h, nx, sl)) (some (.int (-3)), (h, nx, sl)) := by
  obtain ⟨lt, at_, sz, kd, fr, to_, ft, pt, nu, mn, pc, od, hO, ht, hm, hr, hw, hl, hn⟩ := hM
  have el : ∃ a, lt = .ref a := by
    rcases hl with hl | ⟨p, a, e, e2, -⟩
    · cases hl.1
    · exact ⟨a, e2⟩
  obtain ⟨a, rfl⟩ := el
  refine M_write_pre hp hd ?_
  refine xr_go i98_38 rfl ?_
  refine xr_get i98_39 xf98_174 (by assumption) rfl rfl ?_
  refine xr_nn i98_42 (t := 48) (by decide) ?_
  refine xr_go i98_48 rfl ?_
  refine xr_get i98_49 xf98_239 (by assumption) rfl rfl ?_
  refine xr_go i98_52 rfl ?_
  refine xr_icmp_neF i98_55 (t := 61) (by decide) (by rw [h5]; rfl) ?_
  refine xr_go i98_58 rfl ?_
  exact xr_iret i98_60 xt_98 rfl
theorem aMay_iff {s : Nat} {b : Nat} {c1 c2 : Int32} {g1 g2 : Nat → Nat} : aMay tak sv sp (kno s) b c1 c2 g1 g2 = true ↔ (nI b &&& c1 = 0 ∨ aAtl tak sv sp (kno s) g1 = true) ∧ (nI b &&& c2 = 0 ∨ aAtl tak sv sp (kno s) g2 = true) := by
  unfold aMay
  simp
theorem aMay_no {s : Nat} {b : Nat} {c1 c2 : Int32} {g1 g2 : Nat → Nat} (h : ¬ aMay tak sv sp (kno s) b c1 c2 g1 g2 = true) : (¬ nI b &&& c1 = 0 ∧ aAtl tak sv sp (kno s) g1 = false) ∨ (¬ nI b &&& c2 = 0 ∧ aAtl tak sv sp (kno s) g2 = false) := by
  rw [aMay_iff] at h
  by_cases e1 : nI b &&& c1 = 0
  · by_cases e2 : nI b &&& c2 = 0
    · exact absurd ⟨Or.inl e1, Or.inl e2⟩ h
    · cases e3 : aAtl tak sv sp (kno s) g2 with
      | true => exact absurd ⟨Or.inl e1, Or.inr e3⟩ h
      | false => exact Or.inr ⟨e2, rfl⟩
  · cases e4 : aAtl tak sv sp (kno s) g1 with
    | false => exact Or.inl ⟨e1, rfl⟩
    | true =>
      by_cases e2 : nI b &&& c2 = 0
      · exact absurd ⟨Or.inr e4, Or.inl e2⟩ h
      · cases e3 : aAtl tak sv sp (kno s) g2 with
        | true => exact absurd ⟨Or.inr e4, Or.inr e3⟩ h
        | false => exact Or.inr ⟨e2, rfl⟩
/-- whether the session may write there -/
theorem M_write_may {s j : Nat} {z : Int32} {p : List (Nat × Int32)} {res : Option Value × xW} (hM : xMod M nx tak cmt sv sp pl cm pg clk com fog kno bit rd wr (some p) tn tb h) (hP : xPI tak cmt sv sp pl cm clk com fog kno bit rd wr) (hp : pWrite (nI s) (nI j) z) (hs : s < 5) (hj : j < 8) (h5 : tak < 500) (hd : 3 ≤ d) (k : xRun G d 98 (if aMay tak sv sp (kno s) (bit j) 4 8 (rd j) (wr j) = true then 115 else 112, [some (.ref M), some (.int (nI s)), some (.int (nI j)), some (.int z)], [], (h, nx, sl)) res) : xRun G d 98 (0, [some (.ref M), some (.int (nI s)), some (.int (nI j)), some (.int z)], [], (h, nx, sl)) res := by
  obtain ⟨lt, at_, sz, kd, fr, to_, ft, pt, nu, mn, pc, od, hO, ht, hm, hr, hw, hl, hn⟩ := hM
  have el : ∃ a, lt = .ref a := by
    rcases hl with hl | ⟨p, a, e, e2, -⟩
    · cases hl.1
    · exact ⟨a, e2⟩
  obtain ⟨a, rfl⟩ := el
  have h16 := hm.2.2.2.2.2.2.2.2.2.1
  obtain ⟨f17, h17, h17'⟩ := hm.2.2.2.2.2.2.2.2.2.2.1
  obtain ⟨fr1, r1, r2⟩ := hm.2.2.2.2.2.2.2.2.2.2.2.1 j hj
  have h17s := h17' j hj
  obtain ⟨f26, h26, h26'⟩ := hm.2.2.2.2.2.2.2.2.2.2.2.2.1
  obtain ⟨fw1, w1, w2⟩ := hm.2.2.2.2.2.2.2.2.2.2.2.2.2 j hj
  have h26s := h26' j hj
  have ra1 := m_atLeast (G := G) (d := d - 1) (nx := nx) (sl := sl) (s := s) (g := rd j) hO hm hP hs r1 (fun i hi => ⟨r2 i hi, ((hP.2.2.2.2.2.2 j hj).2 i hi).1⟩) (by omega)
  have ra2 := m_atLeast (G := G) (d := d - 1) (nx := nx) (sl := sl) (s := s) (g := wr j) hO hm hP hs w1 (fun i hi => ⟨w2 i hi, ((hP.2.2.2.2.2.2 j hj).2 i hi).2⟩) (by omega)
  have pre : xRun G d 98 (61, [some (.ref M), some (.int (nI s)), some (.int (nI j)), some (.int z)], [], (h, nx, sl)) res → xRun G d 98 (0, [some (.ref M), some (.int (nI s)), some (.int (nI j)), some (.int z)], [], (h, nx, sl)) res := by
    intro r
    refine M_write_pre hp (by omega) ?_
    refine xr_go i98_38 rfl ?_
    refine xr_get i98_39 xf98_174 (by assumption) rfl rfl ?_
    refine xr_nn i98_42 (t := 48) (by decide) ?_
    refine xr_go i98_48 rfl ?_
    refine xr_get i98_49 xf98_239 (by assumption) rfl rfl ?_
    refine xr_go i98_52 rfl ?_
    refine xr_icmp_neT i98_55 (t := 61) (by decide) (fun e => by have := (nI_eq (a := tak) (b := 500) (by omega) (by omega)).mp e; omega) ?_
    exact r
  refine pre ?_
  by_cases hmy : aMay tak sv sp (kno s) (bit j) 4 8 (rd j) (wr j) = true
  · rw [if_pos hmy] at k
    obtain ⟨g1, g2⟩ := aMay_iff.mp hmy
    have gate2 : xRun G d 98 (86, [some (.ref M), some (.int (nI s)), some (.int (nI j)), some (.int z)], [], (h, nx, sl)) res := by
      refine xr_go i98_86 rfl ?_
      refine xr_get i98_87 xf98_45 (by assumption) rfl rfl ?_
      refine xr_go i98_90 rfl ?_
      refine xr_iald i98_91 (by assumption) rfl (by omega) (by omega) ?_
      refine xr_go i98_92 rfl ?_
      refine xr_go i98_94 rfl ?_
      by_cases e : nI (bit j) &&& 8 = 0
      · refine xr_if_eqT i98_95 (t := 115) (by decide) e ?_
        exact k
      · refine xr_if_eqF i98_95 (t := 115) (by decide) e ?_
        refine xr_go i98_98 rfl ?_
        refine xr_go i98_99 rfl ?_
        refine xr_go i98_100 rfl ?_
        refine xr_get i98_101 xf98_52 (by assumption) rfl rfl ?_
        refine xr_go i98_104 rfl ?_
        refine xr_aald i98_105 (by assumption) (by decide) rfl (by omega) (by omega) (by assumption) ?_
        refine xr_V i98_106 xc98_272 ⟨rfl, rfl⟩ xa_99 rfl (by assumption) rfl (Nat.le_of_ble_eq_true rfl) (by omega) ⟨Nat.le_of_ble_eq_true rfl, Nat.le_of_ble_eq_true rfl⟩ (ra2) ?_
        refine xr_if_neT i98_109 (t := 115) (by decide) (xbi_1 (g2.resolve_left e)) ?_
        exact k
    refine xr_go i98_61 rfl ?_
    refine xr_get i98_62 xf98_45 (by assumption) rfl rfl ?_
    refine xr_go i98_65 rfl ?_
    refine xr_iald i98_66 (by assumption) rfl (by omega) (by omega) ?_
    refine xr_go i98_67 rfl ?_
    refine xr_go i98_68 rfl ?_
    by_cases e : nI (bit j) &&& 4 = 0
    · refine xr_if_eqT i98_69 (t := 86) (by decide) e ?_
      exact gate2
    · refine xr_if_eqF i98_69 (t := 86) (by decide) e ?_
      refine xr_go i98_72 rfl ?_
      refine xr_go i98_73 rfl ?_
      refine xr_go i98_74 rfl ?_
      refine xr_get i98_75 xf98_49 (by assumption) rfl rfl ?_
      refine xr_go i98_78 rfl ?_
      refine xr_aald i98_79 (by assumption) (by decide) rfl (by omega) (by omega) (by assumption) ?_
      refine xr_V i98_80 xc98_272 ⟨rfl, rfl⟩ xa_99 rfl (by assumption) rfl (Nat.le_of_ble_eq_true rfl) (by omega) ⟨Nat.le_of_ble_eq_true rfl, Nat.le_of_ble_eq_true rfl⟩ (ra1) ?_
      refine xr_if_eqF i98_83 (t := 112) (by decide) (xbi_1 (g1.resolve_left e)) ?_
      exact gate2
  · rw [if_neg hmy] at k
    have hor := aMay_no hmy
    have g86 : ¬ nI (bit j) &&& 8 = 0 → aAtl tak sv sp (kno s) (wr j) = false → xRun G d 98 (86, [some (.ref M), some (.int (nI s)), some (.int (nI j)), some (.int z)], [], (h, nx, sl)) res := by
      intro e1 e2
      refine xr_go i98_86 rfl ?_
      refine xr_get i98_87 xf98_45 (by assumption) rfl rfl ?_
      refine xr_go i98_90 rfl ?_
      refine xr_iald i98_91 (by assumption) rfl (by omega) (by omega) ?_
      refine xr_go i98_92 rfl ?_
      refine xr_go i98_94 rfl ?_
      refine xr_if_eqF i98_95 (t := 115) (by decide) e1 ?_
      refine xr_go i98_98 rfl ?_
      refine xr_go i98_99 rfl ?_
      refine xr_go i98_100 rfl ?_
      refine xr_get i98_101 xf98_52 (by assumption) rfl rfl ?_
      refine xr_go i98_104 rfl ?_
      refine xr_aald i98_105 (by assumption) (by decide) rfl (by omega) (by omega) (by assumption) ?_
      refine xr_V i98_106 xc98_272 ⟨rfl, rfl⟩ xa_99 rfl (by assumption) rfl (Nat.le_of_ble_eq_true rfl) (by omega) ⟨Nat.le_of_ble_eq_true rfl, Nat.le_of_ble_eq_true rfl⟩ (ra2) ?_
      refine xr_if_neF i98_109 (t := 115) (by decide) (by rw [e2]; decide) ?_
      exact k
    refine xr_go i98_61 rfl ?_
    refine xr_get i98_62 xf98_45 (by assumption) rfl rfl ?_
    refine xr_go i98_65 rfl ?_
    refine xr_iald i98_66 (by assumption) rfl (by omega) (by omega) ?_
    refine xr_go i98_67 rfl ?_
    refine xr_go i98_68 rfl ?_
    by_cases e : nI (bit j) &&& 4 = 0
    · refine xr_if_eqT i98_69 (t := 86) (by decide) e ?_
      rcases hor with z | z
      · exact absurd e z.1
      · exact g86 z.1 z.2
    · refine xr_if_eqF i98_69 (t := 86) (by decide) e ?_
      refine xr_go i98_72 rfl ?_
      refine xr_go i98_73 rfl ?_
      refine xr_go i98_74 rfl ?_
      refine xr_get i98_75 xf98_49 (by assumption) rfl rfl ?_
      refine xr_go i98_78 rfl ?_
      refine xr_aald i98_79 (by assumption) (by decide) rfl (by omega) (by omega) (by assumption) ?_
      refine xr_V i98_80 xc98_272 ⟨rfl, rfl⟩ xa_99 rfl (by assumption) rfl (Nat.le_of_ble_eq_true rfl) (by omega) ⟨Nat.le_of_ble_eq_true rfl, Nat.le_of_ble_eq_true rfl⟩ (ra1) ?_
      cases e4 : aAtl tak sv sp (kno s) (rd j) with
      | false =>
        refine xr_if_eqT i98_83 (t := 112) (by decide) (by decide) ?_
        exact k
      | true =>
        refine xr_if_eqF i98_83 (t := 112) (by decide) (by decide) ?_
        rcases hor with z | z
        · rw [e4] at z
          cases z.2
        · exact g86 z.1 z.2
theorem M_write_den {s j : Nat} {z : Int32} {p : List (Nat × Int32)} (hM : xMod M nx tak cmt sv sp pl cm pg clk com fog kno bit rd wr (some p) tn tb h) (hP : xPI tak cmt sv sp pl cm clk com fog kno bit rd wr) (hp : pWrite (nI s) (nI j) z) (hs : s < 5) (hj : j < 8) (h5 : tak < 500) (hmy : ¬ aMay tak sv sp (kno s) (bit j) 4 8 (rd j) (wr j) = true) (hd : 3 ≤ d) : xRun G d 98 (0, [some (.ref M), some (.int (nI s)), some (.int (nI j)), some (.int z)], [], (h, nx, sl)) (some (.int (-4)), (h, nx, sl)) := by
  refine M_write_may hM hP hp hs hj h5 hd ?_
  rw [if_neg hmy]
  refine xr_go i98_112 rfl ?_
  exact xr_iret i98_114 xt_98 rfl
set_option maxHeartbeats 4000000 in
theorem M_write_ok {s j n : Nat} {p : List (Nat × Int32)} (hM : xMod M nx tak cmt sv sp pl cm pg clk com fog kno bit rd wr (some p) tn tb h) (hP : xPI tak cmt sv sp pl cm clk com fog kno bit rd wr) (hp : pWrite (nI s) (nI j) (nI n)) (hs : s < 5) (hj : j < 8) (hn1 : n ≤ 1000000000) (h5 : tak < 500) (hmy : aMay tak sv sp (kno s) (bit j) 4 8 (rd j) (wr j) = true) (hd : 3 ≤ d) : ∃ h', xRun G d 98 (0, [some (.ref M), some (.int (nI s)), some (.int (nI j)), some (.int (nI n))], [], (h, nx, sl)) (some (.int (nI tak)), (h', nx, sl)) ∧ xMod M nx (tak + 1) cmt (va_up sv tak s) (va_up sp tak (max (clk s + 1) n)) (va_up pl tak 0) cm (va_up pg tak p) (va_up clk s (max (clk s + 1) n)) com fog (va_up kno s (va_up (kno s) tak 1)) bit rd (va_up wr j (va_up (wr j) s (max (clk s + 1) n))) (some p) tn tb h' ∧ xmo M nx h h' := by
  have hM0 := hM
  obtain ⟨lt, at_, sz, kd, fr, to_, ft, pt, nu, mn, pc, od, hO, ⟨ft1, t1, t2⟩, hm, hr, ⟨wf, w1, w2⟩, hl, hn⟩ := hM
  have hclk : clk s ≤ 1000000000 + tak := hP.2.2.2.2.1.2.2.1 s hs
  have el : ∃ a, lt = .ref a ∧ M + 41 ≤ a ∧ a < nx ∧ xMcd a p h := by
    rcases hl with hl | ⟨p', a, e, e2, e3, e4, e5⟩
    · cases hl.1
    · cases e
      exact ⟨a, e2, e3, e4, e5⟩
  obtain ⟨a, rfl, ha1, ha2, ha3⟩ := el
  generalize hst : max (clk s + 1) n = st
  /- the clock -/
  have h13 := hm.2.2.2.2.2.2.1
  obtain ⟨k1, ek1⟩ : ∃ z : xH, z = xup h (M + 13) (.inl (0, 5, .inl (fun i => nI (va_up clk s st i)))) := ⟨_, rfl⟩
  have k1n : ∀ q, q ≠ M + 13 → k1 q = h q := fun q hq => by rw [ek1]; exact xup_n hq
  have k1M := (k1n M (by omega)).trans hO
  have m1 := xMd_clk (h' := k1) (clk' := va_up clk s st) hm (fun q a1 a2 a3 a4 => k1n q a4) (by rw [ek1]; exact xup_s)
  /- the server -/
  have k1v := m1.1
  obtain ⟨k2, ek2⟩ : ∃ z : xH, z = xup k1 (M + 2) (.inl (0, 500, .inl (fun i => nI (va_up sv tak s i)))) := ⟨_, rfl⟩
  have k2n : ∀ q, q ≠ M + 2 → k2 q = k1 q := fun q hq => by rw [ek2]; exact xup_n hq
  have k2M := (k2n M (by omega)).trans k1M
  have m2 := xMd_sv (h' := k2) (sv' := va_up sv tak s) m1 (fun q a1 a2 a3 a4 => k2n q a4) (by rw [ek2]; exact xup_s)
  /- the stamp -/
  have k2v := m2.2.1
  have k2c := m2.2.2.2.2.2.2.1
  obtain ⟨k3, ek3⟩ : ∃ z : xH, z = xup k2 (M + 3) (.inl (0, 500, .inl (fun i => nI (va_up sp tak st i)))) := ⟨_, rfl⟩
  have k3n : ∀ q, q ≠ M + 3 → k3 q = k2 q := fun q hq => by rw [ek3]; exact xup_n hq
  have k3M := (k3n M (by omega)).trans k2M
  have m3 := xMd_sp (h' := k3) (sp' := va_up sp tak st) m2 (fun q a1 a2 a3 a4 => k3n q a4) (by rw [ek3]; exact xup_s)
  /- what -/
  have o3 : ∀ q, q ≠ M + 13 → q ≠ M + 2 → q ≠ M + 3 → k3 q = h q := fun q a1 a2 a3 => (k3n q a3).trans ((k2n q a2).trans (k1n q a1))
  have k36 := (o3 (M + 6) (by omega) (by omega) (by omega)).trans w1
  obtain ⟨R, len, fcd, c1, c2, c3, c4, c5⟩ := id ha3
  have k3a := (o3 a (by omega) (by omega) (by omega)).trans c4
  obtain ⟨k4, ek4⟩ : ∃ z : xH, z = xup k3 (M + 6) (.inl (6, 500, .inr (.inr (.inr (.inr (va_up wf tak (some a))))))) := ⟨_, rfl⟩
  have k4n : ∀ q, q ≠ M + 6 → k4 q = k3 q := fun q hq => by rw [ek4]; exact xup_n hq
  have k4M := (k4n M (by omega)).trans k3M
  have m4 := xMd_kept m3 (h' := k4) (fun q a1 a2 a3 => k4n q a3)
  /- the rank -/
  have k4r := m4.2.2.1
  obtain ⟨k5, ek5⟩ : ∃ z : xH, z = xup k4 (M + 4) (.inl (0, 500, .inl (fun i => nI (va_up pl tak 0 i)))) := ⟨_, rfl⟩
  have k5n : ∀ q, q ≠ M + 4 → k5 q = k4 q := fun q hq => by rw [ek5]; exact xup_n hq
  have k5M := (k5n M (by omega)).trans k4M
  have m5 := xMd_pl (h' := k5) (pl' := va_up pl tak 0) m4 (fun q a1 a2 a3 a4 => k5n q a4) (by rw [ek5]; exact xup_s)
  /- what is known -/
  obtain ⟨f7, k57, k57'⟩ := m5.2.2.2.2.1
  have k57s := k57' s hs
  have k58 := m5.2.2.2.2.2.1 s hs
  obtain ⟨k6, ek6⟩ : ∃ z : xH, z = xup k5 (M + 8 + s) (.inl (1, 500, .inl (fun i => nI (va_up (kno s) tak 1 i)))) := ⟨_, rfl⟩
  have k6n : ∀ q, q ≠ M + 8 + s → k6 q = k5 q := fun q hq => by rw [ek6]; exact xup_n hq
  have k6M := (k6n M (by omega)).trans k5M
  have m6 := xMd_kno (h' := k6) (j0 := s) (k' := va_up (kno s) tak 1) m5 (fun q a1 a2 a3 a4 => k6n q a4) hs (by rw [ek6]; exact xup_s)
  /- the session -/
  have k6c := m6.2.2.2.2.2.2.1
  obtain ⟨f26, k626, k626'⟩ := m6.2.2.2.2.2.2.2.2.2.2.2.2.1
  have k626s := k626' j hj
  obtain ⟨fw1, y1, y2⟩ := m6.2.2.2.2.2.2.2.2.2.2.2.2.2 j hj
  obtain ⟨k7, ek7⟩ : ∃ z : xH, z = xup k6 (M + 27 + j) (.inl (0, 5, .inl (upd fw1 s (nI st)))) := ⟨_, rfl⟩
  have k7n : ∀ q, q ≠ M + 27 + j → k7 q = k6 q := fun q hq => by rw [ek7]; exact xup_n hq
  have k7M := (k7n M (by omega)).trans k6M
  have m7 := xMd_wr (h' := k7) (j0 := j) (r' := va_up (wr j) s st) m6 (fun q a1 a2 a3 a4 => k7n q a4) hj ⟨_, by rw [ek7]; exact xup_s, fun k hk => by
    unfold upd
    by_cases e : k = s
    · rw [if_pos e, e, vu_at]
    · rw [if_neg e, vu_ne e]
      exact y2 k hk⟩
  /- how many -/
  obtain ⟨k8, ek8⟩ : ∃ z : xH, z = xup k7 M (.inr (10, xMf M (nI tn) (nI (tak + 1)) (nI cmt) (.ref a) at_ sz kd fr to_ ft pt nu mn pc od)) := ⟨_, rfl⟩
  have k8n : ∀ q, q ≠ M → k8 q = k7 q := fun q hq => by rw [ek8]; exact xup_n hq
  have k8M : k8 M = some (.inr (10, xMf M (nI tn) (nI (tak + 1)) (nI cmt) (.ref a) at_ sz kd fr to_ ft pt nu mn pc od)) := by rw [ek8]; exact xup_s
  have m8 := xMd_kept m7 (h' := k8) (fun q a1 a2 a3 => k8n q (by omega))
  have o8 : ∀ q, q ≠ M → (q < M + 2 ∨ M + 34 < q) → k8 q = h q := fun q a1 a2 => (k8n q a1).trans ((k7n q (by omega)).trans ((k6n q (by omega)).trans ((k5n q (by omega)).trans ((k4n q (by omega)).trans (o3 q (by omega) (by omega) (by omega))))))
  have k86 : k8 (M + 6) = some (.inl (6, 500, .inr (.inr (.inr (.inr (va_up wf tak (some a))))))) := (k8n _ (by omega)).trans ((k7n _ (by omega)).trans ((k6n _ (by omega)).trans ((k5n _ (by omega)).trans (by rw [ek4]; exact xup_s))))
  refine ⟨k8, ?_, ⟨.ref a, at_, sz, kd, fr, to_, ft, pt, nu, mn, pc, od, k8M, ⟨ft1, (o8 _ (by omega) (by omega)).trans t1, t2⟩, m8, xMr_kept hr (fun q a1 a2 => o8 q (by omega) (by omega)), ⟨_, k86, fun w hw => ?_⟩, Or.inr ⟨p, a, rfl, rfl, ha1, ha2, xMcd_kept ha3 (o8 a (by omega) (by omega))⟩, hn⟩, fun q a1 a2 => o8 q (by omega) (by omega)⟩
  · refine M_write_may hM0 hP hp hs hj h5 hd ?_
    rw [if_pos hmy]
    refine xr_go i98_115 rfl ?_
    refine xr_get i98_116 xf98_36 (by assumption) rfl rfl ?_
    refine xr_go i98_119 rfl ?_
    refine xr_go i98_120 rfl ?_
    refine xr_get i98_121 xf98_36 (by assumption) rfl rfl ?_
    refine xr_go i98_124 rfl ?_
    refine xr_iald i98_125 (by assumption) rfl (by omega) (by omega) ?_
    refine xr_go i98_126 rfl ?_
    refine xr_go i98_127 rfl ?_
    refine xr_top (show _ = nI (clk s + 1) from nI_add (clk s) 1) ?_
    refine xr_go i98_128 rfl ?_
    refine xr_max i98_129 xc98_259 rfl (by omega) (Nat.le_of_ble_eq_true rfl) ((show _ = nI st from (nI_max (by omega) (by omega)).trans (congrArg nI hst))) ?_
    refine xr_iast i98_132 (by assumption) rfl (by omega) (by omega) (fun z1 ez1 => ?_)
    obtain rfl : z1 = k1 := ez1.trans (by rw [ek1, xupdN])
    refine xr_go i98_133 rfl ?_
    refine xr_get i98_134 xf98_13 (by assumption) rfl rfl ?_
    refine xr_go i98_137 rfl ?_
    refine xr_get i98_138 xf98_239 (by assumption) rfl rfl ?_
    refine xr_go i98_141 rfl ?_
    refine xr_iast i98_142 (by assumption) rfl (by omega) (by omega) (fun z2 ez2 => ?_)
    obtain rfl : z2 = k2 := ez2.trans (by rw [ek2, xupdN])
    refine xr_go i98_143 rfl ?_
    refine xr_get i98_144 xf98_17 (by assumption) rfl rfl ?_
    refine xr_go i98_147 rfl ?_
    refine xr_get i98_148 xf98_239 (by assumption) rfl rfl ?_
    refine xr_go i98_151 rfl ?_
    refine xr_get i98_152 xf98_36 (by assumption) rfl rfl ?_
    refine xr_go i98_155 rfl ?_
    refine xr_iald i98_156 (by assumption) rfl (by omega) (by omega) ?_
    rw [vu_at]
    refine xr_iast i98_157 (by assumption) rfl (by omega) (by omega) (fun z3 ez3 => ?_)
    obtain rfl : z3 = k3 := ez3.trans (by rw [ek3, xupdN])
    refine xr_go i98_158 rfl ?_
    refine xr_get i98_159 xf98_27 (by assumption) rfl rfl ?_
    refine xr_go i98_162 rfl ?_
    refine xr_get i98_163 xf98_239 (by assumption) rfl rfl ?_
    refine xr_go i98_166 rfl ?_
    refine xr_get i98_167 xf98_174 (by assumption) rfl rfl ?_
    refine xr_aast i98_170 k36 (j := tak) rfl (by omega) (by omega) k3a rfl (fun z4 ez4 => ?_)
    obtain rfl : z4 = k4 := ez4.trans ek4.symm
    refine xr_go i98_171 rfl ?_
    refine xr_get i98_172 xf98_20 (by assumption) rfl rfl ?_
    refine xr_go i98_175 rfl ?_
    refine xr_get i98_176 xf98_239 (by assumption) rfl rfl ?_
    refine xr_go i98_179 rfl ?_
    refine xr_iast i98_180 (by assumption) rfl (by omega) (by omega) (fun z5 ez5 => ?_)
    obtain rfl : z5 = k5 := ez5.trans (by rw [ek5, show (Int32.ofInt 0 : Int32) = nI 0 from rfl, xupdN])
    refine xr_go i98_181 rfl ?_
    refine xr_get i98_182 xf98_33 (by assumption) rfl rfl ?_
    refine xr_go i98_185 rfl ?_
    refine xr_aald i98_186 (by assumption) (by decide) rfl (by omega) (by omega) (by assumption) ?_
    refine xr_go i98_187 rfl ?_
    refine xr_get i98_188 xf98_239 (by assumption) rfl rfl ?_
    refine xr_go i98_191 rfl ?_
    refine xr_zast i98_192 (by assumption) rfl (by omega) (by omega) rfl (fun z6 ez6 => ?_)
    obtain rfl : z6 = k6 := ez6.trans (by rw [ek6, show (Int32.ofInt 1 : Int32) = nI 1 from rfl, xupdN])
    refine xr_go i98_193 rfl ?_
    refine xr_get i98_194 xf98_52 (by assumption) rfl rfl ?_
    refine xr_go i98_197 rfl ?_
    refine xr_aald i98_198 (by assumption) (by decide) rfl (by omega) (by omega) (by assumption) ?_
    refine xr_go i98_199 rfl ?_
    refine xr_go i98_200 rfl ?_
    refine xr_get i98_201 xf98_36 (by assumption) rfl rfl ?_
    refine xr_go i98_204 rfl ?_
    refine xr_iald i98_205 (by assumption) rfl (by omega) (by omega) ?_
    rw [vu_at]
    refine xr_iast i98_206 (by assumption) rfl (by omega) (by omega) (fun z7 ez7 => ?_)
    obtain rfl : z7 = k7 := ez7.trans ek7.symm
    refine xr_go i98_207 rfl ?_
    refine xr_go i98_208 rfl ?_
    refine xr_get i98_209 xf98_239 (by assumption) rfl rfl ?_
    refine xr_go i98_212 rfl ?_
    refine xr_go i98_213 rfl ?_
    refine xr_top (show _ = nI (tak + 1) from nI_add tak 1) ?_
    refine xr_put i98_214 xf98_239 (by assumption) ⟨rfl, Nat.le_of_ble_eq_true rfl, rfl, rfl, Or.inl rfl⟩ (fun z8 ez8 => ?_)
    obtain rfl : z8 = k8 := ez8.trans ek8.symm
    refine xr_go i98_217 rfl ?_
    refine xr_get i98_218 xf98_239 (by assumption) rfl rfl ?_
    refine xr_go i98_221 rfl ?_
    refine xr_go i98_222 rfl ?_
    refine xr_top (show _ = nI tak from pk_sub (a := tak + 1) (b := 1) (by omega)) ?_
    exact xr_iret i98_223 xt_98 rfl
  · by_cases e : w = tak
    · rw [e, vu_at, vu_at]
      exact ⟨a, rfl, ha1, ha2, xMcd_kept ha3 (o8 a (by omega) (by omega))⟩
    · rw [vu_ne e, vu_ne e]
      obtain ⟨b, g1, g2, g3, g4⟩ := w2 w (by omega)
      exact ⟨b, g1, g2, g3, xMcd_kept g4 (o8 b (by omega) (by omega))⟩
end XMWR2

