/-! ===== the class: looking ===== -/
theorem xbi_1 {t : Bool} (h : t = true) : ¬ xbi t = 0 := by rw [h]; decide
theorem xgo_eq {pc t : Nat} {off : Int} {L : xL} {st : List Value} {w : xW} (ht : (pc : Int) + off = (t : Int)) : xgo pc off L st w = some (.inl (t, L, st, w)) := by
  unfold xgo
  rw [ht, if_pos (by omega), Int.toNat_natCast]
theorem xr_tsw {G : xG} {d mi pc : Nat} {L : xL} {r : List Value} {h : xH} {nx sl : Nat} {res : Option Value × xW} {df lo hi : Int} {offs : Array Int} {x : Int32} {t : Nat} (hI : xI mi pc = some (.tableswitch df lo hi offs)) (hx : x.toInt < lo ∨ hi < x.toInt) (ht : (pc : Int) + df = (t : Int)) (k : xRun G d mi (t, L, r, (h, nx, sl)) res) : xRun G d mi (pc, L, .int x :: r, (h, nx, sl)) res := by
  refine xr_go hI (f' := (t, L, r, (h, nx, sl))) ?_ k
  show xtsw df lo hi offs pc L (.int x :: r) (h, nx, sl) = _
  unfold xtsw
  simp only [if_pos hx]
  exact xgo_eq ht
theorem xr_lsw {G : xG} {d mi pc : Nat} {L : xL} {r : List Value} {h : xH} {nx sl : Nat} {res : Option Value × xW} {df : Int} {ps : Array (Int × Int)} {x : Int32} {t : Nat} (hI : xI mi pc = some (.lookupswitch df ps)) (hs : (ps.toList.zip (ps.toList.drop 1)).all (fun (a, next) => a.1 < next.1) = true) (hx : Op.lookupswitch.offset ps.toList df x.toInt = df) (ht : (pc : Int) + df = (t : Int)) (k : xRun G d mi (t, L, r, (h, nx, sl)) res) : xRun G d mi (pc, L, .int x :: r, (h, nx, sl)) res := by
  refine xr_go hI (f' := (t, L, r, (h, nx, sl))) ?_ k
  show xlsw df ps pc L (.int x :: r) (h, nx, sl) = _
  unfold xlsw
  simp only [hs, if_true, hx]
  exact xgo_eq ht
/-- answers -/
def aN (x : Int32) : Nat := x.toNatClampNeg
theorem aN_nI {j : Nat} (h : j < 2 ^ 31) : aN (nI j) = j := nI_clamp h
noncomputable def aCount (tak : Nat) (sv sp cm clk com fog : Nat → Nat) (kno : Nat → Nat → Nat) (x y : Int32) : Int32 := if xrng 5 x = true then (if y = 0 then nI (xLs tak sv sp cm (kno (aN x)) (com (aN x))).length else if y = 1 then nI (com (aN x)) else if y = 2 then nI (fog (aN x)) else if y = 3 then nI (clk (aN x)) else -1) else -1
noncomputable def aOrder (tak : Nat) (sv sp cm com : Nat → Nat) (kno : Nat → Nat → Nat) (x y : Int32) : Int32 := if xrng 5 x = true then (if xrng (xLs tak sv sp cm (kno (aN x)) (com (aN x))).length y = true then nI ((xLs tak sv sp cm (kno (aN x)) (com (aN x))).getD (aN y) 0) else -2) else -1
def aLook (tak : Nat) (sv sp pl : Nat → Nat) (x y : Int32) : Int32 := if xrng 3 y = true then (if xrng tak x = true then (if y = 0 then nI (sv (aN x)) else if y = 1 then nI (sp (aN x)) else nI (pl (aN x))) else -2) else -1
def aStamp (tak : Nat) (sv sp : Nat → Nat) (kno rd wr : Nat → Nat → Nat) (x y z : Int32) : Int32 := if xrng 5 z = true then (if x = 0 ∧ xrng 5 y = true then nI (xvm sv sp (kno (aN y)) (aN z) tak) else if x = 1 ∧ xrng 8 y = true then nI (rd (aN y) (aN z)) else if x = 2 ∧ xrng 8 y = true then nI (wr (aN y) (aN z)) else -1) else -1
section XLOOK
variable {G : xG} {d : Nat} {h : xH} {sl : Nat} {B nx tak cmt : Nat} {sv sp pl cm : Nat → Nat} {pg : Nat → List (Nat × Int32)} {clk com fog : Nat → Nat} {kno : Nat → Nat → Nat} {bit : Nat → Nat} {rd wr : Nat → Nat → Nat} {lat : Option (List (Nat × Int32))} {tn : Nat} {tb : Nat → Nat}
theorem D_writes (hD : xDS B nx tak cmt sv sp pl cm pg clk com fog kno bit rd wr lat tn tb h) : xRun G d 19 (0, [some (.ref B)], [], (h, nx, sl)) (some (.int (nI tak)), (h, nx, sl)) := by
  obtain ⟨lv, wad, pad, psa, poa, ⟨t1, ⟨sf, t2, t3⟩, ⟨ef, t4, t5⟩⟩, h2, h3, h4, ⟨⟨wf, w1, w2, w3⟩, w4⟩, -⟩ := hD
  refine xr_go i19_0 rfl ?_
  refine xr_get i19_1 xf19_28 (by assumption) rfl rfl ?_
  refine xr_get i19_4 xf19_79 (by assumption) rfl rfl ?_
  exact xr_iret i19_7 xt_19 rfl
theorem D_count (hD : xDS B nx tak cmt sv sp pl cm pg clk com fog kno bit rd wr lat tn tb h) (x y : Int32) (hd : 1 ≤ d) : xRun G d 18 (0, [some (.ref B), some (.int x), some (.int y), none], [], (h, nx, sl)) (some (.int (aCount tak sv sp cm clk com fog kno x y)), (h, nx, sl)) := by
  obtain ⟨lv, wad, pad, psa, poa, ⟨t1, ⟨sf, t2, t3⟩, ⟨ef, t4, t5⟩⟩, h2, h3, h4, h5, h6, h7, h8, h9, h10, h11, h12, h13⟩ := hD
  unfold aCount
  by_cases hx : xrng 5 x = true
  · rw [if_pos hx]
    obtain ⟨s, hs, rfl⟩ := xrng_of (by omega) hx
    rw [aN_nI (by omega)]
    have t6 := t3 s hs
    obtain ⟨don, vec, tl, cc, ce, oc, ⟨tN, ⟨s0, s1, s2, s3, s4, s5, s6⟩, htN⟩, hT, k⟩ := h10 s hs
    unfold xSvF at s0
    dsimp only at s0 s1 s2 s3 s4 s5 s6
    refine xr_go i18_0 rfl ?_
    refine xr_S i18_1 xc18_71 ⟨by first | exact Or.inl rfl | exact Or.inr rfl, rfl⟩ xa_6 (Nat.le_of_ble_eq_true rfl) (Nat.le_of_ble_eq_true rfl) (by omega) ⟨Nat.le_of_ble_eq_true rfl, Nat.le_of_ble_eq_true rfl⟩ (s_isServer (nI s)) ?_
    refine xr_if_neT i18_4 (t := 9) (by decide) (xbi_1 hx) ?_
    refine xr_go i18_9 rfl ?_
    refine xr_get i18_10 xf18_37 (by assumption) rfl rfl ?_
    refine xr_go i18_13 rfl ?_
    refine xr_aald i18_14 (by assumption) (by decide) rfl (by omega) (by omega) (by assumption) ?_
    refine xr_go i18_15 rfl ?_
    refine xr_go i18_16 rfl ?_
    by_cases y0 : y = 0
    · rw [if_pos y0]
      subst y0
      rw [xLs_eq hT, show (xord cm (com s) tl).length = com s + tl.length by unfold xord; rw [List.length_append, xcms_len], ← nI_add]
      refine xr_go i18_17 rfl ?_
      refine xr_go i18_48 rfl ?_
      refine xr_get i18_49 xf18_153 (by assumption) rfl rfl ?_
      refine xr_go i18_52 rfl ?_
      refine xr_get i18_53 xf18_135 (by assumption) rfl rfl ?_
      refine xr_go i18_56 rfl ?_
      exact xr_iret i18_57 xt_18 rfl
    rw [if_neg y0]
    by_cases y1 : y = 1
    · rw [if_pos y1]
      subst y1
      refine xr_go i18_17 rfl ?_
      refine xr_go i18_58 rfl ?_
      refine xr_get i18_59 xf18_153 (by assumption) rfl rfl ?_
      exact xr_iret i18_62 xt_18 rfl
    rw [if_neg y1]
    by_cases y2 : y = 2
    · rw [if_pos y2]
      subst y2
      refine xr_go i18_17 rfl ?_
      refine xr_go i18_63 rfl ?_
      refine xr_get i18_64 xf18_150 (by assumption) rfl rfl ?_
      exact xr_iret i18_67 xt_18 rfl
    rw [if_neg y2]
    by_cases y3 : y = 3
    · rw [if_pos y3]
      subst y3
      refine xr_go i18_17 rfl ?_
      refine xr_go i18_68 rfl ?_
      refine xr_get i18_69 xf18_86 (by assumption) rfl rfl ?_
      exact xr_iret i18_72 xt_18 rfl
    rw [if_neg y3]
    refine xr_tsw i18_17 (t := 73) ?_ (by decide) ?_
    · have e0 : y.toInt ≠ 0 := fun z => y0 (Int32.toInt_inj.mp z)
      have e1 : y.toInt ≠ 1 := fun z => y1 (Int32.toInt_inj.mp z)
      have e2 : y.toInt ≠ 2 := fun z => y2 (Int32.toInt_inj.mp z)
      have e3 : y.toInt ≠ 3 := fun z => y3 (Int32.toInt_inj.mp z)
      omega
    · refine xr_go i18_73 rfl ?_
      exact xr_iret i18_74 xt_18 rfl
  · rw [if_neg hx]
    refine xr_go i18_0 rfl ?_
    refine xr_S i18_1 xc18_71 ⟨by first | exact Or.inl rfl | exact Or.inr rfl, rfl⟩ xa_6 (Nat.le_of_ble_eq_true rfl) (Nat.le_of_ble_eq_true rfl) (by omega) ⟨Nat.le_of_ble_eq_true rfl, Nat.le_of_ble_eq_true rfl⟩ (s_isServer x) ?_
    refine xr_if_neF i18_4 (t := 9) (by decide) (by rw [Bool.not_eq_true] at hx; rw [hx]; decide) ?_
    refine xr_go i18_7 rfl ?_
    exact xr_iret i18_8 xt_18 rfl
theorem D_order (hD : xDS B nx tak cmt sv sp pl cm pg clk com fog kno bit rd wr lat tn tb h) (x y : Int32) (hd : 1 ≤ d) : xRun G d 14 (0, [some (.ref B), some (.int x), some (.int y)], [], (h, nx, sl)) (some (.int (aOrder tak sv sp cm com kno x y)), (h, nx, sl)) := by
  obtain ⟨lv, wad, pad, psa, poa, ⟨t1, ⟨sf, t2, t3⟩, ⟨ef, t4, t5⟩⟩, h2, h3, h4, h5, h6, h7, h8, h9, h10, h11, h12, h13⟩ := hD
  unfold aOrder
  by_cases hx : xrng 5 x = true
  · rw [if_pos hx]
    obtain ⟨s, hs, rfl⟩ := xrng_of (by omega) hx
    rw [aN_nI (by omega)]
    have t6 := t3 s hs
    obtain ⟨tl, hT, r⟩ := q_writeAt (G := G) (d := d - 1) (nx := nx) (sl := sl) (x := y) h5 (h10 s hs) (by omega)
    have s0 : ∃ x, h (B + 18 + 7 * s) = some (.inr (6, x)) := by
      obtain ⟨_, _, _, _, _, _, ⟨_, hs, -⟩, -⟩ := h10 s hs
      exact ⟨_, hs.1⟩
    obtain ⟨x0, s0⟩ := s0
    rw [xLs_eq hT, show (xord cm (com s) tl).length = com s + tl.length by unfold xord; rw [List.length_append, xcms_len]]
    refine xr_go i14_0 rfl ?_
    refine xr_S i14_1 xc14_71 ⟨by first | exact Or.inl rfl | exact Or.inr rfl, rfl⟩ xa_6 (Nat.le_of_ble_eq_true rfl) (Nat.le_of_ble_eq_true rfl) (by omega) ⟨Nat.le_of_ble_eq_true rfl, Nat.le_of_ble_eq_true rfl⟩ (s_isServer (nI s)) ?_
    refine xr_if_neT i14_4 (t := 9) (by decide) (xbi_1 hx) ?_
    refine xr_go i14_9 rfl ?_
    refine xr_get i14_10 xf14_37 (by assumption) rfl rfl ?_
    refine xr_go i14_13 rfl ?_
    refine xr_aald i14_14 (by assumption) (by decide) rfl (by omega) (by omega) (by assumption) ?_
    refine xr_go i14_15 rfl ?_
    refine xr_V i14_16 xc14_166 ⟨rfl, rfl⟩ xa_67 rfl (by assumption) rfl (Nat.le_of_ble_eq_true rfl) (by omega) ⟨Nat.le_of_ble_eq_true rfl, Nat.le_of_ble_eq_true rfl⟩ (r) ?_
    exact xr_iret i14_19 xt_14 rfl
  · rw [if_neg hx]
    refine xr_go i14_0 rfl ?_
    refine xr_S i14_1 xc14_71 ⟨by first | exact Or.inl rfl | exact Or.inr rfl, rfl⟩ xa_6 (Nat.le_of_ble_eq_true rfl) (Nat.le_of_ble_eq_true rfl) (by omega) ⟨Nat.le_of_ble_eq_true rfl, Nat.le_of_ble_eq_true rfl⟩ (s_isServer x) ?_
    refine xr_if_neF i14_4 (t := 9) (by decide) (by rw [Bool.not_eq_true] at hx; rw [hx]; decide) ?_
    refine xr_go i14_7 rfl ?_
    exact xr_iret i14_8 xt_14 rfl
theorem D_look (hD : xDS B nx tak cmt sv sp pl cm pg clk com fog kno bit rd wr lat tn tb h) (x y : Int32) (hd : 1 ≤ d) : xRun G d 16 (0, [some (.ref B), some (.int x), some (.int y), none], [], (h, nx, sl)) (some (.int (aLook tak sv sp pl x y)), (h, nx, sl)) := by
  obtain ⟨lv, wad, pad, psa, poa, ⟨t1, ⟨sf, t2, t3⟩, ⟨ef, t4, t5⟩⟩, h2, h3, h4, ⟨⟨wf, w1, w2, w3⟩, w4, w5, w6, w7⟩, -⟩ := hD
  unfold aLook
  by_cases hy : xrng 3 y = true
  · rw [if_pos hy]
    obtain ⟨k, hk, rfl⟩ := xrng_of (by omega) hy
    refine xr_go i16_0 rfl ?_
    refine xr_if_ltF i16_1 (t := 9) (by decide) (nI_pos (by omega)) ?_
    refine xr_go i16_4 rfl ?_
    refine xr_go i16_5 rfl ?_
    refine xr_icmp_leT i16_6 (t := 11) (by decide) (show nI k ≤ nI 2 from nI_le (by omega) (by omega)) ?_
    refine xr_go i16_11 rfl ?_
    refine xr_get i16_12 xf16_28 (by assumption) rfl rfl ?_
    refine xr_go i16_15 rfl ?_
    refine xr_V i16_16 xc16_170 ⟨rfl, rfl⟩ xa_48 rfl (by assumption) rfl (Nat.le_of_ble_eq_true rfl) (by omega) ⟨Nat.le_of_ble_eq_true rfl, Nat.le_of_ble_eq_true rfl⟩ (s_has (x := x) w1) ?_
    by_cases hx : xrng tak x = true
    · rw [if_pos hx]
      obtain ⟨w, hw, rfl⟩ := xrng_of (by omega) hx
      rw [aN_nI (by omega)]
      obtain ⟨v1, -⟩ := w7 w hw
      have v2 := w3 w hw
      refine xr_if_neT i16_19 (t := 25) (by decide) (xbi_1 hx) ?_
      refine xr_go i16_25 rfl ?_
      refine xr_get i16_26 xf16_28 (by assumption) rfl rfl ?_
      refine xr_get i16_29 xf16_176 (by assumption) rfl rfl ?_
      refine xr_go i16_32 rfl ?_
      refine xr_aald i16_33 (by assumption) (by decide) rfl (by omega) (by omega) (by assumption) ?_
      refine xr_go i16_34 rfl ?_
      refine xr_go i16_35 rfl ?_
      match k, hk with
      | 0, _ =>
        refine xr_go i16_36 rfl ?_
        refine xr_go i16_64 rfl ?_
        refine xr_get i16_65 xf16_180 (by assumption) rfl rfl ?_
        exact xr_iret i16_68 xt_16 rfl
      | 1, _ =>
        refine xr_go i16_36 rfl ?_
        refine xr_go i16_69 rfl ?_
        refine xr_get i16_70 xf16_183 (by assumption) rfl rfl ?_
        exact xr_iret i16_73 xt_16 rfl
      | 2, _ =>
        refine xr_go i16_36 rfl ?_
        refine xr_go i16_74 rfl ?_
        refine xr_get i16_75 xf16_186 (by assumption) rfl rfl ?_
        exact xr_iret i16_78 xt_16 rfl
    · rw [if_neg hx]
      refine xr_if_neF i16_19 (t := 25) (by decide) (by rw [Bool.not_eq_true] at hx; rw [hx]; decide) ?_
      refine xr_go i16_22 rfl ?_
      exact xr_iret i16_24 xt_16 rfl
  · rw [if_neg hy]
    have tail : xRun G d 16 (9, [some (.ref B), some (.int x), some (.int y), none], [], (h, nx, sl)) (some (.int (-1)), (h, nx, sl)) := by
      refine xr_go i16_9 rfl ?_
      exact xr_iret i16_10 xt_16 rfl
    refine xr_go i16_0 rfl ?_
    refine xr_if_lt i16_1 (t := 9) (by decide) (fun hc => ?_) (fun hc => ?_)
    · exact tail
    · refine xr_go i16_4 rfl ?_
      refine xr_go i16_5 rfl ?_
      refine xr_icmp_leF i16_6 (t := 11) (by decide) (fun z => hy ?_) tail
      unfold xrng
      rw [decide_eq_true (Int32.not_lt.mp hc), decide_eq_true (show y < nI 3 from ?_)]
      · rfl
      · have := Int32.le_iff_toInt_le.mp z
        rw [Int32.lt_iff_toInt_lt]
        have e2 : (2 : Int32).toInt = 2 := rfl
        have e3 : (nI 3).toInt = 3 := rfl
        have e4 : y.toInt ≤ (2 : Int32).toInt := this
        omega
theorem D_stamp (hD : xDS B nx tak cmt sv sp pl cm pg clk com fog kno bit rd wr lat tn tb h) (x y z : Int32) (hd : 1 ≤ d) : xRun G d 17 (0, [some (.ref B), some (.int x), some (.int y), some (.int z)], [], (h, nx, sl)) (some (.int (aStamp tak sv sp kno rd wr x y z)), (h, nx, sl)) := by
  obtain ⟨lv, wad, pad, psa, poa, ⟨t1, ⟨sf, t2, t3⟩, ⟨ef, t4, t5⟩⟩, h2, h3, h4, h5, h6, h7, h8, h9, h10, h11, h12, h13⟩ := hD
  unfold aStamp
  by_cases hz : xrng 5 z = true
  · rw [if_pos hz]
    obtain ⟨k, hk, rfl⟩ := xrng_of (by omega) hz
    rw [aN_nI (by omega)]
    have c3 : ∀ v, v = -1 → xRun G d 17 (80, [some (.ref B), some (.int x), some (.int y), some (.int (nI k))], [], (h, nx, sl)) (some (.int v), (h, nx, sl)) := by
      rintro v rfl
      refine xr_go i17_80 rfl ?_
      exact xr_iret i17_81 xt_17 rfl
    have c2 : ∀ v, v = (if x = 2 ∧ xrng 8 y = true then nI (wr (aN y) k) else -1) → xRun G d 17 (56, [some (.ref B), some (.int x), some (.int y), some (.int (nI k))], [], (h, nx, sl)) (some (.int v), (h, nx, sl)) := by
      intro v hv
      refine xr_go i17_56 rfl ?_
      refine xr_go i17_57 rfl ?_
      refine xr_icmp_ne i17_58 (t := 80) (by decide) (fun hx2 => ?_) (fun hx2 => ?_)
      · exact c3 v (by rw [hv, if_neg (fun e => hx2 e.1)])
      · refine xr_go i17_61 rfl ?_
        refine xr_S i17_62 xc17_75 ⟨by first | exact Or.inl rfl | exact Or.inr rfl, rfl⟩ xa_7 (Nat.le_of_ble_eq_true rfl) (Nat.le_of_ble_eq_true rfl) (by omega) ⟨Nat.le_of_ble_eq_true rfl, Nat.le_of_ble_eq_true rfl⟩ (s_isSession y) ?_
        by_cases hy : xrng 8 y = true
        · refine xr_if_eqF i17_65 (t := 80) (by decide) (xbi_1 hy) ?_
          obtain ⟨s, hs, rfl⟩ := xrng_of (by omega) hy
          obtain ⟨fr, fw, g1, g2, g3, g4, g5⟩ := h11 s hs
          have g6 := t5 s hs
          rw [if_pos ⟨by simpa using hx2, hy⟩, aN_nI (by omega), ← (g5 k hk).2.1] at hv
          rw [hv]
          refine xr_go i17_68 rfl ?_
          refine xr_get i17_69 xf17_46 (by assumption) rfl rfl ?_
          refine xr_go i17_72 rfl ?_
          refine xr_aald i17_73 (by assumption) (by decide) rfl (by omega) (by omega) (by assumption) ?_
          refine xr_get i17_74 xf17_107 (by assumption) rfl rfl ?_
          refine xr_go i17_77 rfl ?_
          refine xr_iald i17_78 (by assumption) rfl (by omega) (by omega) ?_
          exact xr_iret i17_79 xt_17 rfl
        · refine xr_if_eqT i17_65 (t := 80) (by decide) (xbi_f (by simpa using hy)) ?_
          exact c3 v (by rw [hv, if_neg (fun e => hy e.2)])
    have c1 : ∀ v, v = (if x = 1 ∧ xrng 8 y = true then nI (rd (aN y) k) else if x = 2 ∧ xrng 8 y = true then nI (wr (aN y) k) else -1) → xRun G d 17 (32, [some (.ref B), some (.int x), some (.int y), some (.int (nI k))], [], (h, nx, sl)) (some (.int v), (h, nx, sl)) := by
      intro v hv
      refine xr_go i17_32 rfl ?_
      refine xr_go i17_33 rfl ?_
      refine xr_icmp_ne i17_34 (t := 56) (by decide) (fun hx1 => ?_) (fun hx1 => ?_)
      · exact c2 v (by rw [hv, if_neg (fun e => hx1 e.1)])
      · refine xr_go i17_37 rfl ?_
        refine xr_S i17_38 xc17_75 ⟨by first | exact Or.inl rfl | exact Or.inr rfl, rfl⟩ xa_7 (Nat.le_of_ble_eq_true rfl) (Nat.le_of_ble_eq_true rfl) (by omega) ⟨Nat.le_of_ble_eq_true rfl, Nat.le_of_ble_eq_true rfl⟩ (s_isSession y) ?_
        by_cases hy : xrng 8 y = true
        · refine xr_if_eqF i17_41 (t := 56) (by decide) (xbi_1 hy) ?_
          obtain ⟨s, hs, rfl⟩ := xrng_of (by omega) hy
          obtain ⟨fr, fw, g1, g2, g3, g4, g5⟩ := h11 s hs
          have g6 := t5 s hs
          rw [if_pos ⟨by simpa using hx1, hy⟩, aN_nI (by omega), ← (g5 k hk).1] at hv
          rw [hv]
          refine xr_go i17_44 rfl ?_
          refine xr_get i17_45 xf17_46 (by assumption) rfl rfl ?_
          refine xr_go i17_48 rfl ?_
          refine xr_aald i17_49 (by assumption) (by decide) rfl (by omega) (by omega) (by assumption) ?_
          refine xr_get i17_50 xf17_192 (by assumption) rfl rfl ?_
          refine xr_go i17_53 rfl ?_
          refine xr_iald i17_54 (by assumption) rfl (by omega) (by omega) ?_
          exact xr_iret i17_55 xt_17 rfl
        · refine xr_if_eqT i17_41 (t := 56) (by decide) (xbi_f (by simpa using hy)) ?_
          exact c2 v (by rw [hv, if_neg (fun e => hy e.2)])
    refine xr_go i17_0 rfl ?_
    refine xr_S i17_1 xc17_71 ⟨by first | exact Or.inl rfl | exact Or.inr rfl, rfl⟩ xa_6 (Nat.le_of_ble_eq_true rfl) (Nat.le_of_ble_eq_true rfl) (by omega) ⟨Nat.le_of_ble_eq_true rfl, Nat.le_of_ble_eq_true rfl⟩ (s_isServer (nI k)) ?_
    refine xr_if_neT i17_4 (t := 9) (by decide) (xbi_1 hz) ?_
    refine xr_go i17_9 rfl ?_
    refine xr_if_ne i17_10 (t := 32) (by decide) (fun hx0 => ?_) (fun hx0 => ?_)
    · exact c1 _ (by rw [if_neg (fun e => hx0 e.1)])
    · refine xr_go i17_13 rfl ?_
      refine xr_S i17_14 xc17_71 ⟨by first | exact Or.inl rfl | exact Or.inr rfl, rfl⟩ xa_6 (Nat.le_of_ble_eq_true rfl) (Nat.le_of_ble_eq_true rfl) (by omega) ⟨Nat.le_of_ble_eq_true rfl, Nat.le_of_ble_eq_true rfl⟩ (s_isServer y) ?_
      by_cases hy : xrng 5 y = true
      · refine xr_if_eqF i17_17 (t := 32) (by decide) (xbi_1 hy) ?_
        rw [if_pos ⟨by simpa using hx0, hy⟩]
        obtain ⟨s, hs, rfl⟩ := xrng_of (by omega) hy
        rw [aN_nI (by omega)]
        obtain ⟨don, vec, tl, cc, ce, oc, ⟨tN, ⟨s0, s1, s2, s3, s4, s5, s6⟩, htN⟩, hT, k1, k2, k3, k4, k5, k6, k7, k8, -⟩ := h10 s hs
        unfold xSvF at s0
        dsimp only at s0 s1 s2 s3 s4 s5 s6
        have g6 := t3 s hs
        rw [← xvm_eq k2 (k8 k hk).2.1 (k8 k hk).2.2]
        refine xr_go i17_20 rfl ?_
        refine xr_get i17_21 xf17_37 (by assumption) rfl rfl ?_
        refine xr_go i17_24 rfl ?_
        refine xr_aald i17_25 (by assumption) (by decide) rfl (by omega) (by omega) (by assumption) ?_
        refine xr_get i17_26 xf17_189 (by assumption) rfl rfl ?_
        refine xr_go i17_29 rfl ?_
        refine xr_iald i17_30 (by assumption) rfl (by omega) (by omega) ?_
        exact xr_iret i17_31 xt_17 rfl
      · refine xr_if_eqT i17_17 (t := 32) (by decide) (xbi_f (by simpa using hy)) ?_
        exact c1 _ (by rw [if_neg (fun e => hy e.2)])
  · rw [if_neg hz]
    refine xr_go i17_0 rfl ?_
    refine xr_S i17_1 xc17_71 ⟨by first | exact Or.inl rfl | exact Or.inr rfl, rfl⟩ xa_6 (Nat.le_of_ble_eq_true rfl) (Nat.le_of_ble_eq_true rfl) (by omega) ⟨Nat.le_of_ble_eq_true rfl, Nat.le_of_ble_eq_true rfl⟩ (s_isServer z) ?_
    refine xr_if_neF i17_4 (t := 9) (by decide) (by rw [Bool.not_eq_true] at hz; rw [hz]; decide) ?_
    refine xr_go i17_7 rfl ?_
    exact xr_iret i17_8 xt_17 rfl
end XLOOK

