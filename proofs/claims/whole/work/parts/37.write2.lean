/-! ===== the class: taking a write ===== -/
def pWrite (x y z : Int32) : Prop := xrng 5 x = true ∧ xrng 8 y = true ∧ xrng 1000000001 z = true
section XWR2
variable {G : xG} {d : Nat} {h h' : xH} {sl : Nat} {B nx tak cmt : Nat} {sv sp pl cm : Nat → Nat} {pg : Nat → List (Nat × Int32)} {clk com fog : Nat → Nat} {kno : Nat → Nat → Nat} {bit : Nat → Nat} {rd wr : Nat → Nat → Nat} {lat : Option (List (Nat × Int32))} {tn : Nat} {tb : Nat → Nat}
theorem D_write_pre {x y z : Int32} {res : Option Value × xW} (hp : pWrite x y z) (hd : 1 ≤ d) (k : xRun G d 5 (26, [some (.ref B), some (.int x), some (.int y), some (.int z), none, none, none, none], [], (h, nx, sl)) res) : xRun G d 5 (0, [some (.ref B), some (.int x), some (.int y), some (.int z), none, none, none, none], [], (h, nx, sl)) res := by
  obtain ⟨hx, hy, hz⟩ := hp
  obtain ⟨n, hn, rfl⟩ := xrng_of (by omega) hz
  refine xr_go i5_0 rfl ?_
  refine xr_S i5_1 xc5_71 ⟨by first | exact Or.inl rfl | exact Or.inr rfl, rfl⟩ xa_6 (Nat.le_of_ble_eq_true rfl) (Nat.le_of_ble_eq_true rfl) (by omega) ⟨Nat.le_of_ble_eq_true rfl, Nat.le_of_ble_eq_true rfl⟩ (s_isServer x) ?_
  refine xr_if_eqF i5_4 (t := 24) (by decide) (xbi_1 hx) ?_
  refine xr_go i5_7 rfl ?_
  refine xr_S i5_8 xc5_75 ⟨by first | exact Or.inl rfl | exact Or.inr rfl, rfl⟩ xa_7 (Nat.le_of_ble_eq_true rfl) (Nat.le_of_ble_eq_true rfl) (by omega) ⟨Nat.le_of_ble_eq_true rfl, Nat.le_of_ble_eq_true rfl⟩ (s_isSession y) ?_
  refine xr_if_eqF i5_11 (t := 24) (by decide) (xbi_1 hy) ?_
  refine xr_go i5_14 rfl ?_
  refine xr_if_ltF i5_15 (t := 24) (by decide) (nI_pos (by omega)) ?_
  refine xr_go i5_18 rfl ?_
  refine xr_ldci i5_19 xd5_78 rfl rfl ?_
  refine xr_icmp_leT i5_21 (t := 26) (by decide) (show nI n ≤ nI 1000000000 from nI_le (by omega) (by omega)) ?_
  exact k
theorem D_write_no {x y z : Int32} (hp : ¬ pWrite x y z) (hd : 1 ≤ d) : xRun G d 5 (0, [some (.ref B), some (.int x), some (.int y), some (.int z), none, none, none, none], [], (h, nx, sl)) (some (.int (-1)), (h, nx, sl)) := by
  have tail : xRun G d 5 (24, [some (.ref B), some (.int x), some (.int y), some (.int z), none, none, none, none], [], (h, nx, sl)) (some (.int (-1)), (h, nx, sl)) := by
    refine xr_go i5_24 rfl ?_
    exact xr_iret i5_25 xt_5 rfl
  refine xr_go i5_0 rfl ?_
  refine xr_S i5_1 xc5_71 ⟨by first | exact Or.inl rfl | exact Or.inr rfl, rfl⟩ xa_6 (Nat.le_of_ble_eq_true rfl) (Nat.le_of_ble_eq_true rfl) (by omega) ⟨Nat.le_of_ble_eq_true rfl, Nat.le_of_ble_eq_true rfl⟩ (s_isServer x) ?_
  by_cases hx : xrng 5 x = true
  · refine xr_if_eqF i5_4 (t := 24) (by decide) (xbi_1 hx) ?_
    refine xr_go i5_7 rfl ?_
    refine xr_S i5_8 xc5_75 ⟨by first | exact Or.inl rfl | exact Or.inr rfl, rfl⟩ xa_7 (Nat.le_of_ble_eq_true rfl) (Nat.le_of_ble_eq_true rfl) (by omega) ⟨Nat.le_of_ble_eq_true rfl, Nat.le_of_ble_eq_true rfl⟩ (s_isSession y) ?_
    by_cases hy : xrng 8 y = true
    · refine xr_if_eqF i5_11 (t := 24) (by decide) (xbi_1 hy) ?_
      refine xr_go i5_14 rfl ?_
      refine xr_if_lt i5_15 (t := 24) (by decide) (fun hc => ?_) (fun hc => ?_)
      · exact tail
      · refine xr_go i5_18 rfl ?_
        refine xr_ldci i5_19 xd5_78 rfl rfl ?_
        refine xr_icmp_leF i5_21 (t := 26) (by decide) (fun e => hp ⟨hx, hy, ?_⟩) tail
        obtain ⟨n, hn, rfl⟩ := nI_of hc
        have : n ≤ 1000000000 := (nI_leI hn (by omega)).mp e
        exact xrng_nI (by omega) (by omega)
    · refine xr_if_eqT i5_11 (t := 24) (by decide) (xbi_f (by simpa using hy)) ?_
      exact tail
  · refine xr_if_eqT i5_4 (t := 24) (by decide) (xbi_f (by simpa using hx)) ?_
    exact tail
theorem D_write_none {x y z : Int32} (hD : xDS B nx tak cmt sv sp pl cm pg clk com fog kno bit rd wr none tn tb h) (hp : pWrite x y z) (hd : 1 ≤ d) : xRun G d 5 (0, [some (.ref B), some (.int x), some (.int y), some (.int z), none, none, none, none], [], (h, nx, sl)) (some (.int (-2)), (h, nx, sl)) := by
  obtain ⟨lv, wad, pad, psa, poa, ⟨t1, ⟨sf, t2, t3⟩, ⟨ef, t4, t5⟩⟩, h2, -⟩ := hD
  have hl : lv = .null := by
    rcases h2 with h2 | ⟨p, pa, sa, oa, e1, -⟩
    · exact h2.2
    · cases e1
  subst hl
  refine D_write_pre hp hd ?_
  refine xr_go i5_26 rfl ?_
  refine xr_get i5_27 xf5_51 (by assumption) rfl rfl ?_
  refine xr_go i5_30 rfl ?_
  refine xr_go i5_33 rfl ?_
  exact xr_iret i5_35 xt_5 rfl
theorem D_write_full {x y z : Int32} {p : List (Nat × Int32)} (hD : xDS B nx tak cmt sv sp pl cm pg clk com fog kno bit rd wr (some p) tn tb h) (hp : pWrite x y z) (ht : ¬ tak < 500) (hd : 1 ≤ d) : xRun G d 5 (0, [some (.ref B), some (.int x), some (.int y), some (.int z), none, none, none, none], [], (h, nx, sl)) (some (.int (-3)), (h, nx, sl)) := by
  obtain ⟨lv, wad, pad, psa, poa, ⟨t1, ⟨sf, t2, t3⟩, ⟨ef, t4, t5⟩⟩, h2, -, -, ⟨⟨wf, v1, v2, v3⟩, -, v5, -⟩, -⟩ := hD
  have hl : ∃ pa, lv = .ref pa := by
    rcases h2 with h2 | ⟨p, pa, sa, oa, e1, e2, -⟩
    · cases h2.1
    · exact ⟨pa, e2⟩
  obtain ⟨pa, rfl⟩ := hl
  refine D_write_pre hp hd ?_
  refine xr_go i5_26 rfl ?_
  refine xr_get i5_27 xf5_51 (by assumption) rfl rfl ?_
  refine xr_nn i5_30 (t := 36) (by decide) ?_
  refine xr_go i5_36 rfl ?_
  refine xr_get i5_37 xf5_28 (by assumption) rfl rfl ?_
  refine xr_get i5_40 xf5_79 (by assumption) rfl rfl ?_
  refine xr_go i5_43 rfl ?_
  refine xr_icmp_ltF i5_46 (t := 52) (by decide) (show ¬ nI tak < nI 500 from nI_nlt (by omega) (by omega)) ?_
  refine xr_go i5_49 rfl ?_
  exact xr_iret i5_51 xt_5 rfl
theorem D_write_den {s j : Nat} {z : Int32} {p : List (Nat × Int32)} (hD : xDS B nx tak cmt sv sp pl cm pg clk com fog kno bit rd wr (some p) tn tb h) (hp : pWrite (nI s) (nI j) z) (hs : s < 5) (hj : j < 8) (ht : tak < 500) (hm : ¬ aMay tak sv sp (kno s) (bit j) 4 8 (rd j) (wr j) = true) (hd : 2 ≤ d) : xRun G d 5 (0, [some (.ref B), some (.int (nI s)), some (.int (nI j)), some (.int z), none, none, none, none], [], (h, nx, sl)) (some (.int (-4)), (h, nx, sl)) := by
  obtain ⟨lv, wad, pad, psa, poa, ⟨t1, ⟨sf, t2, t3⟩, ⟨ef, t4, t5⟩⟩, h2, -, -, ⟨⟨wf, v1, v2, v3⟩, -, v5, -⟩, -, -, -, -, h10, h11, -⟩ := hD
  have hl : ∃ pa, lv = .ref pa := by
    rcases h2 with h2 | ⟨p, pa, sa, oa, e1, e2, -⟩
    · cases h2.1
    · exact ⟨pa, e2⟩
  obtain ⟨pa, rfl⟩ := hl
  have t6 := t3 s hs
  have t7 := t5 j hj
  obtain ⟨fr, fw, g1, g2, g3, g4, g5⟩ := h11 j hj
  obtain ⟨don, vec, tl, cc, ce, oc, ⟨tN, ⟨s0, s1, s2, s3, s4, s5, s6⟩, htN⟩, hT, k1, k2, k3, k4, k5, k6, k7, k8, -⟩ := h10 s hs
  unfold xSvF at s0
  dsimp only at s0 s1 s2 s3 s4 s5 s6
  have hvec : ∀ k, k < 5 → vec k = xvm sv sp (kno s) k tak ∧ vec k < 2 ^ 31 := fun k hk => ⟨xvm_eq k2 (k8 k hk).2.1 (k8 k hk).2.2, (k8 k hk).1⟩
  have hmay : aMay tak sv sp (kno s) (bit j) 4 8 (rd j) (wr j) = ((!decide (¬ nI (bit j) &&& 4 = 0) || xatl (fun j => nI (vec j)) fr 5) && (!decide (¬ nI (bit j) &&& 8 = 0) || xatl (fun j => nI (vec j)) fw 5)) := by
    unfold aMay
    rw [xatl_a (g := wr j) (fun k hk => ⟨(g5 k hk).2.1, (g5 k hk).2.2.2⟩) hvec, xatl_a (g := rd j) (fun k hk => ⟨(g5 k hk).1, (g5 k hk).2.2.1⟩) hvec]
  have rm := s_mayWrite (G := G) (d := d - 1) (nx := nx) (sl := sl) g1 s0 g2 g3 s1 (by omega)
  rw [← hmay] at rm
  refine D_write_pre hp (by omega) ?_
  refine xr_go i5_26 rfl ?_
  refine xr_get i5_27 xf5_51 (by assumption) rfl rfl ?_
  refine xr_nn i5_30 (t := 36) (by decide) ?_
  refine xr_go i5_36 rfl ?_
  refine xr_get i5_37 xf5_28 (by assumption) rfl rfl ?_
  refine xr_get i5_40 xf5_79 (by assumption) rfl rfl ?_
  refine xr_go i5_43 rfl ?_
  refine xr_icmp_ltT i5_46 (t := 52) (by decide) (show nI tak < nI 500 from nI_lt (by omega) (by omega)) ?_
  refine xr_go i5_52 rfl ?_
  refine xr_get i5_53 xf5_37 (by assumption) rfl rfl ?_
  refine xr_go i5_56 rfl ?_
  refine xr_aald i5_57 (by assumption) (by decide) rfl (by omega) (by omega) (by assumption) ?_
  refine xr_go i5_58 rfl ?_
  refine xr_go i5_60 rfl ?_
  refine xr_get i5_61 xf5_46 (by assumption) rfl rfl ?_
  refine xr_go i5_64 rfl ?_
  refine xr_aald i5_65 (by assumption) (by decide) rfl (by omega) (by omega) (by assumption) ?_
  refine xr_go i5_66 rfl ?_
  refine xr_go i5_68 rfl ?_
  refine xr_go i5_70 rfl ?_
  refine xr_V i5_72 xc5_82 ⟨rfl, rfl⟩ xa_70 rfl (by assumption) rfl (Nat.le_of_ble_eq_true rfl) (by omega) ⟨Nat.le_of_ble_eq_true rfl, Nat.le_of_ble_eq_true rfl⟩ (rm) ?_
  refine xr_if_neF i5_75 (t := 81) (by decide) (by rw [Bool.not_eq_true] at hm; rw [hm]; decide) ?_
  refine xr_go i5_78 rfl ?_
  exact xr_iret i5_80 xt_5 rfl
/-- a new write as such -/
theorem D_write_new {s st : Nat} {p : List (Nat × Int32)} {pa sa oa : Nat} {wad pad psa poa : Nat → Nat} (hH : xHist B tak cmt wad pad psa poa sv sp pl pg cm h) (hW : xWd B nx tak wad pad psa poa) (hP : xProg pa sa oa p h) (hpa : B + 119 ≤ pa ∧ B + 119 ≤ sa ∧ B + 119 ≤ oa ∧ pa < nx ∧ sa < nx ∧ oa < nx) (hn : B + 119 ≤ nx) (hs : s < 5) (hst : st < 2 ^ 31) (ht : tak < 500) {wf : Nat → Option Nat} (v2 : h (B + 11) = some (.inl (3, 500, .inr (.inr (.inr (.inr wf)))))) (v3 : ∀ w, w < tak → wf w = some (wad w)) (h' : xH) (e1 : h' nx = some (.inr (9, [.int (nI s), .int (nI st), .ref pa, .int 0]))) (e2 : h' (B + 10) = some (.inr (4, [.ref (B + 11), .ref (B + 12), .int (nI (tak + 1)), .int (nI cmt)]))) (e3 : h' (B + 11) = some (.inl (3, 500, .inr (.inr (.inr (.inr (va_up wf tak (some nx)))))))) (e4 : ∀ q, q ≠ B + 10 → q ≠ B + 11 → q ≠ nx → h' q = h q) : xHist B (tak + 1) cmt (va_up wad tak nx) (va_up pad tak pa) (va_up psa tak sa) (va_up poa tak oa) (va_up sv tak s) (va_up sp tak st) (va_up pl tak 0) (va_up pg tak p) cm h' ∧ xWd B (nx + 1) (tak + 1) (va_up wad tak nx) (va_up pad tak pa) (va_up psa tak sa) (va_up poa tak oa) := by
  obtain ⟨⟨wf0, v1, v20, v30⟩, v4, v5, v6, v7⟩ := hH
  constructor
  · refine ⟨⟨va_up wf tak (some nx), e2, e3, fun w hw => ?_⟩, (e4 _ (by omega) (by omega) (by omega)).trans v4, by omega, by omega, fun w hw => ?_⟩
    · by_cases e : w = tak
      · rw [e, vu_at, vu_at]
      · rw [vu_ne e, vu_ne e]
        exact v3 w (by omega)
    · by_cases e : w = tak
      · subst e
        simp only [vu_at]
        obtain ⟨fs, fo, p0, p1, p2, p3⟩ := hP
        exact ⟨e1, ⟨fs, fo, (e4 _ (by omega) (by omega) (by omega)).trans p0, (e4 _ (by omega) (by omega) (by omega)).trans p1, (e4 _ (by omega) (by omega) (by omega)).trans p2, p3⟩, by omega, by omega, by omega, by omega, hs, hst⟩
      · simp only [vu_ne e]
        obtain ⟨x1, ⟨fs, fo, p0, p1, p2, p3⟩, x6⟩ := v7 w (by omega)
        obtain ⟨m1, m2, m3, m4, m5, m6, m7, m8⟩ := hW.1 w (by omega)
        exact ⟨(e4 _ (by omega) (by omega) (by omega)).trans x1, ⟨fs, fo, (e4 _ (by omega) (by omega) (by omega)).trans p0, (e4 _ (by omega) (by omega) (by omega)).trans p1, (e4 _ (by omega) (by omega) (by omega)).trans p2, p3⟩, x6⟩
  · refine ⟨fun w hw => ?_, fun w v hw hv e => ?_⟩
    · by_cases e : w = tak
      · subst e
        simp only [vu_at]
        omega
      · simp only [vu_ne e]
        obtain ⟨m1, m2, m3, m4, m5, m6, m7, m8⟩ := hW.1 w (by omega)
        omega
    · by_cases ew : w = tak
      · by_cases ev : v = tak
        · omega
        · rw [ew, vu_at, vu_ne ev] at e
          have := (hW.1 v (by omega)).2.2.2.2.1
          omega
      · by_cases ev : v = tak
        · rw [ev, vu_at, vu_ne ew] at e
          have := (hW.1 w (by omega)).2.2.2.2.1
          omega
        · rw [vu_ne ew, vu_ne ev] at e
          exact hW.2 w v (by omega) (by omega) e
set_option maxHeartbeats 4000000 in
theorem D_write_ok {s j n : Nat} {p : List (Nat × Int32)} (hD : xDS B nx tak cmt sv sp pl cm pg clk com fog kno bit rd wr (some p) tn tb h) (hp : pWrite (nI s) (nI j) (nI n)) (hs : s < 5) (hj : j < 8) (hn : n ≤ 1000000000) (ht : tak < 500) (hm : aMay tak sv sp (kno s) (bit j) 4 8 (rd j) (wr j) = true) (hd : 2 ≤ d) : ∃ h', xRun G d 5 (0, [some (.ref B), some (.int (nI s)), some (.int (nI j)), some (.int (nI n)), none, none, none, none], [], (h, nx, sl)) (some (.int (nI tak)), (h', nx + 1, sl + 4)) ∧ xDS B (nx + 1) (tak + 1) cmt (va_up sv tak s) (va_up sp tak (max (clk s + 1) n)) (va_up pl tak 0) cm (va_up pg tak p) (va_up clk s (max (clk s + 1) n)) com fog (va_up kno s (va_up (kno s) tak 1)) bit rd (va_up wr j (va_up (wr j) s (max (clk s + 1) n))) (some p) tn tb h' ∧ xoth B nx h h' := by
  obtain ⟨lv, wad, pad, psa, poa, h1, h2, h3, h4, h5, h6, h7, h8, ⟨bb, ee, tt, h9⟩, h10, h11, ⟨c0, c1, c2, c3⟩, h13⟩ := hD
  have hl : ∃ pa sa oa, lv = .ref pa ∧ xProg pa sa oa p h ∧ xOKp p ∧ B + 119 ≤ pa ∧ B + 119 ≤ sa ∧ B + 119 ≤ oa ∧ pa < nx ∧ sa < nx ∧ oa < nx := by
    rcases h2 with h2 | ⟨p', pa, sa, oa, e1, e2, e3⟩
    · cases h2.1
    · cases e1
      exact ⟨pa, sa, oa, e2, e3⟩
  obtain ⟨pa, sa, oa, rfl, hP, hOK, hpa⟩ := hl
  have h10 := h10
  obtain ⟨⟨wf, v1, v2, v3⟩, v4, v5, v6, v7⟩ := id h5
  have hclk := c2 s hs
  generalize hst : max (clk s + 1) n = st
  have hst31 : st < 2 ^ 31 := by omega
  /- the heaps: a new object, its constructor, the history with it -/
  let k1 : xH := xup h nx (.inr (9, [.int (nI s), .int (nI st), .ref pa, .int 0]))
  let k2 : xH := xup (xup k1 (B + 11) (.inl (3, 500, .inr (.inr (.inr (.inr (va_up wf tak (some nx)))))))) (B + 10) (.inr (4, [.ref (B + 11), .ref (B + 12), .int (nI (tak + 1)), .int (nI cmt)]))
  have old : ∀ q, q ≠ B + 10 → q ≠ B + 11 → q ≠ nx → k2 q = h q := fun q a b c => (xup_n a).trans ((xup_n b).trans (xup_n c))
  obtain ⟨hH2, hW2⟩ := D_write_new (s := s) (st := st) h5 h6 hP hpa h13 hs hst31 ht v2 v3 k2 ((xup_n (by omega)).trans ((xup_n (by omega)).trans xup_s)) xup_s ((xup_n (by omega)).trans xup_s) old
  have hkt : ∀ i, i < 5 → kno i tak = 0 := fun i hi => by
    obtain ⟨_, _, _, _, _, _, -, -, k1, k2, -⟩ := h10 i hi
    rcases k1 tak with e | e
    · exact e
    · exact absurd (k2 tak e) (by omega)
  have hU2 : xHU (tak + 1) cmt (va_up sv tak s) (va_up sp tak st) cm := by
    have key : ∀ w, w < tak → sv w = s → sp w = st → False := fun w hw e1 e2 => by
      obtain ⟨_, _, _, _, _, _, -, -, -, -, -, -, -, -, k7, -⟩ := h10 s hs
      have := k7 w (e1 ▸ c1 w hw)
      omega
    refine ⟨fun w v hw hv e1 e2 => ?_, fun r hr => Nat.lt_succ_of_lt (h7.2.1 r hr), h7.2.2⟩
    by_cases ew : w = tak
    · by_cases ev : v = tak
      · omega
      · rw [ew, vu_at, vu_ne ev] at e1 e2
        exact (key v (by omega) e2.symm e1.symm).elim
    · by_cases ev : v = tak
      · rw [ev, vu_at, vu_ne ew] at e1 e2
        exact (key w (by omega) e2 e1).elim
      · rw [vu_ne ew, vu_ne ev] at e1 e2
        exact h7.1 w v (by omega) (by omega) e1 e2
  have hS2 : ∀ i, i < 5 → xSI B (B + 18 + 7 * i) (tak + 1) cmt (va_up sv tak s) (va_up sp tak st) (va_up pg tak p) cm (clk i) (com i) (fog i) (kno i) k2 := fun i hi => xSI_ext (xSI_kept (h10 i hi) (fun q g1 g2 => old q (by omega) (by omega) (by omega))) (by omega) (Nat.le_refl _) (fun w hw => vu_ne (by omega)) (fun w hw => vu_ne (by omega)) (fun w hw => vu_ne (by omega)) (fun _ _ => rfl)
  obtain ⟨k3, r3, hS3, sm3⟩ := q_learn (G := G) (d := d - 1) (nx := nx + 1) (sl := sl + 4) (w := tak) hH2 hU2 (hS2 s hs) (by omega) (by omega) (hkt s hs) (by omega)
  rw [vu_at] at hS3
  have emax : max (clk s) st = st := by omega
  rw [emax] at hS3
  obtain ⟨fr, fw, g1, g2, g3, g4, g5⟩ := h11 j hj
  have o3 : ∀ q, (q < B + 18 + 7 * s ∨ B + 18 + 7 * s + 6 < q) → q ≠ B + 10 → q ≠ B + 11 → q ≠ nx → k3 q = h q := fun q a b c e => (sm3 q a).trans (old q b c e)
  let k4 : xH := xup k3 (B + 54 + 3 * j + 2) (.inl (0, 5, .inl (upd fw s (nI st))))
  have o4 : ∀ q, q ≠ B + 54 + 3 * j + 2 → k4 q = k3 q := fun q a => xup_n a
  refine ⟨k4, ?_, ⟨.ref pa, _, _, _, _, xTop_kept h1 ((o4 _ (by omega)).trans (o3 _ (by omega) (by omega) (by omega) (by omega))) ((o4 _ (by omega)).trans (o3 _ (by omega) (by omega) (by omega) (by omega))) ((o4 _ (by omega)).trans (o3 _ (by omega) (by omega) (by omega) (by omega))), xLat_kept h2 (Nat.le_succ _) (fun q g1 g2 g3 => (o4 _ (by omega)).trans (o3 _ (by omega) (by omega) (by omega) (by omega))), xTp_kept h3 ((o4 _ (by omega)).trans (o3 _ (by omega) (by omega) (by omega) (by omega))) ((o4 _ (by omega)).trans (o3 _ (by omega) (by omega) (by omega) (by omega))), xCo_kept h4 (fun q g1 g2 => (o4 _ (by omega)).trans (o3 _ (by omega) (by omega) (by omega) (by omega))), xHist_kept hH2 (fun q hq => (o4 _ (by omega)).trans (sm3 q (by omega))), hW2, hU2, fun w hw => ?_, ⟨bb, ee, tt, xMS_kept h9 (fun q g1 g2 => (o4 _ (by omega)).trans (o3 _ (by omega) (by omega) (by omega) (by omega)))⟩, fun i hi => ?_, fun i hi => ?_, ⟨c0, fun w hw => ?_, fun i hi => ?_, fun w hw => ?_⟩, by omega⟩, fun q e1 e2 e3 => (o4 _ (by omega)).trans (o3 _ (by omega) (by omega) (by omega) (by omega))⟩
  · have t6 := h1.2.1
    obtain ⟨t1, ⟨sf, t2, t3⟩, ⟨ef, t4, t5⟩⟩ := h1
    have t6 := t3 s hs
    have t7 := t5 j hj
    obtain ⟨don, vec, tl, cc, ce, oc, ⟨tN, ⟨s0, s1, s2, s3, s4, s5, s6⟩, htN⟩, hT, q1, q2, q3, q4, q5, q6, q7, q8, -⟩ := h10 s hs
    unfold xSvF at s0
    dsimp only at s0 s1 s2 s3 s4 s5 s6
    have hvec : ∀ k, k < 5 → vec k = xvm sv sp (kno s) k tak ∧ vec k < 2 ^ 31 := fun k hk => ⟨xvm_eq q2 (q8 k hk).2.1 (q8 k hk).2.2, (q8 k hk).1⟩
    have hmay : aMay tak sv sp (kno s) (bit j) 4 8 (rd j) (wr j) = ((!decide (¬ nI (bit j) &&& 4 = 0) || xatl (fun j => nI (vec j)) fr 5) && (!decide (¬ nI (bit j) &&& 8 = 0) || xatl (fun j => nI (vec j)) fw 5)) := by
      unfold aMay
      rw [xatl_a (g := wr j) (fun k hk => ⟨(g5 k hk).2.1, (g5 k hk).2.2.2⟩) hvec, xatl_a (g := rd j) (fun k hk => ⟨(g5 k hk).1, (g5 k hk).2.2.1⟩) hvec]
    have rm := s_mayWrite (G := G) (d := d - 1) (nx := nx) (sl := sl) g1 s0 g2 g3 s1 (by omega)
    rw [← hmay] at rm
    refine D_write_pre hp (by omega) ?_
    refine xr_go i5_26 rfl ?_
    refine xr_get i5_27 xf5_51 (by assumption) rfl rfl ?_
    refine xr_nn i5_30 (t := 36) (by decide) ?_
    refine xr_go i5_36 rfl ?_
    refine xr_get i5_37 xf5_28 (by assumption) rfl rfl ?_
    refine xr_get i5_40 xf5_79 (by assumption) rfl rfl ?_
    refine xr_go i5_43 rfl ?_
    refine xr_icmp_ltT i5_46 (t := 52) (by decide) (show nI tak < nI 500 from nI_lt (by omega) (by omega)) ?_
    refine xr_go i5_52 rfl ?_
    refine xr_get i5_53 xf5_37 (by assumption) rfl rfl ?_
    refine xr_go i5_56 rfl ?_
    refine xr_aald i5_57 (by assumption) (by decide) rfl (by omega) (by omega) (by assumption) ?_
    refine xr_go i5_58 rfl ?_
    refine xr_go i5_60 rfl ?_
    refine xr_get i5_61 xf5_46 (by assumption) rfl rfl ?_
    refine xr_go i5_64 rfl ?_
    refine xr_aald i5_65 (by assumption) (by decide) rfl (by omega) (by omega) (by assumption) ?_
    refine xr_go i5_66 rfl ?_
    refine xr_go i5_68 rfl ?_
    refine xr_go i5_70 rfl ?_
    refine xr_V i5_72 xc5_82 ⟨rfl, rfl⟩ xa_70 rfl (by assumption) rfl (Nat.le_of_ble_eq_true rfl) (by omega) ⟨Nat.le_of_ble_eq_true rfl, Nat.le_of_ble_eq_true rfl⟩ (rm) ?_
    refine xr_if_neT i5_75 (t := 81) (by decide) (xbi_1 hm) ?_
    refine xr_go i5_81 rfl ?_
    refine xr_get i5_83 xf5_86 (by assumption) rfl rfl ?_
    refine xr_go i5_86 rfl ?_
    refine xr_go i5_87 rfl ?_
    refine xr_top (show _ = nI (clk s + 1) from nI_add (clk s) 1) ?_
    refine xr_go i5_88 rfl ?_
    refine xr_max i5_89 xc5_89 rfl (by omega) (Nat.le_of_ble_eq_true rfl) ((show _ = nI st from (nI_max (by omega) (by omega)).trans (congrArg nI hst))) ?_
    refine xr_go i5_92 rfl ?_
    refine xr_go i5_94 rfl ?_
    refine xr_get i5_95 xf5_28 (by assumption) rfl rfl ?_
    refine xr_new i5_98 xk5_95 rfl rfl rfl (fun f1 ef1 => ?_)
    have f1n : f1 nx = some (.inr (9, [.int 0, .int 0, .null, .int 0])) := by rw [ef1]; exact xup_s
    have f1B : f1 B = h B := by rw [ef1]; exact xup_n (by omega)
    have f1B' := f1B.trans t1
    obtain ⟨fs9, fo9, P0, -⟩ := hP
    have f1p : f1 pa = some (.inr (8, [.ref sa, .ref oa])) := by rw [ef1]; exact (xup_n (Nat.ne_of_lt hpa.2.2.2.1)).trans P0
    have rw77 := s_write (G := G) (d := d - 1) (nx := nx + 1) (sl := sl + 4) (x0 := nI s) (x1 := nI st) f1n f1p (Nat.ne_of_gt hpa.2.2.2.1) (by omega)
    have ek1 : xup f1 nx (.inr (9, [.int (nI s), .int (nI st), .ref pa, .int 0])) = k1 := by rw [ef1, xup_same]
    rw [ek1] at rw77
    refine xr_go i5_101 rfl ?_
    refine xr_go i5_102 rfl ?_
    refine xr_go i5_103 rfl ?_
    refine xr_go i5_105 rfl ?_
    refine xr_get i5_106 xf5_51 (by assumption) rfl rfl ?_
    refine xr_I i5_109 xc5_97 ⟨by first | exact Or.inl rfl | exact Or.inr rfl, rfl⟩ xa_77 rfl rfl (Nat.le_of_ble_eq_true rfl) (by omega) ⟨Nat.le_of_ble_eq_true rfl, Nat.le_of_ble_eq_true rfl⟩ (rw77) ?_
    have a10 : k1 (B + 10) = some (.inr (4, [.ref (B + 11), .ref (B + 12), .int (nI tak), .int (nI cmt)])) := (xup_n (by omega)).trans v1
    have a11 : k1 (B + 11) = some (.inl (3, 500, .inr (.inr (.inr (.inr wf))))) := (xup_n (by omega)).trans v2
    have an : k1 nx = some (.inr (9, [.int (nI s), .int (nI st), .ref pa, .int 0])) := xup_s
    have r46 := s_add (G := G) (d := d - 1) (nx := nx + 1) (sl := sl + 4) a10 a11 an (by omega) ht
    refine xr_V i5_112 xc5_100 ⟨rfl, rfl⟩ xa_46 rfl (by assumption) rfl (Nat.le_of_ble_eq_true rfl) (by omega) ⟨Nat.le_of_ble_eq_true rfl, Nat.le_of_ble_eq_true rfl⟩ (r46) ?_
    refine xr_go i5_115 rfl ?_
    refine xr_go i5_117 rfl ?_
    refine xr_go i5_119 rfl ?_
    have b0 : ∃ x, k2 (B + 18 + 7 * s) = some (.inr (6, x)) := ⟨_, (old _ (by omega) (by omega) (by omega)).trans s0⟩
    obtain ⟨x0, b0⟩ := b0
    refine xr_V i5_121 xc5_104 ⟨rfl, rfl⟩ xa_59 rfl (by assumption) rfl (Nat.le_of_ble_eq_true rfl) (by omega) ⟨Nat.le_of_ble_eq_true rfl, Nat.le_of_ble_eq_true rfl⟩ (r3) ?_
    refine xr_go i5_124 rfl ?_
    have b1 : k3 (B + 54 + 3 * j) = some (.inr (7, [.ref (B + 54 + 3 * j + 1), .ref (B + 54 + 3 * j + 2), .int (nI (bit j))])) := (o3 _ (by omega) (by omega) (by omega) (by omega)).trans g1
    have b2 : k3 (B + 54 + 3 * j + 2) = some (.inl (0, 5, .inl fw)) := (o3 _ (by omega) (by omega) (by omega) (by omega)).trans g3
    refine xr_get i5_126 xf5_107 (by assumption) rfl rfl ?_
    refine xr_go i5_129 rfl ?_
    refine xr_go i5_130 rfl ?_
    refine xr_iast i5_132 (by assumption) rfl (by omega) (by omega) (fun f4 ef4 => ?_)
    have ef4' : f4 = k4 := ef4
    rw [ef4']
    refine xr_go i5_133 rfl ?_
    exact xr_iret i5_135 xt_5 rfl
  · by_cases e : w = tak
    · rw [e, vu_at]
      exact hOK
    · rw [vu_ne e]
      exact h8 w (by omega)
  · by_cases e : i = s
    · subst e
      rw [vu_at, vu_at]
      exact xSI_kept hS3 (fun q g1 g2 => o4 q (by omega))
    · rw [vu_ne e, vu_ne e]
      exact xSI_kept (hS2 i hi) (fun q g1 g2 => (o4 q (by omega)).trans (sm3 q (by omega)))
  · by_cases e : i = j
    · subst e
      rw [vu_at]
      refine ⟨fr, upd fw s (nI st), (o4 _ (by omega)).trans ((o3 _ (by omega) (by omega) (by omega) (by omega)).trans g1), (o4 _ (by omega)).trans ((o3 _ (by omega) (by omega) (by omega) (by omega)).trans g2), xup_s, g4, fun k hk => ?_⟩
      by_cases ek : k = s
      · subst ek
        rw [vu_at]
        exact ⟨(g5 k hk).1, by simp [upd], (g5 k hk).2.2.1, hst31⟩
      · rw [vu_ne ek]
        exact ⟨(g5 k hk).1, by simp [upd, ek, (g5 k hk).2.1], (g5 k hk).2.2⟩
    · rw [vu_ne e]
      exact xSe_kept (h11 i hi) (fun q g1 g2 => (o4 _ (by omega)).trans (o3 _ (by omega) (by omega) (by omega) (by omega)))
  · by_cases e : w = tak
    · rw [e, vu_at, vu_at, vu_at]
    · rw [vu_ne e]
      have hkw := c1 w (by omega)
      by_cases e2 : sv w = s
      · rw [e2, vu_at, vu_ne e, ← e2]
        exact hkw
      · rw [vu_ne e2]
        exact hkw
  · by_cases e : i = s
    · rw [e, vu_at]
      omega
    · rw [vu_ne e]
      have := c2 i hi
      omega
  · by_cases e : w = tak
    · rw [e, vu_at]
      refine Or.inl ⟨rfl, fun z => ?_⟩
      obtain ⟨r, hr, er⟩ := xcms_mem.mp z
      have := h7.2.1 r hr
      omega
    · rw [vu_ne e]
      exact c3 w (by omega)
end XWR2

