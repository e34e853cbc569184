/-! ===== the class: cells, outcomes, forgetting, sessions ===== -/
theorem vu_at {α : Type} {f : Nat → α} {i : Nat} {x : α} : va_up f i x i = x := by simp [va_up]
theorem vu_ne {α : Type} {f : Nat → α} {i j : Nat} {x : α} (h : j ≠ i) : va_up f i x j = f j := by simp [va_up, h]
theorem vu_id {α : Type} {f : Nat → α} {i : Nat} : va_up f i (f i) = f := by
  funext j
  unfold va_up
  split
  · rename_i h; rw [h]
  · rfl
theorem xidx {l : List Nat} {w : Nat} (h : w ∈ l) : l.idxOf w < l.length ∧ l.getD (l.idxOf w) 0 = w := by
  have h1 := List.idxOf_lt_length_iff.mpr h
  refine ⟨h1, ?_⟩
  rw [List.getD_eq_getElem?_getD, List.getElem?_eq_getElem h1]
  exact List.getElem_idxOf h1
theorem xord_mem {tak com : Nat} {sv sp cm kno : Nat → Nat} {tl : List Nat} {w : Nat} (hT : xTL tak sv sp cm kno com tl) (hw : w < tak) (hk : kno w = 1) : w ∈ xord cm com tl := by
  unfold xord
  by_cases h : w ∈ xcms cm com
  · exact List.mem_append_left _ h
  · exact List.mem_append_right _ ((hT.2 w).mpr ⟨hw, hk, h⟩)
/-- answers -/
noncomputable def aVal (tak : Nat) (sv sp cm : Nat → Nat) (pg : Nat → List (Nat × Int32)) (com : Nat) (kno : Nat → Nat) (c : Nat) (b : Int32) : Int32 := xruns sv sp pg xz (if b = 0 then xLs tak sv sp cm kno com else xcms cm com) c
noncomputable def aCell (tak : Nat) (sv sp cm : Nat → Nat) (pg : Nat → List (Nat × Int32)) (com : Nat → Nat) (kno : Nat → Nat → Nat) (x y b : Int32) : Int64 := if xrng 5 x = true ∧ xrng 32 y = true then (aVal tak sv sp cm pg (com (aN x)) (kno (aN x)) (aN y) b).toInt64 else 1099511627776
noncomputable def aOut (tak : Nat) (sv sp cm : Nat → Nat) (pg : Nat → List (Nat × Int32)) (com : Nat → Nat) (kno : Nat → Nat → Nat) (x y : Int32) : Int32 := if xrng 5 x = true then (if xrng tak y = true ∧ kno (aN x) (aN y) = 1 then nI (xoutAt sv sp pg (xLs tak sv sp cm (kno (aN x)) (com (aN x))) ((xLs tak sv sp cm (kno (aN x)) (com (aN x))).idxOf (aN y))) else -2) else -1
/-- at least: a vector of what is known, and another -/
def aAtl (tak : Nat) (sv sp kno g : Nat → Nat) : Bool := (List.range 5).all (fun k => decide (g k ≤ xvm sv sp kno k tak))
def aMay (tak : Nat) (sv sp kno : Nat → Nat) (bit : Nat) (c1 c2 : Int32) (g1 g2 : Nat → Nat) : Bool := (!decide (¬ nI bit &&& c1 = 0) || aAtl tak sv sp kno g1) && (!decide (¬ nI bit &&& c2 = 0) || aAtl tak sv sp kno g2)
noncomputable def aRead (tak : Nat) (sv sp cm : Nat → Nat) (pg : Nat → List (Nat × Int32)) (com : Nat → Nat) (kno : Nat → Nat → Nat) (bit : Nat → Nat) (rd wr : Nat → Nat → Nat) (x y c b : Int32) : Int64 := if xrng 5 x = true ∧ xrng 8 y = true ∧ xrng 32 c = true then (if aMay tak sv sp (kno (aN x)) (bit (aN y)) 1 2 (wr (aN y)) (rd (aN y)) = true then (aVal tak sv sp cm pg (com (aN x)) (kno (aN x)) (aN c) b).toInt64 else 1099511627777) else 1099511627776
def bRead (tak : Nat) (sv sp : Nat → Nat) (kno : Nat → Nat → Nat) (bit : Nat → Nat) (rd wr : Nat → Nat → Nat) (x y c : Int32) : Nat → Nat → Nat := if xrng 5 x = true ∧ xrng 8 y = true ∧ xrng 32 c = true ∧ aMay tak sv sp (kno (aN x)) (bit (aN y)) 1 2 (wr (aN y)) (rd (aN y)) = true then va_up rd (aN y) (fun k => max (rd (aN y) k) (xvm sv sp (kno (aN x)) k tak)) else rd
def aForget (com fog : Nat → Nat) (x y : Int32) : Int32 := if xrng 5 x = true ∧ ¬ y < 0 then nI (fog (aN x) + min (aN y) (com (aN x) - fog (aN x))) else -1
def bForget (com fog : Nat → Nat) (x y : Int32) : Nat → Nat := if xrng 5 x = true ∧ ¬ y < 0 then va_up fog (aN x) (fog (aN x) + min (aN y) (com (aN x) - fog (aN x))) else fog
def aAssure (bit : Nat → Nat) (x y : Int32) : Int32 := if xrng 8 x = true ∧ xrng 16 y = true then nI (bit (aN x)) else -1
def bAssure (bit : Nat → Nat) (x y : Int32) : Nat → Nat := if xrng 8 x = true ∧ xrng 16 y = true then va_up bit (aN x) (aN y) else bit
def bClear (v : Nat → Nat → Nat) (x y z : Int32) : Nat → Nat → Nat := if xrng 8 x = true ∧ xrng 16 y = true ∧ ¬ z = 0 then va_up v (aN x) (fun _ => 0) else v
theorem xand16 {y : Int32} : y &&& -16 = 0 ↔ xrng 16 y = true := by
  constructor
  · intro hy
    have e : y = y &&& 15 := by
      have h1 : y.toBitVec &&& (-16 : Int32).toBitVec = 0#32 := by
        have := congrArg Int32.toBitVec hy
        simpa using this
      have h2 : y.toBitVec = y.toBitVec &&& 15#32 := by
        have h3 : y.toBitVec = (y.toBitVec &&& (-16 : Int32).toBitVec) ||| (y.toBitVec &&& 15#32) := by
          rw [← BitVec.and_or_distrib_left, show (-16 : Int32).toBitVec ||| 15#32 = BitVec.allOnes 32 from by decide, BitVec.and_allOnes]
        rw [h3] at *
        rw [h1]
        simp [BitVec.and_assoc]
      apply Int32.toBitVec_inj.mp
      simpa using h2
    have h4 : y.toBitVec.toNat ≤ 15 := by
      have := congrArg (fun z => (Int32.toBitVec z).toNat) e
      simp only [Int32.toBitVec_and, BitVec.toNat_and] at this
      rw [this]
      exact Nat.and_le_right
    have h5 : y = nI y.toBitVec.toNat := by
      apply Int32.toBitVec_inj.mp
      apply BitVec.eq_of_toNat_eq
      show _ = (BitVec.ofNat 32 _).toNat
      rw [BitVec.toNat_ofNat, Nat.mod_eq_of_lt (by omega)]
    rw [h5]
    exact xrng_nI (by omega) (by omega)
  · intro hy
    obtain ⟨j, hj, rfl⟩ := xrng_of (by omega) hy
    have key : ∀ k : Fin 16, nI k.val &&& -16 = 0 := by decide
    exact key ⟨j, hj⟩
theorem aAtl_iff {tak : Nat} {sv sp kno g : Nat → Nat} : aAtl tak sv sp kno g = true ↔ ∀ k, k < 5 → g k ≤ xvm sv sp kno k tak := by
  unfold aAtl
  simp only [List.all_eq_true, List.mem_range, decide_eq_true_eq]
section XCELL
variable {G : xG} {d : Nat} {h h' : xH} {sl : Nat} {B nx tak cmt : Nat} {sv sp pl cm : Nat → Nat} {pg : Nat → List (Nat × Int32)} {clk com fog : Nat → Nat} {kno : Nat → Nat → Nat} {bit : Nat → Nat} {rd wr : Nat → Nat → Nat} {lat : Option (List (Nat × Int32))} {tn : Nat} {tb : Nat → Nat}
/-- one server changed -/
theorem xDS_srv {i clk' com' fog' : Nat} {kno' : Nat → Nat} (hD : xDS B nx tak cmt sv sp pl cm pg clk com fog kno bit rd wr lat tn tb h) (hi : i < 5) (sm : xsm B (B + 18 + 7 * i) h h') (hM : ∃ b e t, xMS (B + 13) b e t h') (hS : xSI B (B + 18 + 7 * i) tak cmt sv sp pg cm clk' com' fog' kno' h') (hG : xGI tak cmt sv pl cm (va_up clk i clk') (va_up com i com') (va_up kno i kno')) : xDS B nx tak cmt sv sp pl cm pg (va_up clk i clk') (va_up com i com') (va_up fog i fog') (va_up kno i kno') bit rd wr lat tn tb h' := by
  obtain ⟨lv, wad, pad, psa, poa, h1, h2, h3, h4, h5, h6, h7, h8, -, h10, h11, h12, h13⟩ := hD
  refine ⟨lv, wad, pad, psa, poa, xTop_kept h1 (sm _ (by omega) (by omega)) (sm _ (by omega) (by omega)) (sm _ (by omega) (by omega)), xLat_kept h2 (Nat.le_refl _) (fun q g1 g2 _ => sm q (by omega) (by omega)), xTp_kept h3 (sm _ (by omega) (by omega)) (sm _ (by omega) (by omega)), xCo_kept h4 (fun q g1 g2 => sm _ (by omega) (by omega)), xHist_kept h5 (fun q hq => sm q (by omega) (by omega)), h6, h7, h8, hM, fun k hk => ?_, fun j hj => xSe_kept (h11 j hj) (fun q g1 g2 => sm _ (by omega) (by omega)), hG, h13⟩
  by_cases hki : k = i
  · subst hki
    rw [vu_at, vu_at, vu_at, vu_at]
    exact hS
  · rw [vu_ne hki, vu_ne hki, vu_ne hki, vu_ne hki]
    exact xSI_kept (h10 k hk) (fun q g1 g2 => sm q (by omega) (by omega))
theorem xDS_srv0 {i : Nat} (hD : xDS B nx tak cmt sv sp pl cm pg clk com fog kno bit rd wr lat tn tb h) (hi : i < 5) (sm : xsm B (B + 18 + 7 * i) h h') (hM : ∃ b e t, xMS (B + 13) b e t h') (hS : xSI B (B + 18 + 7 * i) tak cmt sv sp pg cm (clk i) (com i) (fog i) (kno i) h') : xDS B nx tak cmt sv sp pl cm pg clk com fog kno bit rd wr lat tn tb h' := by
  have hG : xGI tak cmt sv pl cm clk com kno := by
    obtain ⟨lv, wad, pad, psa, poa, h1, h2, h3, h4, h5, h6, h7, h8, -, h10, h11, h12, h13⟩ := hD
    exact h12
  have := xDS_srv hD hi sm hM hS (by rw [vu_id, vu_id, vu_id]; exact hG)
  rw [vu_id, vu_id, vu_id, vu_id] at this
  exact this
/-- one session changed -/
theorem xDS_ses {j bit' : Nat} {rd' wr' : Nat → Nat} (hD : xDS B nx tak cmt sv sp pl cm pg clk com fog kno bit rd wr lat tn tb h) (hj : j < 8) (sm : xsame (B + 54 + 3 * j) (B + 56 + 3 * j) h h') (hS : xSe (B + 54 + 3 * j) bit' rd' wr' h') : xDS B nx tak cmt sv sp pl cm pg clk com fog kno (va_up bit j bit') (va_up rd j rd') (va_up wr j wr') lat tn tb h' := by
  obtain ⟨lv, wad, pad, psa, poa, h1, h2, h3, h4, h5, h6, h7, h8, ⟨b, e, t, h9⟩, h10, h11, h12, h13⟩ := hD
  refine ⟨lv, wad, pad, psa, poa, xTop_kept h1 (sm _ (by omega)) (sm _ (by omega)) (sm _ (by omega)), xLat_kept h2 (Nat.le_refl _) (fun q g1 g2 _ => sm q (by omega)), xTp_kept h3 (sm _ (by omega)) (sm _ (by omega)), xCo_kept h4 (fun q g1 g2 => sm _ (by omega)), xHist_kept h5 (fun q hq => sm q (by omega)), h6, h7, h8, ⟨b, e, t, xMS_kept h9 (fun q g1 g2 => sm q (by omega))⟩, fun k hk => xSI_kept (h10 k hk) (fun q g1 g2 => sm q (by omega)), fun k hk => ?_, h12, h13⟩
  by_cases hki : k = j
  · subst hki
    rw [vu_at, vu_at, vu_at]
    exact hS
  · rw [vu_ne hki, vu_ne hki, vu_ne hki]
    exact xSe_kept (h11 k hk) (fun q g1 g2 => sm q (by omega))
theorem D_cell (hD : xDS B nx tak cmt sv sp pl cm pg clk com fog kno bit rd wr lat tn tb h) (x y b : Int32) (hd : 6 ≤ d) : ∃ h', xRun G d 13 (0, [some (.ref B), some (.int x), some (.int y), some (.int b)], [], (h, nx, sl)) (some (.long (aCell tak sv sp cm pg com kno x y b)), (h', nx, sl)) ∧ xDS B nx tak cmt sv sp pl cm pg clk com fog kno bit rd wr lat tn tb h' ∧ xoth B nx h h' := by
  have hD0 := hD
  obtain ⟨lv, wad, pad, psa, poa, ⟨t1, ⟨sf, t2, t3⟩, ⟨ef, t4, t5⟩⟩, h2, h3, h4, h5, h6, h7, h8, ⟨bb, ee, tt, h9⟩, h10, h11, h12, h13⟩ := hD
  unfold aCell
  have tail : xRun G d 13 (14, [some (.ref B), some (.int x), some (.int y), some (.int b)], [], (h, nx, sl)) (some (.long 1099511627776), (h, nx, sl)) := by
    refine xr_ldc2 i13_14 xl13_114 rfl ?_
    exact xr_lret i13_17 xt_13
  by_cases hx : xrng 5 x = true
  · by_cases hy : xrng 32 y = true
    · rw [if_pos ⟨hx, hy⟩]
      obtain ⟨s, hs, rfl⟩ := xrng_of (by omega) hx
      obtain ⟨c, hc, rfl⟩ := xrng_of (by omega) hy
      rw [aN_nI (by omega), aN_nI (by omega)]
      have t6 := t3 s hs
      obtain ⟨h', tl, r, hT, g1, g2, g3⟩ := q_value (G := G) (d := d - 1) (nx := nx) (sl := sl) (c := c) (b := b) h5 h7 h8 h9 (h10 s hs) (by omega) hc (by omega)
      have s0 : ∃ x, h (B + 18 + 7 * s) = some (.inr (6, x)) := by
        obtain ⟨_, _, _, _, _, _, ⟨_, hs, -⟩, -⟩ := h10 s hs
        exact ⟨_, hs.1⟩
      obtain ⟨x0, s0⟩ := s0
      refine ⟨h', ?_, xDS_srv0 hD0 hs g3 g2 g1, g3.oth (by omega)⟩
      have e : aVal tak sv sp cm pg (com s) (kno s) c b = (if b = 0 then xruns sv sp pg xz (xord cm (com s) tl) c else xruns sv sp pg xz (xcms cm (com s)) c) := by
        unfold aVal
        rw [xLs_eq hT]
        split <;> rfl
      rw [e]
      refine xr_go i13_0 rfl ?_
      refine xr_S i13_1 xc13_71 ⟨by first | exact Or.inl rfl | exact Or.inr rfl, rfl⟩ xa_6 (Nat.le_of_ble_eq_true rfl) (Nat.le_of_ble_eq_true rfl) (by omega) ⟨Nat.le_of_ble_eq_true rfl, Nat.le_of_ble_eq_true rfl⟩ (s_isServer (nI s)) ?_
      refine xr_if_eqF i13_4 (t := 14) (by decide) (xbi_1 hx) ?_
      refine xr_go i13_7 rfl ?_
      refine xr_S i13_8 xc13_111 ⟨by first | exact Or.inl rfl | exact Or.inr rfl, rfl⟩ xa_4 (Nat.le_of_ble_eq_true rfl) (Nat.le_of_ble_eq_true rfl) (by omega) ⟨Nat.le_of_ble_eq_true rfl, Nat.le_of_ble_eq_true rfl⟩ (s_isCell (nI c)) ?_
      refine xr_if_neT i13_11 (t := 18) (by decide) (xbi_1 hy) ?_
      refine xr_go i13_18 rfl ?_
      refine xr_get i13_19 xf13_37 (by assumption) rfl rfl ?_
      refine xr_go i13_22 rfl ?_
      refine xr_aald i13_23 (by assumption) (by decide) rfl (by omega) (by omega) (by assumption) ?_
      refine xr_go i13_24 rfl ?_
      refine xr_go i13_25 rfl ?_
      refine xr_V i13_26 xc13_125 ⟨rfl, rfl⟩ xa_60 rfl (by assumption) rfl (Nat.le_of_ble_eq_true rfl) (by omega) ⟨Nat.le_of_ble_eq_true rfl, Nat.le_of_ble_eq_true rfl⟩ (r) ?_
      refine xr_go i13_29 rfl ?_
      exact xr_lret i13_30 xt_13
    · rw [if_neg (fun z => hy z.2)]
      refine ⟨h, ?_, hD0, xoth.refl⟩
      refine xr_go i13_0 rfl ?_
      refine xr_S i13_1 xc13_71 ⟨by first | exact Or.inl rfl | exact Or.inr rfl, rfl⟩ xa_6 (Nat.le_of_ble_eq_true rfl) (Nat.le_of_ble_eq_true rfl) (by omega) ⟨Nat.le_of_ble_eq_true rfl, Nat.le_of_ble_eq_true rfl⟩ (s_isServer x) ?_
      refine xr_if_eqF i13_4 (t := 14) (by decide) (xbi_1 hx) ?_
      refine xr_go i13_7 rfl ?_
      refine xr_S i13_8 xc13_111 ⟨by first | exact Or.inl rfl | exact Or.inr rfl, rfl⟩ xa_4 (Nat.le_of_ble_eq_true rfl) (Nat.le_of_ble_eq_true rfl) (by omega) ⟨Nat.le_of_ble_eq_true rfl, Nat.le_of_ble_eq_true rfl⟩ (s_isCell y) ?_
      refine xr_if_neF i13_11 (t := 18) (by decide) (by rw [Bool.not_eq_true] at hy; rw [hy]; decide) ?_
      exact tail
  · rw [if_neg (fun z => hx z.1)]
    refine ⟨h, ?_, hD0, xoth.refl⟩
    refine xr_go i13_0 rfl ?_
    refine xr_S i13_1 xc13_71 ⟨by first | exact Or.inl rfl | exact Or.inr rfl, rfl⟩ xa_6 (Nat.le_of_ble_eq_true rfl) (Nat.le_of_ble_eq_true rfl) (by omega) ⟨Nat.le_of_ble_eq_true rfl, Nat.le_of_ble_eq_true rfl⟩ (s_isServer x) ?_
    refine xr_if_eqT i13_4 (t := 14) (by decide) (xbi_f (by simpa using hx)) ?_
    exact tail
theorem D_outcome (hD : xDS B nx tak cmt sv sp pl cm pg clk com fog kno bit rd wr lat tn tb h) (x y : Int32) (hd : 6 ≤ d) : ∃ h', xRun G d 15 (0, [some (.ref B), some (.int x), some (.int y)], [], (h, nx, sl)) (some (.int (aOut tak sv sp cm pg com kno x y)), (h', nx, sl)) ∧ xDS B nx tak cmt sv sp pl cm pg clk com fog kno bit rd wr lat tn tb h' ∧ xoth B nx h h' := by
  have hD0 := hD
  obtain ⟨lv, wad, pad, psa, poa, ⟨t1, ⟨sf, t2, t3⟩, ⟨ef, t4, t5⟩⟩, h2, h3, h4, h5, h6, h7, h8, ⟨bb, ee, tt, h9⟩, h10, h11, h12, h13⟩ := hD
  obtain ⟨⟨wf, w1, w2, w3⟩, w4, w5, w6, w7⟩ := h5
  unfold aOut
  by_cases hx : xrng 5 x = true
  · rw [if_pos hx]
    by_cases hy : xrng tak y = true
    · obtain ⟨s, hs, rfl⟩ := xrng_of (by omega) hx
      obtain ⟨w, hw, rfl⟩ := xrng_of (by omega) hy
      rw [aN_nI (by omega), aN_nI (by omega)]
      have t6 := t3 s hs
      obtain ⟨h', tl, v, r, hT, e0, e1, g1, g2, g3⟩ := q_outcome (G := G) (d := d - 1) (nx := nx) (sl := sl) (w := w) ⟨⟨wf, w1, w2, w3⟩, w4, w5, w6, w7⟩ h7 h8 h9 (h10 s hs) (by omega) hw (by omega)
      have s0 : ∃ x, h (B + 18 + 7 * s) = some (.inr (6, x)) := by
        obtain ⟨_, _, _, _, _, _, ⟨_, hs, -⟩, -⟩ := h10 s hs
        exact ⟨_, hs.1⟩
      obtain ⟨x0, s0⟩ := s0
      have k01 : kno s w = 0 ∨ kno s w = 1 := by
        obtain ⟨_, _, _, _, _, _, -, -, k, -⟩ := h10 s hs
        exact k w
      have ev : (if xrng tak (nI w) = true ∧ kno s w = 1 then nI (xoutAt sv sp pg (xLs tak sv sp cm (kno s) (com s)) ((xLs tak sv sp cm (kno s) (com s)).idxOf w)) else -2) = v := by
        rcases k01 with k | k
        · rw [if_neg (fun z => by omega), e0 k]
        · rw [if_pos ⟨hy, k⟩, xLs_eq hT]
          have hm := xidx (xord_mem hT hw k)
          rw [e1 k _ hm.1 hm.2]
      rw [ev]
      refine ⟨h', ?_, xDS_srv0 hD0 hs g3 g2 g1, g3.oth (by omega)⟩
      refine xr_go i15_0 rfl ?_
      refine xr_S i15_1 xc15_71 ⟨by first | exact Or.inl rfl | exact Or.inr rfl, rfl⟩ xa_6 (Nat.le_of_ble_eq_true rfl) (Nat.le_of_ble_eq_true rfl) (by omega) ⟨Nat.le_of_ble_eq_true rfl, Nat.le_of_ble_eq_true rfl⟩ (s_isServer (nI s)) ?_
      refine xr_if_neT i15_4 (t := 9) (by decide) (xbi_1 hx) ?_
      refine xr_go i15_9 rfl ?_
      refine xr_get i15_10 xf15_28 (by assumption) rfl rfl ?_
      refine xr_go i15_13 rfl ?_
      refine xr_V i15_14 xc15_170 ⟨rfl, rfl⟩ xa_48 rfl (by assumption) rfl (Nat.le_of_ble_eq_true rfl) (by omega) ⟨Nat.le_of_ble_eq_true rfl, Nat.le_of_ble_eq_true rfl⟩ (s_has (x := nI w) w1) ?_
      refine xr_if_neT i15_17 (t := 23) (by decide) (xbi_1 hy) ?_
      refine xr_go i15_23 rfl ?_
      refine xr_get i15_24 xf15_37 (by assumption) rfl rfl ?_
      refine xr_go i15_27 rfl ?_
      refine xr_aald i15_28 (by assumption) (by decide) rfl (by omega) (by omega) (by assumption) ?_
      refine xr_go i15_29 rfl ?_
      refine xr_V i15_30 xc15_173 ⟨rfl, rfl⟩ xa_68 rfl (by assumption) rfl (Nat.le_of_ble_eq_true rfl) (by omega) ⟨Nat.le_of_ble_eq_true rfl, Nat.le_of_ble_eq_true rfl⟩ (r) ?_
      exact xr_iret i15_33 xt_15 rfl
    · rw [if_neg (fun z => hy z.1)]
      refine ⟨h, ?_, hD0, xoth.refl⟩
      refine xr_go i15_0 rfl ?_
      refine xr_S i15_1 xc15_71 ⟨by first | exact Or.inl rfl | exact Or.inr rfl, rfl⟩ xa_6 (Nat.le_of_ble_eq_true rfl) (Nat.le_of_ble_eq_true rfl) (by omega) ⟨Nat.le_of_ble_eq_true rfl, Nat.le_of_ble_eq_true rfl⟩ (s_isServer x) ?_
      refine xr_if_neT i15_4 (t := 9) (by decide) (xbi_1 hx) ?_
      refine xr_go i15_9 rfl ?_
      refine xr_get i15_10 xf15_28 (by assumption) rfl rfl ?_
      refine xr_go i15_13 rfl ?_
      refine xr_V i15_14 xc15_170 ⟨rfl, rfl⟩ xa_48 rfl (by assumption) rfl (Nat.le_of_ble_eq_true rfl) (by omega) ⟨Nat.le_of_ble_eq_true rfl, Nat.le_of_ble_eq_true rfl⟩ (s_has (x := y) w1) ?_
      refine xr_if_neF i15_17 (t := 23) (by decide) (by rw [Bool.not_eq_true] at hy; rw [hy]; decide) ?_
      refine xr_go i15_20 rfl ?_
      exact xr_iret i15_22 xt_15 rfl
  · rw [if_neg hx]
    refine ⟨h, ?_, hD0, xoth.refl⟩
    refine xr_go i15_0 rfl ?_
    refine xr_S i15_1 xc15_71 ⟨by first | exact Or.inl rfl | exact Or.inr rfl, rfl⟩ xa_6 (Nat.le_of_ble_eq_true rfl) (Nat.le_of_ble_eq_true rfl) (by omega) ⟨Nat.le_of_ble_eq_true rfl, Nat.le_of_ble_eq_true rfl⟩ (s_isServer x) ?_
    refine xr_if_neF i15_4 (t := 9) (by decide) (by rw [Bool.not_eq_true] at hx; rw [hx]; decide) ?_
    refine xr_go i15_7 rfl ?_
    exact xr_iret i15_8 xt_15 rfl
theorem D_forget (hD : xDS B nx tak cmt sv sp pl cm pg clk com fog kno bit rd wr lat tn tb h) (x y : Int32) (hd : 1 ≤ d) : ∃ h', xRun G d 12 (0, [some (.ref B), some (.int x), some (.int y), none], [], (h, nx, sl)) (some (.int (aForget com fog x y)), (h', nx, sl)) ∧ xDS B nx tak cmt sv sp pl cm pg clk com (bForget com fog x y) kno bit rd wr lat tn tb h' ∧ xoth B nx h h' := by
  have hD0 := hD
  obtain ⟨lv, wad, pad, psa, poa, ⟨t1, ⟨sf, t2, t3⟩, ⟨ef, t4, t5⟩⟩, h2, h3, h4, h5, h6, h7, h8, ⟨bb, ee, tt, h9⟩, h10, h11, h12, h13⟩ := hD
  unfold aForget bForget
  have tail : xRun G d 12 (11, [some (.ref B), some (.int x), some (.int y), none], [], (h, nx, sl)) (some (.int (-1)), (h, nx, sl)) := by
    refine xr_go i12_11 rfl ?_
    exact xr_iret i12_12 xt_12 rfl
  by_cases hx : xrng 5 x = true
  · by_cases hy : y < 0
    · rw [if_neg (fun z => z.2 hy), if_neg (fun z => z.2 hy)]
      refine ⟨h, ?_, hD0, xoth.refl⟩
      refine xr_go i12_0 rfl ?_
      refine xr_S i12_1 xc12_71 ⟨by first | exact Or.inl rfl | exact Or.inr rfl, rfl⟩ xa_6 (Nat.le_of_ble_eq_true rfl) (Nat.le_of_ble_eq_true rfl) (by omega) ⟨Nat.le_of_ble_eq_true rfl, Nat.le_of_ble_eq_true rfl⟩ (s_isServer x) ?_
      refine xr_if_eqF i12_4 (t := 11) (by decide) (xbi_1 hx) ?_
      refine xr_go i12_7 rfl ?_
      refine xr_if_geF i12_8 (t := 13) (by decide) (Int32.not_le.mpr hy) ?_
      exact tail
    · rw [if_pos ⟨hx, hy⟩, if_pos ⟨hx, hy⟩]
      obtain ⟨s, hs, rfl⟩ := xrng_of (by omega) hx
      obtain ⟨n, hn, rfl⟩ := nI_of hy
      rw [aN_nI (by omega), aN_nI hn]
      have t6 := t3 s hs
      have hS0 := h10 s hs
      obtain ⟨don, vec, tl, cc, ce, oc, ⟨tN, ⟨s0, s1, s2, s3, s4, s5, s6⟩, htN⟩, hT, k1, k2, k3, k4, k5, k6⟩ := hS0
      have h500 : com s ≤ 500 := by
        have := h5.2.2.1
        have := h5.2.2.2.1
        omega
      let fo := fog s + min n (com s - fog s)
      let h' : xH := xup h (B + 18 + 7 * s) (.inr (6, xSvF B (B + 18 + 7 * s) (clk s, com s, fo, tl.length, don)))
      have sm : xsm B (B + 18 + 7 * s) h h' := fun q g1 g2 => xup_n (by omega)
      have hS' : xSI B (B + 18 + 7 * s) tak cmt sv sp pg cm (clk s) (com s) fo (kno s) h' := by
        refine ⟨don, vec, tl, cc, ce, oc, ⟨tN, ⟨xup_s, ?_, ?_, ?_, ?_, ?_, ?_⟩, htN⟩, hT, k1, k2, k3, k4, ?_, k6⟩
        · exact (xup_n (by omega)).trans s1
        · exact (xup_n (by omega)).trans s2
        · exact (xup_n (by omega)).trans s3
        · exact (xup_n (by omega)).trans s4
        · exact (xup_n (by omega)).trans s5
        · exact (xup_n (by omega)).trans s6
        · show fog s + min n (com s - fog s) ≤ com s
          omega
      have hr := xDS_srv hD0 hs sm ⟨bb, ee, tt, xMS_kept h9 (fun q g1 g2 => xup_n (by omega))⟩ hS' (by rw [vu_id, vu_id, vu_id]; exact h12)
      rw [vu_id, vu_id, vu_id] at hr
      refine ⟨h', ?_, hr, sm.oth (by omega)⟩
      unfold xSvF at s0
      dsimp only at s0 s1 s2 s3 s4 s5 s6
      refine xr_go i12_0 rfl ?_
      refine xr_S i12_1 xc12_71 ⟨by first | exact Or.inl rfl | exact Or.inr rfl, rfl⟩ xa_6 (Nat.le_of_ble_eq_true rfl) (Nat.le_of_ble_eq_true rfl) (by omega) ⟨Nat.le_of_ble_eq_true rfl, Nat.le_of_ble_eq_true rfl⟩ (s_isServer (nI s)) ?_
      refine xr_if_eqF i12_4 (t := 11) (by decide) (xbi_1 hx) ?_
      refine xr_go i12_7 rfl ?_
      refine xr_if_geT i12_8 (t := 13) (by decide) (nI_pos' hn) ?_
      refine xr_go i12_13 rfl ?_
      refine xr_get i12_14 xf12_37 (by assumption) rfl rfl ?_
      refine xr_go i12_17 rfl ?_
      refine xr_aald i12_18 (by assumption) (by decide) rfl (by omega) (by omega) (by assumption) ?_
      refine xr_go i12_19 rfl ?_
      refine xr_go i12_20 rfl ?_
      refine xr_go i12_21 rfl ?_
      refine xr_get i12_22 xf12_150 (by assumption) rfl rfl ?_
      refine xr_go i12_25 rfl ?_
      refine xr_go i12_26 rfl ?_
      refine xr_get i12_27 xf12_153 (by assumption) rfl rfl ?_
      refine xr_go i12_30 rfl ?_
      refine xr_get i12_31 xf12_150 (by assumption) rfl rfl ?_
      refine xr_go i12_34 rfl ?_
      refine xr_top (show _ = nI (com s - fog s) from pk_sub k5) ?_
      refine xr_min i12_35 xc12_138 rfl (by omega) (Nat.le_of_ble_eq_true rfl) ((show _ = nI (min n (com s - fog s)) from ?_)) ?_
      · by_cases hlt : com s - fog s < n
        · rw [if_pos (nI_lt hlt hn), Nat.min_eq_right (by omega)]
        · rw [if_neg (nI_nlt (by omega) (by omega)), Nat.min_eq_left (by omega)]
      · refine xr_go i12_38 rfl ?_
        refine xr_top (show _ = nI fo from nI_add _ _) ?_
        refine xr_put i12_39 xf12_150 (by assumption) ⟨rfl, Nat.le_of_ble_eq_true rfl, rfl, rfl, Or.inl rfl⟩ (fun f1 ef1 => ?_)
        have ef1' : f1 = h' := ef1
        rw [ef1']
        have s9 : h' (B + 18 + 7 * s) = some (.inr (6, xSvF B (B + 18 + 7 * s) (clk s, com s, fo, tl.length, don))) := xup_s
        unfold xSvF at s9
        refine xr_go i12_42 rfl ?_
        refine xr_get i12_43 xf12_150 (by assumption) rfl rfl ?_
        exact xr_iret i12_46 xt_12 rfl
  · rw [if_neg (fun z => hx z.1), if_neg (fun z => hx z.1)]
    refine ⟨h, ?_, hD0, xoth.refl⟩
    refine xr_go i12_0 rfl ?_
    refine xr_S i12_1 xc12_71 ⟨by first | exact Or.inl rfl | exact Or.inr rfl, rfl⟩ xa_6 (Nat.le_of_ble_eq_true rfl) (Nat.le_of_ble_eq_true rfl) (by omega) ⟨Nat.le_of_ble_eq_true rfl, Nat.le_of_ble_eq_true rfl⟩ (s_isServer x) ?_
    refine xr_if_eqT i12_4 (t := 11) (by decide) (xbi_f (by simpa using hx)) ?_
    exact tail
end XCELL

