/-! ===== the class: writes and commits ===== -/
theorem xruns_ext {sv sp sv' sp' : Nat → Nat} {pg pg' : Nat → List (Nat × Int32)} : ∀ (l : List Nat) (c : Nat → Int32), (∀ w ∈ l, sv' w = sv w ∧ sp' w = sp w ∧ pg' w = pg w) → xruns sv' sp' pg' c l = xruns sv sp pg c l := by
  intro l
  induction l with
  | nil => intro c _; rfl
  | cons x l ih =>
    intro c h
    obtain ⟨e1, e2, e3⟩ := h x List.mem_cons_self
    show xruns sv' sp' pg' (xpC (pg' x) (nI (sv' x)) (nI (sp' x)) c) l = xruns sv sp pg (xpC (pg x) (nI (sv x)) (nI (sp x)) c) l
    rw [e1, e2, e3]
    exact ih _ (fun w hw => h w (List.mem_cons_of_mem _ hw))
theorem xoutAt_ext {sv sp sv' sp' : Nat → Nat} {pg pg' : Nat → List (Nat × Int32)} {l : List Nat} {p : Nat} (hp : p < l.length) (h : ∀ w ∈ l, sv' w = sv w ∧ sp' w = sp w ∧ pg' w = pg w) : xoutAt sv' sp' pg' l p = xoutAt sv sp pg l p := by
  unfold xoutAt
  obtain ⟨e1, e2, e3⟩ := h _ (getD_mem hp)
  rw [e1, e2, e3, xruns_ext _ _ (fun w hw => h w (List.mem_of_mem_take hw))]
theorem xcms_ext {cm cm' : Nat → Nat} {com : Nat} (h : ∀ r, r < com → cm' r = cm r) : xcms cm' com = xcms cm com := by
  unfold xcms
  exact List.map_congr_left (fun r hr => h r (List.mem_range.mp hr))
theorem xTL_ext {tak tak' com : Nat} {sv sp sv' sp' cm cm' kno : Nat → Nat} {tl : List Nat} (hT : xTL tak sv sp cm kno com tl) (ht : tak ≤ tak') (hk : ∀ w, kno w = 1 → w < tak) (h1 : ∀ w, w < tak → sv' w = sv w) (h2 : ∀ w, w < tak → sp' w = sp w) (h3 : ∀ r, r < com → cm' r = cm r) : xTL tak' sv' sp' cm' kno com tl := by
  refine ⟨List.Pairwise.imp_of_mem (fun {a b} ha hb hab => ?_) hT.1, fun w => ?_⟩
  · have g1 := ((hT.2 a).mp ha).1
    have g2 := ((hT.2 b).mp hb).1
    unfold xlt at *
    rw [h1 a g1, h1 b g2, h2 a g1, h2 b g2]
    exact hab
  · rw [hT.2 w, xcms_ext h3]
    constructor
    · rintro ⟨g1, g2, g3⟩
      exact ⟨by omega, g2, g3⟩
    · rintro ⟨g1, g2, g3⟩
      exact ⟨hk w g2, g2, g3⟩
theorem xSI_ext {B a tak cmt tak' cmt' : Nat} {sv sp sv' sp' : Nat → Nat} {pg pg' : Nat → List (Nat × Int32)} {cm cm' : Nat → Nat} {clk com fog : Nat} {kno : Nat → Nat} {h : xH} (hS : xSI B a tak cmt sv sp pg cm clk com fog kno h) (ht : tak ≤ tak') (hc : cmt ≤ cmt') (h1 : ∀ w, w < tak → sv' w = sv w) (h2 : ∀ w, w < tak → sp' w = sp w) (h3 : ∀ w, w < tak → pg' w = pg w) (h4 : ∀ r, r < cmt → cm' r = cm r) : xSI B a tak' cmt' sv' sp' pg' cm' clk com fog kno h := by
  obtain ⟨don, vec, tl, cc, ce, oc, hV, hT, k1, k2, k3, k4, k5, k6, k7, k8, k9, k10, k11, k12, k13, k14⟩ := hS
  have h4' : ∀ r, r < com → cm' r = cm r := fun r hr => h4 r (by omega)
  have ec := xcms_ext h4'
  have ml : ∀ w ∈ xcms cm com ++ tl, sv' w = sv w ∧ sp' w = sp w ∧ pg' w = pg w := by
    intro w hw
    have hlt : w < tak := by
      rcases List.mem_append.mp hw with hw | hw
      · obtain ⟨r, hr, e⟩ := xcms_mem.mp hw
        exact k2 w (e ▸ k3 r hr)
      · exact ((hT.2 w).mp hw).1
    exact ⟨h1 w hlt, h2 w hlt, h3 w hlt⟩
  refine ⟨don, vec, tl, cc, ce, oc, hV, xTL_ext hT ht k2 h1 h2 h4', k1, fun w hw => Nat.lt_of_lt_of_le (k2 w hw) ht, fun r hr => by rw [h4' r hr]; exact k3 r hr, by omega, k5, k6, fun w hw => by rw [h2 w (k2 w hw)]; exact k7 w hw, fun j hj => ?_, ?_, k10, fun z => ?_, fun p hp => ?_, k13, k14⟩
  · obtain ⟨m1, m2, m3⟩ := k8 j hj
    refine ⟨m1, fun w hw hs => ?_, ?_⟩
    · rw [h2 w (k2 w hw)]
      exact m2 w hw (by rw [← h1 w (k2 w hw)]; exact hs)
    · rcases m3 with m3 | ⟨w, g1, g2, g3⟩
      · exact Or.inl m3
      · exact Or.inr ⟨w, g1, by rw [h1 w (k2 w g1)]; exact g2, by rw [h2 w (k2 w g1)]; exact g3⟩
  · rw [ec, xruns_ext _ _ (fun w hw => ml w (List.mem_append_left _ hw))]
    exact k9
  · rw [ec, xruns_ext _ _ (fun w hw => ml w (by
      rcases List.mem_append.mp hw with hw | hw
      · exact List.mem_append_left _ hw
      · exact List.mem_append_right _ (List.mem_of_mem_take hw)))]
    exact k11 z
  · have hlen : p < (xcms cm com ++ tl).length := by
      rw [List.length_append, xcms_len]
      omega
    rw [ec, xoutAt_ext hlen ml]
    exact k12 p hp
theorem vu_id' {f : Nat → Nat} {i x : Nat} (h : f i = x) : va_up f i x = f := by rw [← h]; exact vu_id
def xcom : List Nat → Nat → (Nat → Nat) → (Nat → Nat) → (Nat → Nat) × (Nat → Nat)
  | [], _, cm, pl => (cm, pl)
  | w :: l, cmt, cm, pl => xcom l (cmt + 1) (va_up cm cmt w) (va_up pl w (cmt + 1))
section XWR
variable {G : xG} {d : Nat} {h h' : xH} {sl : Nat} {B nx tak cmt : Nat} {sv sp pl cm : Nat → Nat} {pg : Nat → List (Nat × Int32)} {clk com fog : Nat → Nat} {kno : Nat → Nat → Nat} {bit : Nat → Nat} {rd wr : Nat → Nat → Nat} {lat : Option (List (Nat × Int32))} {tn : Nat} {tb : Nat → Nat}
theorem D_commit1 {w : Nat} {rest : List Nat} (hD : xDS B nx tak cmt sv sp pl cm pg clk com fog kno bit rd wr lat tn tb h) (hT : xTL tak sv sp cm (kno 0) (com 0) (w :: rest)) (hd : 5 ≤ d) :
    ∃ h1 h2, w < tak ∧ xRun G (d - 1) 47 (0, [some (.ref (B + 10)), some (.int (nI w))], [], (h, nx, sl)) (none, (h1, nx, sl)) ∧ xRun G (d - 1) 62 (0, [some (.ref (B + 18)), none], [], (h1, nx, sl)) (none, (h2, nx, sl)) ∧ (∃ x, h1 (B + 18) = some (.inr (6, x))) ∧ xDS B nx tak (cmt + 1) sv sp (va_up pl w (cmt + 1)) (va_up cm cmt w) pg clk (va_up com 0 (cmt + 1)) fog kno bit rd wr lat tn tb h2 ∧ xTL tak sv sp (va_up cm cmt w) (kno 0) (cmt + 1) rest ∧ xoth B nx h h2 := by
  obtain ⟨lv, wad, pad, psa, poa, h1, h2, h3, h4, h5, h6, h7, h8, ⟨bb, ee, tt, h9⟩, h10, h11, ⟨c0, c1, c2, c3⟩, h13⟩ := hD
  obtain ⟨w1, w2, w3⟩ := (hT.2 w).mp List.mem_cons_self
  rw [c0] at hT w3
  have hcn : cmt < tak := by
    have h0 := nd_le tak (xcms cm cmt ++ [w]) (List.nodup_append.mpr ⟨xcms_nodup h7 (Nat.le_refl _), by simp, fun a ha b hb => fun z => by
      rw [List.mem_singleton] at hb
      subst hb
      exact w3 (z ▸ ha)⟩) (fun x hx => by
      rcases List.mem_append.mp hx with hx | hx
      · obtain ⟨r, hr, e⟩ := xcms_mem.mp hx
        exact e ▸ h7.2.1 r hr
      · rw [List.mem_singleton] at hx
        subst hx
        exact w1)
    rw [List.length_append, xcms_len] at h0
    simp at h0
    omega
  obtain ⟨⟨wf, v1, v2, v3⟩, v4, v5, v6, v7⟩ := h5
  obtain ⟨x1, ⟨fs, fo, x2, x3, x4, x5⟩, x6⟩ := v7 w w1
  obtain ⟨m1, m2, m3, m4, m5, m6, m7, m8⟩ := h6.1 w w1
  have r1 := s_commitNext (G := G) (d := d - 1) (nx := nx) (sl := sl) v1 v2 v4 x1 (v3 w w1) (by omega) (by omega) (by omega) (by omega) (by omega) ⟨by omega, by omega, by omega⟩
  rw [xupdN] at r1
  generalize hk1 : (xup (xup (xup h (B + 12) (.inl (0, 500, .inl (fun j => nI (va_up cm cmt w j))))) (B + 10) (.inr (4, [.ref (B + 11), .ref (B + 12), .int (nI tak), .int (nI (cmt + 1))]))) (wad w) (.inr (9, [.int (nI (sv w)), .int (nI (sp w)), .ref (pad w), .int (nI (cmt + 1))])) : xH) = g1 at r1
  have old : ∀ q, q ≠ B + 12 → q ≠ B + 10 → q ≠ wad w → g1 q = h q := fun q e1 e2 e3 => by
    rw [← hk1, xup_n e3, xup_n e2, xup_n e1]
  have a12 : g1 (B + 12) = some (.inl (0, 500, .inl (fun j => nI (va_up cm cmt w j)))) := by
    rw [← hk1, xup_n (by omega), xup_n (by omega)]
    exact xup_s
  have a10 : g1 (B + 10) = some (.inr (4, [.ref (B + 11), .ref (B + 12), .int (nI tak), .int (nI (cmt + 1))])) := by
    rw [← hk1, xup_n (by omega)]
    exact xup_s
  have aw : g1 (wad w) = some (.inr (9, [.int (nI (sv w)), .int (nI (sp w)), .ref (pad w), .int (nI (cmt + 1))])) := by
    rw [← hk1]
    exact xup_s
  have hcm : ∀ r, r < cmt → va_up cm cmt w r = cm r := fun r hr => vu_ne (by omega)
  have ec : xcms (va_up cm cmt w) (cmt + 1) = xcms cm cmt ++ [w] := by
    rw [xcms_succ, xcms_ext hcm, vu_at]
  have hH1 : xHist B tak (cmt + 1) wad pad psa poa sv sp (va_up pl w (cmt + 1)) pg (va_up cm cmt w) g1 := by
    refine ⟨⟨wf, a10, (old _ (by omega) (by omega) (by omega)).trans v2, v3⟩, a12, v5, by omega, fun v hv => ?_⟩
    obtain ⟨y1, ⟨fs', fo', y2, y3, y4, y5⟩, y6⟩ := v7 v hv
    obtain ⟨n1, n2, n3, n4, -⟩ := h6.1 v hv
    have npad : ∀ q e, h q = some e → (∀ z, e ≠ .inr (9, z)) → q ≠ wad w := by
      rintro q e e1 e2 rfl
      rw [x1] at e1
      exact e2 _ (Option.some.inj e1).symm
    refine ⟨?_, ⟨fs', fo', (old _ (by omega) (by omega) (npad _ _ y2 (fun _ z => by cases z))).trans y2, (old _ (by omega) (by omega) (npad _ _ y3 (fun _ z => by cases z))).trans y3, (old _ (by omega) (by omega) (npad _ _ y4 (fun _ z => by cases z))).trans y4, y5⟩, y6⟩
    by_cases e : v = w
    · subst e
      rw [vu_at]
      exact aw
    · rw [vu_ne e, old _ (by omega) (by omega) (fun z => e (h6.2 v w hv w1 z))]
      exact y1
  have hU1 : xHU tak (cmt + 1) sv sp (va_up cm cmt w) := by
    refine ⟨h7.1, fun r hr => ?_, fun r q hr hq e => ?_⟩
    · by_cases e : r = cmt
      · rw [e, vu_at]
        exact w1
      · rw [vu_ne e]
        exact h7.2.1 r (by omega)
    · by_cases e1 : r = cmt
      · by_cases e2 : q = cmt
        · omega
        · rw [e1, vu_at, vu_ne e2] at e
          exact absurd (xcms_mem.mpr ⟨q, by omega, e.symm⟩) w3
      · by_cases e2 : q = cmt
        · rw [e2, vu_at, vu_ne e1] at e
          exact absurd (xcms_mem.mpr ⟨r, by omega, e⟩) w3
        · rw [vu_ne e1, vu_ne e2] at e
          exact h7.2.2 r q (by omega) (by omega) e
  have hS1 : ∀ i, i < 5 → xSI B (B + 18 + 7 * i) tak (cmt + 1) sv sp pg (va_up cm cmt w) (clk i) (com i) (fog i) (kno i) g1 := fun i hi => xSI_ext (xSI_kept (h10 i hi) (fun q g1 g2 => old q (by omega) (by omega) (by omega))) (Nat.le_refl _) (by omega) (fun _ _ => rfl) (fun _ _ => rfl) (fun _ _ => rfl) hcm
  have hM1 : xMS (B + 13) bb ee tt g1 := xMS_kept h9 (fun q g1 g2 => old q (by omega) (by omega) (by omega))
  have hS0 := hS1 0 (by omega)
  rw [c0, Nat.mul_zero, Nat.add_zero] at hS0
  obtain ⟨g2, r2, hS2, hM2, sm2⟩ := q_next (G := G) (d := d - 1) (nx := nx) (sl := sl) hH1 hU1 h8 hM1 hS0 (by omega) (by omega) (by omega)
  rw [vu_at, vu_id' w2] at hS2
  have k7 : sp w ≤ clk 0 := by
    obtain ⟨_, _, _, _, _, _, -, -, -, -, -, -, -, -, k7, -⟩ := h10 0 (by omega)
    exact k7 w w2
  rw [Nat.max_eq_left k7] at hS2
  have hx0 : ∃ x, g1 (B + 18) = some (.inr (6, x)) := by
    obtain ⟨_, _, _, _, _, _, ⟨_, hs, -⟩, -⟩ := hS0
    exact ⟨_, hs.1⟩
  have nw : ∀ q, B + 119 ≤ q → (∀ fs, h q ≠ some (.inr (9, fs))) → q ≠ wad w := by
    rintro q - e2 rfl
    exact e2 _ x1
  refine ⟨g1, g2, w1, r1, r2, hx0, ⟨lv, wad, pad, psa, poa, xTop_kept h1 ((sm2 _ (by omega) (by omega)).trans (old _ (by omega) (by omega) (by omega))) ((sm2 _ (by omega) (by omega)).trans (old _ (by omega) (by omega) (by omega))) ((sm2 _ (by omega) (by omega)).trans (old _ (by omega) (by omega) (by omega))), xLat_kept h2 (Nat.le_refl _) (fun q g1 g2 g3 => (sm2 _ (by omega) (by omega)).trans (old _ (by omega) (by omega) (nw q g1 g3))), xTp_kept h3 ((sm2 _ (by omega) (by omega)).trans (old _ (by omega) (by omega) (by omega))) ((sm2 _ (by omega) (by omega)).trans (old _ (by omega) (by omega) (by omega))), xCo_kept h4 (fun q g1 g2 => (sm2 _ (by omega) (by omega)).trans (old _ (by omega) (by omega) (by omega))), xHist_kept hH1 (fun q hq => sm2 q (by omega) (by omega)), h6, hU1, h8, hM2, fun i hi => ?_, fun j hj => xSe_kept (h11 j hj) (fun q g1 g2 => (sm2 _ (by omega) (by omega)).trans (old _ (by omega) (by omega) (by omega))), ⟨by rw [vu_at], c1, c2, fun v hv => ?_⟩, h13⟩, ?_, fun q e1 e2 e3 => ?_⟩
  · by_cases e : i = 0
    · subst e
      rw [vu_at]
      exact hS2
    · rw [vu_ne e]
      exact xSI_kept (hS1 i hi) (fun q g1 g2 => sm2 q (by omega) (by omega))
  · by_cases e : v = w
    · subst e
      rw [vu_at]
      exact Or.inr ⟨by omega, by omega, by rw [Nat.add_sub_cancel, vu_at]⟩
    · rw [vu_ne e]
      rcases c3 v hv with ⟨y1, y2⟩ | ⟨y1, y2, y3⟩
      · refine Or.inl ⟨y1, ?_⟩
        rw [ec]
        simp [y2, e]
      · exact Or.inr ⟨y1, by omega, by rw [vu_ne (by omega)]; exact y3⟩
  · refine ⟨(List.pairwise_cons.mp hT.1).2, fun v => ?_⟩
    rw [ec]
    have hw := (List.pairwise_cons.mp hT.1).1
    have h0 := hT.2 v
    constructor
    · intro hv
      obtain ⟨y1, y2, y3⟩ := h0.mp (List.mem_cons_of_mem _ hv)
      refine ⟨y1, y2, ?_⟩
      have : v ≠ w := fun z => xlt_irr (z ▸ hw v hv)
      simp [y3, this]
    · rintro ⟨y1, y2, y3⟩
      have hne : v ≠ w := fun z => y3 (by simp [z])
      have := h0.mpr ⟨y1, y2, fun z => y3 (List.mem_append_left _ z)⟩
      rcases List.mem_cons.mp this with e | e
      · exact absurd e hne
      · exact e
  · by_cases hq : B + 119 ≤ q
    · exact (sm2 _ (by omega) (by omega)).trans (old _ (by omega) (by omega) (nw q hq e3))
    · exact (sm2 _ (by omega) (by omega)).trans (old _ (by omega) (by omega) (by omega))
theorem D_commit_loop (L1 : Option Value) (many : Nat) (hm : many < 2 ^ 31) (hd : 5 ≤ d) : ∀ (l rest : List Nat) (i : Nat) (h : xH) (cmt : Nat) (pl cm com : Nat → Nat), i + l.length = many → xDS B nx tak cmt sv sp pl cm pg clk com fog kno bit rd wr lat tn tb h → xTL tak sv sp cm (kno 0) (com 0) (l ++ rest) →
    ∃ h', xRun G d 10 (25, [some (.ref B), L1, some (.ref (B + 18)), some (.int (nI many)), some (.int (nI i))], [], (h, nx, sl)) (some (.int (nI many)), (h', nx, sl)) ∧ xDS B nx tak (cmt + l.length) sv sp (xcom l cmt cm pl).2 (xcom l cmt cm pl).1 pg clk (va_up com 0 (cmt + l.length)) fog kno bit rd wr lat tn tb h' ∧ xoth B nx h h' := by
  intro l
  induction l with
  | nil =>
    intro rest i h cmt pl cm com hi hD hT
    have hc0 : com 0 = cmt := by
      obtain ⟨lv, wad, pad, psa, poa, -, -, -, -, -, -, -, -, -, -, -, h12, -⟩ := hD
      exact h12.1
    refine ⟨h, ?_, ?_, xoth.refl⟩
    · simp only [List.length_nil, Nat.add_zero] at hi
      refine xr_go i10_25 rfl ?_
      refine xr_go i10_27 rfl ?_
      refine xr_icmp_geT i10_28 (t := 54) (by decide) (nI_le (by omega) (by omega)) ?_
      refine xr_go i10_54 rfl ?_
      exact xr_iret i10_55 xt_10 rfl
    · show xDS B nx tak cmt sv sp pl cm pg clk (va_up com 0 cmt) fog kno bit rd wr lat tn tb h
      rw [← hc0, vu_id, hc0]
      exact hD
  | cons w l ih =>
    intro rest i h cmt pl cm com hi hD hT
    simp only [List.length_cons] at hi
    obtain ⟨h1, h2, hw, r1, r2, ⟨x1, s1⟩, hD2, hT2, o2⟩ := D_commit1 (G := G) (d := d) (sl := sl) hD hT hd
    obtain ⟨h', r, hD', o'⟩ := ih rest (i + 1) h2 (cmt + 1) (va_up pl w (cmt + 1)) (va_up cm cmt w) (va_up com 0 (cmt + 1)) (by omega) hD2 (by rw [vu_at]; exact hT2)
    refine ⟨h', ?_, ?_, o2.trans o'⟩
    · obtain ⟨lv, wad, pad, psa, poa, ⟨t1, t2⟩, -, -, -, ⟨⟨wf, v1, v2, v3⟩, -, v5, -⟩, -, -, -, -, h10, -⟩ := hD
      obtain ⟨don, vec, tl, cc, ce, oc, ⟨tN, ⟨s0, _, _, s3, _⟩, htN⟩, hT0, -⟩ := h10 0 (by omega)
      have e := xTL_uniq hT0 hT
      subst e
      rw [Nat.mul_zero, Nat.add_zero] at s0 s3
      unfold xSvF at s0
      dsimp only at s0 s3
      have hw0 : tN 0 = w := htN 0 (by simp)
      refine xr_go i10_25 rfl ?_
      refine xr_go i10_27 rfl ?_
      refine xr_icmp_geF i10_28 (t := 54) (by decide) (nI_ge (by omega) (by omega)) ?_
      refine xr_go i10_31 rfl ?_
      refine xr_get i10_32 xf10_28 (by assumption) rfl rfl ?_
      refine xr_go i10_35 rfl ?_
      refine xr_get i10_36 xf10_141 (by assumption) rfl rfl ?_
      refine xr_go i10_39 rfl ?_
      refine xr_iald i10_40 (by assumption) (j := 0) rfl (by omega) (by omega) ?_
      rw [hw0]
      refine xr_V i10_41 xc10_144 ⟨rfl, rfl⟩ xa_47 rfl (by assumption) rfl (Nat.le_of_ble_eq_true rfl) (by omega) ⟨Nat.le_of_ble_eq_true rfl, Nat.le_of_ble_eq_true rfl⟩ (r1) ?_
      refine xr_go i10_44 rfl ?_
      refine xr_V i10_45 xc10_147 ⟨rfl, rfl⟩ xa_62 rfl (by assumption) rfl (Nat.le_of_ble_eq_true rfl) (by omega) ⟨Nat.le_of_ble_eq_true rfl, Nat.le_of_ble_eq_true rfl⟩ (r2) ?_
      refine xr_inc1 i10_48 rfl rfl ?_
      refine xr_goto i10_51 (t := 25) (by decide) ?_
      exact r
    · have e : va_up (va_up com 0 (cmt + 1)) 0 (cmt + 1 + l.length) = va_up com 0 (cmt + (l.length + 1)) := by
        funext j
        unfold va_up
        split
        · omega
        · rfl
      rw [e] at hD'
      show xDS B nx tak (cmt + (l.length + 1)) sv sp (xcom l (cmt + 1) (va_up cm cmt w) (va_up pl w (cmt + 1))).2 (xcom l (cmt + 1) (va_up cm cmt w) (va_up pl w (cmt + 1))).1 pg clk (va_up com 0 (cmt + (l.length + 1))) fog kno bit rd wr lat tn tb h'
      rw [show cmt + (l.length + 1) = cmt + 1 + l.length by omega] at hD' ⊢
      exact hD'
/-- what a commit commits -/
noncomputable def vCom (tak : Nat) (sv sp cm com : Nat → Nat) (kno : Nat → Nat → Nat) (n : Nat) : List Nat := (xtl tak sv sp cm (kno 0) (com 0)).take n
theorem D_commit (hD : xDS B nx tak cmt sv sp pl cm pg clk com fog kno bit rd wr lat tn tb h) (x : Int32) (hd : 5 ≤ d) :
    (x < 0 → xRun G d 10 (0, [some (.ref B), some (.int x), none, none, none], [], (h, nx, sl)) (some (.int (-1)), (h, nx, sl))) ∧ ∀ n, x = nI n → n < 2 ^ 31 → ∃ h', xRun G d 10 (0, [some (.ref B), some (.int x), none, none, none], [], (h, nx, sl)) (some (.int (nI (vCom tak sv sp cm com kno n).length)), (h', nx, sl)) ∧ xDS B nx tak (cmt + (vCom tak sv sp cm com kno n).length) sv sp (xcom (vCom tak sv sp cm com kno n) cmt cm pl).2 (xcom (vCom tak sv sp cm com kno n) cmt cm pl).1 pg clk (va_up com 0 (cmt + (vCom tak sv sp cm com kno n).length)) fog kno bit rd wr lat tn tb h' ∧ xoth B nx h h' := by
  constructor
  · intro hx
    refine xr_go i10_0 rfl ?_
    refine xr_if_geF i10_1 (t := 6) (by decide) (Int32.not_le.mpr hx) ?_
    refine xr_go i10_4 rfl ?_
    exact xr_iret i10_5 xt_10 rfl
  · rintro n rfl hn
    have hD0 := hD
    obtain ⟨lv, wad, pad, psa, poa, ⟨t1, ⟨sf, t2, t3⟩, t4⟩, -, -, -, h5, -, -, -, -, h10, -⟩ := hD
    obtain ⟨don, vec, tl, cc, ce, oc, ⟨tN, ⟨s0, _, _, s3, _⟩, htN⟩, hT0, -⟩ := h10 0 (by omega)
    rw [Nat.mul_zero, Nat.add_zero] at s0 s3
    unfold xSvF at s0
    dsimp only at s0 s3
    have t6 := t3 0 (by omega)
    rw [Nat.mul_zero, Nat.add_zero] at t6
    have hl : tl.length ≤ 500 := by
      have := xTL_len hT0
      have := h5.2.2.1
      omega
    have ev : vCom tak sv sp cm com kno n = tl.take n := by
      unfold vCom
      rw [xtl_eq hT0]
    rw [ev]
    have hlen : (tl.take n).length = min n tl.length := by rw [List.length_take]
    obtain ⟨h', r, g1, g2⟩ := D_commit_loop (G := G) (sl := sl) (some (.int (nI n))) (tl.take n).length (by omega) hd (tl.take n) (tl.drop n) 0 h cmt pl cm com (by omega) hD0 (by rw [List.take_append_drop]; exact hT0)
    refine ⟨h', ?_, g1, g2⟩
    refine xr_go i10_0 rfl ?_
    refine xr_if_geT i10_1 (t := 6) (by decide) (nI_pos' hn) ?_
    refine xr_go i10_6 rfl ?_
    refine xr_get i10_7 xf10_37 (by assumption) rfl rfl ?_
    refine xr_go i10_10 rfl ?_
    refine xr_aald i10_11 (by assumption) (by decide) (j := 0) rfl (by omega) (by omega) (by assumption) ?_
    refine xr_go i10_12 rfl ?_
    refine xr_go i10_13 rfl ?_
    refine xr_go i10_14 rfl ?_
    refine xr_get i10_15 xf10_135 (by assumption) rfl rfl ?_
    refine xr_min i10_18 xc10_138 rfl (by omega) (Nat.le_of_ble_eq_true rfl) ((show _ = nI (tl.take n).length from ?_)) ?_
    · rw [hlen]
      by_cases hlt : tl.length < n
      · rw [if_pos (nI_lt hlt hn), Nat.min_eq_right (by omega)]
      · rw [if_neg (nI_nlt (by omega) (by omega)), Nat.min_eq_left (by omega)]
    · refine xr_go i10_21 rfl ?_
      refine xr_go i10_22 rfl ?_
      refine xr_go i10_23 rfl ?_
      exact r
theorem s_write {wa : Nat} {x0 x1 : Int32} {pa : Nat} {pf : List Value} (hw : h wa = some (.inr (9, [.int 0, .int 0, .null, .int 0]))) (hp : h pa = some (.inr (8, pf))) (hwp : wa ≠ pa) (hd : 1 ≤ d) : xRun G d 77 (0, [some (.ref wa), some (.int x0), some (.int x1), some (.ref pa)], [], (h, nx, sl)) (none, (xup h wa (.inr (9, [.int x0, .int x1, .ref pa, .int 0])), nx, sl)) := by
  refine xr_go i77_0 rfl ?_
  refine xr_obj i77_1 xc77_1 rfl (by omega) (Nat.le_of_ble_eq_true rfl) ?_
  refine xr_go i77_4 rfl ?_
  refine xr_go i77_5 rfl ?_
  refine xr_put i77_6 xf77_7 (by assumption) ⟨rfl, Nat.le_of_ble_eq_true rfl, rfl, rfl, by first | exact Or.inl rfl | exact Or.inr ⟨rfl, rfl, rfl⟩⟩ (fun h1 eh1 => ?_)
  have e1 : h1 wa = some (.inr (9, [.int 0, .int 0, .null, .int 0])) := by rw [eh1]; exact xup_s
  refine xr_go i77_9 rfl ?_
  refine xr_go i77_10 rfl ?_
  refine xr_put i77_11 xf77_13 (by assumption) ⟨rfl, Nat.le_of_ble_eq_true rfl, rfl, rfl, by first | exact Or.inl rfl | exact Or.inr ⟨rfl, rfl, rfl⟩⟩ (fun h2 eh2 => ?_)
  have e2 : h2 wa = some (.inr (9, [.int x0, .int 0, .null, .int 0])) := by rw [eh2]; exact xup_s
  refine xr_go i77_14 rfl ?_
  refine xr_go i77_15 rfl ?_
  refine xr_put i77_16 xf77_16 (by assumption) ⟨rfl, Nat.le_of_ble_eq_true rfl, rfl, rfl, by first | exact Or.inl rfl | exact Or.inr ⟨rfl, rfl, rfl⟩⟩ (fun h3 eh3 => ?_)
  have e3 : h3 wa = some (.inr (9, [.int x0, .int x1, .null, .int 0])) := by rw [eh3]; exact xup_s
  refine xr_go i77_19 rfl ?_
  refine xr_go i77_20 rfl ?_
  have hp3 : h3 pa = some (.inr (8, pf)) := by
    rw [eh3, xup_n hwp.symm, eh2, xup_n hwp.symm, eh1, xup_n hwp.symm]
    exact hp
  refine xr_put i77_21 xf77_19 (by assumption) ⟨rfl, Nat.le_of_ble_eq_true rfl, rfl, rfl, by first | exact Or.inl rfl | exact Or.inr ⟨rfl, rfl, rfl⟩⟩ (fun h4 eh4 => ?_)
  have e4 : h4 = xup h wa (.inr (9, [.int x0, .int x1, .ref pa, .int 0])) := by
    rw [eh4, eh3, eh2, eh1, xup_same, xup_same, xup_same]
    rfl
  rw [e4]
  exact xr_end i77_24 rfl
end XWR

