/-! ===== servers: meeting ===== -/
section XSI4
variable {G : xG} {d : Nat} {h : xH} {nx sl : Nat} {B a tak cmt : Nat} {wad pad psa poa sv sp pl : Nat → Nat} {pg : Nat → List (Nat × Int32)} {cm : Nat → Nat} {clk com fog : Nat} {kno : Nat → Nat}
theorem q_writeAt {x : Int32} (hH : xHist B tak cmt wad pad psa poa sv sp pl pg cm h) (hS : xSI B a tak cmt sv sp pg cm clk com fog kno h) (ha : B + 18 ≤ a ∧ a + 6 < B + 53) : ∃ tl, xTL tak sv sp cm kno com tl ∧ xRun G d 67 (0, [some (.ref a), some (.int x)], [], (h, nx, sl)) (some (.int (if xrng (com + tl.length) x = true then nI ((xord cm com tl).getD x.toNatClampNeg 0) else -2)), (h, nx, sl)) := by
  obtain ⟨don, vec, tl, cc, ce, oc, ⟨tN, ⟨s0, s1, s2, s3, s4, s5, s6⟩, htN⟩, hT, k1, k2, k3, k4, -⟩ := hS
  obtain ⟨⟨wf, w1, w2, w3⟩, w4, w5, w6, w7⟩ := hH
  unfold xSvF at s0
  dsimp only at s0 s1 s2 s3 s4 s5 s6
  have hlen := xTL_len hT
  refine ⟨tl, hT, ?_⟩
  by_cases hr : xrng (com + tl.length) x = true
  · rw [if_pos hr]
    obtain ⟨j, hj, rfl⟩ := xrng_of (by omega) hr
    rw [nI_clamp (by omega)]
    refine xr_go i67_0 rfl ?_
    refine xr_if_ltF i67_1 (t := 17) (by decide) (nI_pos (by omega)) ?_
    refine xr_go i67_4 rfl ?_
    refine xr_go i67_5 rfl ?_
    refine xr_get i67_6 xf67_35 (by assumption) rfl rfl ?_
    refine xr_go i67_9 rfl ?_
    refine xr_get i67_10 xf67_41 (by assumption) rfl rfl ?_
    refine xr_go i67_13 rfl ?_
    refine xr_icmp_ltT i67_14 (t := 20) (by decide) (by show nI j < nI com + nI tl.length; rw [nI_add]; exact nI_lt hj (by omega)) ?_
    refine xr_go i67_20 rfl ?_
    refine xr_go i67_21 rfl ?_
    refine xr_get i67_22 xf67_35 (by assumption) rfl rfl ?_
    by_cases hjc : j < com
    · refine xr_icmp_geF i67_25 (t := 40) (by decide) (nI_ge hjc (by omega)) ?_
      refine xr_go i67_28 rfl ?_
      refine xr_get i67_29 xf67_47 (by assumption) rfl rfl ?_
      refine xr_get i67_32 xf67_79 (by assumption) rfl rfl ?_
      refine xr_go i67_35 rfl ?_
      refine xr_iald i67_36 (by assumption) rfl (by omega) (by omega) ?_
      refine xr_goto i67_37 (t := 51) (by decide) ?_
      unfold xord
      rw [getD_app_l (by rw [xcms_len]; exact hjc), xcms_getD hjc]
      exact xr_iret i67_51 xt_67 rfl
    · refine xr_icmp_geT i67_25 (t := 40) (by decide) (nI_le (by omega) (by omega)) ?_
      refine xr_go i67_40 rfl ?_
      refine xr_get i67_41 xf67_19 (by assumption) rfl rfl ?_
      refine xr_go i67_44 rfl ?_
      refine xr_go i67_45 rfl ?_
      refine xr_get i67_46 xf67_35 (by assumption) rfl rfl ?_
      refine xr_go i67_49 rfl ?_
      refine xr_iald i67_50 (by assumption) (show nI j - nI com = nI (j - com) from pk_sub (by omega)) (by omega) (by omega) ?_
      unfold xord
      rw [getD_app_r (by rw [xcms_len]; omega), xcms_len, ← htN _ (by omega)]
      exact xr_iret i67_51 xt_67 rfl
  · rw [if_neg hr]
    have tail : xRun G d 67 (17, [some (.ref a), some (.int x)], [], (h, nx, sl)) (some (.int (-2)), (h, nx, sl)) := by
      refine xr_go i67_17 rfl ?_
      exact xr_iret i67_19 xt_67 rfl
    refine xr_go i67_0 rfl ?_
    refine xr_if_lt i67_1 (t := 17) (by decide) (fun hc => ?_) (fun hc => ?_)
    · exact tail
    · refine xr_go i67_4 rfl ?_
      refine xr_go i67_5 rfl ?_
      refine xr_get i67_6 xf67_35 (by assumption) rfl rfl ?_
      refine xr_go i67_9 rfl ?_
      refine xr_get i67_10 xf67_41 (by assumption) rfl rfl ?_
      refine xr_go i67_13 rfl ?_
      have hnl : ¬ x < nI com + nI tl.length := by
        rw [nI_add]
        intro z
        apply hr
        unfold xrng
        rw [decide_eq_true (Int32.not_lt.mp hc), decide_eq_true z]
        rfl
      refine xr_icmp_ltF i67_14 (t := 20) (by decide) hnl ?_
      exact tail
/-- n commits more -/
def xadv (sp cm : Nat → Nat) : Nat → Nat → Nat → (Nat → Nat) → Nat × (Nat → Nat)
  | 0, clk, _, kno => (clk, kno)
  | n + 1, clk, com, kno => xadv sp cm n (max clk (sp (cm com))) (com + 1) (va_up kno (cm com) 1)
theorem q_forgotten_loop (hU : xHU tak cmt sv sp cm) (hok : ∀ w, w < tak → xOKp (pg w)) (ha : B + 18 ≤ a ∧ a + 6 < B + 53) (hd : 5 ≤ d) (hc5 : cmt ≤ 500) {m : Nat} (hm : m ≤ cmt) : ∀ (n : Nat) (h : xH) (clk com : Nat) (kno : Nat → Nat), com + n = m → xHist B tak cmt wad pad psa poa sv sp pl pg cm h → (∃ b e t, xMS (B + 13) b e t h) → xSI B a tak cmt sv sp pg cm clk com fog kno h →
    ∃ h', xSI B a tak cmt sv sp pg cm (xadv sp cm n clk com kno).1 m fog (xadv sp cm n clk com kno).2 h' ∧ (∃ b e t, xMS (B + 13) b e t h') ∧ xsm B a h h' ∧ xHist B tak cmt wad pad psa poa sv sp pl pg cm h' ∧ ∀ res, xRun G d 64 (20, [some (.ref a), some (.int (nI m)), some (.int (nI m))], [], (h', nx, sl)) res → xRun G d 64 (5, [some (.ref a), some (.int (nI m)), some (.int (nI com))], [], (h, nx, sl)) res := by
  intro n
  induction n with
  | zero =>
    intro h clk com kno hn hH hM hS
    have : com = m := by omega
    subst this
    refine ⟨h, hS, hM, fun q _ _ => rfl, hH, fun res hres => ?_⟩
    refine xr_go i64_5 rfl ?_
    refine xr_go i64_6 rfl ?_
    refine xr_icmp_geT i64_7 (t := 20) (by decide) (nI_le (by omega) (by omega)) ?_
    exact hres
  | succ n ih =>
    intro h clk com kno hn hH hM hS
    obtain ⟨b, e, t, hM⟩ := hM
    have s0 : ∃ x, h a = some (.inr (6, x)) := by
      obtain ⟨_, _, _, _, _, _, ⟨_, hs, -⟩, -⟩ := hS
      exact ⟨_, hs.1⟩
    obtain ⟨x0, s0⟩ := s0
    obtain ⟨h1, r1, hS1, hM1, sm1⟩ := q_next (G := G) (d := d - 1) (nx := nx) (sl := sl) hH hU hok hM hS ha (by omega) (by omega)
    have hH1 := xHist_kept hH (h' := h1) (fun q hq => sm1 q (by omega) (by omega))
    obtain ⟨h', g1, g2, g3, g4, g5⟩ := ih h1 _ (com + 1) _ (by omega) hH1 hM1 hS1
    refine ⟨h', g1, g2, sm1.trans g3, g4, fun res hres => ?_⟩
    refine xr_go i64_5 rfl ?_
    refine xr_go i64_6 rfl ?_
    refine xr_icmp_geF i64_7 (t := 20) (by decide) (nI_ge (by omega) (by omega)) ?_
    refine xr_go i64_10 rfl ?_
    refine xr_V i64_11 xc64_95 ⟨rfl, rfl⟩ xa_62 rfl (by assumption) rfl (Nat.le_of_ble_eq_true rfl) (by omega) ⟨Nat.le_of_ble_eq_true rfl, Nat.le_of_ble_eq_true rfl⟩ (r1) ?_
    refine xr_inc1 i64_14 rfl rfl ?_
    refine xr_goto i64_17 (t := 5) (by decide) ?_
    exact g5 res hres
theorem q_forgotten {m : Nat} (hH : xHist B tak cmt wad pad psa poa sv sp pl pg cm h) (hU : xHU tak cmt sv sp cm) (hok : ∀ w, w < tak → xOKp (pg w)) (hM : ∃ b e t, xMS (B + 13) b e t h) (hS : xSI B a tak cmt sv sp pg cm clk com fog kno h) (ha : B + 18 ≤ a ∧ a + 6 < B + 53) (hm : m ≤ cmt) (hcm : com ≤ m) (hd : 5 ≤ d) :
    ∃ h', xRun G d 64 (0, [some (.ref a), some (.int (nI m)), none], [], (h, nx, sl)) (none, (h', nx, sl)) ∧ xSI B a tak cmt sv sp pg cm (xadv sp cm (m - com) clk com kno).1 m m (xadv sp cm (m - com) clk com kno).2 h' ∧ (∃ b e t, xMS (B + 13) b e t h') ∧ xsm B a h h' := by
  have hc5 : cmt ≤ 500 := by
    have := hH.2.2.1
    have := hH.2.2.2.1
    omega
  obtain ⟨h1, hS1, hM1, sm1, hH1, run⟩ := q_forgotten_loop (G := G) (nx := nx) (sl := sl) hU hok ha hd hc5 hm (m - com) h clk com kno (by omega) hH hM hS
  obtain ⟨don, vec, tl, cc, ce, oc, ⟨tN, ⟨s0, s1, s2, s3, s4, s5, s6⟩, htN⟩, hT, k1, k2, k3, k4, k5, kk⟩ := hS1
  unfold xSvF at s0
  dsimp only at s0 s1 s2 s3 s4 s5 s6
  let g1 : xH := xup h1 a (.inr (6, xSvF B a ((xadv sp cm (m - com) clk com kno).1, m, m, tl.length, don)))
  refine ⟨g1, ?_, ⟨don, vec, tl, cc, ce, oc, ⟨tN, ⟨xup_s, ?_, ?_, ?_, ?_, ?_, ?_⟩, htN⟩, hT, k1, k2, k3, k4, Nat.le_refl _, kk⟩, ?_, ?_⟩
  · have z0 : ∃ x9 y9, h a = some (.inr (6, x9)) ∧ x9[9]? = some (Value.int (nI com)) ∧ y9 = x9 := by
      obtain ⟨_, _, _, _, _, _, ⟨_, hs, -⟩, -⟩ := hS
      exact ⟨_, _, hs.1, rfl, rfl⟩
    obtain ⟨x9, y9, z1, z2, -⟩ := z0
    refine xr_go i64_0 rfl ?_
    refine xr_get i64_1 xf64_35 z1 rfl z2 ?_
    refine xr_go i64_4 rfl ?_
    refine run _ ?_
    refine xr_go i64_20 rfl ?_
    refine xr_go i64_21 rfl ?_
    refine xr_put i64_22 xf64_38 (by assumption) ⟨rfl, Nat.le_of_ble_eq_true rfl, rfl, rfl, Or.inl rfl⟩ (fun f1 ef1 => ?_)
    have ef1' : f1 = g1 := by rw [ef1]; rfl
    rw [ef1']
    exact xr_end i64_25 rfl
  · exact (xup_n (by omega)).trans s1
  · exact (xup_n (by omega)).trans s2
  · exact (xup_n (by omega)).trans s3
  · exact (xup_n (by omega)).trans s4
  · exact (xup_n (by omega)).trans s5
  · exact (xup_n (by omega)).trans s6
  · obtain ⟨b, e, t, hm1⟩ := hM1
    exact ⟨b, e, t, xMS_kept hm1 (fun q h1 h2 => xup_n (by omega))⟩
  · exact sm1.trans (fun q h1 h2 => xup_n (by omega))
theorem nI_min_sub {l g c : Nat} (hl : l < 2 ^ 31) (hg : g ≤ 500) (hc : c ≤ 500) : xmaxi 0 (if nI g - nI c < nI l then nI g - nI c else nI l) = nI (min l (g - c)) := by
  unfold xmaxi
  by_cases h : c ≤ g
  · rw [pk_sub h]
    by_cases h2 : g - c < l
    · rw [if_pos (nI_lt h2 hl), Nat.min_eq_right (by omega)]
      by_cases h3 : g - c = 0
      · rw [h3, if_neg (by decide)]
        rfl
      · rw [if_pos (show (0 : Int32) < nI (g - c) from nI_lt (a := 0) (by omega) (by omega))]
    · rw [if_neg (nI_nlt (by omega) (by omega)), Nat.min_eq_left (by omega)]
      by_cases h3 : l = 0
      · rw [h3, if_neg (by decide)]
        rfl
      · rw [if_pos (show (0 : Int32) < nI l from nI_lt (a := 0) (by omega) hl)]
  · have hneg := pk_sneg (a := g) (b := c) (by omega) (by omega)
    have hlt : nI g - nI c < nI l := by
      have h1 : (nI g - nI c).toInt < 0 := by simpa using Int32.lt_iff_toInt_lt.mp hneg
      have h2 : (nI l).toInt = (l : Int) := nI_toInt hl
      rw [Int32.lt_iff_toInt_lt, h2]
      omega
    rw [if_pos hlt, if_neg (show ¬ (0 : Int32) < nI g - nI c from fun z => by
      exact Int32.lt_irrefl (Int32.lt_trans hneg z))]
    rw [show g - c = 0 by omega, Nat.min_zero]
    rfl
theorem q_commits_loop (hU : xHU tak cmt sv sp cm) (hok : ∀ w, w < tak → xOKp (pg w)) (ha : B + 18 ≤ a ∧ a + 6 < B + 53) (hd : 5 ≤ d) (hc5 : cmt ≤ 500) {m : Nat} (L1 L2 : Option Value) (hm : m < 2 ^ 31) : ∀ (n i : Nat) (h : xH) (clk com : Nat) (kno : Nat → Nat), i + n = m → com + n ≤ cmt → xHist B tak cmt wad pad psa poa sv sp pl pg cm h → (∃ b e t, xMS (B + 13) b e t h) → xSI B a tak cmt sv sp pg cm clk com fog kno h →
    ∃ h', xSI B a tak cmt sv sp pg cm (xadv sp cm n clk com kno).1 (com + n) fog (xadv sp cm n clk com kno).2 h' ∧ (∃ b e t, xMS (B + 13) b e t h') ∧ xsm B a h h' ∧ xRun G d 65 (21, [some (.ref a), L1, L2, some (.int (nI m)), some (.int (nI i))], [], (h, nx, sl)) (some (.int (nI m)), (h', nx, sl)) := by
  intro n
  induction n with
  | zero =>
    intro i h clk com kno hn hcn hH hM hS
    refine ⟨h, hS, hM, fun q _ _ => rfl, ?_⟩
    refine xr_go i65_21 rfl ?_
    refine xr_go i65_23 rfl ?_
    refine xr_icmp_geT i65_24 (t := 37) (by decide) (nI_le (by omega) (by omega)) ?_
    refine xr_go i65_37 rfl ?_
    exact xr_iret i65_38 xt_65 rfl
  | succ n ih =>
    intro i h clk com kno hn hcn hH hM hS
    obtain ⟨b, e, t, hM⟩ := hM
    have s0 : ∃ x, h a = some (.inr (6, x)) := by
      obtain ⟨_, _, _, _, _, _, ⟨_, hs, -⟩, -⟩ := hS
      exact ⟨_, hs.1⟩
    obtain ⟨x0, s0⟩ := s0
    obtain ⟨h1, r1, hS1, hM1, sm1⟩ := q_next (G := G) (d := d - 1) (nx := nx) (sl := sl) hH hU hok hM hS ha (by omega) (by omega)
    have hH1 := xHist_kept hH (h' := h1) (fun q hq => sm1 q (by omega) (by omega))
    obtain ⟨h', g1, g2, g3, g4⟩ := ih (i + 1) h1 _ (com + 1) _ (by omega) (by omega) hH1 hM1 hS1
    refine ⟨h', by rw [show com + (n + 1) = com + 1 + n by omega]; exact g1, g2, sm1.trans g3, ?_⟩
    refine xr_go i65_21 rfl ?_
    refine xr_go i65_23 rfl ?_
    refine xr_icmp_geF i65_24 (t := 37) (by decide) (nI_ge (by omega) (by omega)) ?_
    refine xr_go i65_27 rfl ?_
    refine xr_V i65_28 xc65_95 ⟨rfl, rfl⟩ xa_62 rfl (by assumption) rfl (Nat.le_of_ble_eq_true rfl) (by omega) ⟨Nat.le_of_ble_eq_true rfl, Nat.le_of_ble_eq_true rfl⟩ (r1) ?_
    refine xr_inc1 i65_31 rfl rfl ?_
    refine xr_goto i65_34 (t := 21) (by decide) ?_
    exact g4
theorem q_commits {a2 clk2 com2 fog2 l : Nat} {kno2 : Nat → Nat} (hH : xHist B tak cmt wad pad psa poa sv sp pl pg cm h) (hU : xHU tak cmt sv sp cm) (hok : ∀ w, w < tak → xOKp (pg w)) (hM : ∃ b e t, xMS (B + 13) b e t h) (hS : xSI B a tak cmt sv sp pg cm clk com fog kno h) (hS2 : xSI B a2 tak cmt sv sp pg cm clk2 com2 fog2 kno2 h) (ha : B + 18 ≤ a ∧ a + 6 < B + 53) (hl : l < 2 ^ 31) (hd : 5 ≤ d) :
    ∃ h', xRun G d 65 (0, [some (.ref a), some (.ref a2), some (.int (nI l)), none, none], [], (h, nx, sl)) (some (.int (nI (min l (com2 - com)))), (h', nx, sl)) ∧ xSI B a tak cmt sv sp pg cm (xadv sp cm (min l (com2 - com)) clk com kno).1 (com + min l (com2 - com)) fog (xadv sp cm (min l (com2 - com)) clk com kno).2 h' ∧ (∃ b e t, xMS (B + 13) b e t h') ∧ xsm B a h h' := by
  have hc5 : cmt ≤ 500 := by
    have := hH.2.2.1
    have := hH.2.2.2.1
    omega
  have z0 : ∃ x9, h a = some (.inr (6, x9)) ∧ x9[9]? = some (Value.int (nI com)) := by
    obtain ⟨_, _, _, _, _, _, ⟨_, hs, -⟩, -⟩ := hS
    exact ⟨_, hs.1, rfl⟩
  have z2 : ∃ x9, h a2 = some (.inr (6, x9)) ∧ x9[9]? = some (Value.int (nI com2)) := by
    obtain ⟨_, _, _, _, _, _, ⟨_, hs, -⟩, -⟩ := hS2
    exact ⟨_, hs.1, rfl⟩
  have hcc : com ≤ cmt := by
    obtain ⟨_, _, _, _, _, _, -, -, -, -, -, hh, -⟩ := hS
    exact hh
  have hcc2 : com2 ≤ cmt := by
    obtain ⟨_, _, _, _, _, _, -, -, -, -, -, hh, -⟩ := hS2
    exact hh
  obtain ⟨x9, z1, z3⟩ := z0
  obtain ⟨y9, z4, z5⟩ := z2
  obtain ⟨h', g1, g2, g3, g4⟩ := q_commits_loop (G := G) (nx := nx) (sl := sl) hU hok ha hd hc5 (m := min l (com2 - com)) (some (.ref a2)) (some (.int (nI l))) (by omega) (min l (com2 - com)) 0 h clk com kno (by omega) (by omega) hH hM hS
  refine ⟨h', ?_, g1, g2, g3⟩
  refine xr_go i65_0 rfl ?_
  refine xr_go i65_1 rfl ?_
  refine xr_go i65_2 rfl ?_
  refine xr_get i65_3 xf65_35 z4 rfl z5 ?_
  refine xr_go i65_6 rfl ?_
  refine xr_get i65_7 xf65_35 z1 rfl z3 ?_
  refine xr_go i65_10 rfl ?_
  refine xr_min i65_11 xc65_98 rfl (by omega) (Nat.le_of_ble_eq_true rfl) (rfl) ?_
  refine xr_max i65_14 xc65_66 rfl (by omega) (Nat.le_of_ble_eq_true rfl) (nI_min_sub hl (by omega) (by omega)) ?_
  refine xr_go i65_17 rfl ?_
  refine xr_go i65_18 rfl ?_
  refine xr_go i65_19 rfl ?_
  exact g4
/-- tentative writes that are brought, at most n -/
def xbring (sp : Nat → Nat) : List Nat → Nat → Nat → (Nat → Nat) → Nat × Nat × (Nat → Nat)
  | [], _, clk, kno => (0, clk, kno)
  | _ :: _, 0, clk, kno => (0, clk, kno)
  | x :: l, n + 1, clk, kno => if kno x = 0 then ((xbring sp l n (max clk (sp x)) (va_up kno x 1)).1 + 1, (xbring sp l n (max clk (sp x)) (va_up kno x 1)).2) else xbring sp l (n + 1) clk kno
set_option maxHeartbeats 4000000 in
theorem q_tentative_loop {a2 clk2 com2 fog2 don2 : Nat} {vec2 kno2 oc2 : Nat → Nat} {cc2 ce2 : Nat → Int32} {tl2 : List Nat} (hU : xHU tak cmt sv sp cm) (ha : B + 18 ≤ a ∧ a + 6 < B + 53) (ha2 : a2 + 6 < a ∨ a + 6 < a2) (htk : ∀ x ∈ tl2, x < tak) (ht5 : tl2.length ≤ 500) (hd : 2 ≤ d) {lim : Nat} (hl : lim < 2 ^ 31) : ∀ (rest : List Nat) (i many n : Nat) (h : xH) (clk : Nat) (kno : Nat → Nat), tl2.drop i = rest → i + rest.length = tl2.length → many + n = lim → many ≤ i → xHist B tak cmt wad pad psa poa sv sp pl pg cm h → xSI B a tak cmt sv sp pg cm clk com fog kno h → xSV B a2 clk2 com2 fog2 don2 vec2 kno2 tl2 cc2 ce2 oc2 h →
    ∃ h', xRun G d 66 (5, [some (.ref a), some (.ref a2), some (.int (nI lim)), some (.int (nI many)), some (.int (nI i))], [], (h, nx, sl)) (some (.int (nI (many + (xbring sp rest n clk kno).1))), (h', nx, sl)) ∧ xSI B a tak cmt sv sp pg cm (xbring sp rest n clk kno).2.1 com fog (xbring sp rest n clk kno).2.2 h' ∧ xsame a (a + 6) h h' := by
  intro rest
  induction rest with
  | nil =>
    intro i many n h clk kno hdr hi hmn hmi hH hS hV
    simp only [List.length_nil, Nat.add_zero] at hi
    obtain ⟨tN, ⟨s0, s1, s2, s3, s4, s5, s6⟩, htN⟩ := hV
    unfold xSvF at s0
    dsimp only at s0 s1 s2 s3 s4 s5 s6
    refine ⟨h, ?_, hS, xsame.refl⟩
    show xRun G d 66 _ (some (.int (nI many)), (h, nx, sl))
    refine xr_go i66_5 rfl ?_
    refine xr_go i66_7 rfl ?_
    refine xr_get i66_8 xf66_41 (by assumption) rfl rfl ?_
    refine xr_icmp_geT i66_11 (t := 54) (by decide) (nI_le (by omega) (by omega)) ?_
    refine xr_go i66_54 rfl ?_
    exact xr_iret i66_55 xt_66 rfl
  | cons x rest ih =>
    intro i many n h clk kno hdr hi hmn hmi hH hS hV
    simp only [List.length_cons] at hi
    have hV0 := hV
    obtain ⟨tN, ⟨s0, s1, s2, s3, s4, s5, s6⟩, htN⟩ := hV
    unfold xSvF at s0
    dsimp only at s0 s1 s2 s3 s4 s5 s6
    have hil : i < tl2.length := by omega
    have hxi : tl2.getD i 0 = x := by
      rw [List.getD_eq_getElem?_getD]
      have := congrArg (fun l => l[0]?) hdr
      simp only [List.getElem?_drop, Nat.add_zero, List.getElem?_cons_zero] at this
      rw [this]
      rfl
    have hdr2 : tl2.drop (i + 1) = rest := by
      have := congrArg (fun l => l.drop 1) hdr
      simpa [List.drop_drop] using this
    have hx := htk x (hxi ▸ getD_mem hil)
    have hti : tN i = x := (htN i hil).trans hxi
    have ht500 : tak ≤ 500 := hH.2.2.1
    cases n with
    | zero =>
      refine ⟨h, ?_, hS, xsame.refl⟩
      show xRun G d 66 _ (some (.int (nI many)), (h, nx, sl))
      refine xr_go i66_5 rfl ?_
      refine xr_go i66_7 rfl ?_
      refine xr_get i66_8 xf66_41 (by assumption) rfl rfl ?_
      refine xr_icmp_geF i66_11 (t := 54) (by decide) (nI_ge (by omega) (by omega)) ?_
      refine xr_go i66_14 rfl ?_
      refine xr_go i66_15 rfl ?_
      refine xr_icmp_geT i66_16 (t := 54) (by decide) (nI_le (by omega) (by omega)) ?_
      refine xr_go i66_54 rfl ?_
      exact xr_iret i66_55 xt_66 rfl
    | succ n =>
      have hS0 := hS
      obtain ⟨don, vec, tl, cc, ce, oc, ⟨tN1, ⟨u0, u1, u2, u3, u4, u5, u6⟩, htN1⟩, hT, k1, -⟩ := hS
      unfold xSvF at u0
      dsimp only at u0 u1 u2 u3 u4 u5 u6
      rcases k1 x with hk | hk
      · obtain ⟨h1, r1, hS1, sm1⟩ := q_learn (G := G) (d := d - 1) (nx := nx) (sl := sl) hH hU hS0 ha hx hk (by omega)
        have hH1 := xHist_kept hH (h' := h1) (fun q hq => sm1 q (by omega))
        have hV1 := xSV_kept hV0 (h' := h1) (fun q h1 h2 => sm1 q (by omega))
        obtain ⟨h', r, g1, g2⟩ := ih (i + 1) (many + 1) n h1 _ _ hdr2 (by omega) (by omega) (by omega) hH1 hS1 hV1
        have ex : xbring sp (x :: rest) (n + 1) clk kno = ((xbring sp rest n (max clk (sp x)) (va_up kno x 1)).1 + 1, (xbring sp rest n (max clk (sp x)) (va_up kno x 1)).2) := by
          show (if kno x = 0 then _ else _) = _
          rw [if_pos hk]
        rw [ex]
        refine ⟨h', ?_, g1, sm1.trans g2⟩
        show xRun G d 66 _ (some (.int (nI (many + ((xbring sp rest n (max clk (sp x)) (va_up kno x 1)).1 + 1)))), (h', nx, sl))
        rw [show many + ((xbring sp rest n (max clk (sp x)) (va_up kno x 1)).1 + 1) = many + 1 + (xbring sp rest n (max clk (sp x)) (va_up kno x 1)).1 by omega]
        refine xr_go i66_5 rfl ?_
        refine xr_go i66_7 rfl ?_
        refine xr_get i66_8 xf66_41 (by assumption) rfl rfl ?_
        refine xr_icmp_geF i66_11 (t := 54) (by decide) (nI_ge (by omega) (by omega)) ?_
        refine xr_go i66_14 rfl ?_
        refine xr_go i66_15 rfl ?_
        refine xr_icmp_geF i66_16 (t := 54) (by decide) (nI_ge (by omega) (by omega)) ?_
        refine xr_go i66_19 rfl ?_
        refine xr_get i66_20 xf66_15 (by assumption) rfl rfl ?_
        refine xr_go i66_23 rfl ?_
        refine xr_get i66_24 xf66_19 (by assumption) rfl rfl ?_
        refine xr_go i66_27 rfl ?_
        refine xr_iald i66_29 (by assumption) rfl (by omega) (by omega) ?_
        rw [hti]
        refine xr_zald i66_30 (by assumption) rfl (by omega) (by omega) ?_
        refine xr_if_neF i66_31 (t := 48) (by decide) (by rw [hk]; decide) ?_
        refine xr_go i66_34 rfl ?_
        refine xr_go i66_35 rfl ?_
        refine xr_get i66_36 xf66_19 (by assumption) rfl rfl ?_
        refine xr_go i66_39 rfl ?_
        refine xr_iald i66_41 (by assumption) rfl (by omega) (by omega) ?_
        rw [hti]
        refine xr_V i66_42 xc66_82 ⟨rfl, rfl⟩ xa_59 rfl (by assumption) rfl (Nat.le_of_ble_eq_true rfl) (by omega) ⟨Nat.le_of_ble_eq_true rfl, Nat.le_of_ble_eq_true rfl⟩ (r1) ?_
        refine xr_inc1 i66_45 rfl rfl ?_
        refine xr_inc1 i66_48 rfl rfl ?_
        refine xr_goto i66_51 (t := 5) (by decide) ?_
        exact r
      · obtain ⟨h', r, g1, g2⟩ := ih (i + 1) many (n + 1) h _ _ hdr2 (by omega) (by omega) (by omega) hH hS0 hV0
        have ex : xbring sp (x :: rest) (n + 1) clk kno = xbring sp rest (n + 1) clk kno := by
          show (if kno x = 0 then _ else _) = _
          rw [if_neg (by omega)]
        rw [ex]
        refine ⟨h', ?_, g1, g2⟩
        refine xr_go i66_5 rfl ?_
        refine xr_go i66_7 rfl ?_
        refine xr_get i66_8 xf66_41 (by assumption) rfl rfl ?_
        refine xr_icmp_geF i66_11 (t := 54) (by decide) (nI_ge (by omega) (by omega)) ?_
        refine xr_go i66_14 rfl ?_
        refine xr_go i66_15 rfl ?_
        refine xr_icmp_geF i66_16 (t := 54) (by decide) (nI_ge (by omega) (by omega)) ?_
        refine xr_go i66_19 rfl ?_
        refine xr_get i66_20 xf66_15 (by assumption) rfl rfl ?_
        refine xr_go i66_23 rfl ?_
        refine xr_get i66_24 xf66_19 (by assumption) rfl rfl ?_
        refine xr_go i66_27 rfl ?_
        refine xr_iald i66_29 (by assumption) rfl (by omega) (by omega) ?_
        rw [hti]
        refine xr_zald i66_30 (by assumption) rfl (by omega) (by omega) ?_
        refine xr_if_neT i66_31 (t := 48) (by decide) (by rw [hk]; decide) ?_
        refine xr_inc1 i66_48 rfl rfl ?_
        refine xr_goto i66_51 (t := 5) (by decide) ?_
        exact r
theorem q_tentative {a2 clk2 com2 fog2 l : Nat} {kno2 : Nat → Nat} (hH : xHist B tak cmt wad pad psa poa sv sp pl pg cm h) (hU : xHU tak cmt sv sp cm) (hS : xSI B a tak cmt sv sp pg cm clk com fog kno h) (hS2 : xSI B a2 tak cmt sv sp pg cm clk2 com2 fog2 kno2 h) (ha : B + 18 ≤ a ∧ a + 6 < B + 53) (ha2 : a2 + 6 < a ∨ a + 6 < a2) (hl : l < 2 ^ 31) (hd : 2 ≤ d) :
    ∃ h' tl2, xTL tak sv sp cm kno2 com2 tl2 ∧ xRun G d 66 (0, [some (.ref a), some (.ref a2), some (.int (nI l)), none, none], [], (h, nx, sl)) (some (.int (nI (xbring sp tl2 l clk kno).1)), (h', nx, sl)) ∧ xSI B a tak cmt sv sp pg cm (xbring sp tl2 l clk kno).2.1 com fog (xbring sp tl2 l clk kno).2.2 h' ∧ xsame a (a + 6) h h' := by
  obtain ⟨don, vec, tl, cc, ce, oc, hV, hT, -⟩ := hS2
  have hlen := xTL_len hT
  have ht500 : tak ≤ 500 := hH.2.2.1
  obtain ⟨h', r, g1, g2⟩ := q_tentative_loop (G := G) (nx := nx) (sl := sl) hU ha ha2 (fun x hx => ((hT.2 x).mp hx).1) (by omega) hd hl tl 0 0 l h clk kno rfl (by omega) (by omega) (by omega) hH hS hV
  rw [Nat.zero_add] at r
  refine ⟨h', tl, hT, ?_, g1, g2⟩
  refine xr_go i66_0 rfl ?_
  refine xr_go i66_1 rfl ?_
  refine xr_go i66_2 rfl ?_
  refine xr_go i66_3 rfl ?_
  exact r
end XSI4

