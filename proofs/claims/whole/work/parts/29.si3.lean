/-! ===== servers: reading ===== -/
section XSI3
variable {G : xG} {d : Nat} {h : xH} {nx sl : Nat} {B a tak cmt : Nat} {wad pad psa poa sv sp pl : Nat → Nat} {pg : Nat → List (Nat × Int32)} {cm : Nat → Nat} {clk com fog : Nat} {kno : Nat → Nat}
theorem xcpy_cells {cc ce : Nat → Int32} (hz : ∀ k, 32 ≤ k → cc k = 0 ∧ ce k = 0) : va_cpy cc ce 0 0 32 = cc := by
  funext k
  unfold va_cpy
  by_cases hk : k < 32
  · rw [if_pos (by omega)]
    congr 1
    omega
  · rw [if_neg (by omega), (hz k (by omega)).1, (hz k (by omega)).2]
/-- the whole order of a server -/
def xord (cm : Nat → Nat) (com : Nat) (tl : List Nat) : List Nat := xcms cm com ++ tl
theorem q_catch {bb : List Int32} {ee : List (Nat × Int32)} {tt : Bool} (hH : xHist B tak cmt wad pad psa poa sv sp pl pg cm h) (hU : xHU tak cmt sv sp cm) (hok : ∀ w, w < tak → xOKp (pg w)) (hM : xMS (B + 13) bb ee tt h) (hS : xSI B a tak cmt sv sp pg cm clk com fog kno h) (ha : B + 18 ≤ a ∧ a + 6 < B + 53) (hd : 4 ≤ d) :
    ∃ h' vec tl cc ce oc, xRun G d 61 (0, [some (.ref a), none, none], [], (h, nx, sl)) (none, (h', nx, sl)) ∧ xSV B a clk com fog tl.length vec kno tl cc ce oc h' ∧ xTL tak sv sp cm kno com tl ∧ ce = xruns sv sp pg xz (xord cm com tl) ∧ cc = xruns sv sp pg xz (xcms cm com) ∧ (∀ p, p < (xord cm com tl).length → oc ((xord cm com tl).getD p 0) = xoutAt sv sp pg (xord cm com tl) p) ∧ xSI B a tak cmt sv sp pg cm clk com fog kno h' ∧ (∃ b e t, xMS (B + 13) b e t h') ∧ xsm B a h h' := by
  obtain ⟨don, vec, tl, cc, ce, oc, hV, hT, k1, k2, k3, k4, k5, k6, k7, k8, k9, k10, k11, k12, k13, k14⟩ := hS
  have ht5 : tak ≤ 500 := hH.2.2.1
  have hlen := xTL_len hT
  have hnd := xord_nodup hU k4 hT
  have finish : ∀ (h1 : xH) (ce1 : Nat → Int32), xHist B tak cmt wad pad psa poa sv sp pl pg cm h1 → (∃ b e t, xMS (B + 13) b e t h1) → xSV B a clk com fog don vec kno tl cc ce1 oc h1 → ce1 = xruns sv sp pg xz (xcms cm com ++ tl.take don) → (∀ k, 32 ≤ k → ce1 k = 0) → xsm B a h h1 →
      ∃ h' ce oc, xRun G d 61 (22, [some (.ref a), none, none], [], (h1, nx, sl)) (none, (h', nx, sl)) ∧ xSV B a clk com fog tl.length vec kno tl cc ce oc h' ∧ ce = xruns sv sp pg xz (xord cm com tl) ∧ (∀ p, p < (xord cm com tl).length → oc ((xord cm com tl).getD p 0) = xoutAt sv sp pg (xord cm com tl) p) ∧ (∀ k, 32 ≤ k → ce k = 0) ∧ (∀ w, oc w ≤ 6) ∧ (∃ b e t, xMS (B + 13) b e t h') ∧ xsm B a h h' := by
    intro h1 ce1 hH1 hM1 hV1 hce hz hsm
    obtain ⟨h', r, g1, g2, g3⟩ := l_catch_loop (G := G) (nx := nx) (sl := sl) (don := don) ha hok (fun x hx => ((hT.2 x).mp hx).1) (by omega) hd (tl.drop don) don h1 ce1 oc none rfl (by rw [List.length_drop]; omega) hH1 hM1 hV1
    have eord : xcms cm com ++ tl.take don ++ tl.drop don = xord cm com tl := by unfold xord; simp
    refine ⟨h', _, _, ?_, g1, by rw [hce, ← xruns_app, eord], fun p hp => ?_, ?_, ?_, g2, hsm.trans g3⟩
    · obtain ⟨tN, ⟨s0, s1, s2, s3, s4, s5, s6⟩, htN⟩ := hV1
      unfold xSvF at s0
      dsimp only at s0 s1 s2 s3 s4 s5 s6
      refine xr_go i61_22 rfl ?_
      refine xr_get i61_23 xf61_44 (by assumption) rfl rfl ?_
      refine xr_go i61_26 rfl ?_
      exact r
    · have hl : (xord cm com tl).length = com + tl.length := by unfold xord; rw [List.length_append, xcms_len]
      have hl2 : (xcms cm com ++ tl.take don).length = com + don := by rw [List.length_append, xcms_len, List.length_take]; omega
      by_cases hp2 : p < com + don
      · rw [xouts_not]
        · exact k12 p hp2
        · intro hm
          have hnd2 : ((xcms cm com ++ tl.take don) ++ tl.drop don).Nodup := by rw [eord]; exact hnd
          refine (List.nodup_append.mp hnd2).2.2 _ ?_ _ hm rfl
          rw [← eord, getD_app_l (by omega)]
          exact getD_mem (by omega)
      · have hj : p - (com + don) < (tl.drop don).length := by rw [List.length_drop]; omega
        have e1 : (xord cm com tl).getD p 0 = (tl.drop don).getD (p - (com + don)) 0 := by
          rw [← eord, getD_app_r (by omega), hl2]
        rw [e1, xouts_at (tl.drop don) (xcms cm com ++ tl.take don) ce1 oc hce (by rw [eord]; exact hnd) _ hj, eord, hl2]
        congr 1
        omega
    · intro k hk
      have : ∀ (l : List Nat) (c : Nat → Int32), (∀ x ∈ l, x < tak) → c k = 0 → xruns sv sp pg c l k = 0 := by
        intro l
        induction l with
        | nil => intro c _ hc; exact hc
        | cons x l ih =>
          intro c hx hc
          show xruns sv sp pg (xpC (pg x) (nI (sv x)) (nI (sp x)) c) l k = 0
          refine ih _ (fun y hy => hx y (List.mem_cons_of_mem _ hy)) ?_
          rw [xpC_hi (hok x (hx x List.mem_cons_self)) hk]
          exact hc
      exact this _ _ (fun x hx => ((hT.2 x).mp (List.mem_of_mem_drop hx)).1) (hz k hk)
    · have : ∀ (l : List Nat) (c : Nat → Int32) (oc : Nat → Nat), (∀ x ∈ l, x < tak) → (∀ w, oc w ≤ 6) → ∀ w, xouts sv sp pg l c oc w ≤ 6 := by
        intro l
        induction l with
        | nil => intro c oc _ hc; exact hc
        | cons x l ih =>
          intro c oc hx hc
          unfold xouts
          refine ih _ _ (fun y hy => hx y (List.mem_cons_of_mem _ hy)) (fun w => ?_)
          unfold va_up
          split
          · exact ((hok x (hx x List.mem_cons_self)).run _ _ _).2
          · exact hc w
      exact this _ _ _ (fun x hx => ((hT.2 x).mp (List.mem_of_mem_drop hx)).1) k14
  have wrap : ∀ h' ce oc, xRun G d 61 (0, [some (.ref a), none, none], [], (h, nx, sl)) (none, (h', nx, sl)) ∧ xSV B a clk com fog tl.length vec kno tl cc ce oc h' ∧ ce = xruns sv sp pg xz (xord cm com tl) ∧ (∀ p, p < (xord cm com tl).length → oc ((xord cm com tl).getD p 0) = xoutAt sv sp pg (xord cm com tl) p) ∧ (∀ k, 32 ≤ k → ce k = 0) ∧ (∀ w, oc w ≤ 6) ∧ (∃ b e t, xMS (B + 13) b e t h') ∧ xsm B a h h' → ∃ h' vec tl cc ce oc, xRun G d 61 (0, [some (.ref a), none, none], [], (h, nx, sl)) (none, (h', nx, sl)) ∧ xSV B a clk com fog tl.length vec kno tl cc ce oc h' ∧ xTL tak sv sp cm kno com tl ∧ ce = xruns sv sp pg xz (xord cm com tl) ∧ cc = xruns sv sp pg xz (xcms cm com) ∧ (∀ p, p < (xord cm com tl).length → oc ((xord cm com tl).getD p 0) = xoutAt sv sp pg (xord cm com tl) p) ∧ xSI B a tak cmt sv sp pg cm clk com fog kno h' ∧ (∃ b e t, xMS (B + 13) b e t h') ∧ xsm B a h h' := by
    rintro h' ce oc ⟨r, g1, g2, g3, g4, g5, g6, g7⟩
    refine ⟨h', vec, tl, cc, ce, oc, r, g1, hT, g2, k9, g3, ⟨tl.length, vec, tl, cc, ce, oc, g1, hT, k1, k2, k3, k4, k5, k6, k7, k8, k9, Nat.le_refl _, fun _ => by rw [List.take_length]; exact g2, fun p hp => ?_, fun k hk => ⟨(k13 k hk).1, g4 k hk⟩, g5⟩, g6, g7⟩
    exact g3 p (by unfold xord; rw [List.length_append, xcms_len]; exact hp)
  by_cases hd0 : don = 0
  · obtain ⟨tN, ⟨s0, s1, s2, s3, s4, s5, s6⟩, htN⟩ := hV
    unfold xSvF at s0
    dsimp only at s0 s1 s2 s3 s4 s5 s6
    let g1 : xH := xup h (a + 5) (.inl (0, 32, .inl cc))
    have sm1 : xsm B a h g1 := fun q h1 h2 => xup_n (by omega)
    have hH1 := xHist_kept hH (h' := g1) (fun q hq => sm1 q (by omega) (by omega))
    obtain ⟨h', ce', oc', r, g⟩ := finish g1 cc hH1 ⟨bb, ee, tt, xMS_kept hM (fun q h1 h2 => xup_n (by omega))⟩ ⟨tN, ⟨(xup_n (by omega)).trans s0, (xup_n (by omega)).trans s1, (xup_n (by omega)).trans s2, (xup_n (by omega)).trans s3, (xup_n (by omega)).trans s4, xup_s, (xup_n (by omega)).trans s6⟩, htN⟩ (by rw [hd0]; simpa using k9) (fun k hk => (k13 k hk).1) sm1
    refine wrap h' ce' oc' ⟨?_, g⟩
    refine xr_go i61_0 rfl ?_
    refine xr_get i61_1 xf61_44 (by assumption) rfl rfl ?_
    refine xr_if_neF i61_4 (t := 22) (by decide) (by rw [hd0]; decide) ?_
    refine xr_go i61_7 rfl ?_
    refine xr_get i61_8 xf61_22 (by assumption) rfl rfl ?_
    refine xr_go i61_11 rfl ?_
    refine xr_go i61_12 rfl ?_
    refine xr_get i61_13 xf61_25 (by assumption) rfl rfl ?_
    refine xr_go i61_16 rfl ?_
    refine xr_go i61_17 rfl ?_
    refine xr_copy i61_19 xc61_104 rfl (by omega) (Nat.le_of_ble_eq_true rfl) s4 s5 (n := 32) (dp := 0) (sp := 0) rfl rfl rfl (by omega) (by omega) (by omega) (fun f2 ef2 => ?_)
    have ef2' : f2 = g1 := by rw [ef2, xcpy_cells k13]
    rw [ef2']
    exact r
  · obtain ⟨h', ce', oc', r, g⟩ := finish h ce hH ⟨bb, ee, tt, hM⟩ hV (k11 hd0) (fun k hk => (k13 k hk).2) (fun q _ _ => rfl)
    refine wrap h' ce' oc' ⟨?_, g⟩
    obtain ⟨tN, ⟨s0, s1, s2, s3, s4, s5, s6⟩, htN⟩ := hV
    unfold xSvF at s0
    dsimp only at s0 s1 s2 s3 s4 s5 s6
    refine xr_go i61_0 rfl ?_
    refine xr_get i61_1 xf61_44 (by assumption) rfl rfl ?_
    refine xr_if_neT i61_4 (t := 22) (by decide) (nI_ne0 (by omega) (by omega)) ?_
    exact r
/-- the cells of a server: of what is committed, or of all that it knows -/
theorem q_value {c : Nat} {b : Int32} {bb : List Int32} {ee : List (Nat × Int32)} {tt : Bool} (hH : xHist B tak cmt wad pad psa poa sv sp pl pg cm h) (hU : xHU tak cmt sv sp cm) (hok : ∀ w, w < tak → xOKp (pg w)) (hM : xMS (B + 13) bb ee tt h) (hS : xSI B a tak cmt sv sp pg cm clk com fog kno h) (ha : B + 18 ≤ a ∧ a + 6 < B + 53) (hc : c < 32) (hd : 5 ≤ d) :
    ∃ h' tl, xRun G d 60 (0, [some (.ref a), some (.int (nI c)), some (.int b)], [], (h, nx, sl)) (some (.int (if b = 0 then xruns sv sp pg xz (xord cm com tl) c else xruns sv sp pg xz (xcms cm com) c)), (h', nx, sl)) ∧ xTL tak sv sp cm kno com tl ∧ xSI B a tak cmt sv sp pg cm clk com fog kno h' ∧ (∃ b e t, xMS (B + 13) b e t h') ∧ xsm B a h h' := by
  by_cases hb : b = 0
  · obtain ⟨h', vec, tl, cc, ce, oc, r, g1, g2, g3, g4, g5, g6, g7, g8⟩ := q_catch (G := G) (d := d - 1) (nx := nx) (sl := sl) hH hU hok hM hS ha (by omega)
    refine ⟨h', tl, ?_, g2, g6, g7, g8⟩
    obtain ⟨don, vec0, tl0, cc0, ce0, oc0, ⟨tN0, ⟨s0, -⟩, -⟩, -⟩ := hS
    unfold xSvF at s0
    obtain ⟨tN, ⟨t0, t1, t2, t3, t4, t5, t6⟩, htN⟩ := g1
    unfold xSvF at t0
    dsimp only at t0 t1 t2 t3 t4 t5 t6
    rw [if_pos hb]
    refine xr_go i60_0 rfl ?_
    refine xr_if_eqT i60_1 (t := 11) (by decide) hb ?_
    refine xr_go i60_11 rfl ?_
    refine xr_V i60_12 xc60_101 ⟨rfl, rfl⟩ xa_61 rfl (by assumption) rfl (Nat.le_of_ble_eq_true rfl) (by omega) ⟨Nat.le_of_ble_eq_true rfl, Nat.le_of_ble_eq_true rfl⟩ (r) ?_
    refine xr_go i60_15 rfl ?_
    refine xr_get i60_16 xf60_25 (by assumption) rfl rfl ?_
    refine xr_go i60_19 rfl ?_
    refine xr_iald i60_20 (by assumption) rfl (by omega) (by omega) ?_
    rw [g3]
    exact xr_iret i60_21 xt_60 rfl
  · have hS0 := hS
    obtain ⟨don, vec, tl, cc, ce, oc, ⟨tN, ⟨s0, s1, s2, s3, s4, s5, s6⟩, htN⟩, hT, k1, k2, k3, k4, k5, k6, k7, k8, k9, -⟩ := hS
    unfold xSvF at s0
    dsimp only at s0 s1 s2 s3 s4 s5 s6
    refine ⟨h, tl, ?_, hT, hS0, ⟨bb, ee, tt, hM⟩, fun q _ _ => rfl⟩
    rw [if_neg hb]
    refine xr_go i60_0 rfl ?_
    refine xr_if_eqF i60_1 (t := 11) (by decide) hb ?_
    refine xr_go i60_4 rfl ?_
    refine xr_get i60_5 xf60_22 (by assumption) rfl rfl ?_
    refine xr_go i60_8 rfl ?_
    refine xr_iald i60_9 (by assumption) rfl (by omega) (by omega) ?_
    rw [k9]
    exact xr_iret i60_10 xt_60 rfl
theorem q_outcome {w : Nat} {bb : List Int32} {ee : List (Nat × Int32)} {tt : Bool} (hH : xHist B tak cmt wad pad psa poa sv sp pl pg cm h) (hU : xHU tak cmt sv sp cm) (hok : ∀ w, w < tak → xOKp (pg w)) (hM : xMS (B + 13) bb ee tt h) (hS : xSI B a tak cmt sv sp pg cm clk com fog kno h) (ha : B + 18 ≤ a ∧ a + 6 < B + 53) (hw : w < tak) (hd : 5 ≤ d) :
    ∃ h' tl v, xRun G d 68 (0, [some (.ref a), some (.int (nI w))], [], (h, nx, sl)) (some (.int v), (h', nx, sl)) ∧ xTL tak sv sp cm kno com tl ∧ (kno w = 0 → v = -2) ∧ (kno w = 1 → ∀ p, p < (xord cm com tl).length → (xord cm com tl).getD p 0 = w → v = nI (xoutAt sv sp pg (xord cm com tl) p)) ∧ xSI B a tak cmt sv sp pg cm clk com fog kno h' ∧ (∃ b e t, xMS (B + 13) b e t h') ∧ xsm B a h h' := by
  have hS0 := hS
  obtain ⟨don, vec, tl, cc, ce, oc, ⟨tN, ⟨s0, s1, s2, s3, s4, s5, s6⟩, htN⟩, hT, k1, k2, -⟩ := hS
  unfold xSvF at s0
  dsimp only at s0 s1 s2 s3 s4 s5 s6
  have ht5 : tak ≤ 500 := hH.2.2.1
  rcases k1 w with hk | hk
  · refine ⟨h, tl, -2, ?_, hT, fun _ => rfl, fun z => by omega, hS0, ⟨bb, ee, tt, hM⟩, fun q _ _ => rfl⟩
    refine xr_go i68_0 rfl ?_
    refine xr_get i68_1 xf68_15 (by assumption) rfl rfl ?_
    refine xr_go i68_4 rfl ?_
    refine xr_zald i68_5 (by assumption) rfl (by omega) (by omega) ?_
    refine xr_if_neF i68_6 (t := 12) (by decide) (by rw [hk]; decide) ?_
    refine xr_go i68_9 rfl ?_
    exact xr_iret i68_11 xt_68 rfl
  · obtain ⟨h', vec1, tl1, cc1, ce1, oc1, r, g1, g2, g3, g4, g5, g6, g7, g8⟩ := q_catch (G := G) (d := d - 1) (nx := nx) (sl := sl) hH hU hok hM hS0 ha (by omega)
    obtain ⟨tN1, ⟨t0, t1, t2, t3, t4, t5, t6⟩, htN1⟩ := g1
    unfold xSvF at t0
    dsimp only at t0 t1 t2 t3 t4 t5 t6
    refine ⟨h', tl1, nI (oc1 w), ?_, g2, fun z => by omega, fun _ p hp he => by rw [← he, g5 p hp], g6, g7, g8⟩
    refine xr_go i68_0 rfl ?_
    refine xr_get i68_1 xf68_15 (by assumption) rfl rfl ?_
    refine xr_go i68_4 rfl ?_
    refine xr_zald i68_5 (by assumption) rfl (by omega) (by omega) ?_
    refine xr_if_neT i68_6 (t := 12) (by decide) (by rw [hk]; decide) ?_
    refine xr_go i68_12 rfl ?_
    refine xr_V i68_13 xc68_101 ⟨rfl, rfl⟩ xa_61 rfl (by assumption) rfl (Nat.le_of_ble_eq_true rfl) (by omega) ⟨Nat.le_of_ble_eq_true rfl, Nat.le_of_ble_eq_true rfl⟩ (r) ?_
    refine xr_go i68_16 rfl ?_
    refine xr_get i68_17 xf68_28 (by assumption) rfl rfl ?_
    refine xr_go i68_20 rfl ?_
    refine xr_iald i68_21 (by assumption) rfl (by omega) (by omega) ?_
    exact xr_iret i68_22 xt_68 rfl
end XSI3

