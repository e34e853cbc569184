/-! ===== the class's Machine ===== -/
/-- the Machine at a, its three rows behind it -/
def xMach (a dep eff : Nat) (hol : Int32) (vals tg sm : Nat → Int32) (h : xH) : Prop :=
  h a = some (.inr (5, [.ref (a + 1), .ref (a + 2), .ref (a + 3), .int (nI dep), .int (nI eff), .int hol])) ∧ h (a + 1) = some (.inl (0, 16, .inl vals)) ∧ h (a + 2) = some (.inl (0, 8, .inl tg)) ∧ h (a + 3) = some (.inl (0, 8, .inl sm))
/-- nothing but the cells from a to b has changed -/
def xsame (a b : Nat) (h h' : xH) : Prop := ∀ q, (q < a ∨ b < q) → h' q = h q
theorem xsame.refl {a b : Nat} {h : xH} : xsame a b h h := fun _ _ => rfl
theorem xsame.trans {a b : Nat} {h h1 h2 : xH} (x : xsame a b h h1) (y : xsame a b h1 h2) : xsame a b h h2 := fun q hq => (y q hq).trans (x q hq)
theorem xsame.up {a b c : Nat} {e : xE} {h h' : xH} (hc : a ≤ c ∧ c ≤ b) (he : h' = xup h c e) : xsame a b h h' := fun q hq => by
  rw [he]
  exact xup_n (by omega)
section XMACH
variable {G : xG} {d : Nat} {h : xH} {nx sl : Nat}
theorem c_push {a dep eff : Nat} {hol v : Int32} {vals tg sm : Nat → Int32} (hM : xMach a dep eff hol vals tg sm h) (hd : dep < 16) : ∃ h', xRun G d 53 (0, [some (.ref a), some (.int v)], [], (h, nx, sl)) (none, (h', nx, sl)) ∧ xMach a (dep + 1) eff hol (upd vals dep v) tg sm h' ∧ xsame a (a + 3) h h' := by
  obtain ⟨m0, m1, m2, m3⟩ := hM
  let h1 : xH := xup h (a + 1) (.inl (0, 16, .inl (upd vals dep v)))
  let h2 : xH := xup h1 a (.inr (5, [.ref (a + 1), .ref (a + 2), .ref (a + 3), .int (nI (dep + 1)), .int (nI eff), .int hol]))
  refine ⟨h2, ?_, ⟨xup_s, ?_, ?_, ?_⟩, ?_⟩
  · refine xr_go i53_0 rfl ?_
    refine xr_get i53_1 xf53_19 (by assumption) rfl rfl ?_
    refine xr_go i53_4 rfl ?_
    refine xr_icmp_geF i53_6 (t := 29) (by decide) (nI_ge (a := dep) (b := 16) (by omega) (by omega)) ?_
    refine xr_go i53_9 rfl ?_
    refine xr_get i53_10 xf53_9 (by assumption) rfl rfl ?_
    refine xr_go i53_13 rfl ?_
    refine xr_get i53_14 xf53_19 (by assumption) rfl rfl ?_
    refine xr_go i53_17 rfl ?_
    refine xr_iast i53_18 (by assumption) rfl (by omega) (by omega) (fun g1 eg1 => ?_)
    have n0 : g1 a = some (.inr (5, [.ref (a + 1), .ref (a + 2), .ref (a + 3), .int (nI dep), .int (nI eff), .int hol])) := by rw [eg1, xup_n (by omega)]; exact m0
    refine xr_go i53_19 rfl ?_
    refine xr_go i53_20 rfl ?_
    refine xr_get i53_21 xf53_19 (by assumption) rfl rfl ?_
    refine xr_go i53_24 rfl ?_
    refine xr_go i53_25 rfl ?_
    refine xr_put i53_26 xf53_19 (by assumption) ⟨rfl, Nat.le_of_ble_eq_true rfl, rfl, rfl, Or.inl rfl⟩ (fun g2 eg2 => ?_)
    have hg : g2 = h2 := by
      rw [eg2, eg1]
      show xup h1 a (.inr (5, [.ref (a + 1), .ref (a + 2), .ref (a + 3), .int (nI dep + 1), .int (nI eff), .int hol])) = _
      rw [nI_1]
    rw [hg]
    exact xr_end i53_29 rfl
  · show xup h1 a _ (a + 1) = _
    rw [xup_n (by omega)]
    exact xup_s
  · show xup h1 a _ (a + 2) = _
    rw [xup_n (by omega)]
    show xup h (a + 1) _ (a + 2) = _
    rw [xup_n (by omega)]
    exact m2
  · show xup h1 a _ (a + 3) = _
    rw [xup_n (by omega)]
    show xup h (a + 1) _ (a + 3) = _
    rw [xup_n (by omega)]
    exact m3
  · exact (xsame.up (by omega) (rfl : h1 = _)).trans (xsame.up (by omega) (rfl : h2 = _))
theorem xMach_of {a dep eff dep' eff' : Nat} {hol hol' : Int32} {vals tg sm : Nat → Int32} {g : xH} (hM : xMach a dep eff hol vals tg sm h) (hg : g = xup h a (.inr (5, [.ref (a + 1), .ref (a + 2), .ref (a + 3), .int (nI dep'), .int (nI eff'), .int hol']))) : xMach a dep' eff' hol' vals tg sm g ∧ xsame a (a + 3) h g := by
  obtain ⟨m0, m1, m2, m3⟩ := hM
  refine ⟨⟨by rw [hg]; exact xup_s, by rw [hg, xup_n (by omega)]; exact m1, by rw [hg, xup_n (by omega)]; exact m2, by rw [hg, xup_n (by omega)]; exact m3⟩, xsame.up (by omega) hg⟩
theorem c_pop {a dep eff : Nat} {hol : Int32} {vals tg sm : Nat → Int32} (hM : xMach a (dep + 1) eff hol vals tg sm h) (hd : dep < 16) : ∃ h', xRun G d 55 (0, [some (.ref a)], [], (h, nx, sl)) (some (.int (vals dep)), (h', nx, sl)) ∧ xMach a dep eff hol vals tg sm h' ∧ xsame a (a + 3) h h' := by
  have hM0 := hM
  obtain ⟨m0, m1, m2, m3⟩ := hM
  let g : xH := xup h a (.inr (5, [.ref (a + 1), .ref (a + 2), .ref (a + 3), .int (nI dep), .int (nI eff), .int hol]))
  obtain ⟨hN, hs⟩ := xMach_of (g := g) hM0 rfl
  refine ⟨g, ?_, hN, hs⟩
  obtain ⟨n0, n1, -, -⟩ := hN
  refine xr_go i55_0 rfl ?_
  refine xr_get i55_1 xf55_19 (by assumption) rfl rfl ?_
  refine xr_if_neT i55_4 (t := 9) (by decide) (nI_ne0 (by omega) (by omega)) ?_
  refine xr_go i55_9 rfl ?_
  refine xr_go i55_10 rfl ?_
  refine xr_get i55_11 xf55_19 (by assumption) rfl rfl ?_
  refine xr_go i55_14 rfl ?_
  refine xr_go i55_15 rfl ?_
  refine xr_put i55_16 xf55_19 (by assumption) ⟨rfl, Nat.le_of_ble_eq_true rfl, rfl, rfl, Or.inl rfl⟩ (fun g1 eg1 => ?_)
  have hg : g1 = g := by
    rw [eg1]
    show xup h a (.inr (5, [.ref (a + 1), .ref (a + 2), .ref (a + 3), .int (nI (dep + 1) - 1), .int (nI eff), .int hol])) = _
    rw [nI_pred]
  rw [hg]
  refine xr_go i55_19 rfl ?_
  refine xr_get i55_20 xf55_9 (by assumption) rfl rfl ?_
  refine xr_go i55_23 rfl ?_
  refine xr_get i55_24 xf55_19 (by assumption) rfl rfl ?_
  refine xr_iald i55_27 (by assumption) rfl (by omega) (by omega) ?_
  exact xr_iret i55_28 xt_55 rfl
theorem c_begin {a dep eff : Nat} {hol : Int32} {vals tg sm : Nat → Int32} (hM : xMach a dep eff hol vals tg sm h) : ∃ h', xRun G d 51 (0, [some (.ref a)], [], (h, nx, sl)) (none, (h', nx, sl)) ∧ xMach a 0 0 1 vals tg sm h' ∧ xsame a (a + 3) h h' := by
  have hM0 := hM
  obtain ⟨m0, m1, m2, m3⟩ := hM
  let g : xH := xup h a (.inr (5, [.ref (a + 1), .ref (a + 2), .ref (a + 3), .int (nI 0), .int (nI 0), .int 1]))
  obtain ⟨hN, hs⟩ := xMach_of (g := g) hM0 rfl
  refine ⟨g, ?_, hN, hs⟩
  refine xr_go i51_0 rfl ?_
  refine xr_go i51_1 rfl ?_
  refine xr_put i51_2 xf51_19 (by assumption) ⟨rfl, Nat.le_of_ble_eq_true rfl, rfl, rfl, Or.inl rfl⟩ (fun g1 eg1 => ?_)
  have k1 : g1 a = some (.inr (5, [.ref (a + 1), .ref (a + 2), .ref (a + 3), .int 0, .int (nI eff), .int hol])) := by rw [eg1]; exact xup_s
  refine xr_go i51_5 rfl ?_
  refine xr_go i51_6 rfl ?_
  refine xr_put i51_7 xf51_23 (by assumption) ⟨rfl, Nat.le_of_ble_eq_true rfl, rfl, rfl, Or.inl rfl⟩ (fun g2 eg2 => ?_)
  have k2 : g2 a = some (.inr (5, [.ref (a + 1), .ref (a + 2), .ref (a + 3), .int 0, .int 0, .int hol])) := by rw [eg2]; exact xup_s
  refine xr_go i51_10 rfl ?_
  refine xr_go i51_11 rfl ?_
  refine xr_put i51_12 xf51_26 (by assumption) ⟨rfl, Nat.le_of_ble_eq_true rfl, rfl, rfl, Or.inl rfl⟩ (fun g3 eg3 => ?_)
  have hg : g3 = g := by
    rw [eg3, eg2, eg1, xup_same, xup_same]
    rfl
  rw [hg]
  exact xr_end i51_15 rfl
theorem c_keep {a dep eff : Nat} {hol t : Int32} {vals tg sm : Nat → Int32} (hM : xMach a (dep + 1) eff hol vals tg sm h) (hd : dep < 16) (he : eff < 8) (h2 : 1 ≤ d) : ∃ h', xRun G d 54 (0, [some (.ref a), some (.int t), none], [], (h, nx, sl)) (none, (h', nx, sl)) ∧ xMach a dep (eff + 1) hol vals (upd tg eff t) (upd sm eff (vals dep)) h' ∧ xsame a (a + 3) h h' := by
  have m0 := hM.1
  obtain ⟨h1, r1, hM1, s1⟩ := c_pop (G := G) (d := d - 1) (nx := nx) (sl := sl) hM hd
  obtain ⟨n0, n1, n2, n3⟩ := hM1
  let g : xH := xup (xup (xup h1 (a + 2) (.inl (0, 8, .inl (upd tg eff t)))) (a + 3) (.inl (0, 8, .inl (upd sm eff (vals dep))))) a (.inr (5, [.ref (a + 1), .ref (a + 2), .ref (a + 3), .int (nI dep), .int (nI (eff + 1)), .int hol]))
  refine ⟨g, ?_, ⟨xup_s, ?_, ?_, ?_⟩, ?_⟩
  · refine xr_go i54_0 rfl ?_
    refine xr_V i54_1 xc54_71 ⟨rfl, rfl⟩ xa_55 rfl (by assumption) rfl (Nat.le_of_ble_eq_true rfl) (by omega) ⟨Nat.le_of_ble_eq_true rfl, Nat.le_of_ble_eq_true rfl⟩ (r1) ?_
    refine xr_go i54_4 rfl ?_
    refine xr_go i54_5 rfl ?_
    refine xr_get i54_6 xf54_23 (by assumption) rfl rfl ?_
    refine xr_go i54_9 rfl ?_
    refine xr_icmp_geF i54_11 (t := 44) (by decide) (nI_ge (a := eff) (b := 8) (by omega) (by omega)) ?_
    refine xr_go i54_14 rfl ?_
    refine xr_get i54_15 xf54_13 (by assumption) rfl rfl ?_
    refine xr_go i54_18 rfl ?_
    refine xr_get i54_19 xf54_23 (by assumption) rfl rfl ?_
    refine xr_go i54_22 rfl ?_
    refine xr_iast i54_23 (by assumption) rfl (by omega) (by omega) (fun g1 eg1 => ?_)
    have k0 : g1 a = some (.inr (5, [.ref (a + 1), .ref (a + 2), .ref (a + 3), .int (nI dep), .int (nI eff), .int hol])) := by rw [eg1, xup_n (by omega)]; exact n0
    have k3 : g1 (a + 3) = some (.inl (0, 8, .inl sm)) := by rw [eg1, xup_n (by omega)]; exact n3
    refine xr_go i54_24 rfl ?_
    refine xr_get i54_25 xf54_16 (by assumption) rfl rfl ?_
    refine xr_go i54_28 rfl ?_
    refine xr_get i54_29 xf54_23 (by assumption) rfl rfl ?_
    refine xr_go i54_32 rfl ?_
    refine xr_iast i54_33 (by assumption) rfl (by omega) (by omega) (fun g2 eg2 => ?_)
    have j0 : g2 a = some (.inr (5, [.ref (a + 1), .ref (a + 2), .ref (a + 3), .int (nI dep), .int (nI eff), .int hol])) := by rw [eg2, xup_n (by omega)]; exact k0
    refine xr_go i54_34 rfl ?_
    refine xr_go i54_35 rfl ?_
    refine xr_get i54_36 xf54_23 (by assumption) rfl rfl ?_
    refine xr_go i54_39 rfl ?_
    refine xr_go i54_40 rfl ?_
    refine xr_put i54_41 xf54_23 (by assumption) ⟨rfl, Nat.le_of_ble_eq_true rfl, rfl, rfl, Or.inl rfl⟩ (fun g3 eg3 => ?_)
    have hg : g3 = g := by
      rw [eg3, eg2, eg1]
      show xup _ a (.inr (5, [.ref (a + 1), .ref (a + 2), .ref (a + 3), .int (nI dep), .int (nI eff + 1), .int hol])) = _
      rw [nI_1]
    rw [hg]
    exact xr_end i54_44 rfl
  · show xup _ a _ (a + 1) = _
    rw [xup_n (by omega), xup_n (by omega), xup_n (by omega)]
    exact n1
  · show xup _ a _ (a + 2) = _
    rw [xup_n (by omega), xup_n (by omega)]
    exact xup_s
  · show xup _ a _ (a + 3) = _
    rw [xup_n (by omega)]
    exact xup_s
  · exact s1.trans (((xsame.up (c := a + 2) (by omega) rfl).trans (xsame.up (c := a + 3) (by omega) rfl)).trans (xsame.up (c := a) (by omega) rfl))
end XMACH

