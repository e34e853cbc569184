/-! ===== the class's Machine ===== -/
/-- the Machine at a, its three rows behind it -/
def xMach (a dep eff : Nat) (hol : Int32) (vals tg sm : Nat → Int32) (h : xH) : Prop :=
  h a = some (.inr (5, [.ref (a + 1), .ref (a + 2), .ref (a + 3), .int (nI dep), .int (nI eff), .int hol])) ∧ h (a + 1) = some (.inl (0, 16, .inl vals)) ∧ h (a + 2) = some (.inl (0, 8, .inl tg)) ∧ h (a + 3) = some (.inl (0, 8, .inl sm))
/-- nothing but the cells from a to b has changed -/
def xsame (a b : Nat) (h h' : xH) : Prop := ∀ q, (q < a ∨ b < q) → h' q = h q
theorem xsame.refl {a b : Nat} {h : xH} : xsame a b h h := fun _ _ => rfl
theorem xsame.trans {a b : Nat} {h h1 h2 : xH} (x : xsame a b h h1) (y : xsame a b h1 h2) : xsame a b h h2 := fun q hq => (y q hq).trans (x q hq)
theorem xsame.up {a b c : Nat} {e : xE} {h h' : xH} (hc : a ≤ c ∧ c ≤ b) (he : h' = xup h c e) : xsame a b h h' := fun q hq => by
  rw [he]
  exact xup_n (by omega)
section XMACH
variable {G : xG} {d : Nat} {h : xH} {nx sl : Nat}
theorem c_push {a dep eff : Nat} {hol v : Int32} {vals tg sm : Nat → Int32} (hM : xMach a dep eff hol vals tg sm h) (hd : dep < 16) : ∃ h', xRun G d 53 (0, [some (.ref a), some (.int v)], [], (h, nx, sl)) (none, (h', nx, sl)) ∧ xMach a (dep + 1) eff hol (upd vals dep v) tg sm h' ∧ xsame a (a + 3) h h' := by
  obtain ⟨m0, m1, m2, m3⟩ := hM
  let h1 : xH := xup h (a + 1) (.inl (0, 16, .inl (upd vals dep v)))
  let h2 : xH := xup h1 a (.inr (5, [.ref (a + 1), .ref (a + 2), .ref (a + 3), .int (nI (dep + 1)), .int (nI eff), .int hol]))
  refine ⟨h2, ?_, ⟨xup_s, ?_, ?_, ?_⟩, ?_⟩
  · refine xr_go i53_0 rfl ?_
    refine xr_get i53_1 xf53_19 (by assumption) rfl rfl ?_
    refine xr_go i53_4 rfl ?_
    refine xr_icmp_geF i53_6 (t := 29) (by decide) (nI_ge (a := dep) (b := 16) (by omega) (by omega)) ?_
    refine xr_go i53_9 rfl ?_
    refine xr_get i53_10 xf53_9 (by assumption) rfl rfl ?_
    refine xr_go i53_13 rfl ?_
    refine xr_get i53_14 xf53_19 (by assumption) rfl rfl ?_
    refine xr_go i53_17 rfl ?_
    refine xr_iast i53_18 (by assumption) rfl (by omega) (by omega) (fun g1 eg1 => ?_)
    have n0 : g1 a = some (.inr (5, [.ref (a + 1), .ref (a + 2), .ref (a + 3), .int (nI dep), .int (nI eff), .int hol])) := by rw [eg1, xup_n (by omega)]; exact m0
    refine xr_go i53_19 rfl ?_
    refine xr_go i53_20 rfl ?_
    refine xr_get i53_21 xf53_19 (by assumption) rfl rfl ?_
    refine xr_go i53_24 rfl ?_
    refine xr_go i53_25 rfl ?_
    refine xr_put i53_26 xf53_19 (by assumption) ⟨rfl, Nat.le_of_ble_eq_true rfl, rfl, rfl, Or.inl rfl⟩ (fun g2 eg2 => ?_)
    have hg : g2 = h2 := by
      rw [eg2, eg1]
      show xup h1 a (.inr (5, [.ref (a + 1), .ref (a + 2), .ref (a + 3), .int (nI dep + 1), .int (nI eff), .int hol])) = _
      rw [nI_1]
    rw [hg]
    exact xr_end i53_29 rfl
  · show xup h1 a _ (a + 1) = _
    rw [xup_n (by omega)]
    exact xup_s
  · show xup h1 a _ (a + 2) = _
    rw [xup_n (by omega)]
    show xup h (a + 1) _ (a + 2) = _
    rw [xup_n (by omega)]
    exact m2
  · show xup h1 a _ (a + 3) = _
    rw [xup_n (by omega)]
    show xup h (a + 1) _ (a + 3) = _
    rw [xup_n (by omega)]
    exact m3
  · exact (xsame.up (by omega) (rfl : h1 = _)).trans (xsame.up (by omega) (rfl : h2 = _))
end XMACH

