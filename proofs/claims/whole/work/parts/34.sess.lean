/-! ===== the class: sessions, the tape ===== -/
theorem xoth.trans {B nx : Nat} {h h1 h2 : xH} (a : xoth B nx h h1) (b : xoth B nx h1 h2) : xoth B nx h h2 := fun q g1 g2 g3 => by
  have e := a q g1 g2 g3
  rw [← e]
  exact b q g1 g2 (fun fs => by rw [e]; exact g3 fs)
theorem xatl_a {tak : Nat} {sv sp kno vec g : Nat → Nat} {f : Nat → Int32} (h1 : ∀ k, k < 5 → f k = nI (g k) ∧ g k < 2 ^ 31) (h2 : ∀ k, k < 5 → vec k = xvm sv sp kno k tak ∧ vec k < 2 ^ 31) : xatl (fun j => nI (vec j)) f 5 = aAtl tak sv sp kno g := by
  rw [Bool.eq_iff_iff, xatl_iff, aAtl_iff]
  constructor
  · intro z k hk
    have := z k hk
    rw [(h1 k hk).1, nI_leI (h1 k hk).2 (h2 k hk).2, (h2 k hk).1] at this
    exact this
  · intro z k hk
    rw [(h1 k hk).1, nI_leI (h1 k hk).2 (h2 k hk).2, (h2 k hk).1]
    exact z k hk
/-- bytes of an int, the first one highest -/
def abyte (x : Int32) (i : Nat) : Nat := (x.toBitVec.toNat / 2 ^ (24 - 8 * i)) % 256
theorem abyte_lt {x : Int32} {i : Nat} : abyte x i < 256 := Nat.mod_lt _ (by omega)
theorem abyte_eq {x : Int32} {i : Nat} (hi : i < 4) : xbyte x (nI (24 - 8 * i)) = nI (abyte x i) := by
  have key : ∀ s : Nat, s < 32 → xbyte x (nI s) = nI ((x.toBitVec.toNat / 2 ^ s) % 256) := by
    intro s hs
    unfold xbyte
    apply Int32.toBitVec_inj.mp
    apply BitVec.eq_of_toNat_eq
    have e1 : ((nI s).toUInt32 &&& Int32.toUInt32 31) = UInt32.ofNat s := by
      have : ∀ k : Fin 32, ((nI k.val).toUInt32 &&& Int32.toUInt32 31) = UInt32.ofNat k.val := by decide
      exact this ⟨s, hs⟩
    rw [e1]
    have e2 : ((x.toUInt32 >>> UInt32.ofNat s).toInt32 &&& 255 : Int32).toBitVec.toNat = (x.toBitVec.toNat >>> s) &&& 255 := by
      have : ((x.toUInt32 >>> UInt32.ofNat s).toInt32 &&& 255 : Int32).toBitVec = (x.toUInt32 >>> UInt32.ofNat s).toBitVec &&& 255#32 := rfl
      rw [this, BitVec.toNat_and]
      congr 1
      show (x.toUInt32 >>> UInt32.ofNat s).toNat = _
      rw [UInt32.toNat_shiftRight]
      have e3 : (UInt32.ofNat s).toNat % 32 = s := by
        show (s % 2 ^ 32) % 32 = s
        omega
      rw [e3]
      rfl
    rw [e2, Nat.shiftRight_eq_div_pow]
    show _ &&& (2 ^ 8 - 1) = _
    rw [Nat.and_two_pow_sub_one_eq_mod]
    show _ = (BitVec.ofNat 32 _).toNat
    rw [BitVec.toNat_ofNat]
    omega
  exact key _ (by omega)
def bAdd (tb : Nat → Nat) (n : Nat) (x : Int32) : Nat → Nat := fun k => if n ≤ k ∧ k < n + 4 then abyte x (k - n) else tb k
def bFeed (tn : Nat) (tb : Nat → Nat) (a b c d e : Int32) : Nat → Nat := if 380 < tn then tb else bAdd (bAdd (bAdd (bAdd (bAdd tb tn a) (tn + 4) b) (tn + 8) c) (tn + 12) d) (tn + 16) e
def aFeed (tn : Nat) : Int32 := if 380 < tn then -3 else nI (tn + 20)
def nFeed (tn : Nat) : Nat := if 380 < tn then tn else tn + 20
def aEnd (tn : Nat) (x : Int32) : Int32 := if xrng (tn + 1) x = true then x else -1
def nEnd (tn : Nat) (x : Int32) : Nat := if xrng (tn + 1) x = true then aN x else tn
section XSESS
variable {G : xG} {d : Nat} {h h' : xH} {sl : Nat} {B nx tak cmt : Nat} {sv sp pl cm : Nat → Nat} {pg : Nat → List (Nat × Int32)} {clk com fog : Nat → Nat} {kno : Nat → Nat → Nat} {bit : Nat → Nat} {rd wr : Nat → Nat → Nat} {lat : Option (List (Nat × Int32))} {tn : Nat} {tb : Nat → Nat}
theorem t_addInt (x : Int32) (hT : xTp B tn tb h) (hn : tn + 4 ≤ 400) : ∃ h', xRun G d 21 (0, [some (.ref (B + 1)), some (.int x), none], [], (h, nx, sl)) (none, (h', nx, sl)) ∧ xTp B (tn + 4) (bAdd tb tn x) h' ∧ xsame (B + 1) (B + 2) h h' := by
  obtain ⟨f, h1, h2, h3, h4⟩ := hT
  obtain ⟨h', r, g1, g2, g3⟩ := s_addInt (G := G) (d := d) (nx := nx) (sl := sl) x h1 h2 hn
  refine ⟨h', r, ⟨_, g1, g2, hn, fun j hj => ?_⟩, g3⟩
  unfold bAdd xfour upd
  by_cases hlt : j < tn
  · rw [if_neg (by omega), if_neg (by omega), if_neg (by omega), if_neg (by omega), if_neg (by omega)]
    exact h4 j hlt
  · have e : (if tn ≤ j ∧ j < tn + 4 then abyte x (j - tn) else tb j) = abyte x (j - tn) := if_pos (by omega)
    rw [e]
    refine ⟨?_, abyte_lt⟩
    have h5 : j = tn ∨ j = tn + 1 ∨ j = tn + 2 ∨ j = tn + 3 := by omega
    rcases h5 with rfl | rfl | rfl | rfl
    · rw [if_neg (by omega), if_neg (by omega), if_neg (by omega), if_pos rfl, Nat.sub_self]
      exact abyte_eq (i := 0) (by omega)
    · rw [if_neg (by omega), if_neg (by omega), if_pos rfl, Nat.add_sub_cancel_left]
      exact abyte_eq (i := 1) (by omega)
    · rw [if_neg (by omega), if_pos rfl, Nat.add_sub_cancel_left]
      exact abyte_eq (i := 2) (by omega)
    · rw [if_pos rfl, Nat.add_sub_cancel_left]
      exact abyte_eq (i := 3) (by omega)
/-- only the tape changed -/
theorem xDS_tape {tn' : Nat} {tb' : Nat → Nat} (hD : xDS B nx tak cmt sv sp pl cm pg clk com fog kno bit rd wr lat tn tb h) (hT : xTp B tn' tb' h') (sm : xsame (B + 1) (B + 2) h h') : xDS B nx tak cmt sv sp pl cm pg clk com fog kno bit rd wr lat tn' tb' h' := by
  obtain ⟨lv, wad, pad, psa, poa, h1, h2, h3, h4, h5, h6, h7, h8, ⟨b, e, t, h9⟩, h10, h11, h12, h13⟩ := hD
  exact ⟨lv, wad, pad, psa, poa, xTop_kept h1 (sm _ (by omega)) (sm _ (by omega)) (sm _ (by omega)), xLat_kept h2 (Nat.le_refl _) (fun q g1 g2 _ => sm q (by omega)), hT, xCo_kept h4 (fun q g1 g2 => sm _ (by omega)), xHist_kept h5 (fun q hq => sm q (by omega)), h6, h7, h8, ⟨b, e, t, xMS_kept h9 (fun q g1 g2 => sm q (by omega))⟩, fun k hk => xSI_kept (h10 k hk) (fun q g1 g2 => sm q (by omega)), fun k hk => xSe_kept (h11 k hk) (fun q g1 g2 => sm q (by omega)), h12, h13⟩
theorem D_feed (hD : xDS B nx tak cmt sv sp pl cm pg clk com fog kno bit rd wr lat tn tb h) (a b c d1 e : Int32) (hd : 1 ≤ d) : ∃ h', xRun G d 1 (0, [some (.ref B), some (.int a), some (.int b), some (.int c), some (.int d1), some (.int e)], [], (h, nx, sl)) (some (.int (aFeed tn)), (h', nx, sl)) ∧ xDS B nx tak cmt sv sp pl cm pg clk com fog kno bit rd wr lat (nFeed tn) (bFeed tn tb a b c d1 e) h' ∧ xoth B nx h h' := by
  have hD0 := hD
  obtain ⟨lv, wad, pad, psa, poa, ⟨t1, t2⟩, h2, h3, -⟩ := hD
  unfold aFeed nFeed bFeed
  have h30 := h3
  obtain ⟨f, f1, f2, f3, f4⟩ := h3
  by_cases hn : 380 < tn
  · rw [if_pos hn, if_pos hn, if_pos hn]
    refine ⟨h, ?_, hD0, xoth.refl⟩
    refine xr_go i1_0 rfl ?_
    refine xr_get i1_1 xf1_12 (by assumption) rfl rfl ?_
    refine xr_get i1_4 xf1_55 (by assumption) rfl rfl ?_
    refine xr_go i1_7 rfl ?_
    refine xr_icmp_leF i1_10 (t := 16) (by decide) (show ¬ nI tn ≤ nI 380 from nI_ge hn (by omega)) ?_
    refine xr_go i1_13 rfl ?_
    exact xr_iret i1_15 xt_1 rfl
  · rw [if_neg hn, if_neg hn, if_neg hn]
    obtain ⟨g1, r1, p1, s1⟩ := t_addInt (G := G) (d := d - 1) (nx := nx) (sl := sl) a h30 (by omega)
    obtain ⟨g2, r2, p2, s2⟩ := t_addInt (G := G) (d := d - 1) (nx := nx) (sl := sl) b p1 (by omega)
    obtain ⟨g3, r3, p3, s3⟩ := t_addInt (G := G) (d := d - 1) (nx := nx) (sl := sl) c p2 (by omega)
    obtain ⟨g4, r4, p4, s4⟩ := t_addInt (G := G) (d := d - 1) (nx := nx) (sl := sl) d1 p3 (by omega)
    obtain ⟨g5, r5, p5, s5⟩ := t_addInt (G := G) (d := d - 1) (nx := nx) (sl := sl) e p4 (by omega)
    have sm : xsame (B + 1) (B + 2) h g5 := ((((s1.trans s2).trans s3).trans s4).trans s5)
    refine ⟨g5, ?_, xDS_tape hD0 p5 sm, sm.oth (by omega)⟩
    have u1 := (s1 B (by omega)).trans t1
    have u2 := (s2 B (by omega)).trans u1
    have u3 := (s3 B (by omega)).trans u2
    have u4 := (s4 B (by omega)).trans u3
    have u5 := (s5 B (by omega)).trans u4
    obtain ⟨_, v1, -⟩ := p1
    obtain ⟨_, v2, -⟩ := p2
    obtain ⟨_, v3, -⟩ := p3
    obtain ⟨_, v4, -⟩ := p4
    obtain ⟨_, v5, -⟩ := p5
    refine xr_go i1_0 rfl ?_
    refine xr_get i1_1 xf1_12 (by assumption) rfl rfl ?_
    refine xr_get i1_4 xf1_55 (by assumption) rfl rfl ?_
    refine xr_go i1_7 rfl ?_
    refine xr_icmp_leT i1_10 (t := 16) (by decide) (show nI tn ≤ nI 380 from nI_le (by omega) (by omega)) ?_
    refine xr_go i1_16 rfl ?_
    refine xr_get i1_17 xf1_12 (by assumption) rfl rfl ?_
    refine xr_go i1_20 rfl ?_
    refine xr_V i1_21 xc1_59 ⟨rfl, rfl⟩ xa_21 rfl (by assumption) rfl (Nat.le_of_ble_eq_true rfl) (by omega) ⟨Nat.le_of_ble_eq_true rfl, Nat.le_of_ble_eq_true rfl⟩ (r1) ?_
    refine xr_go i1_24 rfl ?_
    refine xr_get i1_25 xf1_12 (by assumption) rfl rfl ?_
    refine xr_go i1_28 rfl ?_
    refine xr_V i1_29 xc1_59 ⟨rfl, rfl⟩ xa_21 rfl (by assumption) rfl (Nat.le_of_ble_eq_true rfl) (by omega) ⟨Nat.le_of_ble_eq_true rfl, Nat.le_of_ble_eq_true rfl⟩ (r2) ?_
    refine xr_go i1_32 rfl ?_
    refine xr_get i1_33 xf1_12 (by assumption) rfl rfl ?_
    refine xr_go i1_36 rfl ?_
    refine xr_V i1_37 xc1_59 ⟨rfl, rfl⟩ xa_21 rfl (by assumption) rfl (Nat.le_of_ble_eq_true rfl) (by omega) ⟨Nat.le_of_ble_eq_true rfl, Nat.le_of_ble_eq_true rfl⟩ (r3) ?_
    refine xr_go i1_40 rfl ?_
    refine xr_get i1_41 xf1_12 (by assumption) rfl rfl ?_
    refine xr_go i1_44 rfl ?_
    refine xr_V i1_46 xc1_59 ⟨rfl, rfl⟩ xa_21 rfl (by assumption) rfl (Nat.le_of_ble_eq_true rfl) (by omega) ⟨Nat.le_of_ble_eq_true rfl, Nat.le_of_ble_eq_true rfl⟩ (r4) ?_
    refine xr_go i1_49 rfl ?_
    refine xr_get i1_50 xf1_12 (by assumption) rfl rfl ?_
    refine xr_go i1_53 rfl ?_
    refine xr_V i1_55 xc1_59 ⟨rfl, rfl⟩ xa_21 rfl (by assumption) rfl (Nat.le_of_ble_eq_true rfl) (by omega) ⟨Nat.le_of_ble_eq_true rfl, Nat.le_of_ble_eq_true rfl⟩ (r5) ?_
    refine xr_go i1_58 rfl ?_
    refine xr_get i1_59 xf1_12 (by assumption) rfl rfl ?_
    refine xr_get i1_62 xf1_55 (by assumption) rfl rfl ?_
    exact xr_iret i1_65 xt_1 rfl
theorem D_end (hD : xDS B nx tak cmt sv sp pl cm pg clk com fog kno bit rd wr lat tn tb h) (x : Int32) : ∃ h', xRun G d 2 (0, [some (.ref B), some (.int x)], [], (h, nx, sl)) (some (.int (aEnd tn x)), (h', nx, sl)) ∧ xDS B nx tak cmt sv sp pl cm pg clk com fog kno bit rd wr lat (nEnd tn x) tb h' ∧ xoth B nx h h' := by
  have hD0 := hD
  obtain ⟨lv, wad, pad, psa, poa, ⟨t1, t2⟩, h2, h3, -⟩ := hD
  unfold aEnd nEnd
  obtain ⟨f, f1, f2, f3, f4⟩ := h3
  by_cases hx : xrng (tn + 1) x = true
  · rw [if_pos hx, if_pos hx]
    obtain ⟨n, hn, rfl⟩ := xrng_of (by omega) hx
    rw [aN_nI (by omega)]
    let h' : xH := xup h (B + 1) (.inr (1, [.ref (B + 2), .int (nI n)]))
    have sm : xsame (B + 1) (B + 2) h h' := fun q hq => xup_n (by omega)
    refine ⟨h', ?_, xDS_tape hD0 ⟨f, xup_s, (xup_n (by omega)).trans f2, by omega, fun j hj => f4 j (by omega)⟩ sm, sm.oth (by omega)⟩
    refine xr_go i2_0 rfl ?_
    refine xr_if_ltF i2_1 (t := 15) (by decide) (nI_pos (by omega)) ?_
    refine xr_go i2_4 rfl ?_
    refine xr_go i2_5 rfl ?_
    refine xr_get i2_6 xf2_12 (by assumption) rfl rfl ?_
    refine xr_get i2_9 xf2_55 (by assumption) rfl rfl ?_
    refine xr_icmp_leT i2_12 (t := 17) (by decide) (nI_le (by omega) (by omega)) ?_
    refine xr_go i2_17 rfl ?_
    refine xr_get i2_18 xf2_12 (by assumption) rfl rfl ?_
    refine xr_go i2_21 rfl ?_
    refine xr_put i2_22 xf2_55 (by assumption) ⟨rfl, Nat.le_of_ble_eq_true rfl, rfl, rfl, Or.inl rfl⟩ (fun g1 eg1 => ?_)
    have eg : g1 = h' := eg1
    rw [eg]
    refine xr_go i2_25 rfl ?_
    exact xr_iret i2_26 xt_2 rfl
  · rw [if_neg hx, if_neg hx]
    refine ⟨h, ?_, hD0, xoth.refl⟩
    have tail : xRun G d 2 (15, [some (.ref B), some (.int x)], [], (h, nx, sl)) (some (.int (-1)), (h, nx, sl)) := by
      refine xr_go i2_15 rfl ?_
      exact xr_iret i2_16 xt_2 rfl
    refine xr_go i2_0 rfl ?_
    refine xr_if_lt i2_1 (t := 15) (by decide) (fun hc => ?_) (fun hc => ?_)
    · exact tail
    · refine xr_go i2_4 rfl ?_
      refine xr_go i2_5 rfl ?_
      refine xr_get i2_6 xf2_12 (by assumption) rfl rfl ?_
      refine xr_get i2_9 xf2_55 (by assumption) rfl rfl ?_
      refine xr_icmp_leF i2_12 (t := 17) (by decide) (fun z => hx ?_) tail
      unfold xrng
      obtain ⟨j, hj, rfl⟩ := nI_of hc
      have := (nI_leI hj (by omega)).mp z
      rw [decide_eq_true (nI_pos' hj), decide_eq_true (nI_lt (by omega) (by omega))]
      rfl
theorem D_assure (hD : xDS B nx tak cmt sv sp pl cm pg clk com fog kno bit rd wr lat tn tb h) (x y z : Int32) (hd : 2 ≤ d) : ∃ h', xRun G d 9 (0, [some (.ref B), some (.int x), some (.int y), some (.int z), none, none], [], (h, nx, sl)) (some (.int (aAssure bit x y)), (h', nx, sl)) ∧ xDS B nx tak cmt sv sp pl cm pg clk com fog kno (bAssure bit x y) (bClear rd x y z) (bClear wr x y z) lat tn tb h' ∧ xoth B nx h h' := by
  have hD0 := hD
  obtain ⟨lv, wad, pad, psa, poa, ⟨t1, ⟨sf, t2, t3⟩, ⟨ef, t4, t5⟩⟩, h2, h3, h4, h5, h6, h7, h8, ⟨bb, ee, tt, h9⟩, h10, h11, h12, h13⟩ := hD
  unfold aAssure bAssure bClear
  have tail : xRun G d 9 (14, [some (.ref B), some (.int x), some (.int y), some (.int z), none, none], [], (h, nx, sl)) (some (.int (-1)), (h, nx, sl)) := by
    refine xr_go i9_14 rfl ?_
    exact xr_iret i9_15 xt_9 rfl
  by_cases hx : xrng 8 x = true
  · by_cases hy : xrng 16 y = true
    · rw [if_pos ⟨hx, hy⟩, if_pos ⟨hx, hy⟩]
      have hy2 := xand16.mpr hy
      obtain ⟨s, hs, rfl⟩ := xrng_of (by omega) hx
      obtain ⟨n, hn, rfl⟩ := xrng_of (by omega) hy
      rw [aN_nI (by omega), aN_nI (by omega)]
      have t6 := t5 s hs
      obtain ⟨fr, fw, g1, g2, g3, g4, g5⟩ := h11 s hs
      let k1 : xH := xup h (B + 54 + 3 * s) (.inr (7, [.ref (B + 54 + 3 * s + 1), .ref (B + 54 + 3 * s + 2), .int (nI n)]))
      by_cases hz : z = 0
      · rw [if_neg (fun e => e.2.2 hz), if_neg (fun e => e.2.2 hz)]
        have sm : xsame (B + 54 + 3 * s) (B + 56 + 3 * s) h k1 := fun q hq => xup_n (by omega)
        have hr := xDS_ses hD0 hs sm (bit' := n) (rd' := rd s) (wr' := wr s) ⟨fr, fw, xup_s, (xup_n (by omega)).trans g2, (xup_n (by omega)).trans g3, hn, g5⟩
        rw [vu_id, vu_id] at hr
        refine ⟨k1, ?_, hr, sm.oth (by omega)⟩
        refine xr_go i9_0 rfl ?_
        refine xr_S i9_1 xc9_75 ⟨by first | exact Or.inl rfl | exact Or.inr rfl, rfl⟩ xa_7 (Nat.le_of_ble_eq_true rfl) (Nat.le_of_ble_eq_true rfl) (by omega) ⟨Nat.le_of_ble_eq_true rfl, Nat.le_of_ble_eq_true rfl⟩ (s_isSession (nI s)) ?_
        refine xr_if_eqF i9_4 (t := 14) (by decide) (xbi_1 hx) ?_
        refine xr_go i9_7 rfl ?_
        refine xr_go i9_8 rfl ?_
        refine xr_go i9_10 rfl ?_
        refine xr_if_eqT i9_11 (t := 16) (by decide) (show nI n &&& -16 = 0 from hy2) ?_
        refine xr_go i9_16 rfl ?_
        refine xr_get i9_17 xf9_46 (by assumption) rfl rfl ?_
        refine xr_go i9_20 rfl ?_
        refine xr_aald i9_21 (by assumption) (by decide) rfl (by omega) (by omega) (by assumption) ?_
        refine xr_go i9_22 rfl ?_
        refine xr_go i9_24 rfl ?_
        refine xr_get i9_26 xf9_129 (by assumption) rfl rfl ?_
        refine xr_go i9_29 rfl ?_
        refine xr_go i9_31 rfl ?_
        refine xr_go i9_33 rfl ?_
        refine xr_put i9_34 xf9_129 (by assumption) ⟨rfl, Nat.le_of_ble_eq_true rfl, rfl, rfl, Or.inl rfl⟩ (fun k2 ek2 => ?_)
        have ek : k2 = k1 := ek2
        rw [ek]
        refine xr_go i9_37 rfl ?_
        refine xr_if_eqT i9_38 (t := 46) (by decide) hz ?_
        refine xr_go i9_46 rfl ?_
        exact xr_iret i9_48 xt_9 rfl
      · rw [if_pos ⟨hx, hy, hz⟩, if_pos ⟨hx, hy, hz⟩]
        let k3 : xH := xup (xup k1 (B + 54 + 3 * s + 1) (.inl (0, 5, .inl (xfill fr 5 0)))) (B + 54 + 3 * s + 2) (.inl (0, 5, .inl (xfill fw 5 0)))
        have u0 : k1 (B + 54 + 3 * s) = some (.inr (7, [.ref (B + 54 + 3 * s + 1), .ref (B + 54 + 3 * s + 2), .int (nI n)])) := xup_s
        have u1 : k1 (B + 54 + 3 * s + 1) = some (.inl (0, 5, .inl fr)) := (xup_n (by omega)).trans g2
        have u2 : k1 (B + 54 + 3 * s + 2) = some (.inl (0, 5, .inl fw)) := (xup_n (by omega)).trans g3
        have r1 := s_clear (G := G) (d := d - 1) (nx := nx) (sl := sl) u0 u1 u2 ⟨by omega, by omega⟩ (by omega)
        have sm : xsame (B + 54 + 3 * s) (B + 56 + 3 * s) h k3 := fun q hq => (xup_n (by omega)).trans ((xup_n (by omega)).trans (xup_n (by omega)))
        have hr := xDS_ses hD0 hs sm (bit' := n) (rd' := fun _ => 0) (wr' := fun _ => 0) ⟨xfill fr 5 0, xfill fw 5 0, (xup_n (by omega)).trans ((xup_n (by omega)).trans xup_s), (xup_n (by omega)).trans xup_s, xup_s, hn, fun k hk => ?_⟩
        · refine ⟨k3, ?_, hr, sm.oth (by omega)⟩
          refine xr_go i9_0 rfl ?_
          refine xr_S i9_1 xc9_75 ⟨by first | exact Or.inl rfl | exact Or.inr rfl, rfl⟩ xa_7 (Nat.le_of_ble_eq_true rfl) (Nat.le_of_ble_eq_true rfl) (by omega) ⟨Nat.le_of_ble_eq_true rfl, Nat.le_of_ble_eq_true rfl⟩ (s_isSession (nI s)) ?_
          refine xr_if_eqF i9_4 (t := 14) (by decide) (xbi_1 hx) ?_
          refine xr_go i9_7 rfl ?_
          refine xr_go i9_8 rfl ?_
          refine xr_go i9_10 rfl ?_
          refine xr_if_eqT i9_11 (t := 16) (by decide) (show nI n &&& -16 = 0 from hy2) ?_
          refine xr_go i9_16 rfl ?_
          refine xr_get i9_17 xf9_46 (by assumption) rfl rfl ?_
          refine xr_go i9_20 rfl ?_
          refine xr_aald i9_21 (by assumption) (by decide) rfl (by omega) (by omega) (by assumption) ?_
          refine xr_go i9_22 rfl ?_
          refine xr_go i9_24 rfl ?_
          refine xr_get i9_26 xf9_129 (by assumption) rfl rfl ?_
          refine xr_go i9_29 rfl ?_
          refine xr_go i9_31 rfl ?_
          refine xr_go i9_33 rfl ?_
          refine xr_put i9_34 xf9_129 (by assumption) ⟨rfl, Nat.le_of_ble_eq_true rfl, rfl, rfl, Or.inl rfl⟩ (fun k2 ek2 => ?_)
          have ek : k2 = k1 := ek2
          rw [ek]
          refine xr_go i9_37 rfl ?_
          refine xr_if_eqF i9_38 (t := 46) (by decide) hz ?_
          refine xr_go i9_41 rfl ?_
          refine xr_V i9_43 xc9_132 ⟨rfl, rfl⟩ xa_75 rfl (by assumption) rfl (Nat.le_of_ble_eq_true rfl) (by omega) ⟨Nat.le_of_ble_eq_true rfl, Nat.le_of_ble_eq_true rfl⟩ (r1) ?_
          refine xr_go i9_46 rfl ?_
          exact xr_iret i9_48 xt_9 rfl
        · unfold xfill
          rw [if_pos hk, if_pos hk]
          exact ⟨rfl, rfl, Nat.two_pow_pos 31, Nat.two_pow_pos 31⟩
    · rw [if_neg (fun e => hy e.2), if_neg (fun e => hy e.2), if_neg (fun e => hy e.2.1), if_neg (fun e => hy e.2.1)]
      refine ⟨h, ?_, hD0, xoth.refl⟩
      refine xr_go i9_0 rfl ?_
      refine xr_S i9_1 xc9_75 ⟨by first | exact Or.inl rfl | exact Or.inr rfl, rfl⟩ xa_7 (Nat.le_of_ble_eq_true rfl) (Nat.le_of_ble_eq_true rfl) (by omega) ⟨Nat.le_of_ble_eq_true rfl, Nat.le_of_ble_eq_true rfl⟩ (s_isSession x) ?_
      refine xr_if_eqF i9_4 (t := 14) (by decide) (xbi_1 hx) ?_
      refine xr_go i9_7 rfl ?_
      refine xr_go i9_8 rfl ?_
      refine xr_go i9_10 rfl ?_
      refine xr_if_eqF i9_11 (t := 16) (by decide) (show ¬ y &&& -16 = 0 from fun e => hy (xand16.mp e)) ?_
      exact tail
  · rw [if_neg (fun e => hx e.1), if_neg (fun e => hx e.1), if_neg (fun e => hx e.1), if_neg (fun e => hx e.1)]
    refine ⟨h, ?_, hD0, xoth.refl⟩
    refine xr_go i9_0 rfl ?_
    refine xr_S i9_1 xc9_75 ⟨by first | exact Or.inl rfl | exact Or.inr rfl, rfl⟩ xa_7 (Nat.le_of_ble_eq_true rfl) (Nat.le_of_ble_eq_true rfl) (by omega) ⟨Nat.le_of_ble_eq_true rfl, Nat.le_of_ble_eq_true rfl⟩ (s_isSession x) ?_
    refine xr_if_eqT i9_4 (t := 14) (by decide) (xbi_f (by simpa using hx)) ?_
    exact tail
theorem D_read (hD : xDS B nx tak cmt sv sp pl cm pg clk com fog kno bit rd wr lat tn tb h) (x y c b : Int32) (hd : 6 ≤ d) : ∃ h', xRun G d 8 (0, [some (.ref B), some (.int x), some (.int y), some (.int c), some (.int b), none, none], [], (h, nx, sl)) (some (.long (aRead tak sv sp cm pg com kno bit rd wr x y c b)), (h', nx, sl)) ∧ xDS B nx tak cmt sv sp pl cm pg clk com fog kno bit (bRead tak sv sp kno bit rd wr x y c) wr lat tn tb h' ∧ xoth B nx h h' := by
  have hD0 := hD
  obtain ⟨lv, wad, pad, psa, poa, ⟨t1, ⟨sf, t2, t3⟩, ⟨ef, t4, t5⟩⟩, h2, h3, h4, h5, h6, h7, h8, ⟨bb, ee, tt, h9⟩, h10, h11, h12, h13⟩ := hD
  unfold aRead bRead
  have tail : xRun G d 8 (21, [some (.ref B), some (.int x), some (.int y), some (.int c), some (.int b), none, none], [], (h, nx, sl)) (some (.long 1099511627776), (h, nx, sl)) := by
    refine xr_ldc2 i8_21 xl8_114 rfl ?_
    exact xr_lret i8_24 xt_8
  by_cases hx : xrng 5 x = true
  · by_cases hy : xrng 8 y = true
    · by_cases hc : xrng 32 c = true
      · rw [if_pos ⟨hx, hy, hc⟩]
        obtain ⟨s, hs, rfl⟩ := xrng_of (by omega) hx
        obtain ⟨j, hj, rfl⟩ := xrng_of (by omega) hy
        obtain ⟨k, hk, rfl⟩ := xrng_of (by omega) hc
        rw [aN_nI (by omega), aN_nI (by omega), aN_nI (by omega)]
        have t6 := t3 s hs
        have t7 := t5 j hj
        obtain ⟨fr, fw, g1, g2, g3, g4, g5⟩ := h11 j hj
        have hS0 := h10 s hs
        obtain ⟨don, vec, tl, cc, ce, oc, ⟨tN, ⟨s0, s1, s2, s3, s4, s5, s6⟩, htN⟩, hT, k1, k2, k3, k4, k5, k6, k7, k8, -⟩ := hS0
        unfold xSvF at s0
        dsimp only at s0 s1 s2 s3 s4 s5 s6
        have hvec : ∀ k, k < 5 → vec k = xvm sv sp (kno s) k tak ∧ vec k < 2 ^ 31 := fun k hk => ⟨xvm_eq k2 (k8 k hk).2.1 (k8 k hk).2.2, (k8 k hk).1⟩
        have hmay : aMay tak sv sp (kno s) (bit j) 1 2 (wr j) (rd j) = ((!decide (¬ nI (bit j) &&& 1 = 0) || xatl (fun j => nI (vec j)) fw 5) && (!decide (¬ nI (bit j) &&& 2 = 0) || xatl (fun j => nI (vec j)) fr 5)) := by
          unfold aMay
          rw [xatl_a (g := wr j) (fun k hk => ⟨(g5 k hk).2.1, (g5 k hk).2.2.2⟩) hvec, xatl_a (g := rd j) (fun k hk => ⟨(g5 k hk).1, (g5 k hk).2.2.1⟩) hvec]
        have rm := s_mayRead (G := G) (d := d - 1) (nx := nx) (sl := sl) g1 s0 g2 g3 s1 (by omega)
        rw [← hmay] at rm
        by_cases hm : aMay tak sv sp (kno s) (bit j) 1 2 (wr j) (rd j) = true
        · rw [if_pos hm, if_pos ⟨hx, hy, hc, hm⟩]
          have rh := s_hasRead (G := G) (d := d - 1) (nx := nx) (sl := sl) g1 s0 g2 s1 ⟨by omega, by omega, by omega⟩ (by omega)
          let p1 : xH := xup h (B + 54 + 3 * j + 1) (.inl (0, 5, .inl (xmaxs fr (fun j => nI (vec j)) 5)))
          have sm : xsame (B + 54 + 3 * j) (B + 56 + 3 * j) h p1 := fun q hq => xup_n (by omega)
          have hr := xDS_ses hD0 hj sm (bit' := bit j) (rd' := fun k => max (rd j k) (xvm sv sp (kno s) k tak)) (wr' := wr j) ⟨xmaxs fr (fun j => nI (vec j)) 5, fw, (xup_n (by omega)).trans g1, xup_s, (xup_n (by omega)).trans g3, g4, fun k hk => ?_⟩
          · rw [vu_id, vu_id] at hr
            have hr0 := hr
            obtain ⟨lv', wad', pad', psa', poa', u1, u2, u3, u4, u5, u6, u7, u8, ⟨bb', ee', tt', u9⟩, u10, u11, u12, u13⟩ := hr0
            obtain ⟨h', tl', r, hT', e1, e2, e3⟩ := q_value (G := G) (d := d - 1) (nx := nx) (sl := sl) (c := k) (b := b) u5 u7 u8 u9 (u10 s hs) (by omega) hk (by omega)
            have e : aVal tak sv sp cm pg (com s) (kno s) k b = (if b = 0 then xruns sv sp pg xz (xord cm (com s) tl') k else xruns sv sp pg xz (xcms cm (com s)) k) := by
              unfold aVal
              rw [xLs_eq hT']
              split <;> rfl
            rw [e]
            refine ⟨h', ?_, xDS_srv0 hr hs e3 e2 e1, (sm.oth (by omega)).trans (e3.oth (by omega))⟩
            have s0' : ∃ x, p1 (B + 18 + 7 * s) = some (.inr (6, x)) := ⟨_, (xup_n (by omega)).trans s0⟩
            obtain ⟨x0, s0'⟩ := s0'
            refine xr_go i8_0 rfl ?_
            refine xr_S i8_1 xc8_71 ⟨by first | exact Or.inl rfl | exact Or.inr rfl, rfl⟩ xa_6 (Nat.le_of_ble_eq_true rfl) (Nat.le_of_ble_eq_true rfl) (by omega) ⟨Nat.le_of_ble_eq_true rfl, Nat.le_of_ble_eq_true rfl⟩ (s_isServer (nI s)) ?_
            refine xr_if_eqF i8_4 (t := 21) (by decide) (xbi_1 hx) ?_
            refine xr_go i8_7 rfl ?_
            refine xr_S i8_8 xc8_75 ⟨by first | exact Or.inl rfl | exact Or.inr rfl, rfl⟩ xa_7 (Nat.le_of_ble_eq_true rfl) (Nat.le_of_ble_eq_true rfl) (by omega) ⟨Nat.le_of_ble_eq_true rfl, Nat.le_of_ble_eq_true rfl⟩ (s_isSession (nI j)) ?_
            refine xr_if_eqF i8_11 (t := 21) (by decide) (xbi_1 hy) ?_
            refine xr_go i8_14 rfl ?_
            refine xr_S i8_15 xc8_111 ⟨by first | exact Or.inl rfl | exact Or.inr rfl, rfl⟩ xa_4 (Nat.le_of_ble_eq_true rfl) (Nat.le_of_ble_eq_true rfl) (by omega) ⟨Nat.le_of_ble_eq_true rfl, Nat.le_of_ble_eq_true rfl⟩ (s_isCell (nI k)) ?_
            refine xr_if_neT i8_18 (t := 25) (by decide) (xbi_1 hc) ?_
            refine xr_go i8_25 rfl ?_
            refine xr_get i8_26 xf8_37 (by assumption) rfl rfl ?_
            refine xr_go i8_29 rfl ?_
            refine xr_aald i8_30 (by assumption) (by decide) rfl (by omega) (by omega) (by assumption) ?_
            refine xr_go i8_31 rfl ?_
            refine xr_go i8_33 rfl ?_
            refine xr_get i8_34 xf8_46 (by assumption) rfl rfl ?_
            refine xr_go i8_37 rfl ?_
            refine xr_aald i8_38 (by assumption) (by decide) rfl (by omega) (by omega) (by assumption) ?_
            refine xr_go i8_39 rfl ?_
            refine xr_go i8_41 rfl ?_
            refine xr_go i8_43 rfl ?_
            refine xr_V i8_45 xc8_116 ⟨rfl, rfl⟩ xa_73 rfl (by assumption) rfl (Nat.le_of_ble_eq_true rfl) (by omega) ⟨Nat.le_of_ble_eq_true rfl, Nat.le_of_ble_eq_true rfl⟩ (rm) ?_
            refine xr_if_neT i8_48 (t := 55) (by decide) (xbi_1 hm) ?_
            refine xr_go i8_55 rfl ?_
            refine xr_go i8_57 rfl ?_
            refine xr_V i8_59 xc8_121 ⟨rfl, rfl⟩ xa_74 rfl (by assumption) rfl (Nat.le_of_ble_eq_true rfl) (by omega) ⟨Nat.le_of_ble_eq_true rfl, Nat.le_of_ble_eq_true rfl⟩ (rh) ?_
            refine xr_go i8_62 rfl ?_
            refine xr_go i8_64 rfl ?_
            refine xr_go i8_65 rfl ?_
            refine xr_V i8_67 xc8_125 ⟨rfl, rfl⟩ xa_60 rfl (by assumption) rfl (Nat.le_of_ble_eq_true rfl) (by omega) ⟨Nat.le_of_ble_eq_true rfl, Nat.le_of_ble_eq_true rfl⟩ (r) ?_
            refine xr_go i8_70 rfl ?_
            exact xr_lret i8_71 xt_8
          · unfold xmaxs
            rw [if_pos hk, (g5 k hk).1]
            dsimp only
            rw [← (hvec k hk).1]
            refine ⟨nI_max (g5 k hk).2.2.1 (hvec k hk).2, (g5 k hk).2.1, ?_, (g5 k hk).2.2.2⟩
            have := (g5 k hk).2.2.1
            have := (hvec k hk).2
            show max _ _ < _
            omega
        · rw [if_neg hm, if_neg (fun e => hm e.2.2.2)]
          refine ⟨h, ?_, hD0, xoth.refl⟩
          refine xr_go i8_0 rfl ?_
          refine xr_S i8_1 xc8_71 ⟨by first | exact Or.inl rfl | exact Or.inr rfl, rfl⟩ xa_6 (Nat.le_of_ble_eq_true rfl) (Nat.le_of_ble_eq_true rfl) (by omega) ⟨Nat.le_of_ble_eq_true rfl, Nat.le_of_ble_eq_true rfl⟩ (s_isServer (nI s)) ?_
          refine xr_if_eqF i8_4 (t := 21) (by decide) (xbi_1 hx) ?_
          refine xr_go i8_7 rfl ?_
          refine xr_S i8_8 xc8_75 ⟨by first | exact Or.inl rfl | exact Or.inr rfl, rfl⟩ xa_7 (Nat.le_of_ble_eq_true rfl) (Nat.le_of_ble_eq_true rfl) (by omega) ⟨Nat.le_of_ble_eq_true rfl, Nat.le_of_ble_eq_true rfl⟩ (s_isSession (nI j)) ?_
          refine xr_if_eqF i8_11 (t := 21) (by decide) (xbi_1 hy) ?_
          refine xr_go i8_14 rfl ?_
          refine xr_S i8_15 xc8_111 ⟨by first | exact Or.inl rfl | exact Or.inr rfl, rfl⟩ xa_4 (Nat.le_of_ble_eq_true rfl) (Nat.le_of_ble_eq_true rfl) (by omega) ⟨Nat.le_of_ble_eq_true rfl, Nat.le_of_ble_eq_true rfl⟩ (s_isCell (nI k)) ?_
          refine xr_if_neT i8_18 (t := 25) (by decide) (xbi_1 hc) ?_
          refine xr_go i8_25 rfl ?_
          refine xr_get i8_26 xf8_37 (by assumption) rfl rfl ?_
          refine xr_go i8_29 rfl ?_
          refine xr_aald i8_30 (by assumption) (by decide) rfl (by omega) (by omega) (by assumption) ?_
          refine xr_go i8_31 rfl ?_
          refine xr_go i8_33 rfl ?_
          refine xr_get i8_34 xf8_46 (by assumption) rfl rfl ?_
          refine xr_go i8_37 rfl ?_
          refine xr_aald i8_38 (by assumption) (by decide) rfl (by omega) (by omega) (by assumption) ?_
          refine xr_go i8_39 rfl ?_
          refine xr_go i8_41 rfl ?_
          refine xr_go i8_43 rfl ?_
          refine xr_V i8_45 xc8_116 ⟨rfl, rfl⟩ xa_73 rfl (by assumption) rfl (Nat.le_of_ble_eq_true rfl) (by omega) ⟨Nat.le_of_ble_eq_true rfl, Nat.le_of_ble_eq_true rfl⟩ (rm) ?_
          refine xr_if_neF i8_48 (t := 55) (by decide) (by rw [Bool.not_eq_true] at hm; rw [hm]; decide) ?_
          refine xr_ldc2 i8_51 xl8_119 rfl ?_
          exact xr_lret i8_54 xt_8
      · rw [if_neg (fun e => hc e.2.2), if_neg (fun e => hc e.2.2.1)]
        refine ⟨h, ?_, hD0, xoth.refl⟩
        refine xr_go i8_0 rfl ?_
        refine xr_S i8_1 xc8_71 ⟨by first | exact Or.inl rfl | exact Or.inr rfl, rfl⟩ xa_6 (Nat.le_of_ble_eq_true rfl) (Nat.le_of_ble_eq_true rfl) (by omega) ⟨Nat.le_of_ble_eq_true rfl, Nat.le_of_ble_eq_true rfl⟩ (s_isServer x) ?_
        refine xr_if_eqF i8_4 (t := 21) (by decide) (xbi_1 hx) ?_
        refine xr_go i8_7 rfl ?_
        refine xr_S i8_8 xc8_75 ⟨by first | exact Or.inl rfl | exact Or.inr rfl, rfl⟩ xa_7 (Nat.le_of_ble_eq_true rfl) (Nat.le_of_ble_eq_true rfl) (by omega) ⟨Nat.le_of_ble_eq_true rfl, Nat.le_of_ble_eq_true rfl⟩ (s_isSession y) ?_
        refine xr_if_eqF i8_11 (t := 21) (by decide) (xbi_1 hy) ?_
        refine xr_go i8_14 rfl ?_
        refine xr_S i8_15 xc8_111 ⟨by first | exact Or.inl rfl | exact Or.inr rfl, rfl⟩ xa_4 (Nat.le_of_ble_eq_true rfl) (Nat.le_of_ble_eq_true rfl) (by omega) ⟨Nat.le_of_ble_eq_true rfl, Nat.le_of_ble_eq_true rfl⟩ (s_isCell c) ?_
        refine xr_if_neF i8_18 (t := 25) (by decide) (by rw [Bool.not_eq_true] at hc; rw [hc]; decide) ?_
        exact tail
    · rw [if_neg (fun e => hy e.2.1), if_neg (fun e => hy e.2.1)]
      refine ⟨h, ?_, hD0, xoth.refl⟩
      refine xr_go i8_0 rfl ?_
      refine xr_S i8_1 xc8_71 ⟨by first | exact Or.inl rfl | exact Or.inr rfl, rfl⟩ xa_6 (Nat.le_of_ble_eq_true rfl) (Nat.le_of_ble_eq_true rfl) (by omega) ⟨Nat.le_of_ble_eq_true rfl, Nat.le_of_ble_eq_true rfl⟩ (s_isServer x) ?_
      refine xr_if_eqF i8_4 (t := 21) (by decide) (xbi_1 hx) ?_
      refine xr_go i8_7 rfl ?_
      refine xr_S i8_8 xc8_75 ⟨by first | exact Or.inl rfl | exact Or.inr rfl, rfl⟩ xa_7 (Nat.le_of_ble_eq_true rfl) (Nat.le_of_ble_eq_true rfl) (by omega) ⟨Nat.le_of_ble_eq_true rfl, Nat.le_of_ble_eq_true rfl⟩ (s_isSession y) ?_
      refine xr_if_eqT i8_11 (t := 21) (by decide) (xbi_f (by simpa using hy)) ?_
      exact tail
  · rw [if_neg (fun e => hx e.1), if_neg (fun e => hx e.1)]
    refine ⟨h, ?_, hD0, xoth.refl⟩
    refine xr_go i8_0 rfl ?_
    refine xr_S i8_1 xc8_71 ⟨by first | exact Or.inl rfl | exact Or.inr rfl, rfl⟩ xa_6 (Nat.le_of_ble_eq_true rfl) (Nat.le_of_ble_eq_true rfl) (by omega) ⟨Nat.le_of_ble_eq_true rfl, Nat.le_of_ble_eq_true rfl⟩ (s_isServer x) ?_
    refine xr_if_eqT i8_4 (t := 21) (by decide) (xbi_f (by simpa using hx)) ?_
    exact tail
end XSESS

