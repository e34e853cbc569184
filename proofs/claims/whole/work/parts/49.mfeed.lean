/-! ===== the model: feeding, forgetting, outcomes ===== -/
theorem xsb_nar {v : Nat} (hv : v < 256) : vp_nar .byte ((Int8.ofNat v).toInt32) = xsb v ∧ (Int8.ofNat v).toInt32 = xsb v := by
  have key : ∀ k : Fin 256, vp_nar .byte ((Int8.ofNat k.val).toInt32) = xsb k.val ∧ (Int8.ofNat k.val).toInt32 = xsb k.val := by decide +kernel
  exact key ⟨v, hv⟩
theorem xshr_byte {x : Int32} {s : Nat} (hs : s ≤ 24) : (x >>> (nI s &&& 31)).toInt8 = Int8.ofNat ((x.toBitVec.toNat / 2 ^ s) % 256) := by
  apply Int8.toBitVec_inj.mp
  have e1 : (x >>> (nI s &&& 31)).toBitVec = x.toBitVec.sshiftRight s := by
    have e0 : ∀ k : Fin 25, ((nI k.val &&& 31).toBitVec.smod 32).toNat = k.val := by decide
    rw [Int32.toBitVec_shiftRight]
    show x.toBitVec.sshiftRight _ = _
    rw [e0 ⟨s, by omega⟩]
  have e2 : (x >>> (nI s &&& 31)).toInt8.toBitVec = ((x >>> (nI s &&& 31)).toBitVec).signExtend 8 := rfl
  rw [e2, e1]
  apply BitVec.eq_of_getLsbD_eq
  intro i hi
  rw [BitVec.getLsbD_signExtend]
  have e3 : (Int8.ofNat ((x.toBitVec.toNat / 2 ^ s) % 256)).toBitVec = BitVec.ofNat 8 ((x.toBitVec.toNat / 2 ^ s) % 256) := rfl
  rw [e3, BitVec.getLsbD_ofNat, show (256 : Nat) = 2 ^ 8 from rfl, Nat.testBit_mod_two_pow, Nat.testBit_div_two_pow, BitVec.getLsbD_sshiftRight]
  have h1 : i < 8 := hi
  have h2 : s + i < 32 := by omega
  simp [h1, h2, show i < 32 by omega, BitVec.getLsbD, Nat.add_comm]
theorem xmin64 {com fog n : Nat} (h1 : fog ≤ com) (h2 : com ≤ 500) (hn : n < 2 ^ 31) : (if (nI fog).toInt64 + (nI n).toInt64 < (nI com).toInt64 then (nI fog).toInt64 + (nI n).toInt64 else (nI com).toInt64) = (nI (fog + min n (com - fog))).toInt64 := by
  have e : ((nI fog).toInt64 + (nI n).toInt64).toInt = (fog : Int) + n := by
    rw [Int64.toInt_add, Int32.toInt_toInt64, Int32.toInt_toInt64, nI_toInt (by omega), nI_toInt hn]
    apply Int.bmod_eq_of_le <;> omega
  have ec : ((nI com).toInt64).toInt = (com : Int) := by rw [Int32.toInt_toInt64, nI_toInt (by omega)]
  by_cases hlt : fog + n < com
  · rw [if_pos (by rw [Int64.lt_iff_toInt_lt, e, ec]; omega)]
    apply Int64.toInt_inj.mp
    rw [e, Int32.toInt_toInt64, nI_toInt (by omega)]
    omega
  · rw [if_neg (by rw [Int64.lt_iff_toInt_lt, e, ec]; omega)]
    congr 2
    omega
theorem xl2i_nI {n : Nat} : (nI n).toInt64.toInt32 = nI n := by
  apply Int32.toInt_inj.mp
  simp
section XMFEED
variable {G : xG} {d : Nat} {h h' : xH} {sl : Nat} {M nx nx' tak cmt : Nat} {sv sp pl cm : Nat → Nat} {pg : Nat → List (Nat × Int32)} {clk com fog : Nat → Nat} {kno : Nat → Nat → Nat} {bit : Nat → Nat} {rd wr : Nat → Nat → Nat} {lat : Option (List (Nat × Int32))} {tn : Nat} {tb : Nat → Nat}
/-- what was fed, byte by byte -/
def bFive (a b c d e : Int32) (k : Nat) : Int32 := if k = 0 then a else if k = 1 then b else if k = 2 then c else if k = 3 then d else e
theorem bFeed_at {a b c d1 e : Int32} {k : Nat} (htn : ¬ 380 < tn) (hk : k < 20) : bFeed tn tb a b c d1 e (tn + k) = abyte (bFive a b c d1 e (k / 4)) (k % 4) := by
  unfold bFeed bAdd
  rw [if_neg htn]
  have h5 : k / 4 = 0 ∨ k / 4 = 1 ∨ k / 4 = 2 ∨ k / 4 = 3 ∨ k / 4 = 4 := by omega
  unfold bFive
  rcases h5 with e1 | e1 | e1 | e1 | e1
  · rw [if_neg (by omega), if_neg (by omega), if_neg (by omega), if_neg (by omega), if_pos (by omega), e1]
    show abyte a _ = abyte a _
    congr 1
    omega
  · rw [if_neg (by omega), if_neg (by omega), if_neg (by omega), if_pos (by omega), e1]
    show abyte b _ = abyte b _
    congr 1
    omega
  · rw [if_neg (by omega), if_neg (by omega), if_pos (by omega), e1]
    show abyte c _ = abyte c _
    congr 1
    omega
  · rw [if_neg (by omega), if_pos (by omega), e1]
    show abyte d1 _ = abyte d1 _
    congr 1
    omega
  · rw [if_pos (by omega), e1]
    show abyte e _ = abyte e _
    congr 1
    omega
theorem bFeed_old {a b c d1 e : Int32} {k : Nat} (hk : k < tn) : bFeed tn tb a b c d1 e k = tb k := by
  unfold bFeed bAdd
  split
  · rfl
  · dsimp only
    rw [if_neg (by omega), if_neg (by omega), if_neg (by omega), if_neg (by omega), if_neg (by omega)]
theorem m_feed_loop {O : List Value} {fa : Nat → Int32} {L1 L2 L3 L4 L5 : Option Value} {A : Nat} (a b c d1 e : Int32) (htn : ¬ 380 < tn) (hO1 : O[0]? = some (.ref (M + 1))) (hO2 : O[1]? = some (.int (nI tn))) (hA : A ≠ M + 1) (hfa : ∀ k, k < 5 → fa k = bFive a b c d1 e k) : ∀ (n k : Nat) (f : Nat → Int32) (h : xH), k + n = 20 → h M = some (.inr (10, O)) → h A = some (.inl (0, 5, .inl fa)) → h (M + 1) = some (.inl (2, 400, .inl f)) → (∀ j, j < tn + k → f j = xsb (bFeed tn tb a b c d1 e j)) →
    ∃ h' f', h' (M + 1) = some (.inl (2, 400, .inl f')) ∧ (∀ j, j < tn + 20 → f' j = xsb (bFeed tn tb a b c d1 e j)) ∧ (∀ q, q ≠ M + 1 → h' q = h q) ∧ ∀ res, xRun G d 80 (90, [some (.ref M), L1, L2, L3, L4, L5, some (.ref A), some (.int (nI 20))], [], (h', nx, sl)) res → xRun G d 80 (46, [some (.ref M), L1, L2, L3, L4, L5, some (.ref A), some (.int (nI k))], [], (h, nx, sl)) res := by
  intro n
  induction n with
  | zero =>
    intro k f h hk hO hAr h1 hf
    have : k = 20 := by omega
    subst this
    refine ⟨h, f, h1, hf, fun _ _ => rfl, fun res r => ?_⟩
    refine xr_go i80_46 rfl ?_
    refine xr_go i80_48 rfl ?_
    refine xr_icmp_geT i80_50 (t := 90) (by decide) (show nI 20 ≤ nI 20 from nI_le (by omega) (by omega)) ?_
    exact r
  | succ n ih =>
    intro k f h hk hO hAr h1 hf
    obtain ⟨k1, ek1⟩ : ∃ z : xH, z = xup h (M + 1) (.inl (2, 400, .inl (upd f (tn + k) (xsb (bFeed tn tb a b c d1 e (tn + k)))))) := ⟨_, rfl⟩
    have k1n : ∀ q, q ≠ M + 1 → k1 q = h q := fun q hq => by rw [ek1]; exact xup_n hq
    obtain ⟨h', f', i1, i2, i3, i4⟩ := ih (k + 1) _ k1 (by omega) ((k1n _ (by omega)).trans hO) ((k1n _ hA).trans hAr) (by rw [ek1]; exact xup_s) (fun j hj => by
      unfold upd
      by_cases e : j = tn + k
      · rw [if_pos e, e]
      · rw [if_neg e]
        exact hf j (by omega))
    refine ⟨h', f', i1, i2, fun q hq => (i3 q hq).trans (k1n q hq), fun res r => ?_⟩
    have kdiv : ∀ j : Fin 20, nI j.val / 4 = nI (j.val / 4) := by decide
    have krem : ∀ j : Fin 20, (24 : Int32) - 8 * (nI j.val - nI j.val / 4 * 4) = nI (24 - 8 * (j.val % 4)) := by decide
    have ev : vp_nar .byte ((fa (k / 4) >>> (nI (24 - 8 * (k % 4)) &&& 31)).toInt8.toInt32) = xsb (bFeed tn tb a b c d1 e (tn + k)) := by
      rw [xshr_byte (by omega), hfa (k / 4) (by omega), bFeed_at htn (by omega)]
      exact (xsb_nar (Nat.mod_lt _ (by omega))).1
    refine xr_go i80_46 rfl ?_
    refine xr_go i80_48 rfl ?_
    refine xr_icmp_geF i80_50 (t := 90) (by decide) (show ¬ nI 20 ≤ nI k from nI_ge (by omega) (by omega)) ?_
    refine xr_go i80_53 rfl ?_
    refine xr_get i80_54 xf80_9 hO rfl hO1 ?_
    refine xr_go i80_57 rfl ?_
    refine xr_get i80_58 xf80_73 hO rfl hO2 ?_
    refine xr_go i80_61 rfl ?_
    refine xr_go i80_63 rfl ?_
    refine xr_go i80_64 rfl ?_
    refine xr_go i80_66 rfl ?_
    refine xr_go i80_68 rfl ?_
    refine xr_go i80_69 (show (if (4 : Int32) = 0 then none else _) = _ from rfl) ?_
    refine xr_iald i80_70 hAr (kdiv ⟨k, by omega⟩) (show k / 4 < 5 by omega) (by omega) ?_
    refine xr_go i80_71 rfl ?_
    refine xr_go i80_73 rfl ?_
    refine xr_go i80_75 rfl ?_
    refine xr_go i80_77 rfl ?_
    refine xr_go i80_78 (show (if (4 : Int32) = 0 then none else _) = _ from rfl) ?_
    refine xr_go i80_79 rfl ?_
    refine xr_go i80_80 rfl ?_
    refine xr_top (krem ⟨k, by omega⟩) ?_
    refine xr_go i80_81 rfl ?_
    refine xr_go i80_82 rfl ?_
    refine xr_bast i80_83 h1 (nI_add tn k) (by omega) (by omega) (fun z ez => ?_)
    obtain rfl : z = k1 := by
      rw [ez, ek1]
      rw [← ev]
    refine xr_inc1 i80_84 rfl rfl ?_
    refine xr_goto i80_87 (t := 46) (by decide) ?_
    exact i4 res r
theorem M_feed (hM : xMod M nx tak cmt sv sp pl cm pg clk com fog kno bit rd wr lat tn tb h) (htn : tn ≤ 400) (a b c d1 e : Int32) : ∃ h' nx' sl', xRun G d 80 (0, [some (.ref M), some (.int a), some (.int b), some (.int c), some (.int d1), some (.int e), none, none], [], (h, nx, sl)) (some (.int (aFeed tn)), (h', nx', sl')) ∧ nx ≤ nx' ∧ nx' ≤ nx + 1 ∧ sl' ≤ sl + 5 ∧ xMod M nx' tak cmt sv sp pl cm pg clk com fog kno bit rd wr lat (nFeed tn) (bFeed tn tb a b c d1 e) h' ∧ xmo M nx h h' := by
  have hM0 := hM
  obtain ⟨lt, at_, sz, kd, fr, to_, ft, pt, nu, mn, pc, od, hO, ⟨ft1, t1, t2⟩, hm, hr, hw, hl, hn⟩ := hM
  unfold aFeed nFeed
  by_cases h380 : 380 < tn
  · rw [if_pos h380, if_pos h380]
    refine ⟨h, nx, sl, ?_, Nat.le_refl _, by omega, by omega, ?_, xmo.refl⟩
    · refine xr_go i80_0 rfl ?_
      refine xr_get i80_1 xf80_73 (by assumption) rfl rfl ?_
      refine xr_go i80_4 rfl ?_
      refine xr_go i80_6 rfl ?_
      refine xr_top (show _ = nI (tn + 20) from nI_add tn 20) ?_
      refine xr_go i80_7 rfl ?_
      refine xr_icmp_leF i80_10 (t := 16) (by decide) (show ¬ nI (tn + 20) ≤ nI 400 from nI_ge (by omega) (by omega)) ?_
      refine xr_go i80_13 rfl ?_
      exact xr_iret i80_15 xt_80 rfl
    · have e1 : bFeed tn tb a b c d1 e = tb := by unfold bFeed; rw [if_pos h380]
      rw [e1]
      exact hM0
  · rw [if_neg h380, if_neg h380]
    /- the row of five -/
    obtain ⟨k1, ek1⟩ : ∃ z : xH, z = xup h nx (.inl (0, 5, .inl (fun _ => 0))) := ⟨_, rfl⟩
    have k1A : k1 nx = some (.inl (0, 5, .inl (fun _ => 0))) := by rw [ek1]; exact xup_s
    obtain ⟨k2, ek2⟩ : ∃ z : xH, z = xup k1 nx (.inl (0, 5, .inl (upd (fun _ => 0) 0 a))) := ⟨_, rfl⟩
    have k2A : k2 nx = some (.inl (0, 5, .inl (upd (fun _ => 0) 0 a))) := by rw [ek2]; exact xup_s
    obtain ⟨k3, ek3⟩ : ∃ z : xH, z = xup k2 nx (.inl (0, 5, .inl (upd (upd (fun _ => 0) 0 a) 1 b))) := ⟨_, rfl⟩
    have k3A : k3 nx = some (.inl (0, 5, .inl (upd (upd (fun _ => 0) 0 a) 1 b))) := by rw [ek3]; exact xup_s
    obtain ⟨k4, ek4⟩ : ∃ z : xH, z = xup k3 nx (.inl (0, 5, .inl (upd (upd (upd (fun _ => 0) 0 a) 1 b) 2 c))) := ⟨_, rfl⟩
    have k4A : k4 nx = some (.inl (0, 5, .inl (upd (upd (upd (fun _ => 0) 0 a) 1 b) 2 c))) := by rw [ek4]; exact xup_s
    obtain ⟨k5, ek5⟩ : ∃ z : xH, z = xup k4 nx (.inl (0, 5, .inl (upd (upd (upd (upd (fun _ => 0) 0 a) 1 b) 2 c) 3 d1))) := ⟨_, rfl⟩
    have k5A : k5 nx = some (.inl (0, 5, .inl (upd (upd (upd (upd (fun _ => 0) 0 a) 1 b) 2 c) 3 d1))) := by rw [ek5]; exact xup_s
    obtain ⟨k6, ek6⟩ : ∃ z : xH, z = xup k5 nx (.inl (0, 5, .inl (upd (upd (upd (upd (upd (fun _ => 0) 0 a) 1 b) 2 c) 3 d1) 4 e))) := ⟨_, rfl⟩
    have k6A : k6 nx = some (.inl (0, 5, .inl (upd (upd (upd (upd (upd (fun _ => 0) 0 a) 1 b) 2 c) 3 d1) 4 e))) := by rw [ek6]; exact xup_s
    have k6n : ∀ q, q ≠ nx → k6 q = h q := fun q hq => by rw [ek6, xup_n hq, ek5, xup_n hq, ek4, xup_n hq, ek3, xup_n hq, ek2, xup_n hq, ek1, xup_n hq]
    have k6M := (k6n M (by omega)).trans hO
    obtain ⟨k7, f7, i1, i2, i3, i4⟩ := m_feed_loop (G := G) (d := d) (nx := nx + 1) (sl := sl + 5) (M := M) (tn := tn) (tb := tb) (L1 := some (.int a)) (L2 := some (.int b)) (L3 := some (.int c)) (L4 := some (.int d1)) (L5 := some (.int e)) a b c d1 e h380 (hO1 := rfl) (hO2 := rfl) (A := nx) (by omega) (fun k hk => by
      match k, hk with
      | 0, _ => rfl
      | 1, _ => rfl
      | 2, _ => rfl
      | 3, _ => rfl
      | 4, _ => rfl) 20 0 ft1 k6 rfl k6M k6A ((k6n _ (by omega)).trans t1) (fun j hj => by rw [bFeed_old (by omega)]; exact t2 j (by omega))
    have k7M := (i3 M (by omega)).trans k6M
    obtain ⟨k8, ek8⟩ : ∃ z : xH, z = xup k7 M (.inr (10, xMf M (nI (tn + 20)) (nI tak) (nI cmt) lt at_ sz kd fr to_ ft pt nu mn pc od)) := ⟨_, rfl⟩
    have k8M : k8 M = some (.inr (10, xMf M (nI (tn + 20)) (nI tak) (nI cmt) lt at_ sz kd fr to_ ft pt nu mn pc od)) := by rw [ek8]; exact xup_s
    have k8n : ∀ q, q ≠ M → k8 q = k7 q := fun q hq => by rw [ek8]; exact xup_n hq
    have o8 : ∀ q, q ≠ M → q ≠ M + 1 → q ≠ nx → k8 q = h q := fun q a1 a2 a3 => (k8n q a1).trans ((i3 q a2).trans (k6n q a3))
    refine ⟨k8, nx + 1, sl + 5, ?_, by omega, by omega, by omega, ⟨lt, at_, sz, kd, fr, to_, ft, pt, nu, mn, pc, od, k8M, ⟨f7, (k8n _ (by omega)).trans i1, i2⟩, xMd_kept hm (fun q a1 a2 a3 => o8 q (by omega) (by omega) (by omega)), xMr_kept hr (fun q a1 a2 => o8 q (by omega) (by omega) (by omega)), xMw_kept hw (o8 _ (by omega) (by omega) (by omega)) (by omega) (fun q a1 a2 a3 => o8 q (by omega) (by omega) (by omega)), xMl_kept hl (by omega) (fun q a1 a2 a3 => o8 q (by omega) (by omega) (by omega)), by omega⟩, fun q a1 a2 => o8 q (by omega) (by omega) (by omega)⟩
    refine xr_go i80_0 rfl ?_
    refine xr_get i80_1 xf80_73 (by assumption) rfl rfl ?_
    refine xr_go i80_4 rfl ?_
    refine xr_go i80_6 rfl ?_
    refine xr_top (show _ = nI (tn + 20) from nI_add tn 20) ?_
    refine xr_go i80_7 rfl ?_
    refine xr_icmp_leT i80_10 (t := 16) (by decide) (show nI (tn + 20) ≤ nI 400 from nI_le (by omega) (by omega)) ?_
    refine xr_go i80_16 rfl ?_
    refine xr_newa i80_17 rfl (n := 5) rfl (by omega) (fun z1 ez1 => ?_)
    obtain rfl : z1 = k1 := ez1.trans ek1.symm
    refine xr_go i80_19 rfl ?_
    refine xr_go i80_20 rfl ?_
    refine xr_go i80_21 rfl ?_
    refine xr_iast i80_22 (by assumption) (j := 0) rfl (by omega) (by omega) (fun z2 ez2 => ?_)
    obtain rfl : z2 = k2 := ez2.trans ek2.symm
    refine xr_go i80_23 rfl ?_
    refine xr_go i80_24 rfl ?_
    refine xr_go i80_25 rfl ?_
    refine xr_iast i80_26 (by assumption) (j := 1) rfl (by omega) (by omega) (fun z3 ez3 => ?_)
    obtain rfl : z3 = k3 := ez3.trans ek3.symm
    refine xr_go i80_27 rfl ?_
    refine xr_go i80_28 rfl ?_
    refine xr_go i80_29 rfl ?_
    refine xr_iast i80_30 (by assumption) (j := 2) rfl (by omega) (by omega) (fun z4 ez4 => ?_)
    obtain rfl : z4 = k4 := ez4.trans ek4.symm
    refine xr_go i80_31 rfl ?_
    refine xr_go i80_32 rfl ?_
    refine xr_go i80_33 rfl ?_
    refine xr_iast i80_35 (by assumption) (j := 3) rfl (by omega) (by omega) (fun z5 ez5 => ?_)
    obtain rfl : z5 = k5 := ez5.trans ek5.symm
    refine xr_go i80_36 rfl ?_
    refine xr_go i80_37 rfl ?_
    refine xr_go i80_38 rfl ?_
    refine xr_iast i80_40 (by assumption) (j := 4) rfl (by omega) (by omega) (fun z6 ez6 => ?_)
    obtain rfl : z6 = k6 := ez6.trans ek6.symm
    refine xr_go i80_41 rfl ?_
    refine xr_go i80_43 rfl ?_
    refine xr_go i80_44 rfl ?_
    refine i4 _ ?_
    refine xr_go i80_90 rfl ?_
    refine xr_go i80_91 rfl ?_
    refine xr_get i80_92 xf80_73 (by assumption) rfl rfl ?_
    refine xr_go i80_95 rfl ?_
    refine xr_go i80_97 rfl ?_
    refine xr_top (show _ = nI (tn + 20) from nI_add tn 20) ?_
    refine xr_put i80_98 xf80_73 (by assumption) ⟨rfl, Nat.le_of_ble_eq_true rfl, rfl, rfl, Or.inl rfl⟩ (fun z8 ez8 => ?_)
    obtain rfl : z8 = k8 := ez8.trans ek8.symm
    refine xr_go i80_101 rfl ?_
    refine xr_get i80_102 xf80_73 (by assumption) rfl rfl ?_
    exact xr_iret i80_105 xt_80 rfl
theorem M_forget (hM : xMod M nx tak cmt sv sp pl cm pg clk com fog kno bit rd wr lat tn tb h) (hP : xPI tak cmt sv sp pl cm clk com fog kno bit rd wr) (x y : Int32) (hd : 1 ≤ d) : ∃ h', xRun G d 114 (0, [some (.ref M), some (.int x), some (.int y)], [], (h, nx, sl)) (some (.int (aForget com fog x y)), (h', nx, sl)) ∧ xMod M nx tak cmt sv sp pl cm pg clk com (bForget com fog x y) kno bit rd wr lat tn tb h' ∧ xmo M nx h h' := by
  have hM0 := hM
  obtain ⟨lt, at_, sz, kd, fr, to_, ft, pt, nu, mn, pc, od, hO, ⟨ft1, t1, t2⟩, hm, hr, hw, hl, hn⟩ := hM
  unfold aForget bForget
  have tail : xRun G d 114 (16, [some (.ref M), some (.int x), some (.int y)], [], (h, nx, sl)) (some (.int (-1)), (h, nx, sl)) := by
    refine xr_go i114_16 rfl ?_
    exact xr_iret i114_17 xt_114 rfl
  by_cases hx : xrng 5 x = true
  · by_cases hy : y < 0
    · rw [if_neg (fun z => z.2 hy), if_neg (fun z => z.2 hy)]
      refine ⟨h, ?_, hM0, xmo.refl⟩
      refine xr_go i114_0 rfl ?_
      refine xr_go i114_1 rfl ?_
      refine xr_go i114_2 rfl ?_
      refine xr_ldc2 i114_3 xl114_266 rfl ?_
      refine xr_S i114_6 xc114_77 ⟨by first | exact Or.inl rfl | exact Or.inr rfl, rfl⟩ xa_82 (Nat.le_of_ble_eq_true rfl) (Nat.le_of_ble_eq_true rfl) (by omega) ⟨Nat.le_of_ble_eq_true rfl, Nat.le_of_ble_eq_true rfl⟩ ((s_in (x := x) 5 rfl (by omega))) ?_
      refine xr_stk (st' := [.int (xbi (xrng 5 x))]) rfl ?_
      refine xr_if_eqF i114_9 (t := 16) (by decide) (xbi_1 hx) ?_
      refine xr_go i114_12 rfl ?_
      refine xr_if_geF i114_13 (t := 18) (by decide) (Int32.not_le.mpr hy) ?_
      exact tail
    · rw [if_pos ⟨hx, hy⟩, if_pos ⟨hx, hy⟩]
      obtain ⟨s, hs, rfl⟩ := xrng_of (by omega) hx
      obtain ⟨n, hn1, rfl⟩ := nI_of hy
      rw [aN_nI (by omega), aN_nI hn1]
      have hfc := (hP.2.2.2.2.2.1 s hs).2.2.2.2.1
      have hc5 : com s ≤ 500 := by
        have := (hP.2.2.2.2.2.1 s hs).2.2.2.1
        have := hP.2.1
        have := hP.1
        omega
      obtain ⟨m2, m3, m4, m5, m6, m7, m8, m9, m10, m11⟩ := hm
      obtain ⟨k1, ek1⟩ : ∃ z : xH, z = xup h (M + 15) (.inl (0, 5, .inl (fun i => nI (va_up fog s (fog s + min n (com s - fog s)) i)))) := ⟨_, rfl⟩
      have k1n : ∀ q, q ≠ M + 15 → k1 q = h q := fun q hq => by rw [ek1]; exact xup_n hq
      have k1M := (k1n M (by omega)).trans hO
      have k1f : k1 (M + 15) = some (.inl (0, 5, .inl (fun i => nI (va_up fog s (fog s + min n (com s - fog s)) i)))) := by rw [ek1]; exact xup_s
      refine ⟨k1, ?_, ⟨lt, at_, sz, kd, fr, to_, ft, pt, nu, mn, pc, od, k1M, ⟨ft1, (k1n _ (by omega)).trans t1, t2⟩, ?_, xMr_kept hr (fun q a1 a2 => k1n q (by omega)), xMw_kept hw (k1n _ (by omega)) (Nat.le_refl _) (fun q a1 a2 a3 => k1n q (by omega)), xMl_kept hl (Nat.le_refl _) (fun q a1 a2 a3 => k1n q (by omega)), hn⟩, fun q a1 a2 => k1n q (by omega)⟩
      · refine xr_go i114_0 rfl ?_
        refine xr_go i114_1 rfl ?_
        refine xr_go i114_2 rfl ?_
        refine xr_ldc2 i114_3 xl114_266 rfl ?_
        refine xr_S i114_6 xc114_77 ⟨by first | exact Or.inl rfl | exact Or.inr rfl, rfl⟩ xa_82 (Nat.le_of_ble_eq_true rfl) (Nat.le_of_ble_eq_true rfl) (by omega) ⟨Nat.le_of_ble_eq_true rfl, Nat.le_of_ble_eq_true rfl⟩ ((s_in (x := nI s) 5 rfl (by omega))) ?_
        refine xr_stk (st' := [.int (xbi (xrng 5 (nI s)))]) rfl ?_
        refine xr_if_eqF i114_9 (t := 16) (by decide) (xbi_1 hx) ?_
        refine xr_go i114_12 rfl ?_
        refine xr_if_geT i114_13 (t := 18) (by decide) (nI_pos' hn1) ?_
        refine xr_go i114_18 rfl ?_
        refine xr_get i114_19 xf114_42 (by assumption) rfl rfl ?_
        refine xr_go i114_22 rfl ?_
        refine xr_go i114_23 rfl ?_
        refine xr_get i114_24 xf114_39 (by assumption) rfl rfl ?_
        refine xr_go i114_27 rfl ?_
        refine xr_iald i114_28 (by assumption) rfl (by omega) (by omega) ?_
        refine xr_go i114_29 rfl ?_
        refine xr_go i114_30 rfl ?_
        refine xr_get i114_31 xf114_42 (by assumption) rfl rfl ?_
        refine xr_go i114_34 rfl ?_
        refine xr_iald i114_35 (by assumption) rfl (by omega) (by omega) ?_
        refine xr_go i114_36 rfl ?_
        refine xr_go i114_37 rfl ?_
        refine xr_go i114_38 rfl ?_
        refine xr_go i114_39 rfl ?_
        refine xr_minl i114_40 xc114_129 rfl (by omega) (Nat.le_of_ble_eq_true rfl) ((xmin64 hfc hc5 hn1)) ?_
        refine xr_go i114_43 rfl ?_
        refine xr_top xl2i_nI ?_
        refine xr_iast i114_44 (by assumption) rfl (by omega) (by omega) (fun z1 ez1 => ?_)
        obtain rfl : z1 = k1 := ez1.trans (by rw [ek1, xupdN])
        refine xr_go i114_45 rfl ?_
        refine xr_get i114_46 xf114_42 (by assumption) rfl rfl ?_
        refine xr_go i114_49 rfl ?_
        refine xr_iald i114_50 (by assumption) rfl (by omega) (by omega) ?_
        rw [vu_at]
        exact xr_iret i114_51 xt_114 rfl
      · obtain ⟨d0, d1, d2, d3, d4, d5, d6, d7, d8, d9, d10, d11, d12, d13⟩ := xMd_kept (M := M) (cmt := cmt) (sv := sv) (sp := sp) (pl := pl) (cm := cm) (clk := clk) (com := com) (fog := fog) (kno := kno) (bit := bit) (rd := rd) (wr := wr) (h := h) (h' := xup k1 (M + 15) (.inl (0, 5, .inl (fun i => nI (fog i))))) ⟨m2, m3, m4, m5, m6, m7, m8, m9, m10, m11⟩ (fun q a1 a2 a3 => by
          by_cases e : q = M + 15
          · rw [e, xup_s, m10]
          · rw [xup_n e]
            exact k1n q e)
        have un : ∀ q, q ≠ M + 15 → k1 q = (xup k1 (M + 15) (.inl (0, 5, .inl (fun i => nI (fog i)))) : xH) q := fun q hq => (xup_n hq).symm
        refine ⟨(un _ (by omega)).trans d0, (un _ (by omega)).trans d1, (un _ (by omega)).trans d2, ?_, ?_, fun i hi => (un _ (by omega)).trans (d5 i hi), (un _ (by omega)).trans d6, (un _ (by omega)).trans d7, k1f, (un _ (by omega)).trans d9, ?_, fun j hj => ?_, ?_, fun j hj => ?_⟩
        · obtain ⟨f, e1, e2⟩ := d3
          exact ⟨f, (un _ (by omega)).trans e1, e2⟩
        · obtain ⟨f, e1, e2⟩ := d4
          exact ⟨f, (un _ (by omega)).trans e1, e2⟩
        · obtain ⟨f, e1, e2⟩ := d10
          exact ⟨f, (un _ (by omega)).trans e1, e2⟩
        · obtain ⟨f, e1, e2⟩ := d11 j hj
          exact ⟨f, (un _ (by omega)).trans e1, e2⟩
        · obtain ⟨f, e1, e2⟩ := d12
          exact ⟨f, (un _ (by omega)).trans e1, e2⟩
        · obtain ⟨f, e1, e2⟩ := d13 j hj
          exact ⟨f, (un _ (by omega)).trans e1, e2⟩
  · rw [if_neg (fun z => hx z.1), if_neg (fun z => hx z.1)]
    refine ⟨h, ?_, hM0, xmo.refl⟩
    refine xr_go i114_0 rfl ?_
    refine xr_go i114_1 rfl ?_
    refine xr_go i114_2 rfl ?_
    refine xr_ldc2 i114_3 xl114_266 rfl ?_
    refine xr_S i114_6 xc114_77 ⟨by first | exact Or.inl rfl | exact Or.inr rfl, rfl⟩ xa_82 (Nat.le_of_ble_eq_true rfl) (Nat.le_of_ble_eq_true rfl) (by omega) ⟨Nat.le_of_ble_eq_true rfl, Nat.le_of_ble_eq_true rfl⟩ ((s_in (x := x) 5 rfl (by omega))) ?_
    refine xr_stk (st' := [.int (xbi (xrng 5 x))]) rfl ?_
    refine xr_if_eqT i114_9 (t := 16) (by decide) (xbi_f (by simpa using hx)) ?_
    exact tail
end XMFEED

