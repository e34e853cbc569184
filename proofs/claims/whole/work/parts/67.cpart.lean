/-! ===== the class: a part of a sum ===== -/
section XCPART
variable {G : xG} {d : Nat} {h h' : xH} {nx sl B n T : Nat} {tb : Nat → Nat} {em : List (Nat × Int32)} {i p dp : Nat}
theorem cp_pre {res : Option Value × xW} (hC : xCs B n tb T em i p (-2) h) (hi : i < T) (hT : T ≤ 401) (hdp : dp ≤ 6) (hno : dp < 6 → ¬ tK n tb (tP n tb i) = 19) (hd : 1 ≤ d) (r : xRun G d 28 (34, [some (.ref (B + 3)), some (.int (nI dp)), some (.int (nI (tK n tb (tP n tb i))))], [], (h, nx, sl)) res) : xRun G d 28 (0, [some (.ref (B + 3)), some (.int (nI dp)), none], [], (h, nx, sl)) res := by
  have rk := c_kind (G := G) (d := d - 1) (nx := nx) (sl := sl) hC hi hT
  have hC0 := hC
  obtain ⟨hTk, h3, -⟩ := hC
  have at29 : xRun G d 28 (29, [some (.ref (B + 3)), some (.int (nI dp)), none], [], (h, nx, sl)) res := by
    refine xr_go i28_29 rfl ?_
    refine xr_V i28_30 xc28_64 ⟨rfl, rfl⟩ xa_31 rfl (by assumption) rfl (Nat.le_of_ble_eq_true rfl) (by omega) ⟨Nat.le_of_ble_eq_true rfl, Nat.le_of_ble_eq_true rfl⟩ (rk) ?_
    refine xr_go i28_33 rfl ?_
    exact r
  refine xr_go i28_0 rfl ?_
  refine xr_go i28_1 rfl ?_
  by_cases e : dp < 6
  · have ra := c_acc_no (G := G) (d := d - 1) (nx := nx) (sl := sl) (K := 19) hC0 hi hT (by omega) (Or.inr (hno e))
    refine xr_icmp_geF i28_3 (t := 29) (by decide) (show ¬ nI 6 ≤ nI dp from nI_ge e (by omega)) ?_
    refine xr_go i28_6 rfl ?_
    refine xr_go i28_7 rfl ?_
    refine xr_V i28_9 xc28_48 ⟨rfl, rfl⟩ xa_24 rfl (by assumption) rfl (Nat.le_of_ble_eq_true rfl) (by omega) ⟨Nat.le_of_ble_eq_true rfl, Nat.le_of_ble_eq_true rfl⟩ (ra) ?_
    refine xr_if_eqT i28_12 (t := 29) (by decide) rfl ?_
    exact at29
  · refine xr_icmp_geT i28_3 (t := 29) (by decide) (show nI 6 ≤ nI dp from nI_le (by omega) (by omega)) ?_
    exact at29
theorem c_part_bad (hC : xCs B n tb T em i p (-2) h) (hi : i < T) (hT : T ≤ 401) (hp : p ≤ 80) (hdp : dp ≤ 6) (hno : dp < 6 → ¬ tK n tb (tP n tb i) = 19) (hbad : p = 80 ∨ (¬ tK n tb (tP n tb i) = 6 ∧ ¬ tK n tb (tP n tb i) = 7 ∧ ¬ tK n tb (tP n tb i) = 8 ∧ ¬ tK n tb (tP n tb i) = 9)) (hd : 1 ≤ d) : ∃ h', xRun G d 28 (0, [some (.ref (B + 3)), some (.int (nI dp)), none], [], (h, nx, sl)) (none, (h', nx, sl)) ∧ xfr B h h' ∧ ∃ p', p' ≤ 80 ∧ xCs B n tb T em i p' (nI (tP n tb i)) h' := by
  have hC0 := hC
  have hKl := tK_le (n := n) (p := tP n tb i) (tb := tb)
  obtain ⟨hTk, h3, -⟩ := hC
  by_cases hp80 : p < 80
  · obtain ⟨k1, ek1⟩ : ∃ y : xH, y = xup h (B + 3) (.inr (2, [.ref (B + 1), .ref (B + 4), .ref (B + 8), .ref (B + 9), .int (nI em.length), .int (nI i), .int (nI (p + 1)), .int (-2)])) := ⟨_, rfl⟩
    obtain ⟨u1, u2⟩ := xCs_up hC0 ek1
    have k13 := xup_at ek1
    obtain ⟨h2, r2, b1, b2⟩ := c_fail_ok (G := G) (d := d - 1) (nx := nx) (sl := sl) u1 hi hT
    obtain ⟨n6, n7, n8, n9⟩ : ¬ tK n tb (tP n tb i) = 6 ∧ ¬ tK n tb (tP n tb i) = 7 ∧ ¬ tK n tb (tP n tb i) = 8 ∧ ¬ tK n tb (tP n tb i) = 9 := by
      rcases hbad with z | z
      · omega
      · exact z
    refine ⟨h2, cp_pre hC0 hi hT hdp hno hd ?_, u2.trans b1, p + 1, by omega, b2⟩
    refine xr_go i28_34 rfl ?_
    refine xr_get i28_35 xf28_32 (by assumption) rfl rfl ?_
    refine xr_go i28_38 rfl ?_
    refine xr_icmp_ltT i28_40 (t := 48) (by decide) (show nI p < nI 80 from nI_lt hp80 (by omega)) ?_
    refine xr_go i28_48 rfl ?_
    refine xr_go i28_49 rfl ?_
    refine xr_get i28_50 xf28_32 (by assumption) rfl rfl ?_
    refine xr_go i28_53 rfl ?_
    refine xr_go i28_54 rfl ?_
    refine xr_top (show _ = nI (p + 1) from nI_add p 1) ?_
    refine xr_put i28_55 xf28_32 (by assumption) ⟨rfl, Nat.le_of_ble_eq_true rfl, rfl, rfl, Or.inl rfl⟩ (fun z1 ez1 => ?_)
    obtain rfl : z1 = k1 := ez1.trans ek1.symm
    refine xr_go i28_58 rfl ?_
    refine xr_go i28_59 rfl ?_
    refine xr_icmp_neT i28_61 (t := 84) (by decide) (fun z => n8 ((nI_eq (b := 8) (by omega) (by omega)).mp z)) ?_
    refine xr_go i28_84 rfl ?_
    refine xr_go i28_85 rfl ?_
    refine xr_icmp_eqF i28_87 (t := 102) (by decide) (fun z => n9 ((nI_eq (b := 9) (by omega) (by omega)).mp z)) ?_
    refine xr_go i28_90 rfl ?_
    refine xr_go i28_91 rfl ?_
    refine xr_icmp_eqF i28_93 (t := 102) (by decide) (fun z => n6 ((nI_eq (b := 6) (by omega) (by omega)).mp z)) ?_
    refine xr_go i28_96 rfl ?_
    refine xr_go i28_97 rfl ?_
    refine xr_icmp_neT i28_99 (t := 128) (by decide) (fun z => n7 ((nI_eq (b := 7) (by omega) (by omega)).mp z)) ?_
    refine xr_go i28_128 rfl ?_
    refine xr_V i28_129 xc28_68 ⟨rfl, rfl⟩ xa_30 rfl (by assumption) rfl (Nat.le_of_ble_eq_true rfl) (by omega) ⟨Nat.le_of_ble_eq_true rfl, Nat.le_of_ble_eq_true rfl⟩ (r2) ?_
    exact xr_end i28_132 rfl
  · obtain ⟨h2, r2, b1, b2⟩ := c_fail_ok (G := G) (d := d - 1) (nx := nx) (sl := sl) hC0 hi hT
    refine ⟨h2, cp_pre hC0 hi hT hdp hno hd ?_, b1, p, hp, b2⟩
    refine xr_go i28_34 rfl ?_
    refine xr_get i28_35 xf28_32 (by assumption) rfl rfl ?_
    refine xr_go i28_38 rfl ?_
    refine xr_icmp_ltF i28_40 (t := 48) (by decide) (show ¬ nI p < nI 80 from nI_nlt (by omega) (by omega)) ?_
    refine xr_go i28_43 rfl ?_
    refine xr_V i28_44 xc28_68 ⟨rfl, rfl⟩ xa_30 rfl (by assumption) rfl (Nat.le_of_ble_eq_true rfl) (by omega) ⟨Nat.le_of_ble_eq_true rfl, Nat.le_of_ble_eq_true rfl⟩ (r2) ?_
    exact xr_end i28_47 rfl
theorem c_part_val (hC : xCs B n tb T em i p (-2) h) (hi : i + 1 < T) (hT : T ≤ 401) (hp : p < 80) (hdp : dp ≤ 6) (hl : em.length < 406) (hK : tK n tb (tP n tb i) = 9 ∨ tK n tb (tP n tb i) = 6 ∨ tK n tb (tP n tb i) = 7) (hd : 1 ≤ d) : ∃ h', xRun G d 28 (0, [some (.ref (B + 3)), some (.int (nI dp)), none], [], (h, nx, sl)) (none, (h', nx, sl)) ∧ xfr B h h' ∧ xCs B n tb T (em ++ [(tK n tb (tP n tb i), nI (tN n tb (tP n tb i)))]) (i + 1) (p + 1) (-2) h' := by
  have hC0 := hC
  obtain ⟨hTk, h3, -⟩ := hC
  obtain ⟨k1, ek1⟩ : ∃ y : xH, y = xup h (B + 3) (.inr (2, [.ref (B + 1), .ref (B + 4), .ref (B + 8), .ref (B + 9), .int (nI em.length), .int (nI i), .int (nI (p + 1)), .int (-2)])) := ⟨_, rfl⟩
  obtain ⟨u1, u2⟩ := xCs_up hC0 ek1
  have u10 := u1
  have k13 := xup_at ek1
  obtain ⟨⟨q4, -, -, ⟨fn, q7, e7⟩⟩, -⟩ := u10
  have exk : nI (tK n tb (tP n tb i)) = xkv (tK n tb (tP n tb i)) := by unfold xkv; rw [if_neg (by omega)]
  obtain ⟨h2, r2, b1, b2⟩ := c_emit_ok (G := G) (d := d - 1) (nx := nx) (sl := sl) (K := tK n tb (tP n tb i)) (x := nI (tK n tb (tP n tb i))) (v := nI (tN n tb (tP n tb i))) exk u1 hl
  obtain ⟨h5, r5, c1, c2⟩ := c_acc_yes (G := G) (d := d - 1) (nx := nx) (sl := sl) b2 hi hT rfl
  have b20 := b2
  obtain ⟨-, b23, -⟩ := b20
  have at102 : xRun G d 28 (102, [some (.ref (B + 3)), some (.int (nI dp)), some (.int (nI (tK n tb (tP n tb i))))], [], (k1, nx, sl)) (none, (h5, nx, sl)) := by
    refine xr_go i28_102 rfl ?_
    refine xr_go i28_103 rfl ?_
    refine xr_go i28_104 rfl ?_
    refine xr_get i28_105 xf28_14 (by assumption) rfl rfl ?_
    refine xr_get i28_108 xf28_98 (by assumption) rfl rfl ?_
    refine xr_go i28_111 rfl ?_
    refine xr_get i28_112 xf28_29 (by assumption) rfl rfl ?_
    refine xr_iald i28_115 (by assumption) rfl (by omega) (by omega) ?_
    rw [e7 i (by omega)]
    refine xr_V i28_116 xc28_60 ⟨rfl, rfl⟩ xa_33 rfl (by assumption) rfl (Nat.le_of_ble_eq_true rfl) (by omega) ⟨Nat.le_of_ble_eq_true rfl, Nat.le_of_ble_eq_true rfl⟩ (r2) ?_
    refine xr_go i28_119 rfl ?_
    refine xr_go i28_120 rfl ?_
    refine xr_V i28_121 xc28_48 ⟨rfl, rfl⟩ xa_24 rfl (by assumption) rfl (Nat.le_of_ble_eq_true rfl) (by omega) ⟨Nat.le_of_ble_eq_true rfl, Nat.le_of_ble_eq_true rfl⟩ (r5) ?_
    refine xr_go i28_124 rfl ?_
    refine xr_goto i28_125 (t := 132) (by decide) ?_
    exact xr_end i28_132 rfl
  refine ⟨h5, cp_pre hC0 (by omega) hT hdp (fun _ z => by omega) hd ?_, (u2.trans b1).trans c1, c2⟩
  refine xr_go i28_34 rfl ?_
  refine xr_get i28_35 xf28_32 (by assumption) rfl rfl ?_
  refine xr_go i28_38 rfl ?_
  refine xr_icmp_ltT i28_40 (t := 48) (by decide) (show nI p < nI 80 from nI_lt hp (by omega)) ?_
  refine xr_go i28_48 rfl ?_
  refine xr_go i28_49 rfl ?_
  refine xr_get i28_50 xf28_32 (by assumption) rfl rfl ?_
  refine xr_go i28_53 rfl ?_
  refine xr_go i28_54 rfl ?_
  refine xr_top (show _ = nI (p + 1) from nI_add p 1) ?_
  refine xr_put i28_55 xf28_32 (by assumption) ⟨rfl, Nat.le_of_ble_eq_true rfl, rfl, rfl, Or.inl rfl⟩ (fun z1 ez1 => ?_)
  obtain rfl : z1 = k1 := ez1.trans ek1.symm
  refine xr_go i28_58 rfl ?_
  refine xr_go i28_59 rfl ?_
  refine xr_icmp_neT i28_61 (t := 84) (by decide) (fun z => by have := (nI_eq (b := 8) (by omega) (by omega)).mp z; omega) ?_
  refine xr_go i28_84 rfl ?_
  refine xr_go i28_85 rfl ?_
  by_cases e9 : tK n tb (tP n tb i) = 9
  · refine xr_icmp_eqT i28_87 (t := 102) (by decide) (by rw [e9]; rfl) ?_
    exact at102
  refine xr_icmp_eqF i28_87 (t := 102) (by decide) (fun z => e9 ((nI_eq (b := 9) (by omega) (by omega)).mp z)) ?_
  refine xr_go i28_90 rfl ?_
  refine xr_go i28_91 rfl ?_
  by_cases e6 : tK n tb (tP n tb i) = 6
  · refine xr_icmp_eqT i28_93 (t := 102) (by decide) (by rw [e6]; rfl) ?_
    exact at102
  refine xr_icmp_eqF i28_93 (t := 102) (by decide) (fun z => e6 ((nI_eq (b := 6) (by omega) (by omega)).mp z)) ?_
  refine xr_go i28_96 rfl ?_
  refine xr_go i28_97 rfl ?_
  refine xr_icmp_neF i28_99 (t := 128) (by decide) (by rw [show tK n tb (tP n tb i) = 7 by omega]; rfl) ?_
  exact at102
theorem c_part_cell_ok (hC : xCs B n tb T em i p (-2) h) (hi : i + 2 < T) (hT : T ≤ 401) (hp : p < 80) (hdp : dp ≤ 6) (hl : em.length < 406) (hK : tK n tb (tP n tb i) = 8) (hK1 : tK n tb (tP n tb (i + 1)) = 9) (hK2 : tN n tb (tP n tb (i + 1)) < 32) (hd : 2 ≤ d) : ∃ h', xRun G d 28 (0, [some (.ref (B + 3)), some (.int (nI dp)), none], [], (h, nx, sl)) (none, (h', nx, sl)) ∧ xfr B h h' ∧ xCs B n tb T (em ++ [(8, nI (tN n tb (tP n tb (i + 1))))]) (i + 2) (p + 1) (-2) h' := by
  have hC0 := hC
  obtain ⟨hTk, h3, -⟩ := hC
  obtain ⟨k1, ek1⟩ : ∃ y : xH, y = xup h (B + 3) (.inr (2, [.ref (B + 1), .ref (B + 4), .ref (B + 8), .ref (B + 9), .int (nI em.length), .int (nI i), .int (nI (p + 1)), .int (-2)])) := ⟨_, rfl⟩
  obtain ⟨u1, u2⟩ := xCs_up hC0 ek1
  have k13 := xup_at ek1
  obtain ⟨h2, r2, b1, b2⟩ := c_acc_yes (G := G) (d := d - 1) (nx := nx) (sl := sl) u1 (by omega) hT hK
  obtain ⟨h4, r4, c1, c2⟩ := c_cn_ok (G := G) (d := d - 1) (nx := nx) (sl := sl) b2 (by omega) hT hK1 hK2 (by omega)
  obtain ⟨h5, r5, d1, d2⟩ := c_emit_ok (G := G) (d := d - 1) (nx := nx) (sl := sl) (K := 8) (x := 8) (v := nI (tN n tb (tP n tb (i + 1)))) rfl c2 hl
  obtain ⟨-, b23, -⟩ := b2
  obtain ⟨-, c23, -⟩ := c2
  refine ⟨h5, cp_pre hC0 (by omega) hT hdp (fun _ z => by omega) (by omega) ?_, ((u2.trans b1).trans c1).trans d1, d2⟩
  rw [hK]
  refine xr_go i28_34 rfl ?_
  refine xr_get i28_35 xf28_32 (by assumption) rfl rfl ?_
  refine xr_go i28_38 rfl ?_
  refine xr_icmp_ltT i28_40 (t := 48) (by decide) (show nI p < nI 80 from nI_lt hp (by omega)) ?_
  refine xr_go i28_48 rfl ?_
  refine xr_go i28_49 rfl ?_
  refine xr_get i28_50 xf28_32 (by assumption) rfl rfl ?_
  refine xr_go i28_53 rfl ?_
  refine xr_go i28_54 rfl ?_
  refine xr_top (show _ = nI (p + 1) from nI_add p 1) ?_
  refine xr_put i28_55 xf28_32 (by assumption) ⟨rfl, Nat.le_of_ble_eq_true rfl, rfl, rfl, Or.inl rfl⟩ (fun z1 ez1 => ?_)
  obtain rfl : z1 = k1 := ez1.trans ek1.symm
  refine xr_go i28_58 rfl ?_
  refine xr_go i28_59 rfl ?_
  refine xr_icmp_neF i28_61 (t := 84) (by decide) rfl ?_
  refine xr_go i28_64 rfl ?_
  refine xr_go i28_65 rfl ?_
  refine xr_V i28_67 xc28_48 ⟨rfl, rfl⟩ xa_24 rfl (by assumption) rfl (Nat.le_of_ble_eq_true rfl) (by omega) ⟨Nat.le_of_ble_eq_true rfl, Nat.le_of_ble_eq_true rfl⟩ (r2) ?_
  refine xr_go i28_70 rfl ?_
  refine xr_go i28_71 rfl ?_
  refine xr_go i28_72 rfl ?_
  refine xr_go i28_74 rfl ?_
  refine xr_V i28_75 xc28_89 ⟨rfl, rfl⟩ xa_32 rfl (by assumption) rfl (Nat.le_of_ble_eq_true rfl) (by omega) ⟨Nat.le_of_ble_eq_true rfl, Nat.le_of_ble_eq_true rfl⟩ (r4) ?_
  refine xr_V i28_78 xc28_60 ⟨rfl, rfl⟩ xa_33 rfl (by assumption) rfl (Nat.le_of_ble_eq_true rfl) (by omega) ⟨Nat.le_of_ble_eq_true rfl, Nat.le_of_ble_eq_true rfl⟩ (r5) ?_
  refine xr_goto i28_81 (t := 132) (by decide) ?_
  exact xr_end i28_132 rfl
theorem c_part_cell_bad (hC : xCs B n tb T em i p (-2) h) (hi : i + 1 < T) (hT : T ≤ 401) (hn : n ≤ 400) (hp : p < 80) (hdp : dp ≤ 6) (hK : tK n tb (tP n tb i) = 8) (hK1 : ¬ (tK n tb (tP n tb (i + 1)) = 9 ∧ tN n tb (tP n tb (i + 1)) < 32)) (hd : 2 ≤ d) : ∃ h', xRun G d 28 (0, [some (.ref (B + 3)), some (.int (nI dp)), none], [], (h, nx, sl)) (none, (h', nx, sl)) ∧ xfr B h h' ∧ xCs B n tb T em (i + 1) (p + 1) (nI (tP n tb (i + 1))) h' := by
  have hC0 := hC
  obtain ⟨hTk, h3, -⟩ := hC
  obtain ⟨k1, ek1⟩ : ∃ y : xH, y = xup h (B + 3) (.inr (2, [.ref (B + 1), .ref (B + 4), .ref (B + 8), .ref (B + 9), .int (nI em.length), .int (nI i), .int (nI (p + 1)), .int (-2)])) := ⟨_, rfl⟩
  obtain ⟨u1, u2⟩ := xCs_up hC0 ek1
  have k13 := xup_at ek1
  obtain ⟨h2, r2, b1, b2⟩ := c_acc_yes (G := G) (d := d - 1) (nx := nx) (sl := sl) u1 (by omega) hT hK
  obtain ⟨h4, r4, c1, c2⟩ := c_cn_bad (G := G) (d := d - 1) (nx := nx) (sl := sl) b2 (by omega) hT hK1 (by omega)
  have r5 := c_emit_no (G := G) (d := d - 1) (nx := nx) (sl := sl) (x := 8) (v := 0) c2 (tP_nn hn)
  have c20 := c2
  obtain ⟨-, b23, -⟩ := b2
  obtain ⟨-, c23, -⟩ := c20
  refine ⟨h4, cp_pre hC0 (by omega) hT hdp (fun _ z => by omega) (by omega) ?_, (u2.trans b1).trans c1, c2⟩
  rw [hK]
  refine xr_go i28_34 rfl ?_
  refine xr_get i28_35 xf28_32 (by assumption) rfl rfl ?_
  refine xr_go i28_38 rfl ?_
  refine xr_icmp_ltT i28_40 (t := 48) (by decide) (show nI p < nI 80 from nI_lt hp (by omega)) ?_
  refine xr_go i28_48 rfl ?_
  refine xr_go i28_49 rfl ?_
  refine xr_get i28_50 xf28_32 (by assumption) rfl rfl ?_
  refine xr_go i28_53 rfl ?_
  refine xr_go i28_54 rfl ?_
  refine xr_top (show _ = nI (p + 1) from nI_add p 1) ?_
  refine xr_put i28_55 xf28_32 (by assumption) ⟨rfl, Nat.le_of_ble_eq_true rfl, rfl, rfl, Or.inl rfl⟩ (fun z1 ez1 => ?_)
  obtain rfl : z1 = k1 := ez1.trans ek1.symm
  refine xr_go i28_58 rfl ?_
  refine xr_go i28_59 rfl ?_
  refine xr_icmp_neF i28_61 (t := 84) (by decide) rfl ?_
  refine xr_go i28_64 rfl ?_
  refine xr_go i28_65 rfl ?_
  refine xr_V i28_67 xc28_48 ⟨rfl, rfl⟩ xa_24 rfl (by assumption) rfl (Nat.le_of_ble_eq_true rfl) (by omega) ⟨Nat.le_of_ble_eq_true rfl, Nat.le_of_ble_eq_true rfl⟩ (r2) ?_
  refine xr_go i28_70 rfl ?_
  refine xr_go i28_71 rfl ?_
  refine xr_go i28_72 rfl ?_
  refine xr_go i28_74 rfl ?_
  refine xr_V i28_75 xc28_89 ⟨rfl, rfl⟩ xa_32 rfl (by assumption) rfl (Nat.le_of_ble_eq_true rfl) (by omega) ⟨Nat.le_of_ble_eq_true rfl, Nat.le_of_ble_eq_true rfl⟩ (r4) ?_
  refine xr_V i28_78 xc28_60 ⟨rfl, rfl⟩ xa_33 rfl (by assumption) rfl (Nat.le_of_ble_eq_true rfl) (by omega) ⟨Nat.le_of_ble_eq_true rfl, Nat.le_of_ble_eq_true rfl⟩ (r5) ?_
  refine xr_goto i28_81 (t := 132) (by decide) ?_
  exact xr_end i28_132 rfl
end XCPART

