/-! ===== the class: reading on behind a fault ===== -/
section XCFAULT
variable {G : xG} {d : Nat} {h h' : xH} {nx sl B n T : Nat} {tb : Nat → Nat} {ft : Int32} {em : List (Nat × Int32)} {i p : Nat}
theorem xCs_up {i' p' : Nat} {ft' : Int32} {k1 : xH} (hC : xCs B n tb T em i p ft h) (ek : k1 = xup h (B + 3) (.inr (2, [.ref (B + 1), .ref (B + 4), .ref (B + 8), .ref (B + 9), .int (nI em.length), .int (nI i'), .int (nI p'), .int ft']))) : xCs B n tb T em i' p' ft' k1 ∧ xfr B h k1 := by
  obtain ⟨hTk, h3, fs, fo, h8, h9, hem⟩ := hC
  have k1n : ∀ q, q ≠ B + 3 → k1 q = h q := fun q hq => by rw [ek]; exact xup_n hq
  exact ⟨⟨xTk_kept hTk (fun q a1 a2 => k1n q (by omega)), xup_at ek, fs, fo, (k1n _ (by omega)).trans h8, (k1n _ (by omega)).trans h9, hem⟩, fun q a1 a2 a3 => k1n q a1⟩
theorem cf_part {dp : Nat} (hC : xCs B n tb T em i p ft h) (hft : ¬ ft = -2) (hi : i < T) (hT : T ≤ 401) (hp : p ≤ 80) (hdp : dp ≤ 6) (hd : 2 ≤ d) : ∃ h', xRun G d 28 (0, [some (.ref (B + 3)), some (.int (nI dp)), none], [], (h, nx, sl)) (none, (h', nx, sl)) ∧ xfr B h h' ∧ ∃ p', p' ≤ 80 ∧ xCs B n tb T em i p' ft h' := by
  have hC0 := hC
  have hKl := tK_le (n := n) (p := tP n tb i) (tb := tb)
  have rk := c_kind (G := G) (d := d - 1) (nx := nx) (sl := sl) hC hi hT
  have rf := c_fail_no (G := G) (d := d - 1) (nx := nx) (sl := sl) hC hft
  have ra := c_acc_no (G := G) (d := d - 1) (nx := nx) (sl := sl) (K := 19) hC hi hT (by omega) (Or.inl hft)
  obtain ⟨hTk, h3, -⟩ := hC
  have pre : ∀ res, xRun G d 28 (34, [some (.ref (B + 3)), some (.int (nI dp)), some (.int (nI (tK n tb (tP n tb i))))], [], (h, nx, sl)) res → xRun G d 28 (0, [some (.ref (B + 3)), some (.int (nI dp)), none], [], (h, nx, sl)) res := by
    intro res r
    have at29 : xRun G d 28 (29, [some (.ref (B + 3)), some (.int (nI dp)), none], [], (h, nx, sl)) res := by
      refine xr_go i28_29 rfl ?_
      refine xr_V i28_30 xc28_64 ⟨rfl, rfl⟩ xa_31 rfl (by assumption) rfl (Nat.le_of_ble_eq_true rfl) (by omega) ⟨Nat.le_of_ble_eq_true rfl, Nat.le_of_ble_eq_true rfl⟩ (rk) ?_
      refine xr_go i28_33 rfl ?_
      exact r
    refine xr_go i28_0 rfl ?_
    refine xr_go i28_1 rfl ?_
    by_cases e : dp < 6
    · refine xr_icmp_geF i28_3 (t := 29) (by decide) (show ¬ nI 6 ≤ nI dp from nI_ge e (by omega)) ?_
      refine xr_go i28_6 rfl ?_
      refine xr_go i28_7 rfl ?_
      refine xr_V i28_9 xc28_48 ⟨rfl, rfl⟩ xa_24 rfl (by assumption) rfl (Nat.le_of_ble_eq_true rfl) (by omega) ⟨Nat.le_of_ble_eq_true rfl, Nat.le_of_ble_eq_true rfl⟩ (ra) ?_
      refine xr_if_eqT i28_12 (t := 29) (by decide) rfl ?_
      exact at29
    · refine xr_icmp_geT i28_3 (t := 29) (by decide) (show nI 6 ≤ nI dp from nI_le (by omega) (by omega)) ?_
      exact at29
  by_cases hp80 : p < 80
  · obtain ⟨k1, ek1⟩ : ∃ y : xH, y = xup h (B + 3) (.inr (2, [.ref (B + 1), .ref (B + 4), .ref (B + 8), .ref (B + 9), .int (nI em.length), .int (nI i), .int (nI (p + 1)), .int ft])) := ⟨_, rfl⟩
    obtain ⟨u1, u2⟩ := xCs_up hC0 ek1
    have u10 := u1
    have k13 := xup_at ek1
    obtain ⟨⟨q4, -, -, ⟨fn, q7, e7⟩⟩, -⟩ := u10
    have at102 : xRun G d 28 (102, [some (.ref (B + 3)), some (.int (nI dp)), some (.int (nI (tK n tb (tP n tb i))))], [], (k1, nx, sl)) (none, (k1, nx, sl)) := by
      refine xr_go i28_102 rfl ?_
      refine xr_go i28_103 rfl ?_
      refine xr_go i28_104 rfl ?_
      refine xr_get i28_105 xf28_14 (by assumption) rfl rfl ?_
      refine xr_get i28_108 xf28_98 (by assumption) rfl rfl ?_
      refine xr_go i28_111 rfl ?_
      refine xr_get i28_112 xf28_29 (by assumption) rfl rfl ?_
      refine xr_iald i28_115 (by assumption) rfl (by omega) (by omega) ?_
      refine xr_V i28_116 xc28_60 ⟨rfl, rfl⟩ xa_33 rfl (by assumption) rfl (Nat.le_of_ble_eq_true rfl) (by omega) ⟨Nat.le_of_ble_eq_true rfl, Nat.le_of_ble_eq_true rfl⟩ ((c_emit_no u1 hft)) ?_
      refine xr_go i28_119 rfl ?_
      refine xr_go i28_120 rfl ?_
      refine xr_V i28_121 xc28_48 ⟨rfl, rfl⟩ xa_24 rfl (by assumption) rfl (Nat.le_of_ble_eq_true rfl) (by omega) ⟨Nat.le_of_ble_eq_true rfl, Nat.le_of_ble_eq_true rfl⟩ ((c_acc_no u1 hi hT hKl (Or.inl hft))) ?_
      refine xr_go i28_124 rfl ?_
      refine xr_goto i28_125 (t := 132) (by decide) ?_
      exact xr_end i28_132 rfl
    refine ⟨k1, pre _ ?_, u2, p + 1, by omega, u1⟩
    refine xr_go i28_34 rfl ?_
    refine xr_get i28_35 xf28_32 (by assumption) rfl rfl ?_
    refine xr_go i28_38 rfl ?_
    refine xr_icmp_ltT i28_40 (t := 48) (by decide) (show nI p < nI 80 from nI_lt hp80 (by omega)) ?_
    refine xr_go i28_48 rfl ?_
    refine xr_go i28_49 rfl ?_
    refine xr_get i28_50 xf28_32 (by assumption) rfl rfl ?_
    refine xr_go i28_53 rfl ?_
    refine xr_go i28_54 rfl ?_
    refine xr_top (show _ = nI (p + 1) from nI_add p 1) ?_
    refine xr_put i28_55 xf28_32 (by assumption) ⟨rfl, Nat.le_of_ble_eq_true rfl, rfl, rfl, Or.inl rfl⟩ (fun z1 ez1 => ?_)
    obtain rfl : z1 = k1 := ez1.trans ek1.symm
    refine xr_go i28_58 rfl ?_
    refine xr_go i28_59 rfl ?_
    by_cases e8 : tK n tb (tP n tb i) = 8
    · refine xr_icmp_neF i28_61 (t := 84) (by decide) (by rw [e8]; rfl) ?_
      refine xr_go i28_64 rfl ?_
      refine xr_go i28_65 rfl ?_
      refine xr_V i28_67 xc28_48 ⟨rfl, rfl⟩ xa_24 rfl (by assumption) rfl (Nat.le_of_ble_eq_true rfl) (by omega) ⟨Nat.le_of_ble_eq_true rfl, Nat.le_of_ble_eq_true rfl⟩ ((c_acc_no (K := 8) u1 hi hT (by omega) (Or.inl hft))) ?_
      refine xr_go i28_70 rfl ?_
      refine xr_go i28_71 rfl ?_
      refine xr_go i28_72 rfl ?_
      refine xr_go i28_74 rfl ?_
      refine xr_V i28_75 xc28_89 ⟨rfl, rfl⟩ xa_32 rfl (by assumption) rfl (Nat.le_of_ble_eq_true rfl) (by omega) ⟨Nat.le_of_ble_eq_true rfl, Nat.le_of_ble_eq_true rfl⟩ ((c_cn_no u1 hi hT hft (by omega))) ?_
      refine xr_V i28_78 xc28_60 ⟨rfl, rfl⟩ xa_33 rfl (by assumption) rfl (Nat.le_of_ble_eq_true rfl) (by omega) ⟨Nat.le_of_ble_eq_true rfl, Nat.le_of_ble_eq_true rfl⟩ ((c_emit_no u1 hft)) ?_
      refine xr_goto i28_81 (t := 132) (by decide) ?_
      exact xr_end i28_132 rfl
    · refine xr_icmp_neT i28_61 (t := 84) (by decide) (fun z => e8 ((nI_eq (b := 8) (by omega) (by omega)).mp z)) ?_
      refine xr_go i28_84 rfl ?_
      refine xr_go i28_85 rfl ?_
      by_cases e9 : tK n tb (tP n tb i) = 9
      · refine xr_icmp_eqT i28_87 (t := 102) (by decide) (by rw [e9]; rfl) ?_
        exact at102
      refine xr_icmp_eqF i28_87 (t := 102) (by decide) (fun z => e9 ((nI_eq (b := 9) (by omega) (by omega)).mp z)) ?_
      refine xr_go i28_90 rfl ?_
      refine xr_go i28_91 rfl ?_
      by_cases e6 : tK n tb (tP n tb i) = 6
      · refine xr_icmp_eqT i28_93 (t := 102) (by decide) (by rw [e6]; rfl) ?_
        exact at102
      refine xr_icmp_eqF i28_93 (t := 102) (by decide) (fun z => e6 ((nI_eq (b := 6) (by omega) (by omega)).mp z)) ?_
      refine xr_go i28_96 rfl ?_
      refine xr_go i28_97 rfl ?_
      by_cases e7' : tK n tb (tP n tb i) = 7
      · refine xr_icmp_neF i28_99 (t := 128) (by decide) (by rw [e7']; rfl) ?_
        exact at102
      refine xr_icmp_neT i28_99 (t := 128) (by decide) (fun z => e7' ((nI_eq (b := 7) (by omega) (by omega)).mp z)) ?_
      refine xr_go i28_128 rfl ?_
      refine xr_V i28_129 xc28_68 ⟨rfl, rfl⟩ xa_30 rfl (by assumption) rfl (Nat.le_of_ble_eq_true rfl) (by omega) ⟨Nat.le_of_ble_eq_true rfl, Nat.le_of_ble_eq_true rfl⟩ ((c_fail_no u1 hft)) ?_
      exact xr_end i28_132 rfl
  · refine ⟨h, pre _ ?_, xfr.refl, p, hp, hC0⟩
    refine xr_go i28_34 rfl ?_
    refine xr_get i28_35 xf28_32 (by assumption) rfl rfl ?_
    refine xr_go i28_38 rfl ?_
    refine xr_icmp_ltF i28_40 (t := 48) (by decide) (show ¬ nI p < nI 80 from nI_nlt (by omega) (by omega)) ?_
    refine xr_go i28_43 rfl ?_
    refine xr_V i28_44 xc28_68 ⟨rfl, rfl⟩ xa_30 rfl (by assumption) rfl (Nat.le_of_ble_eq_true rfl) (by omega) ⟨Nat.le_of_ble_eq_true rfl, Nat.le_of_ble_eq_true rfl⟩ (rf) ?_
    exact xr_end i28_47 rfl
theorem cf_tloop {dp k : Nat} (hC : xCs B n tb T em i p ft h) (hft : ¬ ft = -2) (hi : i < T) (hT : T ≤ 401) (hk : k < 2 ^ 20) (hd : 1 ≤ d) : xRun G d 27 (9, [some (.ref (B + 3)), some (.int (nI dp)), some (.int 1), some (.int (nI k))], [], (h, nx, sl)) (none, (h, nx, sl)) := by
  have ra := c_acc_no (G := G) (d := d - 1) (nx := nx) (sl := sl) (K := 16) hC hi hT (by omega) (Or.inl hft)
  obtain ⟨-, h3, -⟩ := hC
  refine xr_go i27_9 rfl ?_
  refine xr_if_eqF i27_10 (t := 49) (by decide) (by decide) ?_
  refine xr_go i27_13 rfl ?_
  refine xr_go i27_14 rfl ?_
  by_cases e : k < 400
  · refine xr_icmp_geF i27_17 (t := 49) (by decide) (show ¬ nI 400 ≤ nI k from nI_ge e (by omega)) ?_
    refine xr_go i27_20 rfl ?_
    refine xr_go i27_21 rfl ?_
    refine xr_V i27_23 xc27_48 ⟨rfl, rfl⟩ xa_24 rfl (by assumption) rfl (Nat.le_of_ble_eq_true rfl) (by omega) ⟨Nat.le_of_ble_eq_true rfl, Nat.le_of_ble_eq_true rfl⟩ (ra) ?_
    refine xr_go i27_26 rfl ?_
    refine xr_go i27_27 rfl ?_
    refine xr_if_eqT i27_28 (t := 43) (by decide) rfl ?_
    refine xr_inc1 i27_43 rfl rfl ?_
    refine xr_goto i27_46 (t := 9) (by decide) ?_
    refine xr_go i27_9 rfl ?_
    refine xr_if_eqT i27_10 (t := 49) (by decide) rfl ?_
    exact xr_end i27_49 rfl
  · refine xr_icmp_geT i27_17 (t := 49) (by decide) (show nI 400 ≤ nI k from nI_le (by omega) (by omega)) ?_
    exact xr_end i27_49 rfl
theorem cf_term {dp : Nat} (hC : xCs B n tb T em i p ft h) (hft : ¬ ft = -2) (hi : i < T) (hT : T ≤ 401) (hp : p ≤ 80) (hdp : dp ≤ 6) (hd : 3 ≤ d) : ∃ h', xRun G d 27 (0, [some (.ref (B + 3)), some (.int (nI dp)), none, none], [], (h, nx, sl)) (none, (h', nx, sl)) ∧ xfr B h h' ∧ ∃ p', p' ≤ 80 ∧ xCs B n tb T em i p' ft h' := by
  obtain ⟨h1, r1, a1, p', hp', a2⟩ := cf_part (G := G) (d := d - 1) (nx := nx) (sl := sl) hC hft hi hT hp hdp (by omega)
  obtain ⟨-, h3, -⟩ := hC
  refine ⟨h1, ?_, a1, p', hp', a2⟩
  refine xr_go i27_0 rfl ?_
  refine xr_go i27_1 rfl ?_
  refine xr_V i27_2 xc27_95 ⟨rfl, rfl⟩ xa_28 rfl (by assumption) rfl (Nat.le_of_ble_eq_true rfl) (by omega) ⟨Nat.le_of_ble_eq_true rfl, Nat.le_of_ble_eq_true rfl⟩ (r1) ?_
  refine xr_go i27_5 rfl ?_
  refine xr_go i27_6 rfl ?_
  refine xr_go i27_7 rfl ?_
  refine xr_go i27_8 rfl ?_
  exact cf_tloop (k := 0) a2 hft hi hT (by omega) (by omega)
theorem cf_sloop {dp k : Nat} {L4 : Option Value} (hC : xCs B n tb T em i p ft h) (hft : ¬ ft = -2) (hi : i < T) (hT : T ≤ 401) (hk : k < 2 ^ 20) (hd : 1 ≤ d) : xRun G d 26 (9, [some (.ref (B + 3)), some (.int (nI dp)), some (.int 1), some (.int (nI k)), L4], [], (h, nx, sl)) (none, (h, nx, sl)) := by
  have hKl := tK_le (n := n) (p := tP n tb i) (tb := tb)
  have ra := c_acc_no (G := G) (d := d - 1) (nx := nx) (sl := sl) hC hi hT hKl (Or.inl hft)
  have rk := c_kind (G := G) (d := d - 1) (nx := nx) (sl := sl) hC hi hT
  obtain ⟨-, h3, -⟩ := hC
  have at53 : xRun G d 26 (53, [some (.ref (B + 3)), some (.int (nI dp)), some (.int 1), some (.int (nI k)), some (.int (nI (tK n tb (tP n tb i))))], [], (h, nx, sl)) (none, (h, nx, sl)) := by
    refine xr_go i26_53 rfl ?_
    refine xr_go i26_54 rfl ?_
    refine xr_go i26_55 rfl ?_
    refine xr_if_eqT i26_56 (t := 71) (by decide) rfl ?_
    refine xr_inc1 i26_71 rfl rfl ?_
    refine xr_goto i26_74 (t := 9) (by decide) ?_
    refine xr_go i26_9 rfl ?_
    refine xr_if_eqT i26_10 (t := 77) (by decide) rfl ?_
    exact xr_end i26_77 rfl
  have at40 : xRun G d 26 (40, [some (.ref (B + 3)), some (.int (nI dp)), some (.int 1), some (.int (nI k)), some (.int (nI (tK n tb (tP n tb i))))], [], (h, nx, sl)) (none, (h, nx, sl)) := by
    refine xr_go i26_40 rfl ?_
    refine xr_go i26_41 rfl ?_
    refine xr_V i26_43 xc26_48 ⟨rfl, rfl⟩ xa_24 rfl (by assumption) rfl (Nat.le_of_ble_eq_true rfl) (by omega) ⟨Nat.le_of_ble_eq_true rfl, Nat.le_of_ble_eq_true rfl⟩ (ra) ?_
    refine xr_if_eqT i26_46 (t := 53) (by decide) rfl ?_
    exact at53
  refine xr_go i26_9 rfl ?_
  refine xr_if_eqF i26_10 (t := 77) (by decide) (by decide) ?_
  refine xr_go i26_13 rfl ?_
  refine xr_go i26_14 rfl ?_
  by_cases e : k < 400
  · refine xr_icmp_geF i26_17 (t := 77) (by decide) (show ¬ nI 400 ≤ nI k from nI_ge e (by omega)) ?_
    refine xr_go i26_20 rfl ?_
    refine xr_V i26_21 xc26_64 ⟨rfl, rfl⟩ xa_31 rfl (by assumption) rfl (Nat.le_of_ble_eq_true rfl) (by omega) ⟨Nat.le_of_ble_eq_true rfl, Nat.le_of_ble_eq_true rfl⟩ (rk) ?_
    refine xr_go i26_24 rfl ?_
    refine xr_go i26_26 rfl ?_
    refine xr_go i26_28 rfl ?_
    by_cases e14 : tK n tb (tP n tb i) = 14
    · refine xr_icmp_eqT i26_30 (t := 40) (by decide) (by rw [e14]; rfl) ?_
      exact at40
    refine xr_icmp_eqF i26_30 (t := 40) (by decide) (fun z => e14 ((nI_eq (b := 14) (by omega) (by omega)).mp z)) ?_
    refine xr_go i26_33 rfl ?_
    refine xr_go i26_35 rfl ?_
    by_cases e15 : tK n tb (tP n tb i) = 15
    · refine xr_icmp_neF i26_37 (t := 53) (by decide) (by rw [e15]; rfl) ?_
      exact at40
    refine xr_icmp_neT i26_37 (t := 53) (by decide) (fun z => e15 ((nI_eq (b := 15) (by omega) (by omega)).mp z)) ?_
    exact at53
  · refine xr_icmp_geT i26_17 (t := 77) (by decide) (show nI 400 ≤ nI k from nI_le (by omega) (by omega)) ?_
    exact xr_end i26_77 rfl
theorem cf_sum {dp : Nat} (hC : xCs B n tb T em i p ft h) (hft : ¬ ft = -2) (hi : i < T) (hT : T ≤ 401) (hp : p ≤ 80) (hdp : dp ≤ 6) (hd : 4 ≤ d) : ∃ h', xRun G d 26 (0, [some (.ref (B + 3)), some (.int (nI dp)), none, none, none], [], (h, nx, sl)) (none, (h', nx, sl)) ∧ xfr B h h' ∧ ∃ p', p' ≤ 80 ∧ xCs B n tb T em i p' ft h' := by
  obtain ⟨h1, r1, a1, p', hp', a2⟩ := cf_term (G := G) (d := d - 1) (nx := nx) (sl := sl) hC hft hi hT hp hdp (by omega)
  obtain ⟨-, h3, -⟩ := hC
  refine ⟨h1, ?_, a1, p', hp', a2⟩
  refine xr_go i26_0 rfl ?_
  refine xr_go i26_1 rfl ?_
  refine xr_V i26_2 xc26_92 ⟨rfl, rfl⟩ xa_27 rfl (by assumption) rfl (Nat.le_of_ble_eq_true rfl) (by omega) ⟨Nat.le_of_ble_eq_true rfl, Nat.le_of_ble_eq_true rfl⟩ (r1) ?_
  refine xr_go i26_5 rfl ?_
  refine xr_go i26_6 rfl ?_
  refine xr_go i26_7 rfl ?_
  refine xr_go i26_8 rfl ?_
  exact cf_sloop (k := 0) a2 hft hi hT (by omega) (by omega)
theorem cf_test73 {x : Int32} {k : Nat} (hC : xCs B n tb T em i p ft h) (hft : ¬ ft = -2) (hi : i < T) (hT : T ≤ 401) (hk : k < 2 ^ 20) (hd : 2 ≤ d) : xRun G d 25 (73, [some (.ref (B + 3)), some (.int 1), some (.int (nI k)), some (.int x)], [], (h, nx, sl)) (none, (h, nx, sl)) := by
  have ra := c_acc_no (G := G) (d := d - 1) (nx := nx) (sl := sl) (K := 5) hC hi hT (by omega) (Or.inl hft)
  have rr := c_req_no (G := G) (d := d - 1) (nx := nx) (sl := sl) (K := 3) hC hi hT (by omega) hft (by omega)
  obtain ⟨-, h3, -⟩ := hC
  refine xr_go i25_73 rfl ?_
  refine xr_go i25_74 rfl ?_
  refine xr_V i25_75 xc25_48 ⟨rfl, rfl⟩ xa_24 rfl (by assumption) rfl (Nat.le_of_ble_eq_true rfl) (by omega) ⟨Nat.le_of_ble_eq_true rfl, Nat.le_of_ble_eq_true rfl⟩ (ra) ?_
  refine xr_go i25_78 rfl ?_
  refine xr_inc1 i25_79 rfl rfl ?_
  refine xr_goto i25_82 (t := 4) (by decide) ?_
  refine xr_go i25_4 rfl ?_
  refine xr_if_eqT i25_5 (t := 85) (by decide) rfl ?_
  refine xr_go i25_85 rfl ?_
  refine xr_go i25_86 rfl ?_
  refine xr_V i25_87 xc25_84 ⟨rfl, rfl⟩ xa_29 rfl (by assumption) rfl (Nat.le_of_ble_eq_true rfl) (by omega) ⟨Nat.le_of_ble_eq_true rfl, Nat.le_of_ble_eq_true rfl⟩ (rr) ?_
  exact xr_end i25_90 rfl
theorem cf_test67 {x : Int32} {k : Nat} (hC : xCs B n tb T em i p ft h) (hft : ¬ ft = -2) (hi : i < T) (hT : T ≤ 401) (hk : k < 2 ^ 20) (hd : 2 ≤ d) : xRun G d 25 (67, [some (.ref (B + 3)), some (.int 1), some (.int (nI k)), some (.int x)], [], (h, nx, sl)) (none, (h, nx, sl)) := by
  have re := c_emit_no (G := G) (d := d - 1) (nx := nx) (sl := sl) (x := x) (v := 0) hC hft
  have hC0 := hC
  obtain ⟨-, h3, -⟩ := hC
  refine xr_go i25_67 rfl ?_
  refine xr_go i25_68 rfl ?_
  refine xr_go i25_69 rfl ?_
  refine xr_V i25_70 xc25_60 ⟨rfl, rfl⟩ xa_33 rfl (by assumption) rfl (Nat.le_of_ble_eq_true rfl) (by omega) ⟨Nat.le_of_ble_eq_true rfl, Nat.le_of_ble_eq_true rfl⟩ (re) ?_
  exact cf_test73 hC0 hft hi hT hk hd
theorem cf_test62 {x : Int32} {k : Nat} (hC : xCs B n tb T em i p ft h) (hft : ¬ ft = -2) (hi : i < T) (hT : T ≤ 401) (hp : p ≤ 80) (hk : k < 2 ^ 20) (hd : 5 ≤ d) : ∃ h', xRun G d 25 (62, [some (.ref (B + 3)), some (.int 1), some (.int (nI k)), some (.int x)], [], (h, nx, sl)) (none, (h', nx, sl)) ∧ xfr B h h' ∧ ∃ p', p' ≤ 80 ∧ xCs B n tb T em i p' ft h' := by
  obtain ⟨h1, r1, a1, p', hp', a2⟩ := cf_sum (G := G) (d := d - 1) (nx := nx) (sl := sl) (dp := 0) hC hft hi hT hp (by omega) (by omega)
  obtain ⟨-, h3, -⟩ := hC
  refine ⟨h1, ?_, a1, p', hp', a2⟩
  refine xr_go i25_62 rfl ?_
  refine xr_go i25_63 rfl ?_
  refine xr_V i25_64 xc25_80 ⟨rfl, rfl⟩ xa_26 rfl (by assumption) rfl (Nat.le_of_ble_eq_true rfl) (by omega) ⟨Nat.le_of_ble_eq_true rfl, Nat.le_of_ble_eq_true rfl⟩ (r1) ?_
  exact cf_test67 a2 hft hi hT hk (by omega)
theorem cf_test20 {L3 : Option Value} {k : Nat} (hC : xCs B n tb T em i p ft h) (hft : ¬ ft = -2) (hi : i < T) (hT : T ≤ 401) (hp : p ≤ 80) (hk : k < 2 ^ 20) (hd : 5 ≤ d) : ∃ h', xRun G d 25 (20, [some (.ref (B + 3)), some (.int 1), some (.int (nI k)), L3], [], (h, nx, sl)) (none, (h', nx, sl)) ∧ xfr B h h' ∧ ∃ p', p' ≤ 80 ∧ xCs B n tb T em i p' ft h' := by
  have hKl := tK_le (n := n) (p := tP n tb i) (tb := tb)
  have ra := c_acc_no (G := G) (d := d - 1) (nx := nx) (sl := sl) hC hi hT hKl (Or.inl hft)
  have rk := c_kind (G := G) (d := d - 1) (nx := nx) (sl := sl) hC hi hT
  have rf := c_fail_no (G := G) (d := d - 1) (nx := nx) (sl := sl) hC hft
  obtain ⟨h1, r1, a1, a2⟩ := cf_test62 (G := G) (d := d) (nx := nx) (sl := sl) (x := nI (tK n tb (tP n tb i))) (k := k) hC hft hi hT hp hk hd
  obtain ⟨-, h3, -⟩ := hC
  refine ⟨h1, ?_, a1, a2⟩
  have at49 : xRun G d 25 (49, [some (.ref (B + 3)), some (.int 1), some (.int (nI k)), some (.int (nI (tK n tb (tP n tb i))))], [], (h, nx, sl)) (none, (h1, nx, sl)) := by
    refine xr_go i25_49 rfl ?_
    refine xr_go i25_50 rfl ?_
    refine xr_V i25_51 xc25_48 ⟨rfl, rfl⟩ xa_24 rfl (by assumption) rfl (Nat.le_of_ble_eq_true rfl) (by omega) ⟨Nat.le_of_ble_eq_true rfl, Nat.le_of_ble_eq_true rfl⟩ (ra) ?_
    refine xr_go i25_54 rfl ?_
    refine xr_goto i25_55 (t := 62) (by decide) ?_
    exact r1
  refine xr_go i25_20 rfl ?_
  refine xr_V i25_21 xc25_64 ⟨rfl, rfl⟩ xa_31 rfl (by assumption) rfl (Nat.le_of_ble_eq_true rfl) (by omega) ⟨Nat.le_of_ble_eq_true rfl, Nat.le_of_ble_eq_true rfl⟩ (rk) ?_
  refine xr_go i25_24 rfl ?_
  refine xr_go i25_25 rfl ?_
  refine xr_go i25_26 rfl ?_
  by_cases e10 : tK n tb (tP n tb i) = 10
  · refine xr_icmp_eqT i25_28 (t := 49) (by decide) (by rw [e10]; rfl) ?_
    exact at49
  refine xr_icmp_eqF i25_28 (t := 49) (by decide) (fun z => e10 ((nI_eq (b := 10) (by omega) (by omega)).mp z)) ?_
  refine xr_go i25_31 rfl ?_
  refine xr_go i25_32 rfl ?_
  by_cases e11 : tK n tb (tP n tb i) = 11
  · refine xr_icmp_eqT i25_34 (t := 49) (by decide) (by rw [e11]; rfl) ?_
    exact at49
  refine xr_icmp_eqF i25_34 (t := 49) (by decide) (fun z => e11 ((nI_eq (b := 11) (by omega) (by omega)).mp z)) ?_
  refine xr_go i25_37 rfl ?_
  refine xr_go i25_38 rfl ?_
  by_cases e12 : tK n tb (tP n tb i) = 12
  · refine xr_icmp_eqT i25_40 (t := 49) (by decide) (by rw [e12]; rfl) ?_
    exact at49
  refine xr_icmp_eqF i25_40 (t := 49) (by decide) (fun z => e12 ((nI_eq (b := 12) (by omega) (by omega)).mp z)) ?_
  refine xr_go i25_43 rfl ?_
  refine xr_go i25_44 rfl ?_
  by_cases e13 : tK n tb (tP n tb i) = 13
  · refine xr_icmp_neF i25_46 (t := 58) (by decide) (by rw [e13]; rfl) ?_
    exact at49
  refine xr_icmp_neT i25_46 (t := 58) (by decide) (fun z => e13 ((nI_eq (b := 13) (by omega) (by omega)).mp z)) ?_
  refine xr_go i25_58 rfl ?_
  refine xr_V i25_59 xc25_68 ⟨rfl, rfl⟩ xa_30 rfl (by assumption) rfl (Nat.le_of_ble_eq_true rfl) (by omega) ⟨Nat.le_of_ble_eq_true rfl, Nat.le_of_ble_eq_true rfl⟩ (rf) ?_
  exact r1
theorem cf_eff36 {x : Int32} {k : Nat} (hC : xCs B n tb T em i p ft h) (hft : ¬ ft = -2) (hi : i < T) (hT : T ≤ 401) (hk : k < 2 ^ 20) (hd : 2 ≤ d) : xRun G d 34 (36, [some (.ref (B + 3)), some (.int 1), some (.int (nI k)), some (.int x)], [], (h, nx, sl)) (none, (h, nx, sl)) := by
  have re := c_emit_no (G := G) (d := d - 1) (nx := nx) (sl := sl) (x := 17) (v := x) hC hft
  have ra := c_acc_no (G := G) (d := d - 1) (nx := nx) (sl := sl) (K := 18) hC hi hT (by omega) (Or.inl hft)
  obtain ⟨-, h3, -⟩ := hC
  refine xr_go i34_36 rfl ?_
  refine xr_go i34_37 rfl ?_
  refine xr_go i34_39 rfl ?_
  refine xr_V i34_40 xc34_60 ⟨rfl, rfl⟩ xa_33 rfl (by assumption) rfl (Nat.le_of_ble_eq_true rfl) (by omega) ⟨Nat.le_of_ble_eq_true rfl, Nat.le_of_ble_eq_true rfl⟩ (re) ?_
  refine xr_go i34_43 rfl ?_
  refine xr_go i34_44 rfl ?_
  refine xr_V i34_46 xc34_48 ⟨rfl, rfl⟩ xa_24 rfl (by assumption) rfl (Nat.le_of_ble_eq_true rfl) (by omega) ⟨Nat.le_of_ble_eq_true rfl, Nat.le_of_ble_eq_true rfl⟩ (ra) ?_
  refine xr_go i34_49 rfl ?_
  refine xr_inc1 i34_50 rfl rfl ?_
  refine xr_goto i34_53 (t := 4) (by decide) ?_
  refine xr_go i34_4 rfl ?_
  refine xr_if_eqT i34_5 (t := 56) (by decide) rfl ?_
  refine xr_go i34_56 rfl ?_
  refine xr_if_eqT i34_57 (t := 64) (by decide) rfl ?_
  exact xr_end i34_64 rfl
theorem cf_eff31 {x : Int32} {k : Nat} (hC : xCs B n tb T em i p ft h) (hft : ¬ ft = -2) (hi : i < T) (hT : T ≤ 401) (hp : p ≤ 80) (hk : k < 2 ^ 20) (hd : 5 ≤ d) : ∃ h', xRun G d 34 (31, [some (.ref (B + 3)), some (.int 1), some (.int (nI k)), some (.int x)], [], (h, nx, sl)) (none, (h', nx, sl)) ∧ xfr B h h' ∧ ∃ p', p' ≤ 80 ∧ xCs B n tb T em i p' ft h' := by
  obtain ⟨h1, r1, a1, p', hp', a2⟩ := cf_sum (G := G) (d := d - 1) (nx := nx) (sl := sl) (dp := 0) hC hft hi hT hp (by omega) (by omega)
  obtain ⟨-, h3, -⟩ := hC
  refine ⟨h1, ?_, a1, p', hp', a2⟩
  refine xr_go i34_31 rfl ?_
  refine xr_go i34_32 rfl ?_
  refine xr_V i34_33 xc34_80 ⟨rfl, rfl⟩ xa_26 rfl (by assumption) rfl (Nat.le_of_ble_eq_true rfl) (by omega) ⟨Nat.le_of_ble_eq_true rfl, Nat.le_of_ble_eq_true rfl⟩ (r1) ?_
  exact cf_eff36 a2 hft hi hT hk (by omega)
theorem cf_eff25 {x : Int32} {k : Nat} (hC : xCs B n tb T em i p ft h) (hft : ¬ ft = -2) (hi : i < T) (hT : T ≤ 401) (hp : p ≤ 80) (hk : k < 2 ^ 20) (hd : 5 ≤ d) : ∃ h', xRun G d 34 (25, [some (.ref (B + 3)), some (.int 1), some (.int (nI k)), some (.int x)], [], (h, nx, sl)) (none, (h', nx, sl)) ∧ xfr B h h' ∧ ∃ p', p' ≤ 80 ∧ xCs B n tb T em i p' ft h' := by
  have rr := c_req_no (G := G) (d := d - 1) (nx := nx) (sl := sl) (K := 17) hC hi hT (by omega) hft (by omega)
  obtain ⟨h1, r1, a1, a2⟩ := cf_eff31 (G := G) (d := d) (nx := nx) (sl := sl) (x := x) (k := k) hC hft hi hT hp hk hd
  obtain ⟨-, h3, -⟩ := hC
  refine ⟨h1, ?_, a1, a2⟩
  refine xr_go i34_25 rfl ?_
  refine xr_go i34_26 rfl ?_
  refine xr_V i34_28 xc34_84 ⟨rfl, rfl⟩ xa_29 rfl (by assumption) rfl (Nat.le_of_ble_eq_true rfl) (by omega) ⟨Nat.le_of_ble_eq_true rfl, Nat.le_of_ble_eq_true rfl⟩ (rr) ?_
  exact r1
theorem cf_eff20 {L3 : Option Value} {k : Nat} (hC : xCs B n tb T em i p ft h) (hft : ¬ ft = -2) (hi : i < T) (hT : T ≤ 401) (hp : p ≤ 80) (hk : k < 2 ^ 20) (hd : 5 ≤ d) : ∃ h', xRun G d 34 (20, [some (.ref (B + 3)), some (.int 1), some (.int (nI k)), L3], [], (h, nx, sl)) (none, (h', nx, sl)) ∧ xfr B h h' ∧ ∃ p', p' ≤ 80 ∧ xCs B n tb T em i p' ft h' := by
  have rc := c_cn_no (G := G) (d := d - 1) (nx := nx) (sl := sl) hC hi hT hft (by omega)
  obtain ⟨h1, r1, a1, a2⟩ := cf_eff25 (G := G) (d := d) (nx := nx) (sl := sl) (x := 0) (k := k) hC hft hi hT hp hk hd
  obtain ⟨-, h3, -⟩ := hC
  refine ⟨h1, ?_, a1, a2⟩
  refine xr_go i34_20 rfl ?_
  refine xr_V i34_21 xc34_89 ⟨rfl, rfl⟩ xa_32 rfl (by assumption) rfl (Nat.le_of_ble_eq_true rfl) (by omega) ⟨Nat.le_of_ble_eq_true rfl, Nat.le_of_ble_eq_true rfl⟩ (rc) ?_
  refine xr_go i34_24 rfl ?_
  exact r1
theorem cf_eff (hC : xCs B n tb T em i p ft h) (hft : ¬ ft = -2) (hi : i < T) (hT : T ≤ 401) (hp : p ≤ 80) (hd : 5 ≤ d) : ∃ h', xRun G d 34 (0, [some (.ref (B + 3)), none, none, none], [], (h, nx, sl)) (none, (h', nx, sl)) ∧ xfr B h h' ∧ ∃ p', p' ≤ 80 ∧ xCs B n tb T em i p' ft h' := by
  have rr := c_req_no (G := G) (d := d - 1) (nx := nx) (sl := sl) (K := 8) hC hi hT (by omega) hft (by omega)
  obtain ⟨h1, r1, a1, a2⟩ := cf_eff20 (G := G) (d := d) (nx := nx) (sl := sl) (L3 := none) (k := 0) hC hft hi hT hp (by omega) hd
  obtain ⟨-, h3, -⟩ := hC
  refine ⟨h1, ?_, a1, a2⟩
  refine xr_go i34_0 rfl ?_
  refine xr_go i34_1 rfl ?_
  refine xr_go i34_2 rfl ?_
  refine xr_go i34_3 rfl ?_
  refine xr_go i34_4 rfl ?_
  refine xr_if_eqF i34_5 (t := 56) (by decide) (by decide) ?_
  refine xr_go i34_8 rfl ?_
  refine xr_go i34_9 rfl ?_
  refine xr_icmp_geF i34_11 (t := 56) (by decide) (by decide) ?_
  refine xr_go i34_14 rfl ?_
  refine xr_go i34_15 rfl ?_
  refine xr_V i34_17 xc34_84 ⟨rfl, rfl⟩ xa_29 rfl (by assumption) rfl (Nat.le_of_ble_eq_true rfl) (by omega) ⟨Nat.le_of_ble_eq_true rfl, Nat.le_of_ble_eq_true rfl⟩ (rr) ?_
  exact r1
end XCFAULT

