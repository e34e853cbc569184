/-! ===== the model: a part of a sum ===== -/
section XMPART
variable {G : xG} {d : Nat} {h h' : xH} {nx sl M n : Nat} {tb : Nat → Nat} {tn tk rk : Int32} {lt : Value} {pc od : Int32} {cs : List Int32} {i p dp : Nat}
/-- from 49 on: no bracket -/
theorem mp_pre {res : Option Value × xW} (hG : xGok G) (hM : xMp M n tb tn tk rk lt pc od cs i p (-1) h) (hn : n ≤ 400) (hb : ∀ j, j < n → tb j < 256) (hno : ¬ tK n tb (tP n tb i) = 19) (hd : 2 ≤ d) (r : xRun G d 95 (49, [some (.ref M), some (.int (nI dp))], [], (h, nx, sl)) res) : xRun G d 95 (0, [some (.ref M), some (.int (nI dp))], [], (h, nx, sl)) res := by
  have q := m_isP (G := G) (d := d - 1) (nx := nx) (sl := sl) (s := 7) hG (by omega) hM hn hb (by omega)
  rw [decide_eq_false (show ¬ tK n tb (tP n tb i) = tkind.getD 7 0 from hno)] at q
  obtain ⟨⟨nu, -, hO⟩, -⟩ := hM
  refine xr_go i95_0 rfl ?_
  refine xr_ldc i95_1 xd95_222 rfl rfl ?_
  refine xr_V i95_3 xc95_102 ⟨rfl, rfl⟩ xa_86 rfl (by assumption) rfl (Nat.le_of_ble_eq_true rfl) (by omega) ⟨Nat.le_of_ble_eq_true rfl, Nat.le_of_ble_eq_true rfl⟩ (q) ?_
  refine xr_if_eqT i95_6 (t := 49) (by decide) rfl ?_
  exact r
/-- to 84: a number, a cell, server or stamp -/
theorem mp_val {res : Option Value × xW} (hG : xGok G) (hM : xMp M n tb tn tk rk lt pc od cs i p (-1) h) (hn : n ≤ 400) (hb : ∀ j, j < n → tb j < 256) (hd : 2 ≤ d) (hK : tK n tb (tP n tb i) = 6 ∨ tK n tb (tP n tb i) = 7 ∨ tK n tb (tP n tb i) = 8 ∨ tK n tb (tP n tb i) = 9) (r : xRun G d 95 (84, [some (.ref M), some (.int (nI dp))], [], (h, nx, sl)) res) : xRun G d 95 (49, [some (.ref M), some (.int (nI dp))], [], (h, nx, sl)) res := by
  have q := fun s (hs : s < 18) => m_isP (G := G) (d := d - 1) (nx := nx) (sl := sl) (s := s) hG hs hM hn hb (by omega)
  have q0 := q 0 (by omega)
  have q5 := q 5 (by omega)
  have q6 := q 6 (by omega)
  have kl := tmk_le (K := tK n tb (tP n tb i))
  obtain ⟨⟨nu, -, hO⟩, -⟩ := hM
  refine xr_go i95_49 rfl ?_
  refine xr_get i95_50 xf95_90 (by assumption) rfl rfl ?_
  refine xr_go i95_53 rfl ?_
  by_cases e9 : tK n tb (tP n tb i) = 9
  · refine xr_icmp_eqT i95_54 (t := 84) (by decide) (by rw [e9]; rfl) ?_
    exact r
  refine xr_icmp_eqF i95_54 (t := 84) (by decide) (fun z => e9 (tmk_2.mp ((nI_eq (b := 2) (by omega) (by omega)).mp z))) ?_
  refine xr_go i95_57 rfl ?_
  refine xr_ldc i95_58 xd95_114 rfl rfl ?_
  refine xr_V i95_60 xc95_102 ⟨rfl, rfl⟩ xa_86 rfl (by assumption) rfl (Nat.le_of_ble_eq_true rfl) (by omega) ⟨Nat.le_of_ble_eq_true rfl, Nat.le_of_ble_eq_true rfl⟩ (q0) ?_
  refine xr_stk (st' := [.int (xbi (decide (tK n tb (tP n tb i) = 8)))]) rfl ?_
  by_cases e8 : tK n tb (tP n tb i) = 8
  · refine xr_if_neT i95_63 (t := 84) (by decide) (xbi_1 (decide_eq_true e8)) ?_
    exact r
  refine xr_if_neF i95_63 (t := 84) (by decide) (xbi_f (decide_eq_false e8)) ?_
  refine xr_go i95_66 rfl ?_
  refine xr_ldc i95_67 xd95_112 rfl rfl ?_
  refine xr_V i95_69 xc95_102 ⟨rfl, rfl⟩ xa_86 rfl (by assumption) rfl (Nat.le_of_ble_eq_true rfl) (by omega) ⟨Nat.le_of_ble_eq_true rfl, Nat.le_of_ble_eq_true rfl⟩ (q5) ?_
  refine xr_stk (st' := [.int (xbi (decide (tK n tb (tP n tb i) = 6)))]) rfl ?_
  by_cases e6 : tK n tb (tP n tb i) = 6
  · refine xr_if_neT i95_72 (t := 84) (by decide) (xbi_1 (decide_eq_true e6)) ?_
    exact r
  refine xr_if_neF i95_72 (t := 84) (by decide) (xbi_f (decide_eq_false e6)) ?_
  refine xr_go i95_75 rfl ?_
  refine xr_ldc i95_76 xd95_113 rfl rfl ?_
  refine xr_V i95_78 xc95_102 ⟨rfl, rfl⟩ xa_86 rfl (by assumption) rfl (Nat.le_of_ble_eq_true rfl) (by omega) ⟨Nat.le_of_ble_eq_true rfl, Nat.le_of_ble_eq_true rfl⟩ (q6) ?_
  refine xr_stk (st' := [.int (xbi (decide (tK n tb (tP n tb i) = 7)))]) rfl ?_
  have e7 : tK n tb (tP n tb i) = 7 := by omega
  refine xr_if_eqF i95_81 (t := 93) (by decide) (xbi_1 (decide_eq_true e7)) ?_
  exact r
theorem mp_none {res : Option Value × xW} (hG : xGok G) (hM : xMp M n tb tn tk rk lt pc od cs i p (-1) h) (hn : n ≤ 400) (hb : ∀ j, j < n → tb j < 256) (hd : 2 ≤ d) (e6 : ¬ tK n tb (tP n tb i) = 6) (e7 : ¬ tK n tb (tP n tb i) = 7) (e8 : ¬ tK n tb (tP n tb i) = 8) (e9 : ¬ tK n tb (tP n tb i) = 9) (r : xRun G d 95 (93, [some (.ref M), some (.int (nI dp))], [], (h, nx, sl)) res) : xRun G d 95 (49, [some (.ref M), some (.int (nI dp))], [], (h, nx, sl)) res := by
  have q := fun s (hs : s < 18) => m_isP (G := G) (d := d - 1) (nx := nx) (sl := sl) (s := s) hG hs hM hn hb (by omega)
  have q0 := q 0 (by omega)
  have q5 := q 5 (by omega)
  have q6 := q 6 (by omega)
  have kl := tmk_le (K := tK n tb (tP n tb i))
  obtain ⟨⟨nu, -, hO⟩, -⟩ := hM
  refine xr_go i95_49 rfl ?_
  refine xr_get i95_50 xf95_90 (by assumption) rfl rfl ?_
  refine xr_go i95_53 rfl ?_
  refine xr_icmp_eqF i95_54 (t := 84) (by decide) (fun z => e9 (tmk_2.mp ((nI_eq (b := 2) (by omega) (by omega)).mp z))) ?_
  refine xr_go i95_57 rfl ?_
  refine xr_ldc i95_58 xd95_114 rfl rfl ?_
  refine xr_V i95_60 xc95_102 ⟨rfl, rfl⟩ xa_86 rfl (by assumption) rfl (Nat.le_of_ble_eq_true rfl) (by omega) ⟨Nat.le_of_ble_eq_true rfl, Nat.le_of_ble_eq_true rfl⟩ (q0) ?_
  refine xr_stk (st' := [.int (xbi (decide (tK n tb (tP n tb i) = 8)))]) rfl ?_
  refine xr_if_neF i95_63 (t := 84) (by decide) (xbi_f (decide_eq_false e8)) ?_
  refine xr_go i95_66 rfl ?_
  refine xr_ldc i95_67 xd95_112 rfl rfl ?_
  refine xr_V i95_69 xc95_102 ⟨rfl, rfl⟩ xa_86 rfl (by assumption) rfl (Nat.le_of_ble_eq_true rfl) (by omega) ⟨Nat.le_of_ble_eq_true rfl, Nat.le_of_ble_eq_true rfl⟩ (q5) ?_
  refine xr_stk (st' := [.int (xbi (decide (tK n tb (tP n tb i) = 6)))]) rfl ?_
  refine xr_if_neF i95_72 (t := 84) (by decide) (xbi_f (decide_eq_false e6)) ?_
  refine xr_go i95_75 rfl ?_
  refine xr_ldc i95_76 xd95_113 rfl rfl ?_
  refine xr_V i95_78 xc95_102 ⟨rfl, rfl⟩ xa_86 rfl (by assumption) rfl (Nat.le_of_ble_eq_true rfl) (by omega) ⟨Nat.le_of_ble_eq_true rfl, Nat.le_of_ble_eq_true rfl⟩ (q6) ?_
  refine xr_stk (st' := [.int (xbi (decide (tK n tb (tP n tb i) = 7)))]) rfl ?_
  refine xr_if_eqT i95_81 (t := 93) (by decide) (xbi_f (decide_eq_false e7)) ?_
  exact r
theorem m_part_deep (hG : xGok G) (hM : xMp M n tb tn tk rk lt pc od cs i p (-1) h) (hn : n ≤ 400) (hb : ∀ j, j < n → tb j < 256) (hK : tK n tb (tP n tb i) = 19) (hd : 2 ≤ d) : ∃ h', xRun G d 95 (0, [some (.ref M), some (.int (nI 6))], [], (h, nx, sl)) (some (.int 0), (h', nx, sl)) ∧ xfm M h h' ∧ xMq M n tb tn tk rk lt pc od (nI (tP n tb i)) h' := by
  have q := m_isP (G := G) (d := d - 1) (nx := nx) (sl := sl) (s := 7) hG (by omega) hM hn hb (by omega)
  rw [decide_eq_true (show tK n tb (tP n tb i) = tkind.getD 7 0 from hK)] at q
  obtain ⟨h2, r2, b1, b2⟩ := m_badP (G := G) (d := d - 1) (nx := nx) (sl := sl) hM
  obtain ⟨⟨nu, -, hO⟩, -⟩ := hM
  refine ⟨h2, ?_, b1, b2⟩
  refine xr_go i95_0 rfl ?_
  refine xr_ldc i95_1 xd95_222 rfl rfl ?_
  refine xr_V i95_3 xc95_102 ⟨rfl, rfl⟩ xa_86 rfl (by assumption) rfl (Nat.le_of_ble_eq_true rfl) (by omega) ⟨Nat.le_of_ble_eq_true rfl, Nat.le_of_ble_eq_true rfl⟩ (q) ?_
  refine xr_if_eqF i95_6 (t := 49) (by decide) (by decide) ?_
  refine xr_go i95_9 rfl ?_
  refine xr_go i95_10 rfl ?_
  refine xr_icmp_neF i95_12 (t := 20) (by decide) rfl ?_
  refine xr_go i95_15 rfl ?_
  refine xr_V i95_16 xc95_152 ⟨rfl, rfl⟩ xa_89 rfl (by assumption) rfl (Nat.le_of_ble_eq_true rfl) (by omega) ⟨Nat.le_of_ble_eq_true rfl, Nat.le_of_ble_eq_true rfl⟩ (r2) ?_
  exact xr_iret i95_19 xt_95 rfl
theorem m_part_bad (hG : xGok G) (hM : xMp M n tb tn tk rk lt pc od cs i p (-1) h) (hn : n ≤ 400) (hb : ∀ j, j < n → tb j < 256) (hp : p ≤ 80) (hno : ¬ tK n tb (tP n tb i) = 19) (hbad : p = 80 ∨ (¬ tK n tb (tP n tb i) = 6 ∧ ¬ tK n tb (tP n tb i) = 7 ∧ ¬ tK n tb (tP n tb i) = 8 ∧ ¬ tK n tb (tP n tb i) = 9)) (hd : 2 ≤ d) : ∃ h', xRun G d 95 (0, [some (.ref M), some (.int (nI dp))], [], (h, nx, sl)) (some (.int 0), (h', nx, sl)) ∧ xfm M h h' ∧ xMq M n tb tn tk rk lt pc od (nI (tP n tb i)) h' := by
  obtain ⟨h2, r2, b1, b2⟩ := m_badP (G := G) (d := d - 1) (nx := nx) (sl := sl) hM
  have hM0 := hM
  obtain ⟨⟨nu, -, hO⟩, -⟩ := hM
  have at93 : xRun G d 95 (93, [some (.ref M), some (.int (nI dp))], [], (h, nx, sl)) (some (.int 0), (h2, nx, sl)) := by
    refine xr_go i95_93 rfl ?_
    refine xr_V i95_94 xc95_152 ⟨rfl, rfl⟩ xa_89 rfl (by assumption) rfl (Nat.le_of_ble_eq_true rfl) (by omega) ⟨Nat.le_of_ble_eq_true rfl, Nat.le_of_ble_eq_true rfl⟩ (r2) ?_
    exact xr_iret i95_97 xt_95 rfl
  refine ⟨h2, mp_pre hG hM0 hn hb hno hd ?_, b1, b2⟩
  by_cases hK : tK n tb (tP n tb i) = 6 ∨ tK n tb (tP n tb i) = 7 ∨ tK n tb (tP n tb i) = 8 ∨ tK n tb (tP n tb i) = 9
  · have e : p = 80 := by omega
    refine mp_val hG hM0 hn hb hd hK ?_
    refine xr_go i95_84 rfl ?_
    refine xr_get i95_85 xf95_162 (by assumption) rfl rfl ?_
    refine xr_go i95_88 rfl ?_
    refine xr_icmp_neF i95_90 (t := 98) (by decide) (by rw [e]; rfl) ?_
    exact at93
  · exact mp_none hG hM0 hn hb hd (by omega) (by omega) (by omega) (by omega) at93
theorem mp_parts (hM : xMp M n tb tn tk rk lt pc od cs i p (-1) h) (hp : p < 80) : ∃ k1, (∀ res, xRun G d 95 (108, [some (.ref M), some (.int (nI dp))], [], (k1, nx, sl)) res → xRun G d 95 (84, [some (.ref M), some (.int (nI dp))], [], (h, nx, sl)) res) ∧ xfm M h k1 ∧ xMp M n tb tn tk rk lt pc od cs i (p + 1) (-1) k1 := by
  obtain ⟨⟨nu, hnu, hO⟩, hT, f, hc, hf⟩ := hM
  obtain ⟨k1, ek1⟩ : ∃ y : xH, y = xup h M (xMk M n tb tn tk rk lt i (-1) (nI (p + 1)) nu (nI cs.length) pc od) := ⟨_, rfl⟩
  refine ⟨k1, fun res r => ?_, fun q a1 a2 => by rw [ek1]; exact xup_n a1, ⟨nu, hnu, xup_at ek1⟩, xMt_up hT ek1, f, by rw [ek1, xup_n (by omega)]; exact hc, hf⟩
  refine xr_go i95_84 rfl ?_
  refine xr_get i95_85 xf95_162 (by assumption) rfl rfl ?_
  refine xr_go i95_88 rfl ?_
  refine xr_icmp_neT i95_90 (t := 98) (by decide) (fun z => by have := (nI_eq (b := 80) (by omega) (by omega)).mp z; omega) ?_
  refine xr_go i95_98 rfl ?_
  refine xr_go i95_99 rfl ?_
  refine xr_get i95_100 xf95_162 (by assumption) rfl rfl ?_
  refine xr_go i95_103 rfl ?_
  refine xr_go i95_104 rfl ?_
  refine xr_top (show _ = nI (p + 1) from nI_add p 1) ?_
  refine xr_put i95_105 xf95_162 (by assumption) ⟨rfl, Nat.le_of_ble_eq_true rfl, rfl, rfl, Or.inl rfl⟩ (fun z1 ez1 => ?_)
  obtain rfl : z1 = k1 := ez1.trans ek1.symm
  exact r
theorem m_part_num (hG : xGok G) (hM : xMp M n tb tn tk rk lt pc od cs i p (-1) h) (hn : n ≤ 400) (hb : ∀ j, j < n → tb j < 256) (hp : p < 80) (hl : cs.length < 1590) (hK : tK n tb (tP n tb i) = 9) (hd : 3 ≤ d) : ∃ h', xRun G d 95 (0, [some (.ref M), some (.int (nI dp))], [], (h, nx, sl)) (some (.int 1), (h', nx, sl)) ∧ xfm M h h' ∧ xMp M n tb tn tk rk lt pc od (cs ++ [0, nI (tN n tb (tP n tb i))]) (i + 1) (p + 1) (-1) h' := by
  obtain ⟨k1, pre, a1, a2⟩ := mp_parts (G := G) (d := d) (nx := nx) (sl := sl) (dp := dp) hM hp
  have q := m_isP (G := G) (d := d - 1) (nx := nx) (sl := sl) (s := 0) hG (by omega) a2 hn hb (by omega)
  rw [decide_eq_false (show ¬ tK n tb (tP n tb i) = tkind.getD 0 0 from fun z => by rw [hK] at z; exact absurd z (by decide))] at q
  obtain ⟨h2, r2, b1, b2⟩ := m_putP (G := G) (d := d - 1) (nx := nx) (sl := sl) 0 a2 (by omega)
  obtain ⟨h3, r3, c1, c2⟩ := m_putP (G := G) (d := d - 1) (nx := nx) (sl := sl) (nI (tN n tb (tP n tb i))) b2 (by simp only [List.length_append, List.length_singleton]; omega)
  obtain ⟨h4, r4, d1, d2⟩ := m_stepP (G := G) (d := d - 1) (nx := nx) (sl := sl) hG c2 hn hb (by omega)
  rw [List.append_assoc] at d2
  refine ⟨h4, mp_pre hG hM hn hb (by omega) (by omega) (mp_val hG hM hn hb (by omega) (by omega) (pre _ ?_)), ((a1.trans b1).trans c1).trans d1, d2⟩
  obtain ⟨⟨nu1, hnu1, hO1⟩, -⟩ := a2
  obtain ⟨⟨nu2, hnu2, hO2⟩, -⟩ := b2
  obtain ⟨⟨nu3, -, hO3⟩, -⟩ := c2
  have e2 := tmk_2.mpr hK
  refine xr_go i95_108 rfl ?_
  refine xr_ldc i95_109 xd95_114 rfl rfl ?_
  refine xr_V i95_111 xc95_102 ⟨rfl, rfl⟩ xa_86 rfl (by assumption) rfl (Nat.le_of_ble_eq_true rfl) (by omega) ⟨Nat.le_of_ble_eq_true rfl, Nat.le_of_ble_eq_true rfl⟩ (q) ?_
  refine xr_if_eqT i95_114 (t := 127) (by decide) rfl ?_
  refine xr_go i95_127 rfl ?_
  refine xr_get i95_128 xf95_90 (by assumption) rfl rfl ?_
  refine xr_go i95_131 rfl ?_
  refine xr_icmp_neF i95_132 (t := 152) (by decide) (by rw [e2]; rfl) ?_
  refine xr_go i95_135 rfl ?_
  refine xr_go i95_136 rfl ?_
  refine xr_V i95_137 xc95_177 ⟨rfl, rfl⟩ xa_90 rfl (by assumption) rfl (Nat.le_of_ble_eq_true rfl) (by omega) ⟨Nat.le_of_ble_eq_true rfl, Nat.le_of_ble_eq_true rfl⟩ (r2) ?_
  refine xr_go i95_140 rfl ?_
  refine xr_go i95_141 rfl ?_
  refine xr_get i95_142 xf95_119 (by assumption) rfl rfl ?_
  refine xr_go i95_145 rfl ?_
  refine xr_top (show _ = nI (tN n tb (tP n tb i)) from by rw [hnu2 hK]; exact Int64.toInt32_ofNat') ?_
  refine xr_V i95_146 xc95_177 ⟨rfl, rfl⟩ xa_90 rfl (by assumption) rfl (Nat.le_of_ble_eq_true rfl) (by omega) ⟨Nat.le_of_ble_eq_true rfl, Nat.le_of_ble_eq_true rfl⟩ (r3) ?_
  refine xr_goto i95_149 (t := 170) (by decide) ?_
  refine xr_go i95_170 rfl ?_
  refine xr_V i95_171 xc95_156 ⟨rfl, rfl⟩ xa_84 rfl (by assumption) rfl (Nat.le_of_ble_eq_true rfl) (by omega) ⟨Nat.le_of_ble_eq_true rfl, Nat.le_of_ble_eq_true rfl⟩ (r4) ?_
  refine xr_go i95_174 rfl ?_
  exact xr_iret i95_175 xt_95 rfl
theorem m_part_word {x : Int32} (hG : xGok G) (hM : xMp M n tb tn tk rk lt pc od cs i p (-1) h) (hn : n ≤ 400) (hb : ∀ j, j < n → tb j < 256) (hp : p < 80) (hl : cs.length < 1590) (hK : (tK n tb (tP n tb i) = 6 ∧ x = 2) ∨ (tK n tb (tP n tb i) = 7 ∧ x = 3)) (hd : 3 ≤ d) : ∃ h', xRun G d 95 (0, [some (.ref M), some (.int (nI dp))], [], (h, nx, sl)) (some (.int 1), (h', nx, sl)) ∧ xfm M h h' ∧ xMp M n tb tn tk rk lt pc od (cs ++ [x]) (i + 1) (p + 1) (-1) h' := by
  obtain ⟨k1, pre, a1, a2⟩ := mp_parts (G := G) (d := d) (nx := nx) (sl := sl) (dp := dp) hM hp
  have q := m_isP (G := G) (d := d - 1) (nx := nx) (sl := sl) (s := 0) hG (by omega) a2 hn hb (by omega)
  rw [decide_eq_false (show ¬ tK n tb (tP n tb i) = tkind.getD 0 0 from fun z => by have : tkind.getD 0 0 = 8 := rfl; omega)] at q
  have q5 := m_isP (G := G) (d := d - 1) (nx := nx) (sl := sl) (s := 5) hG (by omega) a2 hn hb (by omega)
  obtain ⟨h2, r2, b1, b2⟩ := m_putP (G := G) (d := d - 1) (nx := nx) (sl := sl) x a2 (by omega)
  obtain ⟨h4, r4, d1, d2⟩ := m_stepP (G := G) (d := d - 1) (nx := nx) (sl := sl) hG b2 hn hb (by omega)
  refine ⟨h4, mp_pre hG hM hn hb (by omega) (by omega) (mp_val hG hM hn hb (by omega) (by omega) (pre _ ?_)), (a1.trans b1).trans d1, d2⟩
  have kl := tmk_le (K := tK n tb (tP n tb i))
  obtain ⟨⟨nu1, hnu1, hO1⟩, -⟩ := a2
  obtain ⟨⟨nu2, hnu2, hO2⟩, -⟩ := b2
  have tail : xRun G d 95 (167, [some (.ref M), some (.int (nI dp))], [.int x, .ref M], (k1, nx, sl)) (some (.int 1), (h4, nx, sl)) := by
    refine xr_V i95_167 xc95_177 ⟨rfl, rfl⟩ xa_90 rfl (by assumption) rfl (Nat.le_of_ble_eq_true rfl) (by omega) ⟨Nat.le_of_ble_eq_true rfl, Nat.le_of_ble_eq_true rfl⟩ (r2) ?_
    refine xr_go i95_170 rfl ?_
    refine xr_V i95_171 xc95_156 ⟨rfl, rfl⟩ xa_84 rfl (by assumption) rfl (Nat.le_of_ble_eq_true rfl) (by omega) ⟨Nat.le_of_ble_eq_true rfl, Nat.le_of_ble_eq_true rfl⟩ (r4) ?_
    refine xr_go i95_174 rfl ?_
    exact xr_iret i95_175 xt_95 rfl
  refine xr_go i95_108 rfl ?_
  refine xr_ldc i95_109 xd95_114 rfl rfl ?_
  refine xr_V i95_111 xc95_102 ⟨rfl, rfl⟩ xa_86 rfl (by assumption) rfl (Nat.le_of_ble_eq_true rfl) (by omega) ⟨Nat.le_of_ble_eq_true rfl, Nat.le_of_ble_eq_true rfl⟩ (q) ?_
  refine xr_if_eqT i95_114 (t := 127) (by decide) rfl ?_
  refine xr_go i95_127 rfl ?_
  refine xr_get i95_128 xf95_90 (by assumption) rfl rfl ?_
  refine xr_go i95_131 rfl ?_
  refine xr_icmp_neT i95_132 (t := 152) (by decide) (fun z => by have := tmk_2.mp ((nI_eq (b := 2) (by omega) (by omega)).mp z); omega) ?_
  refine xr_go i95_152 rfl ?_
  refine xr_go i95_153 rfl ?_
  refine xr_ldc i95_154 xd95_112 rfl rfl ?_
  refine xr_V i95_156 xc95_102 ⟨rfl, rfl⟩ xa_86 rfl (by assumption) rfl (Nat.le_of_ble_eq_true rfl) (by omega) ⟨Nat.le_of_ble_eq_true rfl, Nat.le_of_ble_eq_true rfl⟩ (q5) ?_
  refine xr_stk (st' := [.int (xbi (decide (tK n tb (tP n tb i) = 6))), .ref M]) rfl ?_
  rcases hK with ⟨hK, rfl⟩ | ⟨hK, rfl⟩
  · refine xr_if_eqF i95_159 (t := 166) (by decide) (xbi_1 (decide_eq_true hK)) ?_
    refine xr_go i95_162 rfl ?_
    refine xr_goto i95_163 (t := 167) (by decide) ?_
    exact tail
  · refine xr_if_eqT i95_159 (t := 166) (by decide) (xbi_f (decide_eq_false (by omega))) ?_
    refine xr_go i95_166 rfl ?_
    exact tail
theorem m_part_cell_ok (hG : xGok G) (hM : xMp M n tb tn tk rk lt pc od cs i p (-1) h) (hn : n ≤ 400) (hb : ∀ j, j < n → tb j < 256) (hp : p < 80) (hl : cs.length < 1590) (hK : tK n tb (tP n tb i) = 8) (hK1 : tK n tb (tP n tb (i + 1)) = 9) (hK2 : tN n tb (tP n tb (i + 1)) < 32) (hd : 5 ≤ d) : ∃ h', xRun G d 95 (0, [some (.ref M), some (.int (nI dp))], [], (h, nx, sl)) (some (.int 1), (h', nx, sl)) ∧ xfm M h h' ∧ xMp M n tb tn tk rk lt pc od (cs ++ [1, nI (tN n tb (tP n tb (i + 1)))]) (i + 2) (p + 1) (-1) h' := by
  obtain ⟨k1, pre, a1, a2⟩ := mp_parts (G := G) (d := d) (nx := nx) (sl := sl) (dp := dp) hM hp
  have q := m_isP (G := G) (d := d - 1) (nx := nx) (sl := sl) (s := 0) hG (by omega) a2 hn hb (by omega)
  rw [decide_eq_true (show tK n tb (tP n tb i) = tkind.getD 0 0 from hK)] at q
  obtain ⟨h2, r2, b1, b2⟩ := m_putP (G := G) (d := d - 1) (nx := nx) (sl := sl) 1 a2 (by omega)
  obtain ⟨h4, r4, d1, d2⟩ := m_cell_ok (G := G) (d := d - 1) (nx := nx) (sl := sl) hG b2 (by simp only [List.length_append, List.length_singleton]; omega) hn hb (by omega) hK hK1 hK2
  rw [List.append_assoc] at d2
  refine ⟨h4, mp_pre hG hM hn hb (by omega) (by omega) (mp_val hG hM hn hb (by omega) (by omega) (pre _ ?_)), (a1.trans b1).trans d1, d2⟩
  obtain ⟨⟨nu1, hnu1, hO1⟩, -⟩ := a2
  obtain ⟨⟨nu2, hnu2, hO2⟩, -⟩ := b2
  refine xr_go i95_108 rfl ?_
  refine xr_ldc i95_109 xd95_114 rfl rfl ?_
  refine xr_V i95_111 xc95_102 ⟨rfl, rfl⟩ xa_86 rfl (by assumption) rfl (Nat.le_of_ble_eq_true rfl) (by omega) ⟨Nat.le_of_ble_eq_true rfl, Nat.le_of_ble_eq_true rfl⟩ (q) ?_
  refine xr_if_eqF i95_114 (t := 127) (by decide) (by decide) ?_
  refine xr_go i95_117 rfl ?_
  refine xr_go i95_118 rfl ?_
  refine xr_V i95_119 xc95_177 ⟨rfl, rfl⟩ xa_90 rfl (by assumption) rfl (Nat.le_of_ble_eq_true rfl) (by omega) ⟨Nat.le_of_ble_eq_true rfl, Nat.le_of_ble_eq_true rfl⟩ (r2) ?_
  refine xr_go i95_122 rfl ?_
  refine xr_V i95_123 xc95_187 ⟨rfl, rfl⟩ xa_97 rfl (by assumption) rfl (Nat.le_of_ble_eq_true rfl) (by omega) ⟨Nat.le_of_ble_eq_true rfl, Nat.le_of_ble_eq_true rfl⟩ (r4) ?_
  exact xr_iret i95_126 xt_95 rfl
theorem m_part_cell_bad (hG : xGok G) (hM : xMp M n tb tn tk rk lt pc od cs i p (-1) h) (hn : n ≤ 400) (hb : ∀ j, j < n → tb j < 256) (hp : p < 80) (hl : cs.length < 1590) (hK : tK n tb (tP n tb i) = 8) (hK1 : ¬ (tK n tb (tP n tb (i + 1)) = 9 ∧ tN n tb (tP n tb (i + 1)) < 32)) (hd : 5 ≤ d) : ∃ h', xRun G d 95 (0, [some (.ref M), some (.int (nI dp))], [], (h, nx, sl)) (some (.int 0), (h', nx, sl)) ∧ xfm M h h' ∧ xMq M n tb tn tk rk lt pc od (nI (tP n tb (i + 1))) h' := by
  obtain ⟨k1, pre, a1, a2⟩ := mp_parts (G := G) (d := d) (nx := nx) (sl := sl) (dp := dp) hM hp
  have q := m_isP (G := G) (d := d - 1) (nx := nx) (sl := sl) (s := 0) hG (by omega) a2 hn hb (by omega)
  rw [decide_eq_true (show tK n tb (tP n tb i) = tkind.getD 0 0 from hK)] at q
  obtain ⟨h2, r2, b1, b2⟩ := m_putP (G := G) (d := d - 1) (nx := nx) (sl := sl) 1 a2 (by omega)
  obtain ⟨h4, r4, d1, d2⟩ := m_cell_bad (G := G) (d := d - 1) (nx := nx) (sl := sl) hG b2 hn hb (by omega) hK hK1
  refine ⟨h4, mp_pre hG hM hn hb (by omega) (by omega) (mp_val hG hM hn hb (by omega) (by omega) (pre _ ?_)), (a1.trans b1).trans d1, d2⟩
  obtain ⟨⟨nu1, hnu1, hO1⟩, -⟩ := a2
  obtain ⟨⟨nu2, hnu2, hO2⟩, -⟩ := b2
  refine xr_go i95_108 rfl ?_
  refine xr_ldc i95_109 xd95_114 rfl rfl ?_
  refine xr_V i95_111 xc95_102 ⟨rfl, rfl⟩ xa_86 rfl (by assumption) rfl (Nat.le_of_ble_eq_true rfl) (by omega) ⟨Nat.le_of_ble_eq_true rfl, Nat.le_of_ble_eq_true rfl⟩ (q) ?_
  refine xr_if_eqF i95_114 (t := 127) (by decide) (by decide) ?_
  refine xr_go i95_117 rfl ?_
  refine xr_go i95_118 rfl ?_
  refine xr_V i95_119 xc95_177 ⟨rfl, rfl⟩ xa_90 rfl (by assumption) rfl (Nat.le_of_ble_eq_true rfl) (by omega) ⟨Nat.le_of_ble_eq_true rfl, Nat.le_of_ble_eq_true rfl⟩ (r2) ?_
  refine xr_go i95_122 rfl ?_
  refine xr_V i95_123 xc95_187 ⟨rfl, rfl⟩ xa_97 rfl (by assumption) rfl (Nat.le_of_ble_eq_true rfl) (by omega) ⟨Nat.le_of_ble_eq_true rfl, Nat.le_of_ble_eq_true rfl⟩ (r4) ?_
  exact xr_iret i95_126 xt_95 rfl
end XMPART

