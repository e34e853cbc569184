/-! ===== the model: a step to the next token ===== -/
section XMSTEP
variable {G : xG} {d : Nat} {h : xH} {nx sl M n : Nat} {tb : Nat → Nat} {tn tk rk : Int32} {lt : Value} {at_ sz kd fr to_ ft pt mn pc od : Int32} {nu : Int64}
set_option maxHeartbeats 4000000 in
theorem m_step0 {a : Nat} (hG : xGok G) (ha : a ≤ n) (hn : n ≤ 400) (hb : ∀ j, j < n → tb j < 256) (hO : h M = some (.inr (10, xMf M tn tk rk lt (nI a) (nI n) kd fr to_ ft pt nu mn pc od))) (hT : xMt M n tb h) (hd : 2 ≤ d) : ∃ nu', (tK n tb (tsk n tb a) = 9 → nu' = Int64.ofNat (tN n tb (tsk n tb a))) ∧ xRun G d 84 (0, [some (.ref M), none, none], [], (h, nx, sl)) (none, (xup h M (.inr (10, xMf M tn tk rk lt (nI (tE n tb (tsk n tb a))) (nI n) (nI (tmk (tK n tb (tsk n tb a)))) (nI (tsk n tb a)) (nI (tE n tb (tsk n tb a))) ft pt nu' mn pc od)), nx, sl)) := by
  have hp := tsk_ge (tb := tb) ha
  have sk : ∀ res, xRun G d 84 (38, [some (.ref M), none, none], [], (xup h M (.inr (10, xMf M tn tk rk lt (nI (tsk n tb a)) (nI n) kd fr to_ ft pt nu mn pc od)), nx, sl)) res → xRun G d 84 (0, [some (.ref M), none, none], [], (h, nx, sl)) res := m_skip hn hb (n - a) a h (by omega) hO hT
  generalize tsk n tb a = p at *
  obtain ⟨y1, ey1⟩ : ∃ y : xH, y = xup h M (.inr (10, xMf M tn tk rk lt (nI p) (nI n) kd fr to_ ft pt nu mn pc od)) := ⟨_, rfl⟩
  obtain ⟨y2, ey2⟩ : ∃ y : xH, y = xup h M (.inr (10, xMf M tn tk rk lt (nI p) (nI n) kd (nI p) to_ ft pt nu mn pc od)) := ⟨_, rfl⟩
  have pre : ∀ res, xRun G d 84 (46, [some (.ref M), none, none], [], (y2, nx, sl)) res → xRun G d 84 (0, [some (.ref M), none, none], [], (h, nx, sl)) res := by
    intro res r
    refine sk res ?_
    rw [← ey1]
    have y1O := xup_at ey1
    refine xr_go i84_38 rfl ?_
    refine xr_go i84_39 rfl ?_
    refine xr_get i84_40 xf84_81 (by assumption) rfl rfl ?_
    refine xr_put i84_43 xf84_87 (by assumption) ⟨rfl, Nat.le_of_ble_eq_true rfl, rfl, rfl, Or.inl rfl⟩ (fun z ez => ?_)
    obtain rfl : z = y2 := (xup_get ey1 ez).trans ey2.symm
    exact r
  have y2O := xup_at ey2
  have y2T := xMt_up hT ey2
  have fin : ∀ (A : Nat) (KD TO : Int32) (NU : Int64) (L1 L2 : Option Value) (y : xH), y = xup h M (.inr (10, xMf M tn tk rk lt (nI A) (nI n) KD (nI p) TO ft pt NU mn pc od)) → xRun G d 84 (460, [some (.ref M), L1, L2], [], (y, nx, sl)) (none, (xup h M (.inr (10, xMf M tn tk rk lt (nI A) (nI n) KD (nI p) (nI A) ft pt NU mn pc od)), nx, sl)) := by
    intro A KD TO NU L1 L2 y ey
    have yO := xup_at ey
    refine xr_go i84_460 rfl ?_
    refine xr_go i84_461 rfl ?_
    refine xr_get i84_462 xf84_81 (by assumption) rfl rfl ?_
    refine xr_put i84_465 xf84_97 (by assumption) ⟨rfl, Nat.le_of_ble_eq_true rfl, rfl, rfl, Or.inl rfl⟩ (fun z ez => ?_)
    have e := xup_get ey ez
    rw [e]
    exact xr_end i84_468 rfl
  by_cases h0 : n ≤ p
  · refine ⟨nu, fun z => ?_, pre _ ?_⟩
    · rw [tK_end h0] at z
      omega
    · have e1 : tE n tb p = p := by unfold tE; rw [if_pos h0]
      have e3 : nI (tmk (tK n tb p)) = 0 := by rw [tK_end h0]; rfl
      rw [e1, e3]
      refine xr_go i84_46 rfl ?_
      refine xr_get i84_47 xf84_81 (by assumption) rfl rfl ?_
      refine xr_go i84_50 rfl ?_
      refine xr_get i84_51 xf84_84 (by assumption) rfl rfl ?_
      refine xr_icmp_neF i84_54 (t := 65) (by decide) (by rw [show p = n by omega]) ?_
      refine xr_go i84_57 rfl ?_
      refine xr_go i84_58 rfl ?_
      refine xr_put i84_59 xf84_90 (by assumption) ⟨rfl, Nat.le_of_ble_eq_true rfl, rfl, rfl, Or.inl rfl⟩ (fun y ey => ?_)
      refine xr_goto i84_62 (t := 460) (by decide) ?_
      exact fin p _ _ _ none none y (xup_get ey2 ey)
  have y2T0 := y2T
  obtain ⟨f, g0, g1⟩ := y2T0
  have gp := g1 p (by omega)
  have gb := hb p (by omega)
  have pre2 : ∀ res, xRun G d 84 (77, [some (.ref M), none, none], [.int (xbi (tL tb p))], (y2, nx, sl)) res → xRun G d 84 (0, [some (.ref M), none, none], [], (h, nx, sl)) res := by
    intro res r
    refine pre res ?_
    refine xr_go i84_46 rfl ?_
    refine xr_get i84_47 xf84_81 (by assumption) rfl rfl ?_
    refine xr_go i84_50 rfl ?_
    refine xr_get i84_51 xf84_84 (by assumption) rfl rfl ?_
    refine xr_icmp_neT i84_54 (t := 65) (by decide) (fun z => by have := (nI_eq (by omega) (by omega)).mp z; omega) ?_
    refine xr_go i84_65 rfl ?_
    refine xr_get i84_66 xf84_9 (by assumption) rfl rfl ?_
    refine xr_go i84_69 rfl ?_
    refine xr_get i84_70 xf84_81 (by assumption) rfl rfl ?_
    refine xr_yald i84_73 (by assumption) rfl (by omega) (by omega) ?_
    rw [gp]
    refine xr_S i84_74 xc84_93 ⟨by first | exact Or.inl rfl | exact Or.inr rfl, rfl⟩ xa_85 (Nat.le_of_ble_eq_true rfl) (Nat.le_of_ble_eq_true rfl) (by omega) ⟨Nat.le_of_ble_eq_true rfl, Nat.le_of_ble_eq_true rfl⟩ ((m_isLetter gb)) ?_
    exact r
  by_cases hL : tL tb p = true
  · have hg := trun_ge (p := tL tb) (n - p) p
    have eE : tE n tb p = trun (tL tb) (n - p) p := by unfold tE; rw [if_neg h0, if_pos hL]
    have eK : tK n tb p = tW tb p (trun (tL tb) (n - p) p) := by unfold tK; rw [if_neg h0, if_pos hL]
    have wl : ∀ res, xRun G d 84 (119, [some (.ref M), none, none], [], (xup y2 M (.inr (10, xMf M tn tk rk lt (nI (trun (tL tb) (n - p) p)) (nI n) kd (nI p) to_ ft pt nu mn pc od)), nx, sl)) res → xRun G d 84 (80, [some (.ref M), none, none], [], (y2, nx, sl)) res := m_word_loop hn hb (by omega) (n - p) p y2 (by omega) y2O y2T
    rw [eE, eK]
    generalize trun (tL tb) (n - p) p = e at *
    refine ⟨nu, fun z => ?_, pre2 _ ?_⟩
    · rcases tW_cases (tb := tb) (p := p) (e := e) with q | q <;> omega
    obtain ⟨y3, ey3⟩ : ∃ y : xH, y = xup h M (.inr (10, xMf M tn tk rk lt (nI e) (nI n) kd (nI p) to_ ft pt nu mn pc od)) := ⟨_, rfl⟩
    refine xr_if_eqF i84_77 (t := 203) (by decide) (xbi_1 hL) ?_
    refine wl _ ?_
    rw [ey2, xup_same, ← ey3]
    have y3O := xup_at ey3
    refine xr_go i84_119 rfl ?_
    refine xr_go i84_120 rfl ?_
    refine xr_get i84_121 xf84_81 (by assumption) rfl rfl ?_
    refine xr_put i84_124 xf84_97 (by assumption) ⟨rfl, Nat.le_of_ble_eq_true rfl, rfl, rfl, Or.inl rfl⟩ (fun y4 ey4 => ?_)
    have ez4 : y4 = xup h M (.inr (10, xMf M tn tk rk lt (nI e) (nI n) kd (nI p) (nI e) ft pt nu mn pc od)) := xup_get ey3 ey4
    have y4O := xup_at ez4
    refine xr_go i84_127 rfl ?_
    refine xr_go i84_128 rfl ?_
    refine xr_put i84_129 xf84_90 (by assumption) ⟨rfl, Nat.le_of_ble_eq_true rfl, rfl, rfl, Or.inl rfl⟩ (fun y5 ey5 => ?_)
    have ez5 : y5 = xup h M (.inr (10, xMf M tn tk rk lt (nI e) (nI n) (nI 1) (nI p) (nI e) ft pt nu mn pc od)) := xup_get ez4 ey5
    have y5O := xup_at ez5
    have y5T := xMt_up hT ez5
    have q : ∀ s, s < 18 → xRun G (d - 1) 86 (0, [some (.ref M), some (.ref (G.1 s)), none], [], (y5, nx, sl)) (some (.int (xbi (tmt tb (xSt.getD s []) p e))), (y5, nx, sl)) := fun s hs => m_is (K := 1) hG hs y5O y5T hn hb (by omega) (by omega) (by omega) (by omega)
    have yes : ∀ s, s < 7 → tmt tb (xSt.getD s []) p e = true → nI (tmk (tW tb p e)) = nI 1 := fun s hs z => by
      rw [(tW_is hs).mpr z]
      have key : ∀ j : Fin 7, tmk (tkind.getD j.val 0) = 1 := by decide
      exact congrArg nI (key ⟨s, hs⟩)
    have fin1 : ∀ s, s < 7 → tmt tb (xSt.getD s []) p e = true → xRun G d 84 (460, [some (.ref M), none, none], [], (y5, nx, sl)) (none, (xup h M (.inr (10, xMf M tn tk rk lt (nI e) (nI n) (nI (tmk (tW tb p e))) (nI p) (nI e) ft pt nu mn pc od)), nx, sl)) := fun s hs z => by
      rw [yes s hs z]
      exact fin e _ _ _ none none y5 ez5
    refine xr_go i84_132 rfl ?_
    refine xr_ldc i84_133 xd84_100 rfl rfl ?_
    refine xr_V i84_135 xc84_102 ⟨rfl, rfl⟩ xa_86 rfl (by assumption) rfl (Nat.le_of_ble_eq_true rfl) (by omega) ⟨Nat.le_of_ble_eq_true rfl, Nat.le_of_ble_eq_true rfl⟩ ((q 1 (by omega))) ?_
    refine xr_stk (st' := [.int (xbi (tmt tb (xSt.getD 1 []) p e))]) rfl ?_
    by_cases z1 : tmt tb (xSt.getD 1 []) p e = true
    · refine xr_if_neT i84_138 (t := 460) (by decide) (xbi_1 z1) ?_
      exact fin1 1 (by omega) z1
    refine xr_if_neF i84_138 (t := 460) (by decide) (xbi_f (by simpa using z1)) ?_
    refine xr_go i84_141 rfl ?_
    refine xr_ldc i84_142 xd84_106 rfl rfl ?_
    refine xr_V i84_144 xc84_102 ⟨rfl, rfl⟩ xa_86 rfl (by assumption) rfl (Nat.le_of_ble_eq_true rfl) (by omega) ⟨Nat.le_of_ble_eq_true rfl, Nat.le_of_ble_eq_true rfl⟩ ((q 2 (by omega))) ?_
    refine xr_stk (st' := [.int (xbi (tmt tb (xSt.getD 2 []) p e))]) rfl ?_
    by_cases z2 : tmt tb (xSt.getD 2 []) p e = true
    · refine xr_if_neT i84_147 (t := 460) (by decide) (xbi_1 z2) ?_
      exact fin1 2 (by omega) z2
    refine xr_if_neF i84_147 (t := 460) (by decide) (xbi_f (by simpa using z2)) ?_
    refine xr_go i84_150 rfl ?_
    refine xr_ldc i84_151 xd84_108 rfl rfl ?_
    refine xr_V i84_153 xc84_102 ⟨rfl, rfl⟩ xa_86 rfl (by assumption) rfl (Nat.le_of_ble_eq_true rfl) (by omega) ⟨Nat.le_of_ble_eq_true rfl, Nat.le_of_ble_eq_true rfl⟩ ((q 3 (by omega))) ?_
    refine xr_stk (st' := [.int (xbi (tmt tb (xSt.getD 3 []) p e))]) rfl ?_
    by_cases z3 : tmt tb (xSt.getD 3 []) p e = true
    · refine xr_if_neT i84_156 (t := 460) (by decide) (xbi_1 z3) ?_
      exact fin1 3 (by omega) z3
    refine xr_if_neF i84_156 (t := 460) (by decide) (xbi_f (by simpa using z3)) ?_
    refine xr_go i84_159 rfl ?_
    refine xr_ldc i84_160 xd84_110 rfl rfl ?_
    refine xr_V i84_162 xc84_102 ⟨rfl, rfl⟩ xa_86 rfl (by assumption) rfl (Nat.le_of_ble_eq_true rfl) (by omega) ⟨Nat.le_of_ble_eq_true rfl, Nat.le_of_ble_eq_true rfl⟩ ((q 4 (by omega))) ?_
    refine xr_stk (st' := [.int (xbi (tmt tb (xSt.getD 4 []) p e))]) rfl ?_
    by_cases z4 : tmt tb (xSt.getD 4 []) p e = true
    · refine xr_if_neT i84_165 (t := 460) (by decide) (xbi_1 z4) ?_
      exact fin1 4 (by omega) z4
    refine xr_if_neF i84_165 (t := 460) (by decide) (xbi_f (by simpa using z4)) ?_
    refine xr_go i84_168 rfl ?_
    refine xr_ldc i84_169 xd84_112 rfl rfl ?_
    refine xr_V i84_171 xc84_102 ⟨rfl, rfl⟩ xa_86 rfl (by assumption) rfl (Nat.le_of_ble_eq_true rfl) (by omega) ⟨Nat.le_of_ble_eq_true rfl, Nat.le_of_ble_eq_true rfl⟩ ((q 5 (by omega))) ?_
    refine xr_stk (st' := [.int (xbi (tmt tb (xSt.getD 5 []) p e))]) rfl ?_
    by_cases z5 : tmt tb (xSt.getD 5 []) p e = true
    · refine xr_if_neT i84_174 (t := 460) (by decide) (xbi_1 z5) ?_
      exact fin1 5 (by omega) z5
    refine xr_if_neF i84_174 (t := 460) (by decide) (xbi_f (by simpa using z5)) ?_
    refine xr_go i84_177 rfl ?_
    refine xr_ldc i84_178 xd84_113 rfl rfl ?_
    refine xr_V i84_180 xc84_102 ⟨rfl, rfl⟩ xa_86 rfl (by assumption) rfl (Nat.le_of_ble_eq_true rfl) (by omega) ⟨Nat.le_of_ble_eq_true rfl, Nat.le_of_ble_eq_true rfl⟩ ((q 6 (by omega))) ?_
    refine xr_stk (st' := [.int (xbi (tmt tb (xSt.getD 6 []) p e))]) rfl ?_
    by_cases z6 : tmt tb (xSt.getD 6 []) p e = true
    · refine xr_if_neT i84_183 (t := 460) (by decide) (xbi_1 z6) ?_
      exact fin1 6 (by omega) z6
    refine xr_if_neF i84_183 (t := 460) (by decide) (xbi_f (by simpa using z6)) ?_
    refine xr_go i84_186 rfl ?_
    refine xr_ldc i84_187 xd84_114 rfl rfl ?_
    refine xr_V i84_189 xc84_102 ⟨rfl, rfl⟩ xa_86 rfl (by assumption) rfl (Nat.le_of_ble_eq_true rfl) (by omega) ⟨Nat.le_of_ble_eq_true rfl, Nat.le_of_ble_eq_true rfl⟩ ((q 0 (by omega))) ?_
    refine xr_stk (st' := [.int (xbi (tmt tb (xSt.getD 0 []) p e))]) rfl ?_
    by_cases z0 : tmt tb (xSt.getD 0 []) p e = true
    · refine xr_if_neT i84_192 (t := 460) (by decide) (xbi_1 z0) ?_
      exact fin1 0 (by omega) z0
    refine xr_if_neF i84_192 (t := 460) (by decide) (xbi_f (by simpa using z0)) ?_
    have e7 : tW tb p e = 1 := by
      unfold tW
      rw [if_neg (show ¬ tmt tb [99] p e = true from z0), if_neg (show ¬ tmt tb [105, 102] p e = true from z1), if_neg (show ¬ tmt tb [116, 104, 101, 110] p e = true from z2), if_neg (show ¬ tmt tb [101, 108, 115, 101] p e = true from z3), if_neg (show ¬ tmt tb [97, 110, 100] p e = true from z4), if_neg (show ¬ tmt tb [115, 101, 114, 118, 101, 114] p e = true from z5), if_neg (show ¬ tmt tb [115, 116, 97, 109, 112] p e = true from z6)]
    have e8 : nI (tmk (tW tb p e)) = 4 := by rw [e7]; rfl
    rw [e8]
    refine xr_go i84_195 rfl ?_
    refine xr_go i84_196 rfl ?_
    refine xr_put i84_197 xf84_90 (by assumption) ⟨rfl, Nat.le_of_ble_eq_true rfl, rfl, rfl, Or.inl rfl⟩ (fun y6 ey6 => ?_)
    refine xr_goto i84_200 (t := 460) (by decide) ?_
    exact fin e _ _ _ none none y6 (xup_get ez5 ey6)
  have pre3 : ∀ res, xRun G d 84 (215, [some (.ref M), none, none], [.int (xbi (tD tb p))], (y2, nx, sl)) res → xRun G d 84 (0, [some (.ref M), none, none], [], (h, nx, sl)) res := by
    intro res r
    refine pre2 res ?_
    refine xr_if_eqT i84_77 (t := 203) (by decide) (xbi_f (by simpa using hL)) ?_
    refine xr_go i84_203 rfl ?_
    refine xr_get i84_204 xf84_9 (by assumption) rfl rfl ?_
    refine xr_go i84_207 rfl ?_
    refine xr_get i84_208 xf84_81 (by assumption) rfl rfl ?_
    refine xr_yald i84_211 (by assumption) rfl (by omega) (by omega) ?_
    rw [gp]
    refine xr_S i84_212 xc84_116 ⟨by first | exact Or.inl rfl | exact Or.inr rfl, rfl⟩ xa_87 (Nat.le_of_ble_eq_true rfl) (Nat.le_of_ble_eq_true rfl) (by omega) ⟨Nat.le_of_ble_eq_true rfl, Nat.le_of_ble_eq_true rfl⟩ ((m_isDigit gb)) ?_
    exact r
  by_cases hD : tD tb p = true
  · have eE : tE n tb p = trun (tD tb) (n - p) p := by unfold tE; rw [if_neg h0, if_neg hL, if_pos hD]
    have eK : tK n tb p = if tdv tb (n - p) p 0 ≤ 2147483647 then 9 else 1 := by unfold tK; rw [if_neg h0, if_neg hL, if_pos hD]
    have eN : tN n tb p = if tdv tb (n - p) p 0 ≤ 2147483647 then tdv tb (n - p) p 0 else 0 := by unfold tN; rw [if_neg h0, if_neg hL, if_pos hD]
    obtain ⟨y3, ey3⟩ : ∃ y : xH, y = xup h M (.inr (10, xMf M tn tk rk lt (nI p) (nI n) kd (nI p) to_ ft pt (Int64.ofNat 0) mn pc od)) := ⟨_, rfl⟩
    have y3O := xup_at ey3
    obtain ⟨i1, i2⟩ := m_num_loop (G := G) (d := d) (nx := nx) (sl := sl) hn hb (by omega) (n - p) p 0 y3 (by omega) (by omega) y3O (xMt_up hT ey3)
    obtain ⟨r1, r2⟩ := tmv_tdv (tb := tb) (n - p) p 0 0 (fun _ => rfl) (fun z => z)
    rw [eE, eK, eN]
    rw [ey3, xup_same] at i2
    generalize tmv tb (n - p) p 0 = v at *
    generalize tdv tb (n - p) p 0 = w at *
    generalize trun (tD tb) (n - p) p = e at *
    refine ⟨Int64.ofNat v, fun z => ?_, pre3 _ ?_⟩
    · by_cases hw : w ≤ 2147483647
      · rw [if_pos hw, r1 hw]
      · rw [if_neg hw] at z
        omega
    obtain ⟨y4, ey4⟩ : ∃ y : xH, y = xup h M (.inr (10, xMf M tn tk rk lt (nI e) (nI n) kd (nI p) to_ ft pt (Int64.ofNat v) mn pc od)) := ⟨_, rfl⟩
    rw [← ey4, ← ey3] at i2
    have y4O := xup_at ey4
    refine xr_if_eqF i84_215 (t := 318) (by decide) (xbi_1 hD) ?_
    refine xr_go i84_218 rfl ?_
    refine xr_go i84_219 rfl ?_
    refine xr_put i84_220 xf84_119 (by assumption) ⟨rfl, Nat.le_of_ble_eq_true rfl, rfl, rfl, Or.inl rfl⟩ (fun z3 ez3 => ?_)
    obtain rfl : z3 = y3 := (xup_get ey2 ez3).trans ey3.symm
    refine i2 _ ?_
    refine xr_go i84_295 rfl ?_
    refine xr_go i84_296 rfl ?_
    refine xr_get i84_297 xf84_119 (by assumption) rfl rfl ?_
    refine xr_ldc2 i84_300 xl84_137 rfl ?_
    refine xr_go i84_303 rfl ?_
    have e9 : (2147483647 : Int64).toInt = 2147483647 := rfl
    by_cases hw : w ≤ 2147483647
    · have ev := r1 hw
      rw [if_pos hw]
      refine xr_if_gtF i84_304 (t := 311) (by decide) (fun z => by
        have := Int64.lt_iff_toInt_lt.mp ((lg_cmp_gt _ _).mp z)
        rw [i64_toInt (by omega)] at this
        have this2 : (2147483647 : Int64).toInt < (v : Int) := this
        omega) ?_
      refine xr_go i84_307 rfl ?_
      refine xr_goto i84_308 (t := 312) (by decide) ?_
      refine xr_put i84_312 xf84_90 (by assumption) ⟨rfl, Nat.le_of_ble_eq_true rfl, rfl, rfl, Or.inl rfl⟩ (fun y5 ey5 => ?_)
      refine xr_goto i84_315 (t := 460) (by decide) ?_
      exact fin e _ _ _ none none y5 (xup_get ey4 ey5)
    · have ev := r2 (by omega)
      rw [if_neg hw]
      refine xr_if_gtT i84_304 (t := 311) (by decide) ((lg_cmp_gt _ _).mpr (Int64.lt_iff_toInt_lt.mpr (by
        rw [i64_toInt (by omega)]
        show (2147483647 : Int64).toInt < (v : Int)
        omega))) ?_
      refine xr_go i84_311 rfl ?_
      refine xr_put i84_312 xf84_90 (by assumption) ⟨rfl, Nat.le_of_ble_eq_true rfl, rfl, rfl, Or.inl rfl⟩ (fun y5 ey5 => ?_)
      refine xr_goto i84_315 (t := 460) (by decide) ?_
      exact fin e _ _ _ none none y5 (xup_get ey4 ey5)
  have pre4 : ∀ res, xRun G d 84 (369, [some (.ref M), some (.int (xsb (tb p))), some (.int (xbi (tco n tb p)))], [], (y2, nx, sl)) res → xRun G d 84 (0, [some (.ref M), none, none], [], (h, nx, sl)) res := by
    intro res r
    refine pre3 res ?_
    unfold tco at r
    have no : xbi (decide (tb p = 58) && (decide (p + 1 < n) && decide (tb (p + 1) = 61))) = 0 → xRun G d 84 (367, [some (.ref M), some (.int (xsb (tb p))), none], [], (y2, nx, sl)) res := by
      intro e
      rw [e] at r
      refine xr_go i84_367 rfl ?_
      refine xr_go i84_368 rfl ?_
      exact r
    refine xr_if_eqT i84_215 (t := 318) (by decide) (xbi_f (by simpa using hD)) ?_
    refine xr_go i84_318 rfl ?_
    refine xr_get i84_319 xf84_9 (by assumption) rfl rfl ?_
    refine xr_go i84_322 rfl ?_
    refine xr_get i84_323 xf84_81 (by assumption) rfl rfl ?_
    refine xr_yald i84_326 (by assumption) rfl (by omega) (by omega) ?_
    rw [gp]
    refine xr_go i84_327 rfl ?_
    refine xr_go i84_328 rfl ?_
    refine xr_go i84_329 rfl ?_
    by_cases e1 : tb p = 58
    · refine xr_icmp_neF i84_331 (t := 367) (by decide) ((xsb_eq (c := 58) gb (by omega)).mpr e1) ?_
      refine xr_go i84_334 rfl ?_
      refine xr_get i84_335 xf84_81 (by assumption) rfl rfl ?_
      refine xr_go i84_338 rfl ?_
      refine xr_go i84_339 rfl ?_
      refine xr_top (show _ = nI (p + 1) from nI_add p 1) ?_
      refine xr_go i84_340 rfl ?_
      refine xr_get i84_341 xf84_84 (by assumption) rfl rfl ?_
      by_cases e2 : p + 1 < n
      · refine xr_icmp_geF i84_344 (t := 367) (by decide) (nI_ge e2 (by omega)) ?_
        have g3 := g1 (p + 1) e2
        refine xr_go i84_347 rfl ?_
        refine xr_get i84_348 xf84_9 (by assumption) rfl rfl ?_
        refine xr_go i84_351 rfl ?_
        refine xr_get i84_352 xf84_81 (by assumption) rfl rfl ?_
        refine xr_go i84_355 rfl ?_
        refine xr_go i84_356 rfl ?_
        refine xr_yald i84_357 (by assumption) (nI_add p 1) (by omega) (by omega) ?_
        rw [g3]
        refine xr_go i84_358 rfl ?_
        by_cases e3 : tb (p + 1) = 61
        · refine xr_icmp_neF i84_360 (t := 367) (by decide) ((xsb_eq (c := 61) (hb _ e2) (by omega)).mpr e3) ?_
          rw [decide_eq_true e1, decide_eq_true e2, decide_eq_true e3] at r
          refine xr_go i84_363 rfl ?_
          refine xr_goto i84_364 (t := 368) (by decide) ?_
          refine xr_go i84_368 rfl ?_
          exact r
        · refine xr_icmp_neT i84_360 (t := 367) (by decide) (fun y => e3 ((xsb_eq (c := 61) (hb _ e2) (by omega)).mp y)) ?_
          exact no (by rw [decide_eq_false e3]; simp [xbi])
      · refine xr_icmp_geT i84_344 (t := 367) (by decide) (nI_le (by omega) (by omega)) ?_
        exact no (by rw [decide_eq_false e2]; simp [xbi])
    · refine xr_icmp_neT i84_331 (t := 367) (by decide) (fun y => e1 ((xsb_eq (c := 58) gb (by omega)).mp y)) ?_
      exact no (by rw [decide_eq_false e1]; simp [xbi])
  have tail : ∀ KD : Int32, xRun G d 84 (439, [some (.ref M), some (.int (xsb (tb p))), some (.int (xbi (tco n tb p)))], [.int KD, .ref M], (y2, nx, sl)) (none, (xup h M (.inr (10, xMf M tn tk rk lt (nI (tE n tb p)) (nI n) KD (nI p) (nI (tE n tb p)) ft pt nu mn pc od)), nx, sl)) := by
    intro KD
    refine xr_put i84_439 xf84_90 (by assumption) ⟨rfl, Nat.le_of_ble_eq_true rfl, rfl, rfl, Or.inl rfl⟩ (fun y3 ey3 => ?_)
    have ez3 : y3 = xup h M (.inr (10, xMf M tn tk rk lt (nI p) (nI n) KD (nI p) to_ ft pt nu mn pc od)) := xup_get ey2 ey3
    have y3O := xup_at ez3
    refine xr_go i84_442 rfl ?_
    refine xr_go i84_443 rfl ?_
    refine xr_get i84_444 xf84_81 (by assumption) rfl rfl ?_
    refine xr_go i84_447 rfl ?_
    by_cases hC : tco n tb p = true
    · have eE : tE n tb p = p + 2 := by unfold tE; rw [if_neg h0, if_neg hL, if_neg hD, if_pos hC]
      rw [eE]
      refine xr_if_eqF i84_448 (t := 455) (by decide) (xbi_1 hC) ?_
      refine xr_go i84_451 rfl ?_
      refine xr_goto i84_452 (t := 456) (by decide) ?_
      refine xr_go i84_456 rfl ?_
      refine xr_top (show _ = nI (p + 2) from nI_add p 2) ?_
      refine xr_put i84_457 xf84_81 (by assumption) ⟨rfl, Nat.le_of_ble_eq_true rfl, rfl, rfl, Or.inl rfl⟩ (fun y4 ey4 => ?_)
      exact fin (p + 2) _ _ _ _ _ y4 (xup_get ez3 ey4)
    · have eE : tE n tb p = p + 1 := by unfold tE; rw [if_neg h0, if_neg hL, if_neg hD, if_neg hC]
      rw [eE]
      refine xr_if_eqT i84_448 (t := 455) (by decide) (xbi_f (by simpa using hC)) ?_
      refine xr_go i84_455 rfl ?_
      refine xr_go i84_456 rfl ?_
      refine xr_top (show _ = nI (p + 1) from nI_add p 1) ?_
      refine xr_put i84_457 xf84_81 (by assumption) ⟨rfl, Nat.le_of_ble_eq_true rfl, rfl, rfl, Or.inl rfl⟩ (fun y4 ey4 => ?_)
      exact fin (p + 1) _ _ _ _ _ y4 (xup_get ez3 ey4)
  have eK : tK n tb p = if tco n tb p = true then 17 else tS (tb p) := by unfold tK; rw [if_neg h0, if_neg hL, if_neg hD]
  rw [eK]
  refine ⟨nu, fun z => ?_, pre4 _ ?_⟩
  · exfalso
    split at z
    · omega
    · rcases tS_cases (b := tb p) with q | q <;> omega
  by_cases hC : tco n tb p = true
  · rw [if_pos hC]
    have e3 : nI (tmk 17) = 3 := rfl
    rw [e3]
    refine xr_go i84_369 rfl ?_
    refine xr_go i84_370 rfl ?_
    refine xr_if_neT i84_371 (t := 434) (by decide) (xbi_1 hC) ?_
    refine xr_go i84_434 rfl ?_
    refine xr_goto i84_435 (t := 439) (by decide) ?_
    exact tail 3
  rw [if_neg hC]
  refine xr_go i84_369 rfl ?_
  refine xr_go i84_370 rfl ?_
  refine xr_if_neF i84_371 (t := 434) (by decide) (xbi_f (by simpa using hC)) ?_
  have yes : nI (tmk (tS (tb p))) = 3 → xRun G d 84 (434, [some (.ref M), some (.int (xsb (tb p))), some (.int (xbi (tco n tb p)))], [.ref M], (y2, nx, sl)) (none, (xup h M (.inr (10, xMf M tn tk rk lt (nI (tE n tb p)) (nI n) (nI (tmk (tS (tb p)))) (nI p) (nI (tE n tb p)) ft pt nu mn pc od)), nx, sl)) := by
    intro e
    rw [e]
    refine xr_go i84_434 rfl ?_
    refine xr_goto i84_435 (t := 439) (by decide) ?_
    exact tail 3
  refine xr_go i84_374 rfl ?_
  refine xr_go i84_375 rfl ?_
  by_cases z1 : tb p = 61
  · refine xr_icmp_eqT i84_377 (t := 434) (by decide) ((xsb_eq (c := 61) gb (by omega)).mpr z1) ?_
    exact yes (by rw [z1]; rfl)
  refine xr_icmp_eqF i84_377 (t := 434) (by decide) (fun y => z1 ((xsb_eq (c := 61) gb (by omega)).mp y)) ?_
  refine xr_go i84_380 rfl ?_
  refine xr_go i84_381 rfl ?_
  by_cases z2 : tb p = 35
  · refine xr_icmp_eqT i84_383 (t := 434) (by decide) ((xsb_eq (c := 35) gb (by omega)).mpr z2) ?_
    exact yes (by rw [z2]; rfl)
  refine xr_icmp_eqF i84_383 (t := 434) (by decide) (fun y => z2 ((xsb_eq (c := 35) gb (by omega)).mp y)) ?_
  refine xr_go i84_386 rfl ?_
  refine xr_go i84_387 rfl ?_
  by_cases z3 : tb p = 60
  · refine xr_icmp_eqT i84_389 (t := 434) (by decide) ((xsb_eq (c := 60) gb (by omega)).mpr z3) ?_
    exact yes (by rw [z3]; rfl)
  refine xr_icmp_eqF i84_389 (t := 434) (by decide) (fun y => z3 ((xsb_eq (c := 60) gb (by omega)).mp y)) ?_
  refine xr_go i84_392 rfl ?_
  refine xr_go i84_393 rfl ?_
  by_cases z4 : tb p = 62
  · refine xr_icmp_eqT i84_395 (t := 434) (by decide) ((xsb_eq (c := 62) gb (by omega)).mpr z4) ?_
    exact yes (by rw [z4]; rfl)
  refine xr_icmp_eqF i84_395 (t := 434) (by decide) (fun y => z4 ((xsb_eq (c := 62) gb (by omega)).mp y)) ?_
  refine xr_go i84_398 rfl ?_
  refine xr_go i84_399 rfl ?_
  by_cases z5 : tb p = 43
  · refine xr_icmp_eqT i84_401 (t := 434) (by decide) ((xsb_eq (c := 43) gb (by omega)).mpr z5) ?_
    exact yes (by rw [z5]; rfl)
  refine xr_icmp_eqF i84_401 (t := 434) (by decide) (fun y => z5 ((xsb_eq (c := 43) gb (by omega)).mp y)) ?_
  refine xr_go i84_404 rfl ?_
  refine xr_go i84_405 rfl ?_
  by_cases z6 : tb p = 45
  · refine xr_icmp_eqT i84_407 (t := 434) (by decide) ((xsb_eq (c := 45) gb (by omega)).mpr z6) ?_
    exact yes (by rw [z6]; rfl)
  refine xr_icmp_eqF i84_407 (t := 434) (by decide) (fun y => z6 ((xsb_eq (c := 45) gb (by omega)).mp y)) ?_
  refine xr_go i84_410 rfl ?_
  refine xr_go i84_411 rfl ?_
  by_cases z7 : tb p = 42
  · refine xr_icmp_eqT i84_413 (t := 434) (by decide) ((xsb_eq (c := 42) gb (by omega)).mpr z7) ?_
    exact yes (by rw [z7]; rfl)
  refine xr_icmp_eqF i84_413 (t := 434) (by decide) (fun y => z7 ((xsb_eq (c := 42) gb (by omega)).mp y)) ?_
  refine xr_go i84_416 rfl ?_
  refine xr_go i84_417 rfl ?_
  by_cases z8 : tb p = 44
  · refine xr_icmp_eqT i84_419 (t := 434) (by decide) ((xsb_eq (c := 44) gb (by omega)).mpr z8) ?_
    exact yes (by rw [z8]; rfl)
  refine xr_icmp_eqF i84_419 (t := 434) (by decide) (fun y => z8 ((xsb_eq (c := 44) gb (by omega)).mp y)) ?_
  refine xr_go i84_422 rfl ?_
  refine xr_go i84_423 rfl ?_
  by_cases z9 : tb p = 40
  · refine xr_icmp_eqT i84_425 (t := 434) (by decide) ((xsb_eq (c := 40) gb (by omega)).mpr z9) ?_
    exact yes (by rw [z9]; rfl)
  refine xr_icmp_eqF i84_425 (t := 434) (by decide) (fun y => z9 ((xsb_eq (c := 40) gb (by omega)).mp y)) ?_
  refine xr_go i84_428 rfl ?_
  refine xr_go i84_429 rfl ?_
  by_cases z10 : tb p = 41
  · refine xr_icmp_neF i84_431 (t := 438) (by decide) ((xsb_eq (c := 41) gb (by omega)).mpr z10) ?_
    exact yes (by rw [z10]; rfl)
  refine xr_icmp_neT i84_431 (t := 438) (by decide) (fun y => z10 ((xsb_eq (c := 41) gb (by omega)).mp y)) ?_
  have e7 : tS (tb p) = 1 := by
    unfold tS
    rw [if_neg z1, if_neg z2, if_neg z3, if_neg z4, if_neg z5, if_neg z6, if_neg z7, if_neg z8, if_neg z9, if_neg z10]
  have e8 : nI (tmk (tS (tb p))) = 4 := by rw [e7]; rfl
  rw [e8]
  refine xr_go i84_438 rfl ?_
  exact tail 4
end XMSTEP

