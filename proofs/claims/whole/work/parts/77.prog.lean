/-! ===== a program read: the class ===== -/
section XPROG
variable {G : xG} {d : Nat} {h h' : xH} {nx sl B : Nat} {tak cmt : Nat} {sv sp pl cm : Nat → Nat} {pg : Nat → List (Nat × Int32)} {clk com fog : Nat → Nat} {kno : Nat → Nat → Nat} {bit : Nat → Nat} {rd wr : Nat → Nat → Nat} {lat : Option (List (Nat × Int32))} {tn : Nat} {tb : Nat → Nat}
theorem c_copyOf {a n0 m : Nat} {f : Nat → Int32} (ha : h a = some (.inl (0, n0, .inl f))) (hanx : a < nx) (hm : m < n0) (hn0 : n0 ≤ 2000) (hd : 1 ≤ d) : xRun G d 121 (0, [some (.ref a), some (.int (nI m)), none], [], (h, nx, sl)) (some (.ref nx), (xup h nx (.inl (0, m, .inl (va_cpy f (fun _ => 0) 0 0 m))), nx + 1, sl + m)) := by
  obtain ⟨k1, ek1⟩ : ∃ y : xH, y = xup h nx (.inl (0, m, .inl (fun _ => 0))) := ⟨_, rfl⟩
  have k1a : k1 a = some (.inl (0, n0, .inl f)) := by rw [ek1, xup_n (by omega)]; exact ha
  have k1n := xup_at ek1
  refine xr_go i121_0 rfl ?_
  refine xr_go i121_1 rfl ?_
  refine xr_alen i121_2 (by assumption) (by decide) ?_
  refine xr_icmp_neT i121_3 (t := 14) (by decide) (fun z => by have := (nI_eq (by omega) (by omega)).mp z; omega) ?_
  refine xr_go i121_14 rfl ?_
  refine xr_newa i121_15 rfl (n := m) rfl (by omega) (fun z1 ez1 => ?_)
  obtain rfl : z1 = k1 := ez1.trans ek1.symm
  refine xr_go i121_17 rfl ?_
  refine xr_go i121_18 rfl ?_
  refine xr_go i121_19 rfl ?_
  refine xr_go i121_20 rfl ?_
  refine xr_go i121_21 rfl ?_
  refine xr_go i121_22 rfl ?_
  refine xr_alen i121_23 (by assumption) (by decide) ?_
  refine xr_go i121_24 rfl ?_
  refine xr_min i121_25 xc121_304 rfl (by omega) (Nat.le_of_ble_eq_true rfl) ((show _ = nI m from if_pos (nI_lt hm (by omega)))) ?_
  refine xr_copy i121_28 xc121_150 rfl (by omega) (Nat.le_of_ble_eq_true rfl) k1a k1n rfl (dp := 0) rfl (sp := 0) rfl (by omega) (by omega) ⟨by omega, by omega⟩ (fun z2 ez2 => ?_)
  rw [xup_get ek1 ez2]
  refine xr_go i121_31 rfl ?_
  exact xr_end i121_32 rfl
theorem cpy_lt {f : Nat → Int32} {m k : Nat} (hk : k < m) : va_cpy f (fun _ => 0) 0 0 m k = f k := by
  unfold va_cpy
  rw [if_pos (by omega)]
  congr 1
  omega
theorem c_pinit {a x y : Nat} (ha : h a = some (.inr (8, [.null, .null]))) (hd : 1 ≤ d) : xRun G d 76 (0, [some (.ref a), some (.ref x), some (.ref y)], [], (h, nx, sl)) (none, (xup h a (.inr (8, [.ref x, .ref y])), nx, sl)) := by
  refine xr_go i76_0 rfl ?_
  refine xr_obj i76_1 xc76_1 rfl (by omega) (Nat.le_of_ble_eq_true rfl) ?_
  refine xr_go i76_4 rfl ?_
  refine xr_go i76_5 rfl ?_
  refine xr_put i76_6 xf76_7 (by assumption) ⟨rfl, Nat.le_of_ble_eq_true rfl, rfl, rfl, by first | exact Or.inl rfl | exact Or.inr ⟨rfl, rfl, rfl⟩⟩ (fun z1 ez1 => ?_)
  have e1 : z1 a = some (.inr (8, [.ref x, .null])) := xup_at ez1
  refine xr_go i76_9 rfl ?_
  refine xr_go i76_10 rfl ?_
  refine xr_put i76_11 xf76_13 (by assumption) ⟨rfl, Nat.le_of_ble_eq_true rfl, rfl, rfl, by first | exact Or.inl rfl | exact Or.inr ⟨rfl, rfl, rfl⟩⟩ (fun z2 ez2 => ?_)
  rw [xup_get ez1 ez2]
  exact xr_end i76_14 rfl
theorem c_compiled {n T : Nat} {em : List (Nat × Int32)} {i p : Nat} {ft : Int32} (hC : xCs B n tb T em i p ft h) (hl : em.length < 406) (hnx : B + 119 ≤ nx) (hd : 2 ≤ d) : ∃ h', xRun G d 35 (0, [some (.ref (B + 3))], [], (h, nx, sl)) (some (.ref nx), (h', nx + 3, sl + 2 + em.length + em.length)) ∧ xProg nx (nx + 1) (nx + 2) em h' ∧ ∀ q, q < nx → h' q = h q := by
  obtain ⟨-, h3, fs, fo, h8, h9, hem⟩ := hC
  obtain ⟨k1, ek1⟩ : ∃ y : xH, y = xup h nx (.inr (8, [.null, .null])) := ⟨_, rfl⟩
  have k1n : ∀ q, q ≠ nx → k1 q = h q := fun q hq => by rw [ek1]; exact xup_n hq
  have k13 := (k1n (B + 3) (by omega)).trans h3
  obtain ⟨k2, ek2⟩ : ∃ y : xH, y = xup k1 (nx + 1) (.inl (0, em.length, .inl (va_cpy fs (fun _ => 0) 0 0 em.length))) := ⟨_, rfl⟩
  have k2n : ∀ q, q ≠ nx + 1 → k2 q = k1 q := fun q hq => by rw [ek2]; exact xup_n hq
  have k23 := (k2n (B + 3) (by omega)).trans k13
  obtain ⟨k3, ek3⟩ : ∃ y : xH, y = xup k2 (nx + 1 + 1) (.inl (0, em.length, .inl (va_cpy fo (fun _ => 0) 0 0 em.length))) := ⟨_, rfl⟩
  have k3n : ∀ q, q ≠ nx + 1 + 1 → k3 q = k2 q := fun q hq => by rw [ek3]; exact xup_n hq
  have r1 := c_copyOf (G := G) (d := d - 1) (nx := nx + 1) (sl := sl + 2) (m := em.length) ((k1n (B + 8) (by omega)).trans h8) (by omega) hl (by omega) (by omega)
  rw [← ek2] at r1
  have r2 := c_copyOf (G := G) (d := d - 1) (nx := nx + 1 + 1) (sl := sl + 2 + em.length) (m := em.length) ((k2n (B + 9) (by omega)).trans ((k1n (B + 9) (by omega)).trans h9)) (by omega) hl (by omega) (by omega)
  rw [← ek3] at r2
  have k3x : k3 nx = some (.inr (8, [.null, .null])) := (k3n nx (by omega)).trans ((k2n nx (by omega)).trans (xup_at ek1))
  have r3 := c_pinit (G := G) (d := d - 1) (nx := nx + 1 + 1 + 1) (sl := sl + 2 + em.length + em.length) (x := nx + 1) (y := nx + 1 + 1) k3x (by omega)
  obtain ⟨k4, ek4⟩ : ∃ y : xH, y = xup k3 nx (.inr (8, [.ref (nx + 1), .ref (nx + 1 + 1)])) := ⟨_, rfl⟩
  rw [← ek4] at r3
  have k4n : ∀ q, q ≠ nx → k4 q = k3 q := fun q hq => by rw [ek4]; exact xup_n hq
  refine ⟨k4, ?_, ⟨_, _, xup_at ek4, (k4n _ (by omega)).trans ((k3n _ (by omega)).trans (xup_at ek2)), (k4n _ (by omega)).trans (xup_at ek3), fun k hk => ?_, by omega⟩, fun q hq => (k4n q (by omega)).trans ((k3n q (by omega)).trans ((k2n q (by omega)).trans (k1n q (by omega))))⟩
  · refine xr_new i35_0 xk35_58 rfl rfl rfl (fun z1 ez1 => ?_)
    obtain rfl : z1 = k1 := ez1.trans ek1.symm
    refine xr_go i35_3 rfl ?_
    refine xr_go i35_4 rfl ?_
    refine xr_get i35_5 xf35_18 (by assumption) rfl rfl ?_
    refine xr_go i35_8 rfl ?_
    refine xr_get i35_9 xf35_25 (by assumption) rfl rfl ?_
    refine xr_S i35_12 xc35_71 ⟨by first | exact Or.inl rfl | exact Or.inr rfl, rfl⟩ xa_121 (Nat.le_of_ble_eq_true rfl) (Nat.le_of_ble_eq_true rfl) (by omega) ⟨Nat.le_of_ble_eq_true rfl, Nat.le_of_ble_eq_true rfl⟩ (r1) ?_
    refine xr_stk (st' := [.ref (nx + 1), .ref nx, .ref nx]) rfl ?_
    refine xr_go i35_15 rfl ?_
    refine xr_get i35_16 xf35_22 (by assumption) rfl rfl ?_
    refine xr_go i35_19 rfl ?_
    refine xr_get i35_20 xf35_25 (by assumption) rfl rfl ?_
    refine xr_S i35_23 xc35_71 ⟨by first | exact Or.inl rfl | exact Or.inr rfl, rfl⟩ xa_121 (Nat.le_of_ble_eq_true rfl) (Nat.le_of_ble_eq_true rfl) (by omega) ⟨Nat.le_of_ble_eq_true rfl, Nat.le_of_ble_eq_true rfl⟩ (r2) ?_
    refine xr_stk (st' := [.ref (nx + 1 + 1), .ref (nx + 1), .ref nx, .ref nx]) rfl ?_
    refine xr_I i35_26 xc35_77 ⟨by first | exact Or.inl rfl | exact Or.inr rfl, rfl⟩ xa_76 rfl rfl (Nat.le_of_ble_eq_true rfl) (by omega) ⟨Nat.le_of_ble_eq_true rfl, Nat.le_of_ble_eq_true rfl⟩ (r3) ?_
    exact xr_end i35_29 rfl
  · rw [cpy_lt hk, cpy_lt hk]
    exact hem k hk
theorem c_compile0 {T : Nat} (hG : xGok G) (hTp : xTp B tn tb h) (hCo : xCo B h) (hT1 : 0 < T) (hT2 : T ≤ tn + 1) (hT3 : ∀ i, i + 1 < T → 2 ≤ tK tn tb (tP tn tb i)) (hT4 : tK tn tb (tP tn tb (T - 1)) ≤ 1) (hd : 6 ≤ d) : ∃ k, (∀ res, xRun G d 23 (36, [some (.ref (B + 3)), some (.int 1), some (.int (nI 1))], [], (k, nx, sl)) res → xRun G d 23 (0, [some (.ref (B + 3)), none, none], [], (h, nx, sl)) res) ∧ xCs B tn tb T [] 0 0 (-2) k ∧ ∀ q, (q < B + 3 ∨ B + 9 < q) → k q = h q := by
  obtain ⟨s, a, p, f, z, fk, fp, fn, fs, fo, h3, h4, h5, h6, h7, h8, h9⟩ := hCo
  obtain ⟨h1, r1, a1, a2⟩ := c_scan (G := G) (d := d - 1) (nx := nx) (sl := sl) hG hT1 hT2 hT3 hT4 hTp h4 h5 h6 h7 (by omega)
  have h13 := (a2 (B + 3) (by omega)).trans h3
  have h18 := (a2 (B + 8) (by omega)).trans h8
  have h19 := (a2 (B + 9) (by omega)).trans h9
  obtain ⟨k4, ek4⟩ : ∃ y : xH, y = xup h1 (B + 3) (.inr (2, [.ref (B + 1), .ref (B + 4), .ref (B + 8), .ref (B + 9), .int (nI 0), .int (nI 0), .int (nI 0), .int (-2)])) := ⟨_, rfl⟩
  have k4n : ∀ q, q ≠ B + 3 → k4 q = h1 q := fun q hq => by rw [ek4]; exact xup_n hq
  refine ⟨k4, fun res r => ?_, ⟨xTk_kept a1 (fun q b1 b2 => k4n q (by omega)), xup_at ek4, fs, fo, (k4n _ (by omega)).trans h18, (k4n _ (by omega)).trans h19, fun k hk => by simp at hk⟩, fun q hq => (k4n q (by omega)).trans (a2 q (by omega))⟩
  refine xr_go i23_0 rfl ?_
  refine xr_get i23_1 xf23_14 (by assumption) rfl rfl ?_
  refine xr_go i23_4 rfl ?_
  refine xr_get i23_5 xf23_38 (by assumption) rfl rfl ?_
  refine xr_V i23_8 xc23_42 ⟨rfl, rfl⟩ xa_37 rfl (by assumption) rfl (Nat.le_of_ble_eq_true rfl) (by omega) ⟨Nat.le_of_ble_eq_true rfl, Nat.le_of_ble_eq_true rfl⟩ (r1) ?_
  refine xr_go i23_11 rfl ?_
  refine xr_go i23_12 rfl ?_
  refine xr_put i23_13 xf23_25 (by assumption) ⟨rfl, Nat.le_of_ble_eq_true rfl, rfl, rfl, Or.inl rfl⟩ (fun z1 ez1 => ?_)
  have f1 := xup_at ez1
  refine xr_go i23_16 rfl ?_
  refine xr_go i23_17 rfl ?_
  refine xr_put i23_18 xf23_29 (by assumption) ⟨rfl, Nat.le_of_ble_eq_true rfl, rfl, rfl, Or.inl rfl⟩ (fun z2 ez2 => ?_)
  have e2 := xup_get ez1 ez2
  have f2 := xup_at e2
  refine xr_go i23_21 rfl ?_
  refine xr_go i23_22 rfl ?_
  refine xr_put i23_23 xf23_32 (by assumption) ⟨rfl, Nat.le_of_ble_eq_true rfl, rfl, rfl, Or.inl rfl⟩ (fun z3 ez3 => ?_)
  have e3 := xup_get e2 ez3
  have f3 := xup_at e3
  refine xr_go i23_26 rfl ?_
  refine xr_go i23_27 rfl ?_
  refine xr_put i23_29 xf23_35 (by assumption) ⟨rfl, Nat.le_of_ble_eq_true rfl, rfl, rfl, Or.inl rfl⟩ (fun z4 ez4 => ?_)
  have e4 := xup_get e3 ez4
  obtain rfl : z4 = k4 := e4.trans ek4.symm
  refine xr_go i23_32 rfl ?_
  refine xr_go i23_33 rfl ?_
  refine xr_go i23_34 rfl ?_
  refine xr_go i23_35 rfl ?_
  exact r
/-- the tape and the compiler's rows changed -/
theorem xDS_par {tn' : Nat} {tb' : Nat → Nat} (hD : xDS B nx tak cmt sv sp pl cm pg clk com fog kno bit rd wr lat tn tb h) (hT : xTp B tn' tb' h') (hC : xCo B h') (sm : ∀ q, (q < B + 1 ∨ B + 9 < q) → h' q = h q) : xDS B nx tak cmt sv sp pl cm pg clk com fog kno bit rd wr lat tn' tb' h' := by
  obtain ⟨lv, wad, pad, psa, poa, h1, h2, h3, h4, h5, h6, h7, h8, ⟨b, e, t, h9⟩, h10, h11, h12, h13⟩ := hD
  exact ⟨lv, wad, pad, psa, poa, xTop_kept h1 (sm _ (by omega)) (sm _ (by omega)) (sm _ (by omega)), xLat_kept h2 (Nat.le_refl _) (fun q g1 g2 _ => sm q (by omega)), hT, hC, xHist_kept h5 (fun q hq => sm q (by omega)), h6, h7, h8, ⟨b, e, t, xMS_kept h9 (fun q g1 g2 => sm q (by omega))⟩, fun k hk => xSI_kept (h10 k hk) (fun q g1 g2 => sm q (by omega)), fun k hk => xSe_kept (h11 k hk) (fun q g1 g2 => sm q (by omega)), h12, h13⟩
/-- the latest program changed -/
theorem xDS_lat {lv' : Value} {lat' : Option (List (Nat × Int32))} {nx' : Nat} (hD : xDS B nx tak cmt sv sp pl cm pg clk com fog kno bit rd wr lat tn tb h) (hn : nx ≤ nx') (hB : h' B = some (.inr (0, [.ref (B + 1), .ref (B + 3), .ref (B + 10), .ref (B + 17), .ref (B + 53), lv']))) (hk : ∀ q, q ≠ B → q < nx → h' q = h q) (hL : xLat B nx' lv' lat' h') : xDS B nx' tak cmt sv sp pl cm pg clk com fog kno bit rd wr lat' tn tb h' := by
  obtain ⟨lv, wad, pad, psa, poa, h1, h2, h3, h4, h5, h6, h7, h8, ⟨b, e, t, h9⟩, h10, h11, h12, h13⟩ := hD
  obtain ⟨t1, ⟨sf, t2, t3⟩, ⟨ef, t4, t5⟩⟩ := h1
  refine ⟨lv', wad, pad, psa, poa, ⟨hB, ⟨sf, (hk _ (by omega) (by omega)).trans t2, t3⟩, ⟨ef, (hk _ (by omega) (by omega)).trans t4, t5⟩⟩, hL, xTp_kept h3 (hk _ (by omega) (by omega)) (hk _ (by omega) (by omega)), xCo_kept h4 (fun q g1 g2 => hk _ (by omega) (by omega)), ?_, ?_, h7, h8, ⟨b, e, t, xMS_kept h9 (fun q g1 g2 => hk _ (by omega) (by omega))⟩, fun i hi => xSI_kept (h10 i hi) (fun q g1 g2 => hk _ (by omega) (by omega)), fun j hj => xSe_kept (h11 j hj) (fun q g1 g2 => hk _ (by omega) (by omega)), h12, by omega⟩
  · obtain ⟨⟨wf, g1, g2, g3⟩, g4, g5, g6, g7⟩ := h5
    refine ⟨⟨wf, (hk _ (by omega) (by omega)).trans g1, (hk _ (by omega) (by omega)).trans g2, g3⟩, (hk _ (by omega) (by omega)).trans g4, g5, g6, fun w hw => ?_⟩
    obtain ⟨k1, ⟨fs, fo, p0, p1, p2, p3⟩, k2⟩ := g7 w hw
    obtain ⟨m1, m2, m3, m4, m5, m6, m7, m8⟩ := h6.1 w hw
    exact ⟨(hk _ (by omega) m5).trans k1, ⟨fs, fo, (hk _ (by omega) m6).trans p0, (hk _ (by omega) m7).trans p1, (hk _ (by omega) m8).trans p2, p3⟩, k2⟩
  · refine ⟨fun w hw => ?_, h6.2⟩
    obtain ⟨m1, m2, m3, m4, m5, m6, m7, m8⟩ := h6.1 w hw
    exact ⟨m1, m2, m3, m4, by omega, by omega, by omega, by omega⟩
theorem xCs_Co {n T : Nat} {em : List (Nat × Int32)} {i p : Nat} {ft : Int32} (hC : xCs B n tb T em i p ft h) : xCo B h := by
  obtain ⟨⟨h4, ⟨fk, h5, -⟩, ⟨fp, h6, -⟩, ⟨fn, h7, -⟩⟩, h3, fs, fo, h8, h9, -⟩ := hC
  exact ⟨_, _, _, _, _, fk, fp, fn, fs, fo, h3, h4, h5, h6, h7, h8, h9⟩
/-- what a program leaves of the class: with a fault at token j, or with rules -/
theorem D_program {T : Nat} {o : Nat ⊕ (List xRu × Nat × Nat)} (hG : xGok G) (hD : xDS B nx tak cmt sv sp pl cm pg clk com fog kno bit rd wr lat tn tb h) (hT1 : 0 < T) (hT2 : T ≤ tn + 1) (hT3 : ∀ i, i + 1 < T → 2 ≤ tK tn tb (tP tn tb i)) (hT4 : tK tn tb (tP tn tb (T - 1)) ≤ 1) (hg : xGp T 0 0 o) (hc : ∀ dd h em, 31 ≤ dd → em.length ≤ 0 + 0 → xCs B tn tb T em 0 0 (-2) h → xCg G nx sl B tn tb T dd em 0 h o) (hd : 32 ≤ d) : match o with
    | .inl j => ∃ h', xRun G d 3 (0, [some (.ref B), none], [], (h, nx, sl)) (some (.int (nI (tP tn tb j))), (h', nx, sl)) ∧ xDS B nx tak cmt sv sp pl cm pg clk com fog kno bit rd wr lat 0 tb h' ∧ xoth B nx h h'
    | .inr (RS, _, _) => ∃ h', xRun G d 3 (0, [some (.ref B), none], [], (h, nx, sl)) (some (.int (-2)), (h', nx + 3, sl + 2 + (xrs 1 RS).length + (xrs 1 RS).length)) ∧ xDS B (nx + 3) tak cmt sv sp pl cm pg clk com fog kno bit rd wr (some (xrs 1 RS)) 0 tb h' ∧ xoth B nx h h' ∧ (xrs 1 RS).length ≤ 406 := by
  have hD0 := hD
  obtain ⟨lv, wad, pad, psa, poa, ⟨t1, t2⟩, h2, h3, h4, -, -, -, -, -, -, -, -, hn13⟩ := hD
  have hn : tn ≤ 400 := by
    obtain ⟨f, f1, f2, f3, f4⟩ := h3
    exact f3
  obtain ⟨k, r0, a1, a2⟩ := c_compile0 (G := G) (d := d - 1) (nx := nx) (sl := sl) hG h3 h4 hT1 hT2 hT3 hT4 (by omega)
  have c1 := hc (d - 1) k [] (by omega) (by simp) a1
  /- behind the compiler: the tape is emptied -/
  have tape : ∀ h1 em i p ft, xfr B k h1 → xCs B tn tb T em i p ft h1 → ∃ h2, h2 = xup h1 (B + 1) (.inr (1, [.ref (B + 2), .int (nI 0)])) ∧ xDS B nx tak cmt sv sp pl cm pg clk com fog kno bit rd wr lat 0 tb h2 ∧ xoth B nx h h2 ∧ xCs B tn tb T em i p ft h2 ∧ h1 B = h B ∧ h1 (B + 1) = h (B + 1) := by
    intro h1 em i p ft b1 b2
    have sm1 : ∀ q, (q < B + 3 ∨ B + 9 < q) → h1 q = h q := fun q hq => (b1 q (by omega) (by omega) (by omega)).trans (a2 q hq)
    obtain ⟨h2, e2⟩ : ∃ y : xH, y = xup h1 (B + 1) (.inr (1, [.ref (B + 2), .int (nI 0)])) := ⟨_, rfl⟩
    have h2n : ∀ q, q ≠ B + 1 → h2 q = h1 q := fun q hq => by rw [e2]; exact xup_n hq
    have sm2 : ∀ q, (q < B + 1 ∨ B + 9 < q) → h2 q = h q := fun q hq => (h2n q (by omega)).trans (sm1 q (by omega))
    have b3 : xCs B tn tb T em i p ft h2 := by
      obtain ⟨c1, c2, fs, fo, c3, c4, c5⟩ := b2
      exact ⟨xTk_kept c1 (fun q d1 d2 => h2n q (by omega)), (h2n _ (by omega)).trans c2, fs, fo, (h2n _ (by omega)).trans c3, (h2n _ (by omega)).trans c4, c5⟩
    obtain ⟨f, f1, f2, f3, f4⟩ := h3
    refine ⟨h2, e2, xDS_par hD0 ⟨f, xup_at e2, (h2n _ (by omega)).trans ((sm1 _ (by omega)).trans f2), by omega, fun j hj => by omega⟩ (xCs_Co b3) sm2, fun q d1 _ _ => sm2 q (by omega), b3, sm1 _ (by omega), sm1 _ (by omega)⟩
  obtain ⟨f, f1, f2, f3, f4⟩ := h3
  have h30 : h (B + 3) = some (.inr (2, _)) := h4.choose_spec.choose_spec.choose_spec.choose_spec.choose_spec.choose_spec.choose_spec.choose_spec.choose_spec.choose_spec.1
  cases o with
  | inl j =>
    obtain ⟨h1, r1, b1, em', i', p', ft', b2⟩ := c1
    obtain ⟨h2, e2, c2, c3, c4, c5, c6⟩ := tape h1 em' i' p' ft' b1 b2
    have hB1 := c5.trans t1
    have hT1' := c6.trans f1
    refine ⟨h2, ?_, c2, c3⟩
    refine xr_go i3_0 rfl ?_
    refine xr_get i3_1 xf3_21 (by assumption) rfl rfl ?_
    refine xr_V i3_4 xc3_63 ⟨rfl, rfl⟩ xa_23 rfl (by assumption) rfl (Nat.le_of_ble_eq_true rfl) (by omega) ⟨Nat.le_of_ble_eq_true rfl, Nat.le_of_ble_eq_true rfl⟩ ((r0 _ r1)) ?_
    refine xr_go i3_7 rfl ?_
    refine xr_go i3_8 rfl ?_
    refine xr_get i3_9 xf3_12 (by assumption) rfl rfl ?_
    refine xr_go i3_12 rfl ?_
    refine xr_put i3_13 xf3_55 (by assumption) ⟨rfl, Nat.le_of_ble_eq_true rfl, rfl, rfl, Or.inl rfl⟩ (fun z1 ez1 => ?_)
    obtain rfl : z1 = h2 := ez1.trans e2.symm
    refine xr_go i3_16 rfl ?_
    refine xr_go i3_17 rfl ?_
    refine xr_icmp_neT i3_19 (t := 33) (by decide) (tP_nn hn) ?_
    refine xr_go i3_33 rfl ?_
    exact xr_iret i3_34 xt_3 rfl
  | inr v =>
    obtain ⟨RS, i', p'⟩ := v
    have g' : i' < T ∧ (xrs 1 RS).length + 0 + 1 ≤ i' + RS.length ∧ (∀ r ∈ RS, xWr r) ∧ 0 + RS.length ≤ 6 := hg
    obtain ⟨g1, g2, g3, g4⟩ := g'
    have hlen : (xrs 1 RS).length ≤ 405 := by omega
    have hRS : RS.length ≤ 6 := by omega
    have hlen2 : (xrs 1 RS).length ≤ 406 := by omega
    obtain ⟨h1, r1, b1, b2⟩ := c1
    have b2' : xCs B tn tb T (xrs 1 RS) i' p' (-2) h1 := b2
    obtain ⟨h2, e2, c2, c3, c4, c5, c6⟩ := tape h1 _ i' p' (-2) b1 b2'
    have hB1 := c5.trans t1
    have hT1' := c6.trans f1
    have hB2 : h2 B = some (.inr (0, [.ref (B + 1), .ref (B + 3), .ref (B + 10), .ref (B + 17), .ref (B + 53), lv])) := by rw [e2, xup_n (by omega)]; exact hB1
    obtain ⟨h3', r3, d1, d2⟩ := c_compiled (G := G) (d := d - 1) (nx := nx) (sl := sl) c4 (by omega) hn13 (by omega)
    have hB3 := (d2 B (by omega)).trans hB2
    have h23 := c4.2.1
    obtain ⟨k5, ek5⟩ : ∃ y : xH, y = xup h3' B (.inr (0, [.ref (B + 1), .ref (B + 3), .ref (B + 10), .ref (B + 17), .ref (B + 53), .ref nx])) := ⟨_, rfl⟩
    have k5n : ∀ q, q ≠ B → k5 q = h3' q := fun q hq => by rw [ek5]; exact xup_n hq
    refine ⟨k5, ?_, xDS_lat (nx' := nx + 3) (lat' := some (xrs 1 RS)) (lv' := .ref nx) c2 (by omega) (xup_at ek5) (fun q e1 e2 => (k5n q e1).trans (d2 q e2)) (Or.inr ⟨xrs 1 RS, nx, nx + 1, nx + 2, rfl, rfl, ?_, xOKp_rules g3 hRS, hn13, Nat.le_succ_of_le hn13, Nat.le_add_right_of_le hn13, Nat.lt_add_of_pos_right (Nat.succ_pos 2), Nat.add_lt_add_left (show 1 < 3 from Nat.le_of_ble_eq_true rfl) nx, Nat.add_lt_add_left (show 2 < 3 from Nat.le_of_ble_eq_true rfl) nx⟩), fun q e1 e2 e3 => (k5n q (by omega)).trans ((d2 q e2).trans (c3 q e1 e2 e3)), hlen2⟩
    · refine xr_go i3_0 rfl ?_
      refine xr_get i3_1 xf3_21 (by assumption) rfl rfl ?_
      refine xr_V i3_4 xc3_63 ⟨rfl, rfl⟩ xa_23 rfl (by assumption) rfl (Nat.le_of_ble_eq_true rfl) (by omega) ⟨Nat.le_of_ble_eq_true rfl, Nat.le_of_ble_eq_true rfl⟩ ((r0 _ r1)) ?_
      refine xr_go i3_7 rfl ?_
      refine xr_go i3_8 rfl ?_
      refine xr_get i3_9 xf3_12 (by assumption) rfl rfl ?_
      refine xr_go i3_12 rfl ?_
      refine xr_put i3_13 xf3_55 (by assumption) ⟨rfl, Nat.le_of_ble_eq_true rfl, rfl, rfl, Or.inl rfl⟩ (fun z1 ez1 => ?_)
      obtain rfl : z1 = h2 := ez1.trans e2.symm
      refine xr_go i3_16 rfl ?_
      refine xr_go i3_17 rfl ?_
      refine xr_icmp_neF i3_19 (t := 33) (by decide) rfl ?_
      refine xr_go i3_22 rfl ?_
      refine xr_go i3_23 rfl ?_
      refine xr_get i3_24 xf3_21 (by assumption) rfl rfl ?_
      refine xr_V i3_27 xc3_67 ⟨rfl, rfl⟩ xa_35 rfl (by assumption) rfl (Nat.le_of_ble_eq_true rfl) (by omega) ⟨Nat.le_of_ble_eq_true rfl, Nat.le_of_ble_eq_true rfl⟩ (r3) ?_
      refine xr_stk (st' := [.ref nx, .ref B]) rfl ?_
      refine xr_put i3_30 xf3_51 (by assumption) ⟨rfl, Nat.le_of_ble_eq_true rfl, rfl, rfl, Or.inl rfl⟩ (fun z2 ez2 => ?_)
      obtain rfl : z2 = k5 := ez2.trans ek5.symm
      refine xr_go i3_33 rfl ?_
      exact xr_iret i3_34 xt_3 rfl
    · obtain ⟨fs, fo, p0, p1, p2, p3⟩ := d1
      exact ⟨fs, fo, (k5n _ (by omega)).trans p0, (k5n _ (by omega)).trans p1, (k5n _ (by omega)).trans p2, p3⟩
end XPROG

