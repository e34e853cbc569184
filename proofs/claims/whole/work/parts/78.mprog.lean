/-! ===== a program read: the model; both ===== -/
section XMPROG
variable {G : xG} {d : Nat} {h h' : xH} {nx sl B M : Nat} {tak cmt : Nat} {sv sp pl cm : Nat → Nat} {pg : Nat → List (Nat × Int32)} {clk com fog : Nat → Nat} {kno : Nat → Nat → Nat} {bit : Nat → Nat} {rd wr : Nat → Nat → Nat} {lat : Option (List (Nat × Int32))} {tn : Nat} {tb : Nat → Nat} {lt : Value} {pc od : Int32}
theorem m_prog0 {at_ sz kd fr to_ ft pt mn : Int32} {nu : Int64} {f : Nat → Int32} (hG : xGok G) (hn : tn ≤ 400) (hb : ∀ j, j < tn → tb j < 256) (hO : h M = some (.inr (10, xMf M (nI tn) (nI tak) (nI cmt) lt at_ sz kd fr to_ ft pt nu mn pc od))) (hT : xMt M tn tb h) (h35 : h (M + 35) = some (.inl (0, 1600, .inl f))) (hd : 3 ≤ d) : ∃ k hds, (∀ x h1 res, xRun G (d - 1) 88 (0, [some (.ref M), none, none, none], [], (k, nx, sl)) (some (.int x), (h1, nx, sl)) → xRun G d 83 (50, [some (.ref M), some (.int x)], [], (h1, nx, sl)) res → xRun G d 83 (0, [some (.ref M), none], [], (h, nx, sl)) res) ∧ xfm M h k ∧ xHd hds [] [] ∧ xMp M tn tb (nI 0) (nI tak) (nI cmt) lt pc od (hds ++ []) 0 0 (-1) k := by
  obtain ⟨k6, ek6⟩ : ∃ y : xH, y = xup h M (.inr (10, xMf M (nI 0) (nI tak) (nI cmt) lt (nI 0) (nI tn) kd fr to_ (-1) (nI 0) nu (nI 7) pc od)) := ⟨_, rfl⟩
  have k6n : ∀ q, q ≠ M → k6 q = h q := fun q hq => by rw [ek6]; exact xup_n hq
  have k6O := xup_at ek6
  have k635 := (k6n (M + 35) (by omega)).trans h35
  obtain ⟨k7, ek7⟩ : ∃ y : xH, y = xup k6 (M + 35) (.inl (0, 1600, .inl (upd f 0 0))) := ⟨_, rfl⟩
  have k7n : ∀ q, q ≠ M + 35 → k7 q = k6 q := fun q hq => by rw [ek7]; exact xup_n hq
  have k7O := (k7n M (by omega)).trans k6O
  have k7T : xMt M tn tb k7 := xMt_fm (xMt_up hT ek6) (k7n _ (by omega))
  obtain ⟨nu', h1, r1⟩ := m_step0 (G := G) (d := d - 1) (nx := nx) (sl := sl) (a := 0) hG (Nat.zero_le _) hn hb k7O k7T (by omega)
  obtain ⟨k8, ek8⟩ : ∃ y : xH, y = xup k7 M (xMk M tn tb (nI 0) (nI tak) (nI cmt) lt 0 (-1) (nI 0) nu' (nI 7) pc od) := ⟨_, rfl⟩
  have r1' : xRun G (d - 1) 84 (0, [some (.ref M), none, none], [], (k7, nx, sl)) (none, (k8, nx, sl)) := by rw [ek8]; exact r1
  have k8n : ∀ q, q ≠ M → k8 q = k7 q := fun q hq => by rw [ek8]; exact xup_n hq
  have k8O := xup_at ek8
  refine ⟨k8, [nI 0, f 1, f 2, f 3, f 4, f 5, f 6], fun x h2 res r2 r => ?_, fun q a1 a2 => (k8n q a1).trans ((k7n q a2).trans (k6n q a1)), ⟨rfl, rfl, by simp, fun k hk => by simp at hk⟩, ⟨nu', h1, k8O⟩, xMt_up k7T ek8, upd f 0 0, (k8n _ (by omega)).trans (xup_at ek7), fun k hk => ?_⟩
  · refine xr_go i83_0 rfl ?_
    refine xr_go i83_1 rfl ?_
    refine xr_get i83_2 xf83_73 (by assumption) rfl rfl ?_
    refine xr_put i83_5 xf83_84 (by assumption) ⟨rfl, Nat.le_of_ble_eq_true rfl, rfl, rfl, Or.inl rfl⟩ (fun z1 ez1 => ?_)
    have f1 := xup_at ez1
    refine xr_go i83_8 rfl ?_
    refine xr_go i83_9 rfl ?_
    refine xr_put i83_10 xf83_73 (by assumption) ⟨rfl, Nat.le_of_ble_eq_true rfl, rfl, rfl, Or.inl rfl⟩ (fun z2 ez2 => ?_)
    have e2 := xup_get ez1 ez2
    have f2 := xup_at e2
    refine xr_go i83_13 rfl ?_
    refine xr_go i83_14 rfl ?_
    refine xr_put i83_15 xf83_81 (by assumption) ⟨rfl, Nat.le_of_ble_eq_true rfl, rfl, rfl, Or.inl rfl⟩ (fun z3 ez3 => ?_)
    have e3 := xup_get e2 ez3
    have f3 := xup_at e3
    refine xr_go i83_18 rfl ?_
    refine xr_go i83_19 rfl ?_
    refine xr_put i83_20 xf83_149 (by assumption) ⟨rfl, Nat.le_of_ble_eq_true rfl, rfl, rfl, Or.inl rfl⟩ (fun z4 ez4 => ?_)
    have e4 := xup_get e3 ez4
    have f4 := xup_at e4
    refine xr_go i83_23 rfl ?_
    refine xr_go i83_24 rfl ?_
    refine xr_put i83_25 xf83_162 (by assumption) ⟨rfl, Nat.le_of_ble_eq_true rfl, rfl, rfl, Or.inl rfl⟩ (fun z5 ez5 => ?_)
    have e5 := xup_get e4 ez5
    have f5 := xup_at e5
    refine xr_go i83_28 rfl ?_
    refine xr_go i83_29 rfl ?_
    refine xr_put i83_31 xf83_159 (by assumption) ⟨rfl, Nat.le_of_ble_eq_true rfl, rfl, rfl, Or.inl rfl⟩ (fun z6 ez6 => ?_)
    have e6 := xup_get e5 ez6
    obtain rfl : z6 = k6 := e6.trans ek6.symm
    refine xr_go i83_34 rfl ?_
    refine xr_get i83_35 xf83_55 (by assumption) rfl rfl ?_
    refine xr_go i83_38 rfl ?_
    refine xr_go i83_39 rfl ?_
    refine xr_iast i83_40 (by assumption) (show (0 : Int32) = nI 0 from rfl) (by omega) (by omega) (fun z7 ez7 => ?_)
    obtain rfl : z7 = k7 := ez7.trans ek7.symm
    refine xr_go i83_41 rfl ?_
    refine xr_V i83_42 xc83_156 ⟨rfl, rfl⟩ xa_84 rfl (by assumption) rfl (Nat.le_of_ble_eq_true rfl) (by omega) ⟨Nat.le_of_ble_eq_true rfl, Nat.le_of_ble_eq_true rfl⟩ (r1') ?_
    refine xr_go i83_45 rfl ?_
    refine xr_V i83_46 xc83_165 ⟨rfl, rfl⟩ xa_88 rfl (by assumption) rfl (Nat.le_of_ble_eq_true rfl) (by omega) ⟨Nat.le_of_ble_eq_true rfl, Nat.le_of_ble_eq_true rfl⟩ (r2) ?_
    refine xr_go i83_49 rfl ?_
    exact r
  · have hk7 : k < 7 := hk
    have hc : k = 0 ∨ k = 1 ∨ k = 2 ∨ k = 3 ∨ k = 4 ∨ k = 5 ∨ k = 6 := by omega
    rcases hc with rfl | rfl | rfl | rfl | rfl | rfl | rfl <;> rfl
/-- the model behind a program -/
theorem xMod_prog {h0 : xH} {lt' : Value} {lat' : Option (List (Nat × Int32))} {nx' : Nat} {at_ sz kd fr to_ ft pt mn pc' od' : Int32} {nu : Int64} (ht : xMt M tn tb h0) (hm : xMd M cmt sv sp pl cm clk com fog kno bit rd wr h0) (hr : xMr M h0) (hw : xMw M nx tak pg h0) (hn : M + 41 ≤ nx) (hnn : nx ≤ nx') (hO : h' M = some (.inr (10, xMf M (nI 0) (nI tak) (nI cmt) lt' at_ sz kd fr to_ ft pt nu mn pc' od'))) (h35 : ∃ f, h' (M + 35) = some (.inl (0, 1600, .inl f))) (hk : ∀ q, q ≠ M → q ≠ M + 35 → q < nx → h' q = h0 q) (hl : xMl M nx' lt' lat' h') : xMod M nx' tak cmt sv sp pl cm pg clk com fog kno bit rd wr lat' 0 tb h' := by
  obtain ⟨f1, t1, t2⟩ := ht
  obtain ⟨r35, ⟨f2, r36, z2⟩, ⟨f3, r37⟩, ⟨f4, r38⟩, ⟨f5, r39⟩, ⟨f6, r40⟩⟩ := hr
  exact ⟨lt', at_, sz, kd, fr, to_, ft, pt, nu, mn, pc', od', hO, ⟨f1, (hk _ (by omega) (by omega) (by omega)).trans t1, fun j hj => by omega⟩, xMd_kept hm (fun q a1 a2 a3 => hk q (by omega) (by omega) (by omega)), ⟨h35, ⟨f2, (hk _ (by omega) (by omega) (by omega)).trans r36, z2⟩, ⟨f3, (hk _ (by omega) (by omega) (by omega)).trans r37⟩, ⟨f4, (hk _ (by omega) (by omega) (by omega)).trans r38⟩, ⟨f5, (hk _ (by omega) (by omega) (by omega)).trans r39⟩, ⟨f6, (hk _ (by omega) (by omega) (by omega)).trans r40⟩⟩, xMw_kept hw (hk _ (by omega) (by omega) (by omega)) hnn (fun q a1 a2 a3 => hk q (by omega) (by omega) a2), hl, by omega⟩
theorem M_program {T : Nat} {o : Nat ⊕ (List xRu × Nat × Nat)} {at_ sz kd fr to_ ft pt mn : Int32} {nu : Int64} (hG : xGok G) (hn : tn ≤ 400) (hb : ∀ j, j < tn → tb j < 256) (hO : h M = some (.inr (10, xMf M (nI tn) (nI tak) (nI cmt) lt at_ sz kd fr to_ ft pt nu mn pc od))) (ht : xMt M tn tb h) (hmd : xMd M cmt sv sp pl cm clk com fog kno bit rd wr h) (hr : xMr M h) (hw : xMw M nx tak pg h) (hl : xMl M nx lt lat h) (hnx : M + 41 ≤ nx) (hT : T ≤ 401) (hg : xGp T 0 0 o) (hm : ∀ nx sl dd h hd body, 32 ≤ dd → xHd hd body [] → body.length ≤ 3 * 0 + 2 * 0 → xMp M tn tb (nI 0) (nI tak) (nI cmt) lt pc od (hd ++ body) 0 0 (-1) h → xMg G nx sl M tn tb (nI 0) (nI tak) (nI cmt) lt pc od dd [] h o) (hd : 32 ≤ d) : match o with
    | .inl j => ∃ h', xRun G d 83 (0, [some (.ref M), none], [], (h, nx, sl)) (some (.int (nI (tP tn tb j))), (h', nx, sl)) ∧ xMod M nx tak cmt sv sp pl cm pg clk com fog kno bit rd wr lat 0 tb h' ∧ xmo M nx h h'
    | .inr (RS, _, _) => ∃ h' m, xRun G d 83 (0, [some (.ref M), none], [], (h, nx, sl)) (some (.int (-2)), (h', nx + 1, sl + m)) ∧ m ≤ 1600 ∧ xMod M (nx + 1) tak cmt sv sp pl cm pg clk com fog kno bit rd wr (some (xrs 1 RS)) 0 tb h' ∧ xmo M nx h h' := by
  have hr0 := hr
  obtain ⟨⟨f, h35⟩, -⟩ := hr0
  obtain ⟨k, hds, pre, a1, a2, a3⟩ := m_prog0 (G := G) (d := d) (nx := nx) (sl := sl) hG hn hb hO ht h35 (by omega)
  have c1 := hm nx sl d k hds [] hd a2 (by simp) a3
  cases o with
  | inl j =>
    obtain ⟨x, h1, h2, r1, -, r2, b1, b2⟩ := c1
    obtain ⟨⟨_, _, _, _, _, _, _, hO2⟩, b3, b4⟩ := b2
    have fm : xfm M h h2 := a1.trans b1
    exact ⟨h2, pre x h1 _ r1 r2, xMod_prog ht hmd hr hw hnx (Nat.le_refl _) hO2 b4 (fun q e1 e2 e3 => fm q e1 e2) (xMl_kept hl (Nat.le_refl _) (fun q e1 e2 e3 => fm q (by omega) (by omega))), fun q e1 e2 => fm q (by omega) (by omega)⟩
  | inr v =>
    obtain ⟨RS, i', p'⟩ := v
    have g' : i' < T ∧ (xrs 1 RS).length + 0 + 1 ≤ i' + RS.length ∧ (∀ r ∈ RS, xWr r) ∧ 0 + RS.length ≤ 6 := hg
    obtain ⟨g1, g2, g3, g4⟩ := g'
    have hRS : RS.length ≤ 6 := by omega
    obtain ⟨x, h1, h2, r1, -, r2, b1, hd', body', b2, b3, b4⟩ := c1
    rw [List.nil_append] at b2 b3
    have fm : xfm M h h2 := a1.trans b1
    obtain ⟨⟨nu2, -, hO2⟩, -, f2, h235, hf2⟩ := b4
    have hl7 : (hd' ++ body').length = 7 + body'.length := by rw [List.length_append, b2.1]
    have hlen : (hd' ++ body').length < 1600 := by omega
    generalize hm9 : (hd' ++ body').length = m at *
    have r3 := c_copyOf (G := G) (d := d - 1) (nx := nx) (sl := sl) (m := m) h235 (by omega) hlen (by omega) (by omega)
    obtain ⟨k3, ek3⟩ : ∃ y : xH, y = xup h2 nx (.inl (0, m, .inl (va_cpy f2 (fun _ => 0) 0 0 m))) := ⟨_, rfl⟩
    rw [← ek3] at r3
    have k3n : ∀ q, q ≠ nx → k3 q = h2 q := fun q hq => by rw [ek3]; exact xup_n hq
    have k3O := (k3n M (by omega)).trans hO2
    obtain ⟨k4, ek4⟩ : ∃ y : xH, y = xup k3 M (xMk M tn tb (nI 0) (nI tak) (nI cmt) (.ref nx) i' (-1) (nI p') nu2 (nI m) pc od) := ⟨_, rfl⟩
    have k4n : ∀ q, q ≠ M → k4 q = k3 q := fun q hq => by rw [ek4]; exact xup_n hq
    have fm4 : ∀ q, q ≠ M → q ≠ M + 35 → q < nx → k4 q = h q := fun q e1 e2 e3 => (k4n q e1).trans ((k3n q (by omega)).trans (fm q e1 e2))
    have cd : xMcd nx (xrs 1 RS) k4 := by
      refine ⟨RS, m, va_cpy f2 (fun _ => 0) 0 0 m, rfl, hRS, g3, (k4n _ (by omega)).trans (xup_at ek3), by omega, by omega, ?_, fun k hk => ?_⟩
      · rw [cpy_lt (by omega), hf2 0 (by omega), gd_l (by rw [b2.1]; omega)]
        exact b2.2.1
      · obtain ⟨st, s1, s2, s3⟩ := b2.2.2.2 k hk
        refine ⟨7 + st, ?_, by omega, fun t ht => ?_⟩
        · rw [cpy_lt (by omega), hf2 (k + 1) (by omega), gd_l (by rw [b2.1]; omega)]
          exact s1
        · rw [cpy_lt (by omega), hf2 _ (by omega), gd_r (by rw [b2.1]; omega), b2.1, show 7 + st + t - 7 = st + t by omega]
          exact s3 t ht
    refine ⟨k4, m, pre x h1 _ r1 (r2 _ ?_), by omega, xMod_prog ht hmd hr hw hnx (Nat.le_succ _) (xup_at ek4) ⟨f2, (k4n _ (by omega)).trans ((k3n _ (by omega)).trans h235)⟩ fm4 (Or.inr ⟨xrs 1 RS, nx, rfl, rfl, hnx, Nat.lt_succ_self _, cd⟩), fun q e1 e2 => fm4 q (by omega) (by omega) e2⟩
    refine xr_go i83_103 rfl ?_
    refine xr_go i83_104 rfl ?_
    refine xr_get i83_105 xf83_55 (by assumption) rfl rfl ?_
    refine xr_go i83_108 rfl ?_
    refine xr_get i83_109 xf83_159 (by assumption) rfl rfl ?_
    refine xr_S i83_112 xc83_168 ⟨by first | exact Or.inl rfl | exact Or.inr rfl, rfl⟩ xa_121 (Nat.le_of_ble_eq_true rfl) (Nat.le_of_ble_eq_true rfl) (by omega) ⟨Nat.le_of_ble_eq_true rfl, Nat.le_of_ble_eq_true rfl⟩ (r3) ?_
    refine xr_stk (st' := [.ref nx, .ref M]) rfl ?_
    refine xr_put i83_115 xf83_174 (by assumption) ⟨rfl, Nat.le_of_ble_eq_true rfl, rfl, rfl, Or.inl rfl⟩ (fun z1 ez1 => ?_)
    obtain rfl : z1 = k4 := ez1.trans ek4.symm
    refine xr_go i83_118 rfl ?_
    exact xr_iret i83_120 xt_83 rfl
/-- A PROGRAM, OF BOTH -/
theorem J_program (hG : xGok G) (hD : xDS B nx tak cmt sv sp pl cm pg clk com fog kno bit rd wr lat tn tb h) (hM : xMod (B + 78) nx tak cmt sv sp pl cm pg clk com fog kno bit rd wr lat tn tb h) (hd : 32 ≤ d) : ∃ ans h1 nx1 sl1 h2 nx2 sl2 lat', xRun G d 3 (0, [some (.ref B), none], [], (h, nx, sl)) (some (.int ans), (h1, nx1, sl1)) ∧ (∃ fs, h1 (B + 78) = some (.inr (10, fs))) ∧ xRun G d 83 (0, [some (.ref (B + 78)), none], [], (h1, nx1, sl1)) (some (.int ans), (h2, nx2, sl2)) ∧ xDS B nx2 tak cmt sv sp pl cm pg clk com fog kno bit rd wr lat' 0 tb h2 ∧ xMod (B + 78) nx2 tak cmt sv sp pl cm pg clk com fog kno bit rd wr lat' 0 tb h2 ∧ nx2 ≤ nx + 4 ∧ sl2 ≤ sl + 3000 ∧ ∀ q, q < B → h q = none → h1 q = none ∧ h2 q = none := by
  obtain ⟨T, hT1, hT2, hT3, hT4⟩ := tT_ex tn tb
  have hTp : xTp B tn tb h := by
    obtain ⟨lv, wad, pad, psa, poa, -, -, h3, -⟩ := hD
    exact h3
  have hnb : tn ≤ 400 ∧ ∀ j, j < tn → tb j < 256 := by
    obtain ⟨f, f1, f2, f3, f4⟩ := hTp
    exact ⟨f3, fun j hj => (f4 j hj).2⟩
  obtain ⟨hn, hb⟩ := hnb
  have hM0 := hM
  obtain ⟨lt, at_, sz, kd, fr, to_, ft, pt, nu, mn, pc, od, hO, ht, hmd, hr, hw, hl, hnx⟩ := hM
  obtain ⟨o, g, c1, m1⟩ := j_prog (G := G) (nx := nx) (sl := sl) (B := B) (M := B + 78) (tn := nI 0) (tk := nI tak) (rk := nI cmt) (lt := lt) (pc := pc) (od := od) (n := tn) (tb := tb) (T := T) ⟨hG, hn, hb, by omega, hT4⟩ T 0 0 [] (by omega) hT1 (by omega) (by simp)
  have rC := D_program (G := G) (d := d) (nx := nx) (sl := sl) hG hD hT1 hT2 hT3 hT4 g c1 hd
  /- what the class did leaves the model as it was -/
  have after : ∀ h1 nx1, nx ≤ nx1 → xoth B nx h h1 → h1 (B + 78) = some (.inr (10, xMf (B + 78) (nI tn) (nI tak) (nI cmt) lt at_ sz kd fr to_ ft pt nu mn pc od)) ∧ xMt (B + 78) tn tb h1 ∧ xMd (B + 78) cmt sv sp pl cm clk com fog kno bit rd wr h1 ∧ xMr (B + 78) h1 ∧ xMw (B + 78) nx1 tak pg h1 ∧ xMl (B + 78) nx1 lt lat h1 := by
    intro h1 nx1 hn1 hoth
    obtain ⟨lt', at', sz', kd', fr', to', ft', pt', nu', mn', pc', od', hO', ht', hmd', hr', hw', hl', hnx'⟩ := xMod_kept hM0 hn1 (fun q a1 a2 a3 => hoth q (Or.inr a1) a2 a3)
    have hO1 : h1 (B + 78) = some (.inr (10, xMf (B + 78) (nI tn) (nI tak) (nI cmt) lt at_ sz kd fr to_ ft pt nu mn pc od)) := (hoth _ (by omega) (by omega) (fun fs z => by rw [hO] at z; cases z)).trans hO
    have e : xMf (B + 78) (nI tn) (nI tak) (nI cmt) lt' at' sz' kd' fr' to' ft' pt' nu' mn' pc' od' = xMf (B + 78) (nI tn) (nI tak) (nI cmt) lt at_ sz kd fr to_ ft pt nu mn pc od := by
      have := hO'.symm.trans hO1
      exact (Prod.mk.inj (Sum.inr.inj (Option.some.inj this))).2
    have elt : lt' = lt := by
      have := congrArg (fun l => l[16]?) e
      exact Option.some.inj this
    rw [elt] at hl'
    exact ⟨hO1, ht', hmd', hr', hw', hl'⟩
  cases o with
  | inl j =>
    obtain ⟨h1, r1, a1, a2⟩ := rC
    obtain ⟨b1, b2, b3, b4, b5, b6⟩ := after h1 nx (Nat.le_refl _) a2
    obtain ⟨h2, r2, c2, c3⟩ := M_program (G := G) (d := d) (nx := nx) (sl := sl) (o := .inl j) hG hn hb b1 b2 b3 b4 b5 b6 hnx (by omega) g m1 hd
    refine ⟨_, h1, nx, sl, h2, nx, sl, lat, r1, ⟨_, b1⟩, r2, xDS_kept a1 (Nat.le_refl _) (fun q e1 e2 e3 => c3 q (by omega) e3), c2, by omega, by omega, fun q e1 e2 => ?_⟩
    have e3 : h1 q = none := (a2 q (by omega) (by omega) (fun fs z => by rw [e2] at z; cases z)).trans e2
    exact ⟨e3, (c3 q (by omega) (by omega)).trans e3⟩
  | inr v =>
    obtain ⟨RS, i', p'⟩ := v
    obtain ⟨h1, r1, a1, a2, a3⟩ := rC
    obtain ⟨b1, b2, b3, b4, b5, b6⟩ := after h1 (nx + 3) (by omega) a2
    obtain ⟨h2, m, r2, c1, c2, c3⟩ := M_program (G := G) (d := d) (nx := nx + 3) (sl := sl + 2 + (xrs 1 RS).length + (xrs 1 RS).length) (o := .inr (RS, i', p')) hG hn hb b1 b2 b3 b4 b5 b6 (by omega) (by omega) g m1 hd
    refine ⟨_, h1, _, _, h2, _, _, some (xrs 1 RS), r1, ⟨_, b1⟩, r2, xDS_kept a1 (by omega) (fun q e1 e2 e3 => c3 q (by omega) e3), c2, by omega, by omega, fun q e1 e2 => ?_⟩
    have e3 : h1 q = none := (a2 q (by omega) (by omega) (fun fs z => by rw [e2] at z; cases z)).trans e2
    exact ⟨e3, (c3 q (by omega) (by omega)).trans e3⟩
end XMPROG

