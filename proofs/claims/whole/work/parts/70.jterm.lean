/-! ===== sums: class and model read the same; terms ===== -/
section XJTERM
variable {G : xG} {nx sl B M n : Nat} {tb : Nat → Nat} {T : Nat} {tn tk rk : Int32} {lt : Value} {pc od : Int32} {dp : Nat}
set_option maxHeartbeats 4000000 in
theorem j_tl (ht : xTok G n tb T) (hdp : dp ≤ 6) (i0 : Nat) (hpart : ∀ i p, i0 ≤ i → i < T → p ≤ 80 → jPart G nx sl B M n tb T tn tk rk lt pc od dp i p) : ∀ m i p, T ≤ i + m → i0 ≤ i → i < T → p ≤ 80 → jTl G nx sl B M n tb T tn tk rk lt pc od dp i p := by
  obtain ⟨hG, hn, hb, hT, hT4⟩ := ht
  intro m
  induction m with
  | zero => intro i p h1 h2 h3 h4; omega
  | succ m ih =>
    intro i p hm hi0 hi hp
    by_cases h16 : tK n tb (tP n tb i) = 16
    · have hi1 := tok_next hT4 hi (by omega)
      obtain ⟨o1, g1, c1, m1⟩ := hpart (i + 1) p (by omega) hi1 hp
      have preC : ∀ dd (h h1 h2 : xH) k (res : Option Value × xW), 3 ≤ dd → k < 400 → (∃ fs, h (B + 3) = some (.inr (2, fs))) → (∃ fs, h1 (B + 3) = some (.inr (2, fs))) → xRun G (dd - 1) 24 (0, [some (.ref (B + 3)), some (.int (nI 16))], [], (h, nx, sl)) (some (.int 1), (h1, nx, sl)) → xRun G (dd - 1) 28 (0, [some (.ref (B + 3)), some (.int (nI dp)), none], [], (h1, nx, sl)) (none, (h2, nx, sl)) → xRun G dd 27 (36, [some (.ref (B + 3)), some (.int (nI dp)), some (.int 1), some (.int (nI k))], [], (h2, nx, sl)) res → xRun G dd 27 (9, [some (.ref (B + 3)), some (.int (nI dp)), some (.int 1), some (.int (nI k))], [], (h, nx, sl)) res := by
        intro dd h h1 h2 k res hdd hk h3 h13 r1 r2 r
        obtain ⟨fs, h3⟩ := h3
        obtain ⟨fs1, h13⟩ := h13
        refine xr_go i27_9 rfl ?_
        refine xr_if_eqF i27_10 (t := 49) (by decide) (by first | exact (show ¬ (1 : Int32) = 0 by decide) | decide) ?_
        refine xr_go i27_13 rfl ?_
        refine xr_go i27_14 rfl ?_
        refine xr_icmp_geF i27_17 (t := 49) (by decide) (show ¬ nI 400 ≤ nI k from nI_ge hk (by omega)) ?_
        refine xr_go i27_20 rfl ?_
        refine xr_go i27_21 rfl ?_
        refine xr_V i27_23 xc27_48 ⟨rfl, rfl⟩ xa_24 rfl (by assumption) rfl (Nat.le_of_ble_eq_true rfl) (by omega) ⟨Nat.le_of_ble_eq_true rfl, Nat.le_of_ble_eq_true rfl⟩ (r1) ?_
        refine xr_go i27_26 rfl ?_
        refine xr_go i27_27 rfl ?_
        refine xr_if_eqF i27_28 (t := 43) (by decide) (by first | exact (show ¬ (1 : Int32) = 0 by decide) | decide) ?_
        refine xr_go i27_31 rfl ?_
        refine xr_go i27_32 rfl ?_
        refine xr_V i27_33 xc27_95 ⟨rfl, rfl⟩ xa_28 rfl (by assumption) rfl (Nat.le_of_ble_eq_true rfl) (by omega) ⟨Nat.le_of_ble_eq_true rfl, Nat.le_of_ble_eq_true rfl⟩ (r2) ?_
        exact r
      have preM : ∀ nx sl dd (h h1 : xH) cs, 3 ≤ dd → xMp M n tb tn tk rk lt pc od cs i p (-1) h → (∃ fs, h1 M = some (.inr (10, fs))) → xRun G (dd - 1) 84 (0, [some (.ref M), none, none], [], (h, nx, sl)) (none, (h1, nx, sl)) → ∀ (x : Int32) (h2 : xH) (res : Option Value × xW), xRun G (dd - 1) 95 (0, [some (.ref M), some (.int (nI dp))], [], (h1, nx, sl)) (some (.int x), (h2, nx, sl)) → xRun G dd 94 (28, [some (.ref M), some (.int (nI dp))], [.int x], (h2, nx, sl)) res → xRun G dd 94 (10, [some (.ref M), some (.int (nI dp))], [], (h, nx, sl)) res := by
        intro nx sl dd h h1 cs hdd hM h1M r1 x h2 res r2 r
        obtain ⟨fs, h1M⟩ := h1M
        have q := m_isP (G := G) (d := dd - 1) (nx := nx) (sl := sl) (s := 9) hG (by omega) hM hn hb (by omega)
        rw [decide_eq_true (show tK n tb (tP n tb i) = tkind.getD 9 0 from h16)] at q
        obtain ⟨⟨nu, -, hO⟩, -⟩ := hM
        refine xr_go i94_10 rfl ?_
        refine xr_ldc i94_11 xd94_220 rfl rfl ?_
        refine xr_V i94_13 xc94_102 ⟨rfl, rfl⟩ xa_86 rfl (by assumption) rfl (Nat.le_of_ble_eq_true rfl) (by omega) ⟨Nat.le_of_ble_eq_true rfl, Nat.le_of_ble_eq_true rfl⟩ (q) ?_
        refine xr_if_eqF i94_16 (t := 42) (by decide) (by first | exact (show ¬ (1 : Int32) = 0 by decide) | decide) ?_
        refine xr_go i94_19 rfl ?_
        refine xr_V i94_20 xc94_156 ⟨rfl, rfl⟩ xa_84 rfl (by assumption) rfl (Nat.le_of_ble_eq_true rfl) (by omega) ⟨Nat.le_of_ble_eq_true rfl, Nat.le_of_ble_eq_true rfl⟩ (r1) ?_
        refine xr_go i94_23 rfl ?_
        refine xr_go i94_24 rfl ?_
        refine xr_V i94_25 xc94_217 ⟨rfl, rfl⟩ xa_95 rfl (by assumption) rfl (Nat.le_of_ble_eq_true rfl) (by omega) ⟨Nat.le_of_ble_eq_true rfl, Nat.le_of_ble_eq_true rfl⟩ (r2) ?_
        exact r
      cases o1 with
      | inl j =>
        have g' : i + 1 ≤ j ∧ j < T := g1
        refine ⟨.inl j, ⟨by omega, g'.2⟩, fun dd h em k L hdd he hk hC => ?_, fun nx sl dd h cs L hdd hcl hM => ?_⟩
        · obtain ⟨h1, r1, a1, a2⟩ := c_acc_yes (G := G) (d := dd - 1) (nx := nx) (sl := sl) hC hi1 hT h16
          obtain ⟨h2, r2, b1, em', p', b2, b3⟩ := c1 (dd - 1) h1 em 0 none (by omega) (by omega) (by omega) a2
          have r3 := c_emit_no (G := G) (d := dd - 1) (nx := nx) (sl := sl) (x := 16) (v := 0) b3 (tP_nn hn)
          have r4 := cf_tloop (G := G) (d := dd) (nx := nx) (sl := sl) (dp := dp) (k := k + 1) b3 (tP_nn hn) g'.2 hT (by omega) (by omega)
          have b33 := b3.2.1
          refine ⟨h2, preC dd h h1 h2 k _ (by omega) (by omega) ⟨_, hC.2.1⟩ ⟨_, a2.2.1⟩ r1 r2 ?_, a1.trans b1, em', p', b2, b3⟩
          refine xr_go i27_36 rfl ?_
          refine xr_go i27_37 rfl ?_
          refine xr_go i27_39 rfl ?_
          refine xr_V i27_40 xc27_60 ⟨rfl, rfl⟩ xa_33 rfl (by assumption) rfl (Nat.le_of_ble_eq_true rfl) (by omega) ⟨Nat.le_of_ble_eq_true rfl, Nat.le_of_ble_eq_true rfl⟩ (r3) ?_
          refine xr_inc1 i27_43 rfl rfl ?_
          refine xr_goto i27_46 (t := 9) (by decide) ?_
          exact r4
        · obtain ⟨h1, r1, a1, a2⟩ := m_stepP (G := G) (d := dd - 1) (nx := nx) (sl := sl) hG hM hn hb (by omega)
          obtain ⟨h2, r2, b1, b2⟩ := m1 nx sl (dd - 1) h1 cs none (by omega) (by omega) a2
          obtain ⟨⟨nu1, -, h1M⟩, -⟩ := a2
          refine ⟨h2, preM nx sl dd h h1 cs (by omega) hM ⟨_, h1M⟩ r1 _ h2 _ r2 ?_, a1.trans b1, b2⟩
          refine xr_if_neF i94_28 (t := 33) (by decide) rfl ?_
          refine xr_go i94_31 rfl ?_
          exact xr_iret i94_32 xt_94 rfl
      | inr v =>
        obtain ⟨E1, i1, p1⟩ := v
        have g' : i + 1 + 1 ≤ i1 ∧ i1 < T ∧ E1.length + (i + 1) ≤ i1 ∧ p1 ≤ 80 ∧ xQ1 E1 (2 * (6 - dp) + 1) := g1
        obtain ⟨q1, q2, q3, q4, q5⟩ := g'
        obtain ⟨o2, g2, c2, m2⟩ := ih i1 p1 (by omega) (by omega) q2 q4
        have hml := mop_len E1
        have runC : ∀ dd h em k, 3 * (6 - dp) + 7 ≤ dd → em.length ≤ i + 5 → k + 1 ≤ i → xCs B n tb T em i p (-2) h → ∃ h', xRun G dd 27 (9, [some (.ref (B + 3)), some (.int (nI dp)), some (.int 1), some (.int (nI k))], [], (h, nx, sl)) (none, (h', nx, sl)) ∧ xfr B h h' ∧ xCq B n tb T (em ++ E1 ++ [(16, 0)]) o2 h' := by
          intro dd h em k hdd he hk hC
          obtain ⟨h1, r1, a1, a2⟩ := c_acc_yes (G := G) (d := dd - 1) (nx := nx) (sl := sl) hC hi1 hT h16
          obtain ⟨h2, r2, b1, b2⟩ := c1 (dd - 1) h1 em 0 none (by omega) (by omega) (by omega) a2
          have b2' : xCs B n tb T (em ++ E1) i1 p1 (-2) h2 := b2
          obtain ⟨h3, r3, d1, d2⟩ := c_emit_ok (G := G) (d := dd - 1) (nx := nx) (sl := sl) (K := 16) (x := 16) (v := 0) rfl b2' (by rw [List.length_append]; omega)
          obtain ⟨h4, r4, e1, e2⟩ := c2 dd h3 (em ++ E1 ++ [(16, 0)]) (k + 1) none hdd (by simp only [List.length_append, List.length_singleton]; omega) (by omega) d2
          have b33 := b2'.2.1
          refine ⟨h4, preC dd h h1 h2 k _ (by omega) (by omega) ⟨_, hC.2.1⟩ ⟨_, a2.2.1⟩ r1 r2 ?_, ((a1.trans b1).trans d1).trans e1, e2⟩
          refine xr_go i27_36 rfl ?_
          refine xr_go i27_37 rfl ?_
          refine xr_go i27_39 rfl ?_
          refine xr_V i27_40 xc27_60 ⟨rfl, rfl⟩ xa_33 rfl (by assumption) rfl (Nat.le_of_ble_eq_true rfl) (by omega) ⟨Nat.le_of_ble_eq_true rfl, Nat.le_of_ble_eq_true rfl⟩ (r3) ?_
          refine xr_inc1 i27_43 rfl rfl ?_
          refine xr_goto i27_46 (t := 9) (by decide) ?_
          exact r4
        have runM : ∀ nx sl dd h cs, 3 * (6 - dp) + 7 ≤ dd → cs.length ≤ 3 * i + 100 → xMp M n tb tn tk rk lt pc od cs i p (-1) h → ∃ h', xRun G dd 94 (10, [some (.ref M), some (.int (nI dp))], [], (h, nx, sl)) (some (.int (xrv o2)), (h', nx, sl)) ∧ xfm M h h' ∧ xMz M n tb tn tk rk lt pc od (cs ++ E1.flatMap mop ++ [6]) o2 h' := by
          intro nx sl dd h cs hdd hcl hM
          obtain ⟨h1, r1, a1, a2⟩ := m_stepP (G := G) (d := dd - 1) (nx := nx) (sl := sl) hG hM hn hb (by omega)
          obtain ⟨h2, r2, b1, b2⟩ := m1 nx sl (dd - 1) h1 cs none (by omega) (by omega) a2
          have b2' : xMp M n tb tn tk rk lt pc od (cs ++ E1.flatMap mop) i1 p1 (-1) h2 := b2
          obtain ⟨h3, r3, d1, d2⟩ := m_putP (G := G) (d := dd - 1) (nx := nx) (sl := sl) 6 b2' (by rw [List.length_append]; omega)
          obtain ⟨h4, r4, e1, e2⟩ := m2 nx sl dd h3 (cs ++ E1.flatMap mop ++ [6]) none hdd (by simp only [List.length_append, List.length_singleton]; omega) d2
          obtain ⟨⟨nu1, -, h1M⟩, -⟩ := a2
          obtain ⟨⟨nu2, -, h2M⟩, -⟩ := b2'
          refine ⟨h4, preM nx sl dd h h1 cs (by omega) hM ⟨_, h1M⟩ r1 _ h2 _ r2 ?_, ((a1.trans b1).trans d1).trans e1, e2⟩
          refine xr_if_neT i94_28 (t := 33) (by decide) (by first | exact (show ¬ (1 : Int32) = 0 by decide) | decide) ?_
          refine xr_go i94_33 rfl ?_
          refine xr_go i94_34 rfl ?_
          refine xr_V i94_36 xc94_177 ⟨rfl, rfl⟩ xa_90 rfl (by assumption) rfl (Nat.le_of_ble_eq_true rfl) (by omega) ⟨Nat.le_of_ble_eq_true rfl, Nat.le_of_ble_eq_true rfl⟩ (r3) ?_
          refine xr_goto i94_39 (t := 10) (by decide) ?_
          exact r4
        cases o2 with
        | inl j =>
          have g'' : i1 ≤ j ∧ j < T := g2
          exact ⟨.inl j, ⟨by omega, g''.2⟩, fun dd h em k L hdd he hk hC => runC dd h em k hdd he hk hC, fun nx sl dd h cs L hdd hcl hM => runM nx sl dd h cs hdd hcl hM⟩
        | inr v =>
          obtain ⟨EL, i2, p2⟩ := v
          have g'' : i1 + 0 ≤ i2 ∧ i2 < T ∧ EL.length + i1 ≤ i2 ∧ p2 ≤ 80 ∧ ∀ E0, xQ1 E0 (2 * (6 - dp) + 2) → xQ1 (E0 ++ EL) (2 * (6 - dp) + 2) := g2
          obtain ⟨s1, s2, s3, s4, s5⟩ := g''
          refine ⟨.inr (E1 ++ (16, 0) :: EL, i2, p2), ⟨by omega, s2, by simp only [List.length_append, List.length_cons]; omega, s4, fun E0 h0 => ?_⟩, fun dd h em k L hdd he hk hC => ?_, fun nx sl dd h cs L hdd hcl hM => ?_⟩
          · have := s5 (E0 ++ E1 ++ [(16, 0)]) (xQ1_le (xQ1_bin h0 q5 (Or.inr (Or.inr rfl))) (by omega))
            rw [List.append_assoc, List.append_assoc] at this
            exact this
          · obtain ⟨h', r, a1, a2⟩ := runC dd h em k hdd he hk hC
            refine ⟨h', r, a1, ?_⟩
            have a2' : xCs B n tb T (em ++ E1 ++ [(16, 0)] ++ EL) i2 p2 (-2) h' := a2
            rw [List.append_assoc, List.append_assoc] at a2'
            exact a2'
          · obtain ⟨h', r, a1, a2⟩ := runM nx sl dd h cs hdd hcl hM
            refine ⟨h', r, a1, ?_⟩
            have a2' : xMp M n tb tn tk rk lt pc od (cs ++ E1.flatMap mop ++ [6] ++ EL.flatMap mop) i2 p2 (-1) h' := a2
            rw [List.append_assoc, List.append_assoc] at a2'
            show xMp M n tb tn tk rk lt pc od (cs ++ (E1 ++ (16, 0) :: EL).flatMap mop) i2 p2 (-1) h'
            rw [List.flatMap_append, List.flatMap_cons]
            exact a2'
    · refine ⟨.inr ([], i, p), ⟨by omega, hi, by simp, hp, fun E0 h0 => by rw [List.append_nil]; exact h0⟩, fun dd h em k L hdd he hk hC => ⟨h, ?_, xfr.refl, ?_⟩, fun nx sl dd h cs L hdd hcl hM => ⟨h, ?_, xfm.refl, ?_⟩⟩
      · have ra := c_acc_no (G := G) (d := dd - 1) (nx := nx) (sl := sl) (K := 16) hC hi hT (by omega) (Or.inr h16)
        obtain ⟨-, h3, -⟩ := hC
        refine xr_go i27_9 rfl ?_
        refine xr_if_eqF i27_10 (t := 49) (by decide) (by first | exact (show ¬ (1 : Int32) = 0 by decide) | decide) ?_
        refine xr_go i27_13 rfl ?_
        refine xr_go i27_14 rfl ?_
        refine xr_icmp_geF i27_17 (t := 49) (by decide) (show ¬ nI 400 ≤ nI k from nI_ge (by omega) (by omega)) ?_
        refine xr_go i27_20 rfl ?_
        refine xr_go i27_21 rfl ?_
        refine xr_V i27_23 xc27_48 ⟨rfl, rfl⟩ xa_24 rfl (by assumption) rfl (Nat.le_of_ble_eq_true rfl) (by omega) ⟨Nat.le_of_ble_eq_true rfl, Nat.le_of_ble_eq_true rfl⟩ (ra) ?_
        refine xr_go i27_26 rfl ?_
        refine xr_go i27_27 rfl ?_
        refine xr_if_eqT i27_28 (t := 43) (by decide) rfl ?_
        refine xr_inc1 i27_43 rfl rfl ?_
        refine xr_goto i27_46 (t := 9) (by decide) ?_
        refine xr_go i27_9 rfl ?_
        refine xr_if_eqT i27_10 (t := 49) (by decide) rfl ?_
        exact xr_end i27_49 rfl
      · show xCs B n tb T (em ++ []) i p (-2) h
        rw [List.append_nil]
        exact hC
      · have q := m_isP (G := G) (d := dd - 1) (nx := nx) (sl := sl) (s := 9) hG (by omega) hM hn hb (by omega)
        rw [decide_eq_false (show ¬ tK n tb (tP n tb i) = tkind.getD 9 0 from h16)] at q
        obtain ⟨⟨nu, -, hO⟩, -⟩ := hM
        refine xr_go i94_10 rfl ?_
        refine xr_ldc i94_11 xd94_220 rfl rfl ?_
        refine xr_V i94_13 xc94_102 ⟨rfl, rfl⟩ xa_86 rfl (by assumption) rfl (Nat.le_of_ble_eq_true rfl) (by omega) ⟨Nat.le_of_ble_eq_true rfl, Nat.le_of_ble_eq_true rfl⟩ (q) ?_
        refine xr_if_eqT i94_16 (t := 42) (by decide) rfl ?_
        refine xr_go i94_42 rfl ?_
        exact xr_iret i94_43 xt_94 rfl
      · show xMp M n tb tn tk rk lt pc od (cs ++ ([] : List (Nat × Int32)).flatMap mop) i p (-1) h
        rw [List.flatMap_nil, List.append_nil]
        exact hM
set_option maxHeartbeats 4000000 in
theorem j_term (ht : xTok G n tb T) (hdp : dp ≤ 6) (i0 : Nat) (hpart : ∀ i p, i0 ≤ i → i < T → p ≤ 80 → jPart G nx sl B M n tb T tn tk rk lt pc od dp i p) (i p : Nat) (hi0 : i0 ≤ i) (hi : i < T) (hp : p ≤ 80) : jTerm G nx sl B M n tb T tn tk rk lt pc od dp i p := by
  have tl := j_tl ht hdp i0 hpart
  obtain ⟨hG, hn, hb, hT, hT4⟩ := ht
  obtain ⟨o1, g1, c1, m1⟩ := hpart i p hi0 hi hp
  cases o1 with
  | inl j =>
    have g' : i ≤ j ∧ j < T := g1
    refine ⟨.inl j, g', fun dd h em k L hdd he hk hC => ?_, fun nx sl dd h cs L hdd hcl hM => ?_⟩
    · obtain ⟨h2, r2, b1, em', p', b2, b3⟩ := c1 (dd - 1) h em 0 none (by omega) (by omega) (by omega) hC
      have r4 := cf_tloop (G := G) (d := dd) (nx := nx) (sl := sl) (dp := dp) (k := 0) b3 (tP_nn hn) g'.2 hT (by omega) (by omega)
      obtain ⟨-, h3, -⟩ := hC
      refine ⟨h2, ?_, b1, em', p', b2, b3⟩
      refine xr_go i27_0 rfl ?_
      refine xr_go i27_1 rfl ?_
      refine xr_V i27_2 xc27_95 ⟨rfl, rfl⟩ xa_28 rfl (by assumption) rfl (Nat.le_of_ble_eq_true rfl) (by omega) ⟨Nat.le_of_ble_eq_true rfl, Nat.le_of_ble_eq_true rfl⟩ (r2) ?_
      refine xr_go i27_5 rfl ?_
      refine xr_go i27_6 rfl ?_
      refine xr_go i27_7 rfl ?_
      refine xr_go i27_8 rfl ?_
      exact r4
    · obtain ⟨h2, r2, b1, b2⟩ := m1 nx sl (dd - 1) h cs none (by omega) (by omega) hM
      obtain ⟨⟨nu, -, hO⟩, -⟩ := hM
      refine ⟨h2, ?_, b1, b2⟩
      refine xr_go i94_0 rfl ?_
      refine xr_go i94_1 rfl ?_
      refine xr_V i94_2 xc94_217 ⟨rfl, rfl⟩ xa_95 rfl (by assumption) rfl (Nat.le_of_ble_eq_true rfl) (by omega) ⟨Nat.le_of_ble_eq_true rfl, Nat.le_of_ble_eq_true rfl⟩ (r2) ?_
      refine xr_if_neF i94_5 (t := 10) (by decide) rfl ?_
      refine xr_go i94_8 rfl ?_
      exact xr_iret i94_9 xt_94 rfl
  | inr v =>
    obtain ⟨E1, i1, p1⟩ := v
    have g' : i + 1 ≤ i1 ∧ i1 < T ∧ E1.length + i ≤ i1 ∧ p1 ≤ 80 ∧ xQ1 E1 (2 * (6 - dp) + 1) := g1
    obtain ⟨q1, q2, q3, q4, q5⟩ := g'
    obtain ⟨o2, g2, c2, m2⟩ := tl T i1 p1 (by omega) (by omega) q2 q4
    have hml := mop_len E1
    have runC : ∀ dd h em, 3 * (6 - dp) + 7 ≤ dd → em.length ≤ i + 5 → xCs B n tb T em i p (-2) h → ∃ h', xRun G dd 27 (0, [some (.ref (B + 3)), some (.int (nI dp)), none, none], [], (h, nx, sl)) (none, (h', nx, sl)) ∧ xfr B h h' ∧ xCq B n tb T (em ++ E1) o2 h' := by
      intro dd h em hdd he hC
      obtain ⟨h2, r2, b1, b2⟩ := c1 (dd - 1) h em 0 none (by omega) (by omega) (by omega) hC
      have b2' : xCs B n tb T (em ++ E1) i1 p1 (-2) h2 := b2
      obtain ⟨h4, r4, e1, e2⟩ := c2 dd h2 (em ++ E1) 0 none hdd (by rw [List.length_append]; omega) (by omega) b2'
      obtain ⟨-, h3, -⟩ := hC
      refine ⟨h4, ?_, b1.trans e1, e2⟩
      refine xr_go i27_0 rfl ?_
      refine xr_go i27_1 rfl ?_
      refine xr_V i27_2 xc27_95 ⟨rfl, rfl⟩ xa_28 rfl (by assumption) rfl (Nat.le_of_ble_eq_true rfl) (by omega) ⟨Nat.le_of_ble_eq_true rfl, Nat.le_of_ble_eq_true rfl⟩ (r2) ?_
      refine xr_go i27_5 rfl ?_
      refine xr_go i27_6 rfl ?_
      refine xr_go i27_7 rfl ?_
      refine xr_go i27_8 rfl ?_
      exact r4
    have runM : ∀ nx sl dd h cs, 3 * (6 - dp) + 7 ≤ dd → cs.length ≤ 3 * i + 100 → xMp M n tb tn tk rk lt pc od cs i p (-1) h → ∃ h', xRun G dd 94 (0, [some (.ref M), some (.int (nI dp))], [], (h, nx, sl)) (some (.int (xrv o2)), (h', nx, sl)) ∧ xfm M h h' ∧ xMz M n tb tn tk rk lt pc od (cs ++ E1.flatMap mop) o2 h' := by
      intro nx sl dd h cs hdd hcl hM
      obtain ⟨h2, r2, b1, b2⟩ := m1 nx sl (dd - 1) h cs none (by omega) (by omega) hM
      have b2' : xMp M n tb tn tk rk lt pc od (cs ++ E1.flatMap mop) i1 p1 (-1) h2 := b2
      obtain ⟨h4, r4, e1, e2⟩ := m2 nx sl dd h2 (cs ++ E1.flatMap mop) none hdd (by rw [List.length_append]; omega) b2'
      obtain ⟨⟨nu, -, hO⟩, -⟩ := hM
      refine ⟨h4, ?_, b1.trans e1, e2⟩
      refine xr_go i94_0 rfl ?_
      refine xr_go i94_1 rfl ?_
      refine xr_V i94_2 xc94_217 ⟨rfl, rfl⟩ xa_95 rfl (by assumption) rfl (Nat.le_of_ble_eq_true rfl) (by omega) ⟨Nat.le_of_ble_eq_true rfl, Nat.le_of_ble_eq_true rfl⟩ (r2) ?_
      refine xr_if_neT i94_5 (t := 10) (by decide) (by first | exact (show ¬ (1 : Int32) = 0 by decide) | decide) ?_
      exact r4
    cases o2 with
    | inl j =>
      have g'' : i1 ≤ j ∧ j < T := g2
      exact ⟨.inl j, ⟨by omega, g''.2⟩, fun dd h em k L hdd he hk hC => runC dd h em hdd he hC, fun nx sl dd h cs L hdd hcl hM => runM nx sl dd h cs hdd hcl hM⟩
    | inr v =>
      obtain ⟨EL, i2, p2⟩ := v
      have g'' : i1 + 0 ≤ i2 ∧ i2 < T ∧ EL.length + i1 ≤ i2 ∧ p2 ≤ 80 ∧ ∀ E0, xQ1 E0 (2 * (6 - dp) + 2) → xQ1 (E0 ++ EL) (2 * (6 - dp) + 2) := g2
      obtain ⟨s1, s2, s3, s4, s5⟩ := g''
      refine ⟨.inr (E1 ++ EL, i2, p2), ⟨by omega, s2, by rw [List.length_append]; omega, s4, s5 E1 (xQ1_le q5 (by omega))⟩, fun dd h em k L hdd he hk hC => ?_, fun nx sl dd h cs L hdd hcl hM => ?_⟩
      · obtain ⟨h', r, a1, a2⟩ := runC dd h em hdd he hC
        refine ⟨h', r, a1, ?_⟩
        have a2' : xCs B n tb T (em ++ E1 ++ EL) i2 p2 (-2) h' := a2
        rw [List.append_assoc] at a2'
        exact a2'
      · obtain ⟨h', r, a1, a2⟩ := runM nx sl dd h cs hdd hcl hM
        refine ⟨h', r, a1, ?_⟩
        have a2' : xMp M n tb tn tk rk lt pc od (cs ++ E1.flatMap mop ++ EL.flatMap mop) i2 p2 (-1) h' := a2
        rw [List.append_assoc] at a2'
        show xMp M n tb tn tk rk lt pc od (cs ++ (E1 ++ EL).flatMap mop) i2 p2 (-1) h'
        rw [List.flatMap_append]
        exact a2'
end XJTERM

