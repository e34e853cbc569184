/-! ===== sums: class and model read the same ===== -/
section XJSUM
variable {G : xG} {nx sl B M n : Nat} {tb : Nat → Nat} {T : Nat} {tn tk rk : Int32} {lt : Value} {pc od : Int32} {dp : Nat}
set_option maxHeartbeats 4000000 in
theorem j_sl (ht : xTok G n tb T) (hdp : dp ≤ 6) (i0 : Nat) (hterm : ∀ i p, i0 ≤ i → i < T → p ≤ 80 → jTerm G nx sl B M n tb T tn tk rk lt pc od dp i p) : ∀ m i p, T ≤ i + m → i0 ≤ i → i < T → p ≤ 80 → jSl G nx sl B M n tb T tn tk rk lt pc od dp i p := by
  obtain ⟨hG, hn, hb, hT, hT4⟩ := ht
  intro m
  induction m with
  | zero => intro i p h1 h2 h3 h4; omega
  | succ m ih =>
    intro i p hm hi0 hi hp
    have hKl := tK_le (n := n) (p := tP n tb i) (tb := tb)
    by_cases h16 : tK n tb (tP n tb i) = 14 ∨ tK n tb (tP n tb i) = 15
    · have hi1 := tok_next hT4 hi (by omega)
      obtain ⟨o1, g1, c1, m1⟩ := hterm (i + 1) p (by omega) hi1 hp
      obtain ⟨S, hS⟩ : ∃ S, S = tK n tb (tP n tb i) := ⟨_, rfl⟩
      obtain ⟨op, hop⟩ : ∃ op : Int32, op = if tK n tb (tP n tb i) = 14 then 4 else 5 := ⟨_, rfl⟩
      have hmop : mop (S, 0) = [op] := by
        rcases h16 with z | z
        · rw [hS, hop, z]; rfl
        · rw [hS, hop, z]; rfl
      have hxk : nI S = xkv S := by unfold xkv; rw [if_neg (by omega)]
      have preC : ∀ dd (h h1 h2 : xH) em k L (res : Option Value × xW), 3 ≤ dd → k < 400 → xCs B n tb T em i p (-2) h → (∃ fs, h1 (B + 3) = some (.inr (2, fs))) → xRun G (dd - 1) 24 (0, [some (.ref (B + 3)), some (.int (nI (tK n tb (tP n tb i))))], [], (h, nx, sl)) (some (.int 1), (h1, nx, sl)) → xRun G (dd - 1) 27 (0, [some (.ref (B + 3)), some (.int (nI dp)), none, none], [], (h1, nx, sl)) (none, (h2, nx, sl)) → xRun G dd 26 (64, [some (.ref (B + 3)), some (.int (nI dp)), some (.int 1), some (.int (nI k)), some (.int (nI (tK n tb (tP n tb i))))], [], (h2, nx, sl)) res → xRun G dd 26 (9, [some (.ref (B + 3)), some (.int (nI dp)), some (.int 1), some (.int (nI k)), L], [], (h, nx, sl)) res := by
        intro dd h h1 h2 em k L res hdd hk hC h13 r1 r2 r
        have rk := c_kind (G := G) (d := dd - 1) (nx := nx) (sl := sl) hC hi hT
        obtain ⟨-, h3, -⟩ := hC
        obtain ⟨fs1, h13⟩ := h13
        have at40 : xRun G dd 26 (40, [some (.ref (B + 3)), some (.int (nI dp)), some (.int 1), some (.int (nI k)), some (.int (nI (tK n tb (tP n tb i))))], [], (h, nx, sl)) res := by
          refine xr_go i26_40 rfl ?_
          refine xr_go i26_41 rfl ?_
          refine xr_V i26_43 xc26_48 ⟨rfl, rfl⟩ xa_24 rfl (by assumption) rfl (Nat.le_of_ble_eq_true rfl) (by omega) ⟨Nat.le_of_ble_eq_true rfl, Nat.le_of_ble_eq_true rfl⟩ (r1) ?_
          refine xr_if_eqF i26_46 (t := 53) (by decide) (by first | exact (show ¬ (1 : Int32) = 0 by decide) | decide) ?_
          refine xr_go i26_49 rfl ?_
          refine xr_goto i26_50 (t := 54) (by decide) ?_
          refine xr_go i26_54 rfl ?_
          refine xr_go i26_55 rfl ?_
          refine xr_if_eqF i26_56 (t := 71) (by decide) (by first | exact (show ¬ (1 : Int32) = 0 by decide) | decide) ?_
          refine xr_go i26_59 rfl ?_
          refine xr_go i26_60 rfl ?_
          refine xr_V i26_61 xc26_92 ⟨rfl, rfl⟩ xa_27 rfl (by assumption) rfl (Nat.le_of_ble_eq_true rfl) (by omega) ⟨Nat.le_of_ble_eq_true rfl, Nat.le_of_ble_eq_true rfl⟩ (r2) ?_
          exact r
        refine xr_go i26_9 rfl ?_
        refine xr_if_eqF i26_10 (t := 77) (by decide) (by first | exact (show ¬ (1 : Int32) = 0 by decide) | decide) ?_
        refine xr_go i26_13 rfl ?_
        refine xr_go i26_14 rfl ?_
        refine xr_icmp_geF i26_17 (t := 77) (by decide) (show ¬ nI 400 ≤ nI k from nI_ge hk (by omega)) ?_
        refine xr_go i26_20 rfl ?_
        refine xr_V i26_21 xc26_64 ⟨rfl, rfl⟩ xa_31 rfl (by assumption) rfl (Nat.le_of_ble_eq_true rfl) (by omega) ⟨Nat.le_of_ble_eq_true rfl, Nat.le_of_ble_eq_true rfl⟩ (rk) ?_
        refine xr_go i26_24 rfl ?_
        refine xr_go i26_26 rfl ?_
        refine xr_go i26_28 rfl ?_
        by_cases e14 : tK n tb (tP n tb i) = 14
        · refine xr_icmp_eqT i26_30 (t := 40) (by decide) (by rw [e14]; rfl) ?_
          exact at40
        refine xr_icmp_eqF i26_30 (t := 40) (by decide) (fun z => e14 ((nI_eq (b := 14) (by omega) (by omega)).mp z)) ?_
        refine xr_go i26_33 rfl ?_
        refine xr_go i26_35 rfl ?_
        refine xr_icmp_neF i26_37 (t := 53) (by decide) (by rw [show tK n tb (tP n tb i) = 15 by omega]; rfl) ?_
        exact at40
      have preM : ∀ nx sl dd (h h1 : xH) cs L, 3 ≤ dd → xMp M n tb tn tk rk lt pc od cs i p (-1) h → (∃ fs, h1 M = some (.inr (10, fs))) → xRun G (dd - 1) 84 (0, [some (.ref M), none, none], [], (h, nx, sl)) (none, (h1, nx, sl)) → ∀ (x : Int32) (h2 : xH) (res : Option Value × xW), xRun G (dd - 1) 94 (0, [some (.ref M), some (.int (nI dp))], [], (h1, nx, sl)) (some (.int x), (h2, nx, sl)) → xRun G dd 93 (52, [some (.ref M), some (.int (nI dp)), some (.int op)], [.int x], (h2, nx, sl)) res → xRun G dd 93 (10, [some (.ref M), some (.int (nI dp)), L], [], (h, nx, sl)) res := by
        intro nx sl dd h h1 cs L hdd hM h1M r1 x h2 res r2 r
        obtain ⟨fs, h1M⟩ := h1M
        have q1 := m_isP (G := G) (d := dd - 1) (nx := nx) (sl := sl) (s := 10) hG (by omega) hM hn hb (by omega)
        have q2 := m_isP (G := G) (d := dd - 1) (nx := nx) (sl := sl) (s := 11) hG (by omega) hM hn hb (by omega)
        obtain ⟨⟨nu, -, hO⟩, -⟩ := hM
        have at43 : xRun G dd 93 (43, [some (.ref M), some (.int (nI dp)), some (.int op)], [], (h, nx, sl)) res := by
          refine xr_go i93_43 rfl ?_
          refine xr_V i93_44 xc93_156 ⟨rfl, rfl⟩ xa_84 rfl (by assumption) rfl (Nat.le_of_ble_eq_true rfl) (by omega) ⟨Nat.le_of_ble_eq_true rfl, Nat.le_of_ble_eq_true rfl⟩ (r1) ?_
          refine xr_go i93_47 rfl ?_
          refine xr_go i93_48 rfl ?_
          refine xr_V i93_49 xc93_210 ⟨rfl, rfl⟩ xa_94 rfl (by assumption) rfl (Nat.le_of_ble_eq_true rfl) (by omega) ⟨Nat.le_of_ble_eq_true rfl, Nat.le_of_ble_eq_true rfl⟩ (r2) ?_
          exact r
        have at28 : xRun G dd 93 (28, [some (.ref M), some (.int (nI dp)), L], [], (h, nx, sl)) res := by
          refine xr_go i93_28 rfl ?_
          refine xr_ldc i93_29 xd93_213 rfl rfl ?_
          refine xr_V i93_31 xc93_102 ⟨rfl, rfl⟩ xa_86 rfl (by assumption) rfl (Nat.le_of_ble_eq_true rfl) (by omega) ⟨Nat.le_of_ble_eq_true rfl, Nat.le_of_ble_eq_true rfl⟩ (q1) ?_
          refine xr_stk (st' := [.int (xbi (decide (tK n tb (tP n tb i) = 14)))]) rfl ?_
          by_cases e14 : tK n tb (tP n tb i) = 14
          · rw [if_pos e14] at hop
            subst hop
            refine xr_if_eqF i93_34 (t := 41) (by decide) (xbi_1 (decide_eq_true e14)) ?_
            refine xr_go i93_37 rfl ?_
            refine xr_goto i93_38 (t := 42) (by decide) ?_
            refine xr_go i93_42 rfl ?_
            exact at43
          · rw [if_neg e14] at hop
            subst hop
            refine xr_if_eqT i93_34 (t := 41) (by decide) (xbi_f (decide_eq_false e14)) ?_
            refine xr_go i93_41 rfl ?_
            refine xr_go i93_42 rfl ?_
            exact at43
        refine xr_go i93_10 rfl ?_
        refine xr_ldc i93_11 xd93_213 rfl rfl ?_
        refine xr_V i93_13 xc93_102 ⟨rfl, rfl⟩ xa_86 rfl (by assumption) rfl (Nat.le_of_ble_eq_true rfl) (by omega) ⟨Nat.le_of_ble_eq_true rfl, Nat.le_of_ble_eq_true rfl⟩ (q1) ?_
        refine xr_stk (st' := [.int (xbi (decide (tK n tb (tP n tb i) = 14)))]) rfl ?_
        by_cases e14 : tK n tb (tP n tb i) = 14
        · refine xr_if_neT i93_16 (t := 28) (by decide) (xbi_1 (decide_eq_true e14)) ?_
          exact at28
        refine xr_if_neF i93_16 (t := 28) (by decide) (xbi_f (decide_eq_false e14)) ?_
        refine xr_go i93_19 rfl ?_
        refine xr_ldc i93_20 xd93_215 rfl rfl ?_
        refine xr_V i93_22 xc93_102 ⟨rfl, rfl⟩ xa_86 rfl (by assumption) rfl (Nat.le_of_ble_eq_true rfl) (by omega) ⟨Nat.le_of_ble_eq_true rfl, Nat.le_of_ble_eq_true rfl⟩ (q2) ?_
        refine xr_stk (st' := [.int (xbi (decide (tK n tb (tP n tb i) = 15)))]) rfl ?_
        have e15 : tK n tb (tP n tb i) = 15 := by omega
        refine xr_if_eqF i93_25 (t := 65) (by decide) (xbi_1 (decide_eq_true e15)) ?_
        exact at28
      cases o1 with
      | inl j =>
        have g' : i + 1 ≤ j ∧ j < T := g1
        refine ⟨.inl j, ⟨by omega, g'.2⟩, fun dd h em k L hdd he hk hC => ?_, fun nx sl dd h cs L hdd hcl hM => ?_⟩
        · obtain ⟨h1, r1, a1, a2⟩ := c_acc_yes (G := G) (d := dd - 1) (nx := nx) (sl := sl) hC hi1 hT rfl
          obtain ⟨h2, r2, b1, em', p', b2, b3⟩ := c1 (dd - 1) h1 em 0 none (by omega) (by omega) (by omega) a2
          have r3 := c_emit_no (G := G) (d := dd - 1) (nx := nx) (sl := sl) (x := nI (tK n tb (tP n tb i))) (v := 0) b3 (tP_nn hn)
          have r4 := cf_sloop (G := G) (d := dd) (nx := nx) (sl := sl) (dp := dp) (k := k + 1) (L4 := some (.int (nI (tK n tb (tP n tb i))))) b3 (tP_nn hn) g'.2 hT (by omega) (by omega)
          have b33 := b3.2.1
          refine ⟨h2, preC dd h h1 h2 em k L _ (by omega) (by omega) hC ⟨_, a2.2.1⟩ r1 r2 ?_, a1.trans b1, em', p', b2, b3⟩
          refine xr_go i26_64 rfl ?_
          refine xr_go i26_65 rfl ?_
          refine xr_go i26_67 rfl ?_
          refine xr_V i26_68 xc26_60 ⟨rfl, rfl⟩ xa_33 rfl (by assumption) rfl (Nat.le_of_ble_eq_true rfl) (by omega) ⟨Nat.le_of_ble_eq_true rfl, Nat.le_of_ble_eq_true rfl⟩ (r3) ?_
          refine xr_inc1 i26_71 rfl rfl ?_
          refine xr_goto i26_74 (t := 9) (by decide) ?_
          exact r4
        · obtain ⟨h1, r1, a1, a2⟩ := m_stepP (G := G) (d := dd - 1) (nx := nx) (sl := sl) hG hM hn hb (by omega)
          obtain ⟨h2, r2, b1, b2⟩ := m1 nx sl (dd - 1) h1 cs none (by omega) (by omega) a2
          obtain ⟨⟨nu1, -, h1M⟩, -⟩ := a2
          refine ⟨h2, preM nx sl dd h h1 cs L (by omega) hM ⟨_, h1M⟩ r1 _ h2 _ r2 ?_, a1.trans b1, b2⟩
          refine xr_if_neF i93_52 (t := 57) (by decide) rfl ?_
          refine xr_go i93_55 rfl ?_
          exact xr_iret i93_56 xt_93 rfl
      | inr v =>
        obtain ⟨E1, i1, p1⟩ := v
        have g' : i + 1 + 1 ≤ i1 ∧ i1 < T ∧ E1.length + (i + 1) ≤ i1 ∧ p1 ≤ 80 ∧ xQ1 E1 (2 * (6 - dp) + 2) := g1
        obtain ⟨q1, q2, q3, q4, q5⟩ := g'
        obtain ⟨o2, g2, c2, m2⟩ := ih i1 p1 (by omega) (by omega) q2 q4
        have hml := mop_len E1
        have runC : ∀ dd h em k L, 3 * (6 - dp) + 8 ≤ dd → em.length ≤ i + 5 → k + 1 ≤ i → xCs B n tb T em i p (-2) h → ∃ h', xRun G dd 26 (9, [some (.ref (B + 3)), some (.int (nI dp)), some (.int 1), some (.int (nI k)), L], [], (h, nx, sl)) (none, (h', nx, sl)) ∧ xfr B h h' ∧ xCq B n tb T (em ++ E1 ++ [(S, 0)]) o2 h' := by
          intro dd h em k L hdd he hk hC
          obtain ⟨h1, r1, a1, a2⟩ := c_acc_yes (G := G) (d := dd - 1) (nx := nx) (sl := sl) hC hi1 hT rfl
          obtain ⟨h2, r2, b1, b2⟩ := c1 (dd - 1) h1 em 0 none (by omega) (by omega) (by omega) a2
          have b2' : xCs B n tb T (em ++ E1) i1 p1 (-2) h2 := b2
          obtain ⟨h3, r3, d1, d2⟩ := c_emit_ok (G := G) (d := dd - 1) (nx := nx) (sl := sl) (K := S) (x := nI S) (v := 0) hxk b2' (by rw [List.length_append]; omega)
          obtain ⟨h4, r4, e1, e2⟩ := c2 dd h3 (em ++ E1 ++ [(S, 0)]) (k + 1) (some (.int (nI (tK n tb (tP n tb i))))) hdd (by simp only [List.length_append, List.length_singleton]; omega) (by omega) d2
          have b33 := b2'.2.1
          rw [hS] at r3
          refine ⟨h4, preC dd h h1 h2 em k L _ (by omega) (by omega) hC ⟨_, a2.2.1⟩ r1 r2 ?_, ((a1.trans b1).trans d1).trans e1, e2⟩
          refine xr_go i26_64 rfl ?_
          refine xr_go i26_65 rfl ?_
          refine xr_go i26_67 rfl ?_
          refine xr_V i26_68 xc26_60 ⟨rfl, rfl⟩ xa_33 rfl (by assumption) rfl (Nat.le_of_ble_eq_true rfl) (by omega) ⟨Nat.le_of_ble_eq_true rfl, Nat.le_of_ble_eq_true rfl⟩ (r3) ?_
          refine xr_inc1 i26_71 rfl rfl ?_
          refine xr_goto i26_74 (t := 9) (by decide) ?_
          exact r4
        have runM : ∀ nx sl dd h cs L, 3 * (6 - dp) + 8 ≤ dd → cs.length ≤ 3 * i + 100 → xMp M n tb tn tk rk lt pc od cs i p (-1) h → ∃ h', xRun G dd 93 (10, [some (.ref M), some (.int (nI dp)), L], [], (h, nx, sl)) (some (.int (xrv o2)), (h', nx, sl)) ∧ xfm M h h' ∧ xMz M n tb tn tk rk lt pc od (cs ++ E1.flatMap mop ++ [op]) o2 h' := by
          intro nx sl dd h cs L hdd hcl hM
          obtain ⟨h1, r1, a1, a2⟩ := m_stepP (G := G) (d := dd - 1) (nx := nx) (sl := sl) hG hM hn hb (by omega)
          obtain ⟨h2, r2, b1, b2⟩ := m1 nx sl (dd - 1) h1 cs none (by omega) (by omega) a2
          have b2' : xMp M n tb tn tk rk lt pc od (cs ++ E1.flatMap mop) i1 p1 (-1) h2 := b2
          obtain ⟨h3, r3, d1, d2⟩ := m_putP (G := G) (d := dd - 1) (nx := nx) (sl := sl) op b2' (by rw [List.length_append]; omega)
          obtain ⟨h4, r4, e1, e2⟩ := m2 nx sl dd h3 (cs ++ E1.flatMap mop ++ [op]) (some (.int op)) hdd (by simp only [List.length_append, List.length_singleton]; omega) d2
          obtain ⟨⟨nu1, -, h1M⟩, -⟩ := a2
          obtain ⟨⟨nu2, -, h2M⟩, -⟩ := b2'
          refine ⟨h4, preM nx sl dd h h1 cs L (by omega) hM ⟨_, h1M⟩ r1 _ h2 _ r2 ?_, ((a1.trans b1).trans d1).trans e1, e2⟩
          refine xr_if_neT i93_52 (t := 57) (by decide) (by first | exact (show ¬ (1 : Int32) = 0 by decide) | decide) ?_
          refine xr_go i93_57 rfl ?_
          refine xr_go i93_58 rfl ?_
          refine xr_V i93_59 xc93_177 ⟨rfl, rfl⟩ xa_90 rfl (by assumption) rfl (Nat.le_of_ble_eq_true rfl) (by omega) ⟨Nat.le_of_ble_eq_true rfl, Nat.le_of_ble_eq_true rfl⟩ (r3) ?_
          refine xr_goto i93_62 (t := 10) (by decide) ?_
          exact r4
        cases o2 with
        | inl j =>
          have g'' : i1 ≤ j ∧ j < T := g2
          exact ⟨.inl j, ⟨by omega, g''.2⟩, fun dd h em k L hdd he hk hC => runC dd h em k L hdd he hk hC, fun nx sl dd h cs L hdd hcl hM => runM nx sl dd h cs L hdd hcl hM⟩
        | inr v =>
          obtain ⟨EL, i2, p2⟩ := v
          have g'' : i1 + 0 ≤ i2 ∧ i2 < T ∧ EL.length + i1 ≤ i2 ∧ p2 ≤ 80 ∧ ∀ E0, xQ1 E0 (2 * (6 - dp) + 3) → xQ1 (E0 ++ EL) (2 * (6 - dp) + 3) := g2
          obtain ⟨s1, s2, s3, s4, s5⟩ := g''
          refine ⟨.inr (E1 ++ (S, 0) :: EL, i2, p2), ⟨by omega, s2, by simp only [List.length_append, List.length_cons]; omega, s4, fun E0 h0 => ?_⟩, fun dd h em k L hdd he hk hC => ?_, fun nx sl dd h cs L hdd hcl hM => ?_⟩
          · have := s5 (E0 ++ E1 ++ [(S, 0)]) (xQ1_le (xQ1_bin h0 q5 (by omega)) (by omega))
            rw [List.append_assoc, List.append_assoc] at this
            exact this
          · obtain ⟨h', r, a1, a2⟩ := runC dd h em k L hdd he hk hC
            refine ⟨h', r, a1, ?_⟩
            have a2' : xCs B n tb T (em ++ E1 ++ [(S, 0)] ++ EL) i2 p2 (-2) h' := a2
            rw [List.append_assoc, List.append_assoc] at a2'
            exact a2'
          · obtain ⟨h', r, a1, a2⟩ := runM nx sl dd h cs L hdd hcl hM
            refine ⟨h', r, a1, ?_⟩
            have a2' : xMp M n tb tn tk rk lt pc od (cs ++ E1.flatMap mop ++ [op] ++ EL.flatMap mop) i2 p2 (-1) h' := a2
            rw [List.append_assoc, List.append_assoc] at a2'
            show xMp M n tb tn tk rk lt pc od (cs ++ (E1 ++ (S, 0) :: EL).flatMap mop) i2 p2 (-1) h'
            rw [List.flatMap_append, List.flatMap_cons, hmop]
            exact a2'
    · refine ⟨.inr ([], i, p), ⟨by omega, hi, by simp, hp, fun E0 h0 => by rw [List.append_nil]; exact h0⟩, fun dd h em k L hdd he hk hC => ⟨h, ?_, xfr.refl, ?_⟩, fun nx sl dd h cs L hdd hcl hM => ⟨h, ?_, xfm.refl, ?_⟩⟩
      · have rk := c_kind (G := G) (d := dd - 1) (nx := nx) (sl := sl) hC hi hT
        obtain ⟨-, h3, -⟩ := hC
        refine xr_go i26_9 rfl ?_
        refine xr_if_eqF i26_10 (t := 77) (by decide) (by first | exact (show ¬ (1 : Int32) = 0 by decide) | decide) ?_
        refine xr_go i26_13 rfl ?_
        refine xr_go i26_14 rfl ?_
        refine xr_icmp_geF i26_17 (t := 77) (by decide) (show ¬ nI 400 ≤ nI k from nI_ge (by omega) (by omega)) ?_
        refine xr_go i26_20 rfl ?_
        refine xr_V i26_21 xc26_64 ⟨rfl, rfl⟩ xa_31 rfl (by assumption) rfl (Nat.le_of_ble_eq_true rfl) (by omega) ⟨Nat.le_of_ble_eq_true rfl, Nat.le_of_ble_eq_true rfl⟩ (rk) ?_
        refine xr_go i26_24 rfl ?_
        refine xr_go i26_26 rfl ?_
        refine xr_go i26_28 rfl ?_
        refine xr_icmp_eqF i26_30 (t := 40) (by decide) (fun z => by have := (nI_eq (b := 14) (by omega) (by omega)).mp z; omega) ?_
        refine xr_go i26_33 rfl ?_
        refine xr_go i26_35 rfl ?_
        refine xr_icmp_neT i26_37 (t := 53) (by decide) (fun z => by have := (nI_eq (b := 15) (by omega) (by omega)).mp z; omega) ?_
        refine xr_go i26_53 rfl ?_
        refine xr_go i26_54 rfl ?_
        refine xr_go i26_55 rfl ?_
        refine xr_if_eqT i26_56 (t := 71) (by decide) rfl ?_
        refine xr_inc1 i26_71 rfl rfl ?_
        refine xr_goto i26_74 (t := 9) (by decide) ?_
        refine xr_go i26_9 rfl ?_
        refine xr_if_eqT i26_10 (t := 77) (by decide) rfl ?_
        exact xr_end i26_77 rfl
      · show xCs B n tb T (em ++ []) i p (-2) h
        rw [List.append_nil]
        exact hC
      · have q1 := m_isP (G := G) (d := dd - 1) (nx := nx) (sl := sl) (s := 10) hG (by omega) hM hn hb (by omega)
        have q2 := m_isP (G := G) (d := dd - 1) (nx := nx) (sl := sl) (s := 11) hG (by omega) hM hn hb (by omega)
        obtain ⟨⟨nu, -, hO⟩, -⟩ := hM
        refine xr_go i93_10 rfl ?_
        refine xr_ldc i93_11 xd93_213 rfl rfl ?_
        refine xr_V i93_13 xc93_102 ⟨rfl, rfl⟩ xa_86 rfl (by assumption) rfl (Nat.le_of_ble_eq_true rfl) (by omega) ⟨Nat.le_of_ble_eq_true rfl, Nat.le_of_ble_eq_true rfl⟩ (q1) ?_
        refine xr_stk (st' := [.int (xbi (decide (tK n tb (tP n tb i) = 14)))]) rfl ?_
        refine xr_if_neF i93_16 (t := 28) (by decide) (xbi_f (decide_eq_false (by omega))) ?_
        refine xr_go i93_19 rfl ?_
        refine xr_ldc i93_20 xd93_215 rfl rfl ?_
        refine xr_V i93_22 xc93_102 ⟨rfl, rfl⟩ xa_86 rfl (by assumption) rfl (Nat.le_of_ble_eq_true rfl) (by omega) ⟨Nat.le_of_ble_eq_true rfl, Nat.le_of_ble_eq_true rfl⟩ (q2) ?_
        refine xr_stk (st' := [.int (xbi (decide (tK n tb (tP n tb i) = 15)))]) rfl ?_
        refine xr_if_eqT i93_25 (t := 65) (by decide) (xbi_f (decide_eq_false (by omega))) ?_
        refine xr_go i93_65 rfl ?_
        exact xr_iret i93_66 xt_93 rfl
      · show xMp M n tb tn tk rk lt pc od (cs ++ ([] : List (Nat × Int32)).flatMap mop) i p (-1) h
        rw [List.flatMap_nil, List.append_nil]
        exact hM
set_option maxHeartbeats 4000000 in
theorem j_sum (ht : xTok G n tb T) (hdp : dp ≤ 6) (i0 : Nat) (hterm : ∀ i p, i0 ≤ i → i < T → p ≤ 80 → jTerm G nx sl B M n tb T tn tk rk lt pc od dp i p) (i p : Nat) (hi0 : i0 ≤ i) (hi : i < T) (hp : p ≤ 80) : jSum G nx sl B M n tb T tn tk rk lt pc od dp i p := by
  have tl := j_sl ht hdp i0 hterm
  obtain ⟨hG, hn, hb, hT, hT4⟩ := ht
  obtain ⟨o1, g1, c1, m1⟩ := hterm i p hi0 hi hp
  cases o1 with
  | inl j =>
    have g' : i ≤ j ∧ j < T := g1
    refine ⟨.inl j, g', fun dd h em k L hdd he hk hC => ?_, fun nx sl dd h cs L hdd hcl hM => ?_⟩
    · obtain ⟨h2, r2, b1, em', p', b2, b3⟩ := c1 (dd - 1) h em 0 none (by omega) (by omega) (by omega) hC
      have r4 := cf_sloop (G := G) (d := dd) (nx := nx) (sl := sl) (dp := dp) (k := 0) (L4 := none) b3 (tP_nn hn) g'.2 hT (by omega) (by omega)
      obtain ⟨-, h3, -⟩ := hC
      refine ⟨h2, ?_, b1, em', p', b2, b3⟩
      refine xr_go i26_0 rfl ?_
      refine xr_go i26_1 rfl ?_
      refine xr_V i26_2 xc26_92 ⟨rfl, rfl⟩ xa_27 rfl (by assumption) rfl (Nat.le_of_ble_eq_true rfl) (by omega) ⟨Nat.le_of_ble_eq_true rfl, Nat.le_of_ble_eq_true rfl⟩ (r2) ?_
      refine xr_go i26_5 rfl ?_
      refine xr_go i26_6 rfl ?_
      refine xr_go i26_7 rfl ?_
      refine xr_go i26_8 rfl ?_
      exact r4
    · obtain ⟨h2, r2, b1, b2⟩ := m1 nx sl (dd - 1) h cs none (by omega) (by omega) hM
      obtain ⟨⟨nu, -, hO⟩, -⟩ := hM
      refine ⟨h2, ?_, b1, b2⟩
      refine xr_go i93_0 rfl ?_
      refine xr_go i93_1 rfl ?_
      refine xr_V i93_2 xc93_210 ⟨rfl, rfl⟩ xa_94 rfl (by assumption) rfl (Nat.le_of_ble_eq_true rfl) (by omega) ⟨Nat.le_of_ble_eq_true rfl, Nat.le_of_ble_eq_true rfl⟩ (r2) ?_
      refine xr_if_neF i93_5 (t := 10) (by decide) rfl ?_
      refine xr_go i93_8 rfl ?_
      exact xr_iret i93_9 xt_93 rfl
  | inr v =>
    obtain ⟨E1, i1, p1⟩ := v
    have g' : i + 1 ≤ i1 ∧ i1 < T ∧ E1.length + i ≤ i1 ∧ p1 ≤ 80 ∧ xQ1 E1 (2 * (6 - dp) + 2) := g1
    obtain ⟨q1, q2, q3, q4, q5⟩ := g'
    obtain ⟨o2, g2, c2, m2⟩ := tl T i1 p1 (by omega) (by omega) q2 q4
    have hml := mop_len E1
    have runC : ∀ dd h em, 3 * (6 - dp) + 8 ≤ dd → em.length ≤ i + 5 → xCs B n tb T em i p (-2) h → ∃ h', xRun G dd 26 (0, [some (.ref (B + 3)), some (.int (nI dp)), none, none, none], [], (h, nx, sl)) (none, (h', nx, sl)) ∧ xfr B h h' ∧ xCq B n tb T (em ++ E1) o2 h' := by
      intro dd h em hdd he hC
      obtain ⟨h2, r2, b1, b2⟩ := c1 (dd - 1) h em 0 none (by omega) (by omega) (by omega) hC
      have b2' : xCs B n tb T (em ++ E1) i1 p1 (-2) h2 := b2
      obtain ⟨h4, r4, e1, e2⟩ := c2 dd h2 (em ++ E1) 0 none hdd (by rw [List.length_append]; omega) (by omega) b2'
      obtain ⟨-, h3, -⟩ := hC
      refine ⟨h4, ?_, b1.trans e1, e2⟩
      refine xr_go i26_0 rfl ?_
      refine xr_go i26_1 rfl ?_
      refine xr_V i26_2 xc26_92 ⟨rfl, rfl⟩ xa_27 rfl (by assumption) rfl (Nat.le_of_ble_eq_true rfl) (by omega) ⟨Nat.le_of_ble_eq_true rfl, Nat.le_of_ble_eq_true rfl⟩ (r2) ?_
      refine xr_go i26_5 rfl ?_
      refine xr_go i26_6 rfl ?_
      refine xr_go i26_7 rfl ?_
      refine xr_go i26_8 rfl ?_
      exact r4
    have runM : ∀ nx sl dd h cs, 3 * (6 - dp) + 8 ≤ dd → cs.length ≤ 3 * i + 100 → xMp M n tb tn tk rk lt pc od cs i p (-1) h → ∃ h', xRun G dd 93 (0, [some (.ref M), some (.int (nI dp)), none], [], (h, nx, sl)) (some (.int (xrv o2)), (h', nx, sl)) ∧ xfm M h h' ∧ xMz M n tb tn tk rk lt pc od (cs ++ E1.flatMap mop) o2 h' := by
      intro nx sl dd h cs hdd hcl hM
      obtain ⟨h2, r2, b1, b2⟩ := m1 nx sl (dd - 1) h cs none (by omega) (by omega) hM
      have b2' : xMp M n tb tn tk rk lt pc od (cs ++ E1.flatMap mop) i1 p1 (-1) h2 := b2
      obtain ⟨h4, r4, e1, e2⟩ := m2 nx sl dd h2 (cs ++ E1.flatMap mop) none hdd (by rw [List.length_append]; omega) b2'
      obtain ⟨⟨nu, -, hO⟩, -⟩ := hM
      refine ⟨h4, ?_, b1.trans e1, e2⟩
      refine xr_go i93_0 rfl ?_
      refine xr_go i93_1 rfl ?_
      refine xr_V i93_2 xc93_210 ⟨rfl, rfl⟩ xa_94 rfl (by assumption) rfl (Nat.le_of_ble_eq_true rfl) (by omega) ⟨Nat.le_of_ble_eq_true rfl, Nat.le_of_ble_eq_true rfl⟩ (r2) ?_
      refine xr_if_neT i93_5 (t := 10) (by decide) (by first | exact (show ¬ (1 : Int32) = 0 by decide) | decide) ?_
      exact r4
    cases o2 with
    | inl j =>
      have g'' : i1 ≤ j ∧ j < T := g2
      exact ⟨.inl j, ⟨by omega, g''.2⟩, fun dd h em k L hdd he hk hC => runC dd h em hdd he hC, fun nx sl dd h cs L hdd hcl hM => runM nx sl dd h cs hdd hcl hM⟩
    | inr v =>
      obtain ⟨EL, i2, p2⟩ := v
      have g'' : i1 + 0 ≤ i2 ∧ i2 < T ∧ EL.length + i1 ≤ i2 ∧ p2 ≤ 80 ∧ ∀ E0, xQ1 E0 (2 * (6 - dp) + 3) → xQ1 (E0 ++ EL) (2 * (6 - dp) + 3) := g2
      obtain ⟨s1, s2, s3, s4, s5⟩ := g''
      refine ⟨.inr (E1 ++ EL, i2, p2), ⟨by omega, s2, by rw [List.length_append]; omega, s4, s5 E1 (xQ1_le q5 (by omega))⟩, fun dd h em k L hdd he hk hC => ?_, fun nx sl dd h cs L hdd hcl hM => ?_⟩
      · obtain ⟨h', r, a1, a2⟩ := runC dd h em hdd he hC
        refine ⟨h', r, a1, ?_⟩
        have a2' : xCs B n tb T (em ++ E1 ++ EL) i2 p2 (-2) h' := a2
        rw [List.append_assoc] at a2'
        exact a2'
      · obtain ⟨h', r, a1, a2⟩ := runM nx sl dd h cs hdd hcl hM
        refine ⟨h', r, a1, ?_⟩
        have a2' : xMp M n tb tn tk rk lt pc od (cs ++ E1.flatMap mop ++ EL.flatMap mop) i2 p2 (-1) h' := a2
        rw [List.append_assoc] at a2'
        show xMp M n tb tn tk rk lt pc od (cs ++ (E1 ++ EL).flatMap mop) i2 p2 (-1) h'
        rw [List.flatMap_append]
        exact a2'
/-- EVERY SUM IS READ ALIKE -/
theorem j_all (ht : xTok G n tb T) : ∀ m i, T ≤ i + m → ∀ dp p, i < T → dp ≤ 6 → p ≤ 80 → jSum G nx sl B M n tb T tn tk rk lt pc od dp i p := by
  intro m
  induction m with
  | zero => intro i h1 dp p h2; omega
  | succ m ih =>
    intro i hm dp p hi hdp hp
    have part : ∀ i' p', i ≤ i' → i' < T → p' ≤ 80 → jPart G nx sl B M n tb T tn tk rk lt pc od dp i' p' := fun i' p' a1 a2 a3 => j_part ht a2 a3 hdp (fun hd i'' p'' b1 b2 b3 => ih i'' (by omega) (dp + 1) p'' b2 (by omega) b3)
    exact j_sum ht hdp i (fun i' p' a1 a2 a3 => j_term ht hdp i part i' p' a1 a2 a3) i p (Nat.le_refl _) hi hp
theorem j_sum0 (ht : xTok G n tb T) {i p : Nat} (hi : i < T) (hp : p ≤ 80) : jSum G nx sl B M n tb T tn tk rk lt pc od 0 i p := j_all ht T i (by omega) 0 p hi (by omega) hp
end XJSUM

