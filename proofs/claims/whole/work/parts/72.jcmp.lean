/-! ===== compares: class and model read the same ===== -/
theorem set_mid {α : Type} {l X : List α} {a x : α} : (l ++ a :: X).set l.length x = l ++ x :: X := by
  induction l with
  | nil => rfl
  | cons b l ih => exact congrArg (List.cons b) ih
theorem tb_sign {n p s : Nat} {tb : Nat → Nat} (hs : s < 18) (h : tK n tb p = tkind.getD s 0) : p < n ∧ tb p = (xSt.getD s []).getD 0 0 := by
  have hl := xSt_len hs
  have h2 := ((tK_is hs).mpr h).2
  refine ⟨?_, ?_⟩
  · by_cases e : n ≤ p
    · rw [tK_end e] at h
      have := tkind_ge hs
      omega
    · omega
  · have := (tmt_iff.mp h2).2 0 (by omega)
    rw [Nat.add_zero] at this
    exact this
section XJCMP
variable {G : xG} {nx sl B M n : Nat} {tb : Nat → Nat} {T : Nat} {tn tk rk : Int32} {lt : Value} {pc od : Int32} {i p : Nat} {h : xH} {cs : List Int32} {ft : Int32}
theorem xMp_arr (hM : xMp M n tb tn tk rk lt pc od cs i p ft h) : ∃ f, h (M + 35) = some (.inl (0, 1600, .inl f)) ∧ (∀ k, k < cs.length → f k = cs.getD k 0) ∧ ∀ j x k1, j < cs.length → k1 = xup h (M + 35) (.inl (0, 1600, .inl (upd f j x))) → xMp M n tb tn tk rk lt pc od (cs.set j x) i p ft k1 ∧ xfm M h k1 := by
  obtain ⟨⟨nu, hnu, hO⟩, hT, f, hc, hf⟩ := hM
  refine ⟨f, hc, hf, fun j x k1 hj ek1 => ?_⟩
  have k1n : ∀ q, q ≠ M + 35 → k1 q = h q := fun q hq => by rw [ek1]; exact xup_n hq
  refine ⟨⟨⟨nu, hnu, by rw [List.length_set]; exact (k1n _ (by omega)).trans hO⟩, xMt_fm hT (k1n _ (by omega)), upd f j x, xup_at ek1, fun k hk => ?_⟩, fun q a1 a2 => k1n q a2⟩
  rw [List.length_set] at hk
  rw [gd_set hk]
  unfold upd
  split
  · rfl
  · exact hf k hk
/-- a whole sum, and its end -/
def xMw1 (M n : Nat) (tb : Nat → Nat) (tn tk rk : Int32) (lt : Value) (pc od : Int32) (cs : List Int32) (o : xOut) (h : xH) : Prop := match o with
  | .inl j => xMq M n tb tn tk rk lt pc od (nI (tP n tb j)) h
  | .inr (E, i', p') => xMp M n tb tn tk rk lt pc od (cs ++ mE E) i' p' (-1) h
theorem j_whole (ht : xTok G n tb T) (hi : i < T) (hp : p ≤ 80) : ∃ o : xOut, xGo T i 1 (fun E => xQ1 E 15) o ∧ (∀ dd h em, 26 ≤ dd → em.length ≤ i + 5 → xCs B n tb T em i p (-2) h → ∃ h', xRun G dd 26 (0, [some (.ref (B + 3)), some (.int (nI 0)), none, none, none], [], (h, nx, sl)) (none, (h', nx, sl)) ∧ xfr B h h' ∧ xCq B n tb T em o h') ∧ ∀ nx sl dd h cs, 27 ≤ dd → cs.length ≤ 3 * i + 100 → xMp M n tb tn tk rk lt pc od cs i p (-1) h → ∃ h', xRun G dd 92 (0, [some (.ref M)], [], (h, nx, sl)) (some (.int (xrv o)), (h', nx, sl)) ∧ xfm M h h' ∧ xMw1 M n tb tn tk rk lt pc od cs o h' := by
  obtain ⟨o, g, c1, m1⟩ := j_sum0 (G := G) (nx := nx) (sl := sl) (B := B) (M := M) (tn := tn) (tk := tk) (rk := rk) (lt := lt) (pc := pc) (od := od) ht hi hp
  have hT := ht.2.2.2.1
  refine ⟨o, g, fun dd h em hdd he hC => c1 dd h em 0 none (by omega) he (by omega) hC, fun nx sl dd h cs hdd hcl hM => ?_⟩
  obtain ⟨h2, r2, b1, b2⟩ := m1 nx sl (dd - 1) h cs none (by omega) hcl hM
  obtain ⟨⟨nu, -, hO⟩, -⟩ := hM
  cases o with
  | inl j =>
    refine ⟨h2, ?_, b1, b2⟩
    refine xr_go i92_0 rfl ?_
    refine xr_go i92_1 rfl ?_
    refine xr_V i92_2 xc92_207 ⟨rfl, rfl⟩ xa_93 rfl (by assumption) rfl (Nat.le_of_ble_eq_true rfl) (by omega) ⟨Nat.le_of_ble_eq_true rfl, Nat.le_of_ble_eq_true rfl⟩ (r2) ?_
    refine xr_if_neF i92_5 (t := 10) (by decide) rfl ?_
    refine xr_go i92_8 rfl ?_
    exact xr_iret i92_9 xt_92 rfl
  | inr v =>
    obtain ⟨E, i', p'⟩ := v
    have g' : i + 1 ≤ i' ∧ i' < T ∧ E.length + i ≤ i' ∧ p' ≤ 80 ∧ xQ1 E 15 := g
    have hml := mop_len E
    have b2' : xMp M n tb tn tk rk lt pc od (cs ++ E.flatMap mop) i' p' (-1) h2 := b2
    obtain ⟨h3, r3, c1, c2⟩ := m_putP (G := G) (d := dd - 1) (nx := nx) (sl := sl) 7 b2' (by rw [List.length_append]; omega)
    obtain ⟨⟨nu2, -, hO2⟩, -⟩ := b2'
    rw [List.append_assoc] at c2
    refine ⟨h3, ?_, b1.trans c1, c2⟩
    refine xr_go i92_0 rfl ?_
    refine xr_go i92_1 rfl ?_
    refine xr_V i92_2 xc92_207 ⟨rfl, rfl⟩ xa_93 rfl (by assumption) rfl (Nat.le_of_ble_eq_true rfl) (by omega) ⟨Nat.le_of_ble_eq_true rfl, Nat.le_of_ble_eq_true rfl⟩ (r2) ?_
    refine xr_if_neT i92_5 (t := 10) (by decide) (by first | exact (show ¬ (1 : Int32) = 0 by decide) | decide) ?_
    refine xr_go i92_10 rfl ?_
    refine xr_go i92_11 rfl ?_
    refine xr_V i92_13 xc92_177 ⟨rfl, rfl⟩ xa_90 rfl (by assumption) rfl (Nat.le_of_ble_eq_true rfl) (by omega) ⟨Nat.le_of_ble_eq_true rfl, Nat.le_of_ble_eq_true rfl⟩ (r3) ?_
    refine xr_go i92_16 rfl ?_
    exact xr_iret i92_17 xt_92 rfl
abbrev xCmp : Type := Nat × List (Nat × Int32) × List (Nat × Int32)
def xGc (T i : Nat) (o : Nat ⊕ (xCmp × Nat × Nat)) : Prop := match o with
  | .inl j => i ≤ j ∧ j < T
  | .inr (q, i', p') => i + 1 ≤ i' ∧ i' < T ∧ (xcs q).length + i ≤ i' ∧ (mcmp q).length + 3 * i ≤ 3 * i' ∧ p' ≤ 80 ∧ xWc q
def xCc (G : xG) (nx sl B n : Nat) (tb : Nat → Nat) (T dd : Nat) (em : List (Nat × Int32)) (k : Nat) (L : Option Value) (h : xH) (o : Nat ⊕ (xCmp × Nat × Nat)) : Prop := match o with
  | .inl j => ∃ h', xRun G dd 25 (15, [some (.ref (B + 3)), some (.int 1), some (.int (nI k)), L], [], (h, nx, sl)) (none, (h', nx, sl)) ∧ xfr B h h' ∧ ∃ em' p', p' ≤ 80 ∧ xCs B n tb T em' j p' (nI (tP n tb j)) h'
  | .inr (q, i', p') => ∃ h', (∀ res, xRun G dd 25 (73, [some (.ref (B + 3)), some (.int 1), some (.int (nI k)), some (.int (nI q.1))], [], (h', nx, sl)) res → xRun G dd 25 (15, [some (.ref (B + 3)), some (.int 1), some (.int (nI k)), L], [], (h, nx, sl)) res) ∧ xfr B h h' ∧ xCs B n tb T (em ++ xcs q) i' p' (-2) h'
def xMc (G : xG) (nx sl M n : Nat) (tb : Nat → Nat) (tn tk rk : Int32) (lt : Value) (pc od : Int32) (dd : Nat) (cs : List Int32) (h : xH) (o : Nat ⊕ (xCmp × Nat × Nat)) : Prop := match o with
  | .inl j => ∃ h', xRun G dd 91 (0, [some (.ref M), none], [], (h, nx, sl)) (some (.int 0), (h', nx, sl)) ∧ xfm M h h' ∧ xMq M n tb tn tk rk lt pc od (nI (tP n tb j)) h'
  | .inr (q, i', p') => ∃ h', xRun G dd 91 (0, [some (.ref M), none], [], (h, nx, sl)) (some (.int 1), (h', nx, sl)) ∧ xfm M h h' ∧ xMp M n tb tn tk rk lt pc od (cs ++ mcmp q) i' p' (-1) h'
set_option maxHeartbeats 4000000 in
theorem j_cmp (ht : xTok G n tb T) (hi : i < T) (hp : p ≤ 80) : ∃ o, xGc T i o ∧ (∀ dd h em k L, 28 ≤ dd → em.length ≤ i + 5 → k < 2 ^ 20 → xCs B n tb T em i p (-2) h → xCc G nx sl B n tb T dd em k L h o) ∧ ∀ nx sl dd h cs, 29 ≤ dd → cs.length ≤ 3 * i + 90 → xMp M n tb tn tk rk lt pc od cs i p (-1) h → xMc G nx sl M n tb tn tk rk lt pc od dd cs h o := by
  obtain ⟨o1, g1, c1, m1⟩ := j_whole (G := G) (nx := nx) (sl := sl) (B := B) (M := M) (tn := tn) (tk := tk) (rk := rk) (lt := lt) (pc := pc) (od := od) ht hi hp
  have ht0 := ht
  obtain ⟨hG, hn, hb, hT, hT4⟩ := ht
  have preM : ∀ nx sl dd h cs, 29 ≤ dd → cs.length ≤ 3 * i + 90 → xMp M n tb tn tk rk lt pc od cs i p (-1) h → ∃ h2, (∀ res, xRun G dd 91 (14, [some (.ref M), some (.int (nI cs.length))], [.int (xrv o1)], (h2, nx, sl)) res → xRun G dd 91 (0, [some (.ref M), none], [], (h, nx, sl)) res) ∧ xfm M h h2 ∧ xMw1 M n tb tn tk rk lt pc od (cs ++ [0]) o1 h2 := by
    intro nx sl dd h cs hdd hcl hM
    obtain ⟨h1, r1, a1, a2⟩ := m_putP (G := G) (d := dd - 1) (nx := nx) (sl := sl) 0 hM (by omega)
    obtain ⟨h2, r2, b1, b2⟩ := m1 nx sl (dd - 1) h1 (cs ++ [0]) (by omega) (by simp only [List.length_append, List.length_singleton]; omega) a2
    obtain ⟨⟨nu, -, hO⟩, -⟩ := hM
    obtain ⟨⟨nu1, -, hO1⟩, -⟩ := a2
    refine ⟨h2, fun res r => ?_, a1.trans b1, b2⟩
    refine xr_go i91_0 rfl ?_
    refine xr_get i91_1 xf91_159 (by assumption) rfl rfl ?_
    refine xr_go i91_4 rfl ?_
    refine xr_go i91_5 rfl ?_
    refine xr_go i91_6 rfl ?_
    refine xr_V i91_7 xc91_177 ⟨rfl, rfl⟩ xa_90 rfl (by assumption) rfl (Nat.le_of_ble_eq_true rfl) (by omega) ⟨Nat.le_of_ble_eq_true rfl, Nat.le_of_ble_eq_true rfl⟩ (r1) ?_
    refine xr_go i91_10 rfl ?_
    refine xr_V i91_11 xc91_192 ⟨rfl, rfl⟩ xa_92 rfl (by assumption) rfl (Nat.le_of_ble_eq_true rfl) (by omega) ⟨Nat.le_of_ble_eq_true rfl, Nat.le_of_ble_eq_true rfl⟩ (r2) ?_
    exact r
  cases o1 with
  | inl j =>
    have g' : i ≤ j ∧ j < T := g1
    refine ⟨.inl j, g', fun dd h em k L hdd he hk hC => ?_, fun nx sl dd h cs hdd hcl hM => ?_⟩
    · obtain ⟨h2, r2, b1, em', p', b2, b3⟩ := c1 (dd - 1) h em (by omega) he hC
      obtain ⟨h3, r3, d1, p2, d2, d3⟩ := cf_test20 (G := G) (d := dd) (nx := nx) (sl := sl) (L3 := L) (k := k) b3 (tP_nn hn) g'.2 hT b2 hk (by omega)
      obtain ⟨-, h3', -⟩ := hC
      refine ⟨h3, ?_, b1.trans d1, em', p2, d2, d3⟩
      refine xr_go i25_15 rfl ?_
      refine xr_go i25_16 rfl ?_
      refine xr_V i25_17 xc25_80 ⟨rfl, rfl⟩ xa_26 rfl (by assumption) rfl (Nat.le_of_ble_eq_true rfl) (by omega) ⟨Nat.le_of_ble_eq_true rfl, Nat.le_of_ble_eq_true rfl⟩ (r2) ?_
      exact r3
    · obtain ⟨h2, pre, b1, b2⟩ := preM nx sl dd h cs hdd hcl hM
      refine ⟨h2, pre _ ?_, b1, b2⟩
      refine xr_if_neF i91_14 (t := 19) (by decide) rfl ?_
      refine xr_go i91_17 rfl ?_
      exact xr_iret i91_18 xt_91 rfl
  | inr v =>
    obtain ⟨E1, i1, p1⟩ := v
    have g' : i + 1 ≤ i1 ∧ i1 < T ∧ E1.length + i ≤ i1 ∧ p1 ≤ 80 ∧ xQ1 E1 15 := g1
    obtain ⟨q1, q2, q3, q4, q5⟩ := g'
    have hKl := tK_le (n := n) (p := tP n tb i1) (tb := tb)
    have hml1 := mop_len E1
    have lenE1 : (mE E1).length = (E1.flatMap mop).length + 1 := by unfold mE; simp
    by_cases hK : 10 ≤ tK n tb (tP n tb i1) ∧ tK n tb (tP n tb i1) ≤ 13
    · have hi1 := tok_next hT4 q2 (by omega)
      obtain ⟨o2, g2, c2, m2⟩ := j_whole (G := G) (nx := nx) (sl := sl) (B := B) (M := M) (tn := tn) (tk := tk) (rk := rk) (lt := lt) (pc := pc) (od := od) (i := i1 + 1) (p := p1) ht0 hi1 q4
      have preC : ∀ dd h em k L, 28 ≤ dd → em.length ≤ i + 5 → xCs B n tb T em i p (-2) h → ∃ h2, (∀ res, xRun G dd 25 (67, [some (.ref (B + 3)), some (.int 1), some (.int (nI k)), some (.int (nI (tK n tb (tP n tb i1))))], [], (h2, nx, sl)) res → xRun G dd 25 (15, [some (.ref (B + 3)), some (.int 1), some (.int (nI k)), L], [], (h, nx, sl)) res) ∧ xfr B h h2 ∧ xCq B n tb T (em ++ E1) o2 h2 := by
        intro dd h em k L hdd he hC
        obtain ⟨h2, r2, b1, b2⟩ := c1 (dd - 1) h em (by omega) he hC
        have b2' : xCs B n tb T (em ++ E1) i1 p1 (-2) h2 := b2
        have rk := c_kind (G := G) (d := dd - 1) (nx := nx) (sl := sl) b2' q2 hT
        obtain ⟨h3, r3, d1, d2⟩ := c_acc_yes (G := G) (d := dd - 1) (nx := nx) (sl := sl) b2' hi1 hT rfl
        obtain ⟨h4, r4, e1, e2⟩ := c2 (dd - 1) h3 (em ++ E1) (by omega) (by rw [List.length_append]; omega) d2
        obtain ⟨-, h3', -⟩ := hC
        have b23 := b2'.2.1
        have d23 := d2.2.1
        refine ⟨h4, fun res r => ?_, (b1.trans d1).trans e1, e2⟩
        have at49 : xRun G dd 25 (49, [some (.ref (B + 3)), some (.int 1), some (.int (nI k)), some (.int (nI (tK n tb (tP n tb i1))))], [], (h2, nx, sl)) res := by
          refine xr_go i25_49 rfl ?_
          refine xr_go i25_50 rfl ?_
          refine xr_V i25_51 xc25_48 ⟨rfl, rfl⟩ xa_24 rfl (by assumption) rfl (Nat.le_of_ble_eq_true rfl) (by omega) ⟨Nat.le_of_ble_eq_true rfl, Nat.le_of_ble_eq_true rfl⟩ (r3) ?_
          refine xr_go i25_54 rfl ?_
          refine xr_goto i25_55 (t := 62) (by decide) ?_
          refine xr_go i25_62 rfl ?_
          refine xr_go i25_63 rfl ?_
          refine xr_V i25_64 xc25_80 ⟨rfl, rfl⟩ xa_26 rfl (by assumption) rfl (Nat.le_of_ble_eq_true rfl) (by omega) ⟨Nat.le_of_ble_eq_true rfl, Nat.le_of_ble_eq_true rfl⟩ (r4) ?_
          exact r
        refine xr_go i25_15 rfl ?_
        refine xr_go i25_16 rfl ?_
        refine xr_V i25_17 xc25_80 ⟨rfl, rfl⟩ xa_26 rfl (by assumption) rfl (Nat.le_of_ble_eq_true rfl) (by omega) ⟨Nat.le_of_ble_eq_true rfl, Nat.le_of_ble_eq_true rfl⟩ (r2) ?_
        refine xr_go i25_20 rfl ?_
        refine xr_V i25_21 xc25_64 ⟨rfl, rfl⟩ xa_31 rfl (by assumption) rfl (Nat.le_of_ble_eq_true rfl) (by omega) ⟨Nat.le_of_ble_eq_true rfl, Nat.le_of_ble_eq_true rfl⟩ (rk) ?_
        refine xr_go i25_24 rfl ?_
        refine xr_go i25_25 rfl ?_
        refine xr_go i25_26 rfl ?_
        by_cases e10 : tK n tb (tP n tb i1) = 10
        · refine xr_icmp_eqT i25_28 (t := 49) (by decide) (by rw [e10]; rfl) ?_
          exact at49
        refine xr_icmp_eqF i25_28 (t := 49) (by decide) (fun z => e10 ((nI_eq (b := 10) (by omega) (by omega)).mp z)) ?_
        refine xr_go i25_31 rfl ?_
        refine xr_go i25_32 rfl ?_
        by_cases e11 : tK n tb (tP n tb i1) = 11
        · refine xr_icmp_eqT i25_34 (t := 49) (by decide) (by rw [e11]; rfl) ?_
          exact at49
        refine xr_icmp_eqF i25_34 (t := 49) (by decide) (fun z => e11 ((nI_eq (b := 11) (by omega) (by omega)).mp z)) ?_
        refine xr_go i25_37 rfl ?_
        refine xr_go i25_38 rfl ?_
        by_cases e12 : tK n tb (tP n tb i1) = 12
        · refine xr_icmp_eqT i25_40 (t := 49) (by decide) (by rw [e12]; rfl) ?_
          exact at49
        refine xr_icmp_eqF i25_40 (t := 49) (by decide) (fun z => e12 ((nI_eq (b := 12) (by omega) (by omega)).mp z)) ?_
        refine xr_go i25_43 rfl ?_
        refine xr_go i25_44 rfl ?_
        refine xr_icmp_neF i25_46 (t := 58) (by decide) (by rw [show tK n tb (tP n tb i1) = 13 by omega]; rfl) ?_
        exact at49
      have preM2 : ∀ nx sl dd h cs, 29 ≤ dd → cs.length ≤ 3 * i + 90 → xMp M n tb tn tk rk lt pc od cs i p (-1) h → ∃ h2, xRun G dd 91 (0, [some (.ref M), none], [], (h, nx, sl)) (some (.int (xrv o2)), (h2, nx, sl)) ∧ xfm M h h2 ∧ xMw1 M n tb tn tk rk lt pc od (cs ++ msg (tK n tb (tP n tb i1)) :: mE E1) o2 h2 := by
        intro nx sl dd h cs hdd hcl hM
        obtain ⟨h2, pre, b1, b2⟩ := preM nx sl dd h cs hdd hcl hM
        have b2' : xMp M n tb tn tk rk lt pc od (cs ++ [0] ++ mE E1) i1 p1 (-1) h2 := b2
        rw [List.append_assoc] at b2'
        have b2'' : xMp M n tb tn tk rk lt pc od (cs ++ (0 : Int32) :: mE E1) i1 p1 (-1) h2 := b2'
        have qq := fun s (hs : s < 18) => m_isP (G := G) (d := dd - 1) (nx := nx) (sl := sl) (s := s) hG hs b2'' hn hb (by omega)
        have qa := qq 12 (by omega)
        have qb := qq 13 (by omega)
        have qc := qq 14 (by omega)
        have qd := qq 15 (by omega)
        obtain ⟨f, hf0, hf1, hf2⟩ := xMp_arr b2''
        have hsb : tP n tb i1 < n ∧ xsb (tb (tP n tb i1)) = msg (tK n tb (tP n tb i1)) := by
          by_cases e10 : tK n tb (tP n tb i1) = 10
          · obtain ⟨z1, z2⟩ := tb_sign (s := 12) (by omega) e10
            exact ⟨z1, by rw [z2, e10]; rfl⟩
          by_cases e11 : tK n tb (tP n tb i1) = 11
          · obtain ⟨z1, z2⟩ := tb_sign (s := 13) (by omega) e11
            exact ⟨z1, by rw [z2, e11]; rfl⟩
          by_cases e12 : tK n tb (tP n tb i1) = 12
          · obtain ⟨z1, z2⟩ := tb_sign (s := 14) (by omega) e12
            exact ⟨z1, by rw [z2, e12]; rfl⟩
          have e13 : tK n tb (tP n tb i1) = 13 := by omega
          obtain ⟨z1, z2⟩ := tb_sign (s := 15) (by omega) e13
          exact ⟨z1, by rw [z2, e13]; rfl⟩
        obtain ⟨k1, ek1⟩ : ∃ y : xH, y = xup h2 (M + 35) (.inl (0, 1600, .inl (upd f cs.length (msg (tK n tb (tP n tb i1)))))) := ⟨_, rfl⟩
        obtain ⟨d1, d2⟩ := hf2 cs.length (msg (tK n tb (tP n tb i1))) k1 (by simp) ek1
        rw [set_mid] at d1
        obtain ⟨h3, r3, e1, e2⟩ := m_stepP (G := G) (d := dd - 1) (nx := nx) (sl := sl) hG d1 hn hb (by omega)
        obtain ⟨h4, r4, f1, f2⟩ := m2 nx sl (dd - 1) h3 _ (by omega) (by simp only [List.length_append, List.length_cons]; omega) e2
        obtain ⟨⟨nu2, -, hO2⟩, ⟨ft2, hT2, hT3⟩, -⟩ := b2''
        obtain ⟨⟨nu3, -, hO3⟩, -⟩ := d1
        obtain ⟨⟨nu4, -, hO4⟩, -⟩ := e2
        refine ⟨h4, pre _ ?_, ((b1.trans d2).trans e1).trans f1, f2⟩
        have at60 : xRun G dd 91 (60, [some (.ref M), some (.int (nI cs.length))], [], (h2, nx, sl)) (some (.int (xrv o2)), (h4, nx, sl)) := by
          refine xr_go i91_60 rfl ?_
          refine xr_get i91_61 xf91_55 (by assumption) rfl rfl ?_
          refine xr_go i91_64 rfl ?_
          refine xr_go i91_65 rfl ?_
          refine xr_get i91_66 xf91_9 (by assumption) rfl rfl ?_
          refine xr_go i91_69 rfl ?_
          refine xr_get i91_70 xf91_87 (by assumption) rfl rfl ?_
          refine xr_yald i91_73 (by assumption) rfl (by omega) (by omega) ?_
          rw [hT3 _ hsb.1, hsb.2]
          refine xr_iast i91_74 (by assumption) rfl (by omega) (by omega) (fun z1 ez1 => ?_)
          obtain rfl : z1 = k1 := ez1.trans ek1.symm
          refine xr_go i91_75 rfl ?_
          refine xr_V i91_76 xc91_156 ⟨rfl, rfl⟩ xa_84 rfl (by assumption) rfl (Nat.le_of_ble_eq_true rfl) (by omega) ⟨Nat.le_of_ble_eq_true rfl, Nat.le_of_ble_eq_true rfl⟩ (r3) ?_
          refine xr_go i91_79 rfl ?_
          refine xr_V i91_80 xc91_192 ⟨rfl, rfl⟩ xa_92 rfl (by assumption) rfl (Nat.le_of_ble_eq_true rfl) (by omega) ⟨Nat.le_of_ble_eq_true rfl, Nat.le_of_ble_eq_true rfl⟩ (r4) ?_
          exact xr_iret i91_83 xt_91 (by cases o2 <;> first | exact xbi_n false | exact xbi_n true)
        refine xr_if_neT i91_14 (t := 19) (by decide) (by first | exact (show ¬ (1 : Int32) = 0 by decide) | decide) ?_
        refine xr_go i91_19 rfl ?_
        refine xr_ldc i91_20 xd91_199 rfl rfl ?_
        refine xr_V i91_22 xc91_102 ⟨rfl, rfl⟩ xa_86 rfl (by assumption) rfl (Nat.le_of_ble_eq_true rfl) (by omega) ⟨Nat.le_of_ble_eq_true rfl, Nat.le_of_ble_eq_true rfl⟩ (qa) ?_
        refine xr_stk (st' := [.int (xbi (decide (tK n tb (tP n tb i1) = 10)))]) rfl ?_
        by_cases e10 : tK n tb (tP n tb i1) = 10
        · refine xr_if_neT i91_25 (t := 60) (by decide) (xbi_1 (decide_eq_true e10)) ?_
          exact at60
        refine xr_if_neF i91_25 (t := 60) (by decide) (xbi_f (decide_eq_false e10)) ?_
        refine xr_go i91_28 rfl ?_
        refine xr_ldc i91_29 xd91_201 rfl rfl ?_
        refine xr_V i91_31 xc91_102 ⟨rfl, rfl⟩ xa_86 rfl (by assumption) rfl (Nat.le_of_ble_eq_true rfl) (by omega) ⟨Nat.le_of_ble_eq_true rfl, Nat.le_of_ble_eq_true rfl⟩ (qb) ?_
        refine xr_stk (st' := [.int (xbi (decide (tK n tb (tP n tb i1) = 11)))]) rfl ?_
        by_cases e11 : tK n tb (tP n tb i1) = 11
        · refine xr_if_neT i91_34 (t := 60) (by decide) (xbi_1 (decide_eq_true e11)) ?_
          exact at60
        refine xr_if_neF i91_34 (t := 60) (by decide) (xbi_f (decide_eq_false e11)) ?_
        refine xr_go i91_37 rfl ?_
        refine xr_ldc i91_38 xd91_203 rfl rfl ?_
        refine xr_V i91_40 xc91_102 ⟨rfl, rfl⟩ xa_86 rfl (by assumption) rfl (Nat.le_of_ble_eq_true rfl) (by omega) ⟨Nat.le_of_ble_eq_true rfl, Nat.le_of_ble_eq_true rfl⟩ (qc) ?_
        refine xr_stk (st' := [.int (xbi (decide (tK n tb (tP n tb i1) = 12)))]) rfl ?_
        by_cases e12 : tK n tb (tP n tb i1) = 12
        · refine xr_if_neT i91_43 (t := 60) (by decide) (xbi_1 (decide_eq_true e12)) ?_
          exact at60
        refine xr_if_neF i91_43 (t := 60) (by decide) (xbi_f (decide_eq_false e12)) ?_
        refine xr_go i91_46 rfl ?_
        refine xr_ldc i91_47 xd91_205 rfl rfl ?_
        refine xr_V i91_49 xc91_102 ⟨rfl, rfl⟩ xa_86 rfl (by assumption) rfl (Nat.le_of_ble_eq_true rfl) (by omega) ⟨Nat.le_of_ble_eq_true rfl, Nat.le_of_ble_eq_true rfl⟩ (qd) ?_
        refine xr_stk (st' := [.int (xbi (decide (tK n tb (tP n tb i1) = 13)))]) rfl ?_
        have e13 : tK n tb (tP n tb i1) = 13 := by omega
        refine xr_if_neT i91_52 (t := 60) (by decide) (xbi_1 (decide_eq_true e13)) ?_
        exact at60
      cases o2 with
      | inl j =>
        have g'' : i1 + 1 ≤ j ∧ j < T := g2
        refine ⟨.inl j, ⟨by omega, g''.2⟩, fun dd h em k L hdd he hk hC => ?_, fun nx sl dd h cs hdd hcl hM => preM2 nx sl dd h cs hdd hcl hM⟩
        obtain ⟨h2, pre, b1, em', p', b2, b3⟩ := preC dd h em k L hdd he hC
        exact ⟨h2, pre _ (cf_test67 b3 (tP_nn hn) g''.2 hT hk (by omega)), b1, em', p', b2, b3⟩
      | inr v =>
        obtain ⟨E2, i2, p2⟩ := v
        have g'' : i1 + 1 + 1 ≤ i2 ∧ i2 < T ∧ E2.length + (i1 + 1) ≤ i2 ∧ p2 ≤ 80 ∧ xQ1 E2 15 := g2
        obtain ⟨s1, s2, s3, s4, s5⟩ := g''
        have hml2 := mop_len E2
        have lenE2 : (mE E2).length = (E2.flatMap mop).length + 1 := by unfold mE; simp
        refine ⟨.inr ((tK n tb (tP n tb i1), E1, E2), i2, p2), ⟨by omega, s2, ?_, ?_, s4, hK.1, hK.2, q5, s5⟩, fun dd h em k L hdd he hk hC => ?_, fun nx sl dd h cs hdd hcl hM => ?_⟩
        · unfold xcs
          simp only [List.length_append, List.length_singleton]
          omega
        · unfold mcmp
          simp only [List.length_cons, List.length_append]
          omega
        · obtain ⟨h2, pre, b1, b2⟩ := preC dd h em k L hdd he hC
          have b2' : xCs B n tb T (em ++ E1 ++ E2) i2 p2 (-2) h2 := b2
          obtain ⟨h3, r3, d1, d2⟩ := c_emit_ok (G := G) (d := dd - 1) (nx := nx) (sl := sl) (K := tK n tb (tP n tb i1)) (x := nI (tK n tb (tP n tb i1))) (v := 0) (by unfold xkv; rw [if_neg (by omega)]) b2' (by simp only [List.length_append]; omega)
          have b23 := b2'.2.1
          refine ⟨h3, fun res r => pre res ?_, b1.trans d1, ?_⟩
          · refine xr_go i25_67 rfl ?_
            refine xr_go i25_68 rfl ?_
            refine xr_go i25_69 rfl ?_
            refine xr_V i25_70 xc25_60 ⟨rfl, rfl⟩ xa_33 rfl (by assumption) rfl (Nat.le_of_ble_eq_true rfl) (by omega) ⟨Nat.le_of_ble_eq_true rfl, Nat.le_of_ble_eq_true rfl⟩ (r3) ?_
            exact r
          · unfold xcs
            rw [List.append_assoc, List.append_assoc] at d2
            rw [List.append_assoc]
            exact d2
        · obtain ⟨h2, r, b1, b2⟩ := preM2 nx sl dd h cs hdd hcl hM
          have b2' : xMp M n tb tn tk rk lt pc od (cs ++ msg (tK n tb (tP n tb i1)) :: mE E1 ++ mE E2) i2 p2 (-1) h2 := b2
          rw [List.append_assoc] at b2'
          exact ⟨h2, r, b1, b2'⟩
    · refine ⟨.inl i1, ⟨by omega, q2⟩, fun dd h em k L hdd he hk hC => ?_, fun nx sl dd h cs hdd hcl hM => ?_⟩
      · obtain ⟨h2, r2, b1, b2⟩ := c1 (dd - 1) h em (by omega) he hC
        have b2' : xCs B n tb T (em ++ E1) i1 p1 (-2) h2 := b2
        have rk := c_kind (G := G) (d := dd - 1) (nx := nx) (sl := sl) b2' q2 hT
        obtain ⟨h3, r3, d1, d2⟩ := c_fail_ok (G := G) (d := dd - 1) (nx := nx) (sl := sl) b2' q2 hT
        obtain ⟨h4, r4, e1, p', e2, e3⟩ := cf_test62 (G := G) (d := dd) (nx := nx) (sl := sl) (x := nI (tK n tb (tP n tb i1))) (k := k) d2 (tP_nn hn) q2 hT q4 hk (by omega)
        obtain ⟨-, h3', -⟩ := hC
        have b23 := b2'.2.1
        refine ⟨h4, ?_, (b1.trans d1).trans e1, _, p', e2, e3⟩
        refine xr_go i25_15 rfl ?_
        refine xr_go i25_16 rfl ?_
        refine xr_V i25_17 xc25_80 ⟨rfl, rfl⟩ xa_26 rfl (by assumption) rfl (Nat.le_of_ble_eq_true rfl) (by omega) ⟨Nat.le_of_ble_eq_true rfl, Nat.le_of_ble_eq_true rfl⟩ (r2) ?_
        refine xr_go i25_20 rfl ?_
        refine xr_V i25_21 xc25_64 ⟨rfl, rfl⟩ xa_31 rfl (by assumption) rfl (Nat.le_of_ble_eq_true rfl) (by omega) ⟨Nat.le_of_ble_eq_true rfl, Nat.le_of_ble_eq_true rfl⟩ (rk) ?_
        refine xr_go i25_24 rfl ?_
        refine xr_go i25_25 rfl ?_
        refine xr_go i25_26 rfl ?_
        refine xr_icmp_eqF i25_28 (t := 49) (by decide) (fun z => by have := (nI_eq (b := 10) (by omega) (by omega)).mp z; omega) ?_
        refine xr_go i25_31 rfl ?_
        refine xr_go i25_32 rfl ?_
        refine xr_icmp_eqF i25_34 (t := 49) (by decide) (fun z => by have := (nI_eq (b := 11) (by omega) (by omega)).mp z; omega) ?_
        refine xr_go i25_37 rfl ?_
        refine xr_go i25_38 rfl ?_
        refine xr_icmp_eqF i25_40 (t := 49) (by decide) (fun z => by have := (nI_eq (b := 12) (by omega) (by omega)).mp z; omega) ?_
        refine xr_go i25_43 rfl ?_
        refine xr_go i25_44 rfl ?_
        refine xr_icmp_neT i25_46 (t := 58) (by decide) (fun z => by have := (nI_eq (b := 13) (by omega) (by omega)).mp z; omega) ?_
        refine xr_go i25_58 rfl ?_
        refine xr_V i25_59 xc25_68 ⟨rfl, rfl⟩ xa_30 rfl (by assumption) rfl (Nat.le_of_ble_eq_true rfl) (by omega) ⟨Nat.le_of_ble_eq_true rfl, Nat.le_of_ble_eq_true rfl⟩ (r3) ?_
        exact r4
      · obtain ⟨h2, pre, b1, b2⟩ := preM nx sl dd h cs hdd hcl hM
        have b2' : xMp M n tb tn tk rk lt pc od (cs ++ [0] ++ mE E1) i1 p1 (-1) h2 := b2
        have qq := fun s (hs : s < 18) => m_isP (G := G) (d := dd - 1) (nx := nx) (sl := sl) (s := s) hG hs b2' hn hb (by omega)
        have qa := qq 12 (by omega)
        have qb := qq 13 (by omega)
        have qc := qq 14 (by omega)
        have qd := qq 15 (by omega)
        obtain ⟨h3, r3, d1, d2⟩ := m_badP (G := G) (d := dd - 1) (nx := nx) (sl := sl) b2'
        obtain ⟨⟨nu2, -, hO2⟩, -⟩ := b2'
        refine ⟨h3, pre _ ?_, b1.trans d1, d2⟩
        refine xr_if_neT i91_14 (t := 19) (by decide) (by first | exact (show ¬ (1 : Int32) = 0 by decide) | decide) ?_
        refine xr_go i91_19 rfl ?_
        refine xr_ldc i91_20 xd91_199 rfl rfl ?_
        refine xr_V i91_22 xc91_102 ⟨rfl, rfl⟩ xa_86 rfl (by assumption) rfl (Nat.le_of_ble_eq_true rfl) (by omega) ⟨Nat.le_of_ble_eq_true rfl, Nat.le_of_ble_eq_true rfl⟩ (qa) ?_
        refine xr_stk (st' := [.int (xbi (decide (tK n tb (tP n tb i1) = 10)))]) rfl ?_
        refine xr_if_neF i91_25 (t := 60) (by decide) (xbi_f (decide_eq_false (by omega))) ?_
        refine xr_go i91_28 rfl ?_
        refine xr_ldc i91_29 xd91_201 rfl rfl ?_
        refine xr_V i91_31 xc91_102 ⟨rfl, rfl⟩ xa_86 rfl (by assumption) rfl (Nat.le_of_ble_eq_true rfl) (by omega) ⟨Nat.le_of_ble_eq_true rfl, Nat.le_of_ble_eq_true rfl⟩ (qb) ?_
        refine xr_stk (st' := [.int (xbi (decide (tK n tb (tP n tb i1) = 11)))]) rfl ?_
        refine xr_if_neF i91_34 (t := 60) (by decide) (xbi_f (decide_eq_false (by omega))) ?_
        refine xr_go i91_37 rfl ?_
        refine xr_ldc i91_38 xd91_203 rfl rfl ?_
        refine xr_V i91_40 xc91_102 ⟨rfl, rfl⟩ xa_86 rfl (by assumption) rfl (Nat.le_of_ble_eq_true rfl) (by omega) ⟨Nat.le_of_ble_eq_true rfl, Nat.le_of_ble_eq_true rfl⟩ (qc) ?_
        refine xr_stk (st' := [.int (xbi (decide (tK n tb (tP n tb i1) = 12)))]) rfl ?_
        refine xr_if_neF i91_43 (t := 60) (by decide) (xbi_f (decide_eq_false (by omega))) ?_
        refine xr_go i91_46 rfl ?_
        refine xr_ldc i91_47 xd91_205 rfl rfl ?_
        refine xr_V i91_49 xc91_102 ⟨rfl, rfl⟩ xa_86 rfl (by assumption) rfl (Nat.le_of_ble_eq_true rfl) (by omega) ⟨Nat.le_of_ble_eq_true rfl, Nat.le_of_ble_eq_true rfl⟩ (qd) ?_
        refine xr_stk (st' := [.int (xbi (decide (tK n tb (tP n tb i1) = 13)))]) rfl ?_
        refine xr_if_neF i91_52 (t := 60) (by decide) (xbi_f (decide_eq_false (by omega))) ?_
        refine xr_go i91_55 rfl ?_
        refine xr_V i91_56 xc91_152 ⟨rfl, rfl⟩ xa_89 rfl (by assumption) rfl (Nat.le_of_ble_eq_true rfl) (by omega) ⟨Nat.le_of_ble_eq_true rfl, Nat.le_of_ble_eq_true rfl⟩ (r3) ?_
        exact xr_iret i91_59 xt_91 rfl
end XJCMP

