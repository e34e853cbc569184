/-! ===== sums: class and model read the same; parts ===== -/
/-- a fault's token, or what was read: the sum, the next token, the parts -/
abbrev xOut : Type := Nat ⊕ (List (Nat × Int32) × Nat × Nat)
def xCq (B n : Nat) (tb : Nat → Nat) (T : Nat) (em : List (Nat × Int32)) (o : xOut) (h : xH) : Prop := match o with
  | .inl j => ∃ em' p', p' ≤ 80 ∧ xCs B n tb T em' j p' (nI (tP n tb j)) h
  | .inr (E, i', p') => xCs B n tb T (em ++ E) i' p' (-2) h
def xMz (M n : Nat) (tb : Nat → Nat) (tn tk rk : Int32) (lt : Value) (pc od : Int32) (cs : List Int32) (o : xOut) (h : xH) : Prop := match o with
  | .inl j => xMq M n tb tn tk rk lt pc od (nI (tP n tb j)) h
  | .inr (E, i', p') => xMp M n tb tn tk rk lt pc od (cs ++ E.flatMap mop) i' p' (-1) h
def xrv (o : xOut) : Int32 := match o with
  | .inl _ => 0
  | .inr _ => 1
def xGo (T i s : Nat) (K : List (Nat × Int32) → Prop) (o : xOut) : Prop := match o with
  | .inl j => i ≤ j ∧ j < T
  | .inr (E, i', p') => i + s ≤ i' ∧ i' < T ∧ E.length + i ≤ i' ∧ p' ≤ 80 ∧ K E
def xTok (G : xG) (n : Nat) (tb : Nat → Nat) (T : Nat) : Prop := xGok G ∧ n ≤ 400 ∧ (∀ j, j < n → tb j < 256) ∧ T ≤ 401 ∧ tK n tb (tP n tb (T - 1)) ≤ 1
/-- one outcome, of class and model -/
def xJ (G : xG) (nx sl B M n : Nat) (tb : Nat → Nat) (T : Nat) (tn tk rk : Int32) (lt : Value) (pc od : Int32) (cm cp : Nat) (cL : Nat → Option Value → xL) (mm mp : Nat) (mL : Option Value → xL) (s c : Nat) (K : List (Nat × Int32) → Prop) (need i p : Nat) : Prop := ∃ o : xOut, xGo T i s K o ∧ (∀ dd h em k L, need ≤ dd → em.length ≤ i + 5 → k + c ≤ i → xCs B n tb T em i p (-2) h → ∃ h', xRun G dd cm (cp, cL k L, [], (h, nx, sl)) (none, (h', nx, sl)) ∧ xfr B h h' ∧ xCq B n tb T em o h') ∧ ∀ nx sl dd h cs L, need ≤ dd → cs.length ≤ 3 * i + 100 → xMp M n tb tn tk rk lt pc od cs i p (-1) h → ∃ h', xRun G dd mm (mp, mL L, [], (h, nx, sl)) (some (.int (xrv o)), (h', nx, sl)) ∧ xfm M h h' ∧ xMz M n tb tn tk rk lt pc od cs o h'
section XJD
variable (G : xG) (nx sl B M n : Nat) (tb : Nat → Nat) (T : Nat) (tn tk rk : Int32) (lt : Value) (pc od : Int32) (dp i p : Nat)
def jPart : Prop := xJ G nx sl B M n tb T tn tk rk lt pc od 28 0 (fun _ _ => [some (.ref (B + 3)), some (.int (nI dp)), none]) 95 0 (fun _ => [some (.ref M), some (.int (nI dp))]) 1 0 (fun E => xQ1 E (2 * (6 - dp) + 1)) (3 * (6 - dp) + 6) i p
def jTl : Prop := xJ G nx sl B M n tb T tn tk rk lt pc od 27 9 (fun k _ => [some (.ref (B + 3)), some (.int (nI dp)), some (.int 1), some (.int (nI k))]) 94 10 (fun _ => [some (.ref M), some (.int (nI dp))]) 0 1 (fun E => ∀ E0, xQ1 E0 (2 * (6 - dp) + 2) → xQ1 (E0 ++ E) (2 * (6 - dp) + 2)) (3 * (6 - dp) + 7) i p
def jTerm : Prop := xJ G nx sl B M n tb T tn tk rk lt pc od 27 0 (fun _ _ => [some (.ref (B + 3)), some (.int (nI dp)), none, none]) 94 0 (fun _ => [some (.ref M), some (.int (nI dp))]) 1 0 (fun E => xQ1 E (2 * (6 - dp) + 2)) (3 * (6 - dp) + 7) i p
def jSl : Prop := xJ G nx sl B M n tb T tn tk rk lt pc od 26 9 (fun k L => [some (.ref (B + 3)), some (.int (nI dp)), some (.int 1), some (.int (nI k)), L]) 93 10 (fun L => [some (.ref M), some (.int (nI dp)), L]) 0 1 (fun E => ∀ E0, xQ1 E0 (2 * (6 - dp) + 3) → xQ1 (E0 ++ E) (2 * (6 - dp) + 3)) (3 * (6 - dp) + 8) i p
def jSum : Prop := xJ G nx sl B M n tb T tn tk rk lt pc od 26 0 (fun _ _ => [some (.ref (B + 3)), some (.int (nI dp)), none, none, none]) 93 0 (fun _ => [some (.ref M), some (.int (nI dp)), none]) 1 0 (fun E => xQ1 E (2 * (6 - dp) + 3)) (3 * (6 - dp) + 8) i p
end XJD
theorem mop_len : ∀ E : List (Nat × Int32), (E.flatMap mop).length ≤ 2 * E.length := by
  intro E
  induction E with
  | nil => simp
  | cons q E ih =>
    have : (mop q).length ≤ 2 := by
      unfold mop
      repeat' split
      all_goals simp
    rw [List.flatMap_cons, List.length_append, List.length_cons]
    omega
section XJPART
variable {G : xG} {nx sl B M n : Nat} {tb : Nat → Nat} {T : Nat} {tn tk rk : Int32} {lt : Value} {pc od : Int32} {dp i p : Nat}
set_option maxHeartbeats 4000000 in
theorem j_open (ht : xTok G n tb T) (hi : i < T) (hp : p ≤ 80) (hdp : dp < 6) (h19 : tK n tb (tP n tb i) = 19) (ih : ∀ i' p', i < i' → i' < T → p' ≤ 80 → jSum G nx sl B M n tb T tn tk rk lt pc od (dp + 1) i' p') : jPart G nx sl B M n tb T tn tk rk lt pc od dp i p := by
  obtain ⟨hG, hn, hb, hT, hT4⟩ := ht
  have hi1 := tok_next hT4 hi (by omega)
  obtain ⟨o, g, hc, hm⟩ := ih (i + 1) p (by omega) hi1 hp
  have preC : ∀ dd (h h1 h2 : xH) em' i' p' ft (res : Option Value × xW), 3 ≤ dd → h (B + 3) = some (.inr (2, [.ref (B + 1), .ref (B + 4), .ref (B + 8), .ref (B + 9), .int (nI em'), .int (nI i'), .int (nI p'), .int ft])) → (∃ fs, h1 (B + 3) = some (.inr (2, fs))) → xRun G (dd - 1) 24 (0, [some (.ref (B + 3)), some (.int (nI 19))], [], (h, nx, sl)) (some (.int 1), (h1, nx, sl)) → xRun G (dd - 1) 26 (0, [some (.ref (B + 3)), some (.int (nI (dp + 1))), none, none, none], [], (h1, nx, sl)) (none, (h2, nx, sl)) → xRun G dd 28 (22, [some (.ref (B + 3)), some (.int (nI dp)), none], [], (h2, nx, sl)) res → xRun G dd 28 (0, [some (.ref (B + 3)), some (.int (nI dp)), none], [], (h, nx, sl)) res := by
    intro dd h h1 h2 em' i' p' ft res hdd h3 h13 r1 r2 r
    obtain ⟨fs, h13⟩ := h13
    refine xr_go i28_0 rfl ?_
    refine xr_go i28_1 rfl ?_
    refine xr_icmp_geF i28_3 (t := 29) (by decide) (show ¬ nI 6 ≤ nI dp from nI_ge hdp (by omega)) ?_
    refine xr_go i28_6 rfl ?_
    refine xr_go i28_7 rfl ?_
    refine xr_V i28_9 xc28_48 ⟨rfl, rfl⟩ xa_24 rfl (by assumption) rfl (Nat.le_of_ble_eq_true rfl) (by omega) ⟨Nat.le_of_ble_eq_true rfl, Nat.le_of_ble_eq_true rfl⟩ (r1) ?_
    refine xr_if_eqF i28_12 (t := 29) (by decide) (by first | exact (show ¬ (1 : Int32) = 0 by decide) | decide) ?_
    refine xr_go i28_15 rfl ?_
    refine xr_go i28_16 rfl ?_
    refine xr_go i28_17 rfl ?_
    refine xr_go i28_18 rfl ?_
    refine xr_top (show _ = nI (dp + 1) from nI_add dp 1) ?_
    refine xr_V i28_19 xc28_80 ⟨rfl, rfl⟩ xa_26 rfl (by assumption) rfl (Nat.le_of_ble_eq_true rfl) (by omega) ⟨Nat.le_of_ble_eq_true rfl, Nat.le_of_ble_eq_true rfl⟩ (r2) ?_
    exact r
  have preM : ∀ nx sl dd (h h1 : xH) cs, 3 ≤ dd → xMp M n tb tn tk rk lt pc od cs i p (-1) h → (∃ fs, h1 M = some (.inr (10, fs))) → xRun G (dd - 1) 84 (0, [some (.ref M), none, none], [], (h, nx, sl)) (none, (h1, nx, sl)) → ∀ (x : Int32) (h2 : xH) (res : Option Value × xW), xRun G (dd - 1) 93 (0, [some (.ref M), some (.int (nI (dp + 1))), none], [], (h1, nx, sl)) (some (.int x), (h2, nx, sl)) → xRun G dd 95 (31, [some (.ref M), some (.int (nI dp))], [.int x], (h2, nx, sl)) res → xRun G dd 95 (0, [some (.ref M), some (.int (nI dp))], [], (h, nx, sl)) res := by
    intro nx sl dd h h1 cs hdd hM h1M r1 x h2 res r2 r
    obtain ⟨fs, h1M⟩ := h1M
    have q := m_isP (G := G) (d := dd - 1) (nx := nx) (sl := sl) (s := 7) hG (by omega) hM hn hb (by omega)
    rw [decide_eq_true (show tK n tb (tP n tb i) = tkind.getD 7 0 from h19)] at q
    obtain ⟨⟨nu, -, hO⟩, -⟩ := hM
    refine xr_go i95_0 rfl ?_
    refine xr_ldc i95_1 xd95_222 rfl rfl ?_
    refine xr_V i95_3 xc95_102 ⟨rfl, rfl⟩ xa_86 rfl (by assumption) rfl (Nat.le_of_ble_eq_true rfl) (by omega) ⟨Nat.le_of_ble_eq_true rfl, Nat.le_of_ble_eq_true rfl⟩ (q) ?_
    refine xr_if_eqF i95_6 (t := 49) (by decide) (by first | exact (show ¬ (1 : Int32) = 0 by decide) | decide) ?_
    refine xr_go i95_9 rfl ?_
    refine xr_go i95_10 rfl ?_
    refine xr_icmp_neT i95_12 (t := 20) (by decide) (fun z => by have := (nI_eq (b := 6) (by omega) (by omega)).mp z; omega) ?_
    refine xr_go i95_20 rfl ?_
    refine xr_V i95_21 xc95_156 ⟨rfl, rfl⟩ xa_84 rfl (by assumption) rfl (Nat.le_of_ble_eq_true rfl) (by omega) ⟨Nat.le_of_ble_eq_true rfl, Nat.le_of_ble_eq_true rfl⟩ (r1) ?_
    refine xr_go i95_24 rfl ?_
    refine xr_go i95_25 rfl ?_
    refine xr_go i95_26 rfl ?_
    refine xr_go i95_27 rfl ?_
    refine xr_top (show _ = nI (dp + 1) from nI_add dp 1) ?_
    refine xr_V i95_28 xc95_207 ⟨rfl, rfl⟩ xa_93 rfl (by assumption) rfl (Nat.le_of_ble_eq_true rfl) (by omega) ⟨Nat.le_of_ble_eq_true rfl, Nat.le_of_ble_eq_true rfl⟩ (r2) ?_
    exact r
  cases o with
  | inl j =>
    have g' : i + 1 ≤ j ∧ j < T := g
    refine ⟨.inl j, ⟨by omega, g'.2⟩, fun dd h em k L hdd he hk hC => ?_, fun nx sl dd h cs L hdd hcl hM => ?_⟩
    · obtain ⟨h1, r1, a1, a2⟩ := c_acc_yes (G := G) (d := dd - 1) (nx := nx) (sl := sl) hC hi1 hT h19
      obtain ⟨h2, r2, b1, em', p', b2, b3⟩ := hc (dd - 1) h1 em 0 none (by omega) (by omega) (by omega) a2
      have r3 := c_req_no (G := G) (d := dd - 1) (nx := nx) (sl := sl) (K := 20) b3 g'.2 hT (by omega) (tP_nn hn) (by omega)
      have b33 := b3.2.1
      refine ⟨h2, preC dd h h1 h2 _ _ _ _ _ (by omega) hC.2.1 ⟨_, a2.2.1⟩ r1 r2 ?_, a1.trans b1, em', p', b2, b3⟩
      refine xr_go i28_22 rfl ?_
      refine xr_go i28_23 rfl ?_
      refine xr_V i28_25 xc28_84 ⟨rfl, rfl⟩ xa_29 rfl (by assumption) rfl (Nat.le_of_ble_eq_true rfl) (by omega) ⟨Nat.le_of_ble_eq_true rfl, Nat.le_of_ble_eq_true rfl⟩ (r3) ?_
      exact xr_end i28_28 rfl
    · obtain ⟨h1, r1, a1, a2⟩ := m_stepP (G := G) (d := dd - 1) (nx := nx) (sl := sl) hG hM hn hb (by omega)
      obtain ⟨h2, r2, b1, b2⟩ := hm nx sl (dd - 1) h1 cs none (by omega) (by omega) a2
      obtain ⟨⟨nu1, -, h1M⟩, -⟩ := a2
      refine ⟨h2, preM nx sl dd h h1 cs (by omega) hM ⟨_, h1M⟩ r1 _ h2 _ r2 ?_, a1.trans b1, b2⟩
      refine xr_if_eqT i95_31 (t := 47) (by decide) rfl ?_
      refine xr_go i95_47 rfl ?_
      exact xr_iret i95_48 xt_95 rfl
  | inr v =>
    obtain ⟨E, i', p'⟩ := v
    have g' : i + 1 + 1 ≤ i' ∧ i' < T ∧ E.length + (i + 1) ≤ i' ∧ p' ≤ 80 ∧ xQ1 E (2 * (6 - (dp + 1)) + 3) := g
    obtain ⟨g1, g2, g3, g4, g5⟩ := g'
    by_cases h20 : tK n tb (tP n tb i') = 20
    · have hi2 := tok_next hT4 g2 (by omega)
      refine ⟨.inr (E, i' + 1, p'), ⟨by omega, hi2, by omega, g4, xQ1_le g5 (by omega)⟩, fun dd h em k L hdd he hk hC => ?_, fun nx sl dd h cs L hdd hcl hM => ?_⟩
      · obtain ⟨h1, r1, a1, a2⟩ := c_acc_yes (G := G) (d := dd - 1) (nx := nx) (sl := sl) hC hi1 hT h19
        obtain ⟨h2, r2, b1, b2⟩ := hc (dd - 1) h1 em 0 none (by omega) (by omega) (by omega) a2
        have b2' : xCs B n tb T (em ++ E) i' p' (-2) h2 := b2
        obtain ⟨h3, r3, c1, c2⟩ := c_req_yes (G := G) (d := dd - 1) (nx := nx) (sl := sl) b2' hi2 hT h20 (by omega)
        have b33 := b2'.2.1
        refine ⟨h3, preC dd h h1 h2 _ _ _ _ _ (by omega) hC.2.1 ⟨_, a2.2.1⟩ r1 r2 ?_, (a1.trans b1).trans c1, c2⟩
        refine xr_go i28_22 rfl ?_
        refine xr_go i28_23 rfl ?_
        refine xr_V i28_25 xc28_84 ⟨rfl, rfl⟩ xa_29 rfl (by assumption) rfl (Nat.le_of_ble_eq_true rfl) (by omega) ⟨Nat.le_of_ble_eq_true rfl, Nat.le_of_ble_eq_true rfl⟩ (r3) ?_
        exact xr_end i28_28 rfl
      · obtain ⟨h1, r1, a1, a2⟩ := m_stepP (G := G) (d := dd - 1) (nx := nx) (sl := sl) hG hM hn hb (by omega)
        obtain ⟨h2, r2, b1, b2⟩ := hm nx sl (dd - 1) h1 cs none (by omega) (by omega) a2
        have b2' : xMp M n tb tn tk rk lt pc od (cs ++ E.flatMap mop) i' p' (-1) h2 := b2
        obtain ⟨h3, r3, c1, c2⟩ := m_take_yes (G := G) (d := dd - 1) (nx := nx) (sl := sl) (s := 8) hG (by omega) b2' hn hb (by omega) h20
        obtain ⟨⟨nu1, -, h1M⟩, -⟩ := a2
        obtain ⟨⟨nu2, -, h2M⟩, -⟩ := b2'
        refine ⟨h3, preM nx sl dd h h1 cs (by omega) hM ⟨_, h1M⟩ r1 _ h2 _ r2 ?_, (a1.trans b1).trans c1, c2⟩
        refine xr_if_eqF i95_31 (t := 47) (by decide) (by first | exact (show ¬ (1 : Int32) = 0 by decide) | decide) ?_
        refine xr_go i95_34 rfl ?_
        refine xr_ldc i95_35 xd95_224 rfl rfl ?_
        refine xr_V i95_37 xc95_184 ⟨rfl, rfl⟩ xa_96 rfl (by assumption) rfl (Nat.le_of_ble_eq_true rfl) (by omega) ⟨Nat.le_of_ble_eq_true rfl, Nat.le_of_ble_eq_true rfl⟩ (r3) ?_
        refine xr_if_eqF i95_40 (t := 47) (by decide) (by first | exact (show ¬ (1 : Int32) = 0 by decide) | decide) ?_
        refine xr_go i95_43 rfl ?_
        refine xr_goto i95_44 (t := 48) (by decide) ?_
        exact xr_iret i95_48 xt_95 rfl
    · refine ⟨.inl i', ⟨by omega, g2⟩, fun dd h em k L hdd he hk hC => ?_, fun nx sl dd h cs L hdd hcl hM => ?_⟩
      · obtain ⟨h1, r1, a1, a2⟩ := c_acc_yes (G := G) (d := dd - 1) (nx := nx) (sl := sl) hC hi1 hT h19
        obtain ⟨h2, r2, b1, b2⟩ := hc (dd - 1) h1 em 0 none (by omega) (by omega) (by omega) a2
        have b2' : xCs B n tb T (em ++ E) i' p' (-2) h2 := b2
        obtain ⟨h3, r3, c1, c2⟩ := c_req_bad (G := G) (d := dd - 1) (nx := nx) (sl := sl) (K := 20) b2' g2 hT (by omega) h20 (by omega)
        have b33 := b2'.2.1
        refine ⟨h3, preC dd h h1 h2 _ _ _ _ _ (by omega) hC.2.1 ⟨_, a2.2.1⟩ r1 r2 ?_, (a1.trans b1).trans c1, _, p', g4, c2⟩
        refine xr_go i28_22 rfl ?_
        refine xr_go i28_23 rfl ?_
        refine xr_V i28_25 xc28_84 ⟨rfl, rfl⟩ xa_29 rfl (by assumption) rfl (Nat.le_of_ble_eq_true rfl) (by omega) ⟨Nat.le_of_ble_eq_true rfl, Nat.le_of_ble_eq_true rfl⟩ (r3) ?_
        exact xr_end i28_28 rfl
      · obtain ⟨h1, r1, a1, a2⟩ := m_stepP (G := G) (d := dd - 1) (nx := nx) (sl := sl) hG hM hn hb (by omega)
        obtain ⟨h2, r2, b1, b2⟩ := hm nx sl (dd - 1) h1 cs none (by omega) (by omega) a2
        have b2' : xMp M n tb tn tk rk lt pc od (cs ++ E.flatMap mop) i' p' (-1) h2 := b2
        obtain ⟨h3, r3, c1, c2⟩ := m_take_no (G := G) (d := dd - 1) (nx := nx) (sl := sl) (s := 8) hG (by omega) b2' hn hb (by omega) h20
        obtain ⟨⟨nu1, -, h1M⟩, -⟩ := a2
        obtain ⟨⟨nu2, -, h2M⟩, -⟩ := b2'
        refine ⟨h3, preM nx sl dd h h1 cs (by omega) hM ⟨_, h1M⟩ r1 _ h2 _ r2 ?_, (a1.trans b1).trans c1, c2⟩
        refine xr_if_eqF i95_31 (t := 47) (by decide) (by first | exact (show ¬ (1 : Int32) = 0 by decide) | decide) ?_
        refine xr_go i95_34 rfl ?_
        refine xr_ldc i95_35 xd95_224 rfl rfl ?_
        refine xr_V i95_37 xc95_184 ⟨rfl, rfl⟩ xa_96 rfl (by assumption) rfl (Nat.le_of_ble_eq_true rfl) (by omega) ⟨Nat.le_of_ble_eq_true rfl, Nat.le_of_ble_eq_true rfl⟩ (r3) ?_
        refine xr_if_eqT i95_40 (t := 47) (by decide) rfl ?_
        refine xr_go i95_47 rfl ?_
        exact xr_iret i95_48 xt_95 rfl
theorem j_part (ht : xTok G n tb T) (hi : i < T) (hp : p ≤ 80) (hdp : dp ≤ 6) (ih : dp < 6 → ∀ i' p', i < i' → i' < T → p' ≤ 80 → jSum G nx sl B M n tb T tn tk rk lt pc od (dp + 1) i' p') : jPart G nx sl B M n tb T tn tk rk lt pc od dp i p := by
  by_cases h19 : tK n tb (tP n tb i) = 19
  · by_cases hd6 : dp = 6
    · subst hd6
      obtain ⟨hG, hn, hb, hT, hT4⟩ := ht
      refine ⟨.inl i, ⟨Nat.le_refl _, hi⟩, fun dd h em k L hdd he hk hC => ?_, fun nx sl dd h cs L hdd hcl hM => ?_⟩
      · obtain ⟨h', r, a1, p', a2, a3⟩ := c_part_bad (G := G) (d := dd) (nx := nx) (sl := sl) (dp := 6) hC hi hT hp (by omega) (fun z => by omega) (Or.inr ⟨by omega, by omega, by omega, by omega⟩) (by omega)
        exact ⟨h', r, a1, em, p', a2, a3⟩
      · exact m_part_deep hG hM hn hb h19 (by omega)
    · exact j_open ht hi hp (by omega) h19 (ih (by omega))
  obtain ⟨hG, hn, hb, hT, hT4⟩ := ht
  by_cases hbad : p = 80 ∨ (¬ tK n tb (tP n tb i) = 6 ∧ ¬ tK n tb (tP n tb i) = 7 ∧ ¬ tK n tb (tP n tb i) = 8 ∧ ¬ tK n tb (tP n tb i) = 9)
  · refine ⟨.inl i, ⟨Nat.le_refl _, hi⟩, fun dd h em k L hdd he hk hC => ?_, fun nx sl dd h cs L hdd hcl hM => ?_⟩
    · obtain ⟨h', r, a1, p', a2, a3⟩ := c_part_bad (G := G) (d := dd) (nx := nx) (sl := sl) hC hi hT hp hdp (fun _ => h19) hbad (by omega)
      exact ⟨h', r, a1, em, p', a2, a3⟩
    · exact m_part_bad hG hM hn hb hp h19 hbad (by omega)
  have hp80 : p < 80 := by omega
  have hK : tK n tb (tP n tb i) = 6 ∨ tK n tb (tP n tb i) = 7 ∨ tK n tb (tP n tb i) = 8 ∨ tK n tb (tP n tb i) = 9 := by omega
  have hi1 := tok_next hT4 hi (by omega)
  by_cases e8 : tK n tb (tP n tb i) = 8
  · by_cases hc : tK n tb (tP n tb (i + 1)) = 9 ∧ tN n tb (tP n tb (i + 1)) < 32
    · have hi2 := tok_next hT4 hi1 (by omega)
      refine ⟨.inr ([(8, nI (tN n tb (tP n tb (i + 1))))], i + 2, p + 1), ⟨by omega, by omega, by simp only [List.length_singleton]; omega, by omega, xQ1_le (xQ1_cell hc.2) (by omega)⟩, fun dd h em k L hdd he hk hC => ?_, fun nx sl dd h cs L hdd hcl hM => ?_⟩
      · exact c_part_cell_ok hC (by omega) hT hp80 hdp (by omega) e8 hc.1 hc.2 (by omega)
      · exact m_part_cell_ok hG hM hn hb hp80 (by omega) e8 hc.1 hc.2 (by omega)
    · refine ⟨.inl (i + 1), ⟨by omega, hi1⟩, fun dd h em k L hdd he hk hC => ?_, fun nx sl dd h cs L hdd hcl hM => ?_⟩
      · obtain ⟨h', r, a1, a2⟩ := c_part_cell_bad (G := G) (d := dd) (nx := nx) (sl := sl) hC hi1 hT hn hp80 hdp e8 hc (by omega)
        exact ⟨h', r, a1, em, p + 1, by omega, a2⟩
      · exact m_part_cell_bad hG hM hn hb hp80 (by omega) e8 hc (by omega)
  by_cases e9 : tK n tb (tP n tb i) = 9
  · refine ⟨.inr ([(9, nI (tN n tb (tP n tb i)))], i + 1, p + 1), ⟨by omega, by omega, by simp only [List.length_singleton]; omega, by omega, xQ1_le xQ1_num (by omega)⟩, fun dd h em k L hdd he hk hC => ?_, fun nx sl dd h cs L hdd hcl hM => ?_⟩
    · have r := c_part_val (G := G) (d := dd) (nx := nx) (sl := sl) (dp := dp) hC (by omega) hT hp80 hdp (by omega) (Or.inl e9) (by omega)
      rw [e9] at r
      exact r
    · exact m_part_num hG hM hn hb hp80 (by omega) e9 (by omega)
  by_cases e6 : tK n tb (tP n tb i) = 6
  · refine ⟨.inr ([(6, nI (tN n tb (tP n tb i)))], i + 1, p + 1), ⟨by omega, by omega, by simp only [List.length_singleton]; omega, by omega, xQ1_le xQ1_srv (by omega)⟩, fun dd h em k L hdd he hk hC => ?_, fun nx sl dd h cs L hdd hcl hM => ?_⟩
    · have r := c_part_val (G := G) (d := dd) (nx := nx) (sl := sl) (dp := dp) hC (by omega) hT hp80 hdp (by omega) (Or.inr (Or.inl e6)) (by omega)
      rw [e6] at r
      exact r
    · exact m_part_word (x := 2) hG hM hn hb hp80 (by omega) (Or.inl ⟨e6, rfl⟩) (by omega)
  have e7 : tK n tb (tP n tb i) = 7 := by omega
  refine ⟨.inr ([(7, nI (tN n tb (tP n tb i)))], i + 1, p + 1), ⟨by omega, by omega, by simp only [List.length_singleton]; omega, by omega, xQ1_le xQ1_stp (by omega)⟩, fun dd h em k L hdd he hk hC => ?_, fun nx sl dd h cs L hdd hcl hM => ?_⟩
  · have r := c_part_val (G := G) (d := dd) (nx := nx) (sl := sl) (dp := dp) hC (by omega) hT hp80 hdp (by omega) (Or.inr (Or.inr e7)) (by omega)
    rw [e7] at r
    exact r
  · exact m_part_word (x := 3) hG hM hn hb hp80 (by omega) (Or.inr ⟨e7, rfl⟩) (by omega)
end XJPART

