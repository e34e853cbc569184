/-! ===== effects: class and model read the same ===== -/
abbrev xEfx : Type := Nat × List (Nat × Int32)
def xGe (T i : Nat) (k : Nat) (o : Nat ⊕ (List xEfx × Nat × Nat)) : Prop := match o with
  | .inl j => i ≤ j ∧ j < T
  | .inr (Q, i', p') => i + 1 ≤ i' ∧ i' < T ∧ (Q.flatMap xes).length + i + 2 ≤ i' ∧ (Q.flatMap meff).length + 3 * i ≤ 3 * i' ∧ p' ≤ 80 ∧ (∀ q ∈ Q, xWe q) ∧ k + Q.length ≤ 8
def xCe (B n : Nat) (tb : Nat → Nat) (T : Nat) (em : List (Nat × Int32)) (h' : xH) (o : Nat ⊕ (List xEfx × Nat × Nat)) : Prop := match o with
  | .inl j => ∃ em' p', p' ≤ 80 ∧ xCs B n tb T em' j p' (nI (tP n tb j)) h'
  | .inr (Q, i', p') => xCs B n tb T (em ++ Q.flatMap xes) i' p' (-2) h'
def xMe (M n : Nat) (tb : Nat → Nat) (tn tk rk : Int32) (lt : Value) (pc od : Int32) (pre : List Int32) (c : Nat) (body : List Int32) (h' : xH) (o : Nat ⊕ (List xEfx × Nat × Nat)) : Prop := match o with
  | .inl j => xMq M n tb tn tk rk lt pc od (nI (tP n tb j)) h'
  | .inr (Q, i', p') => xMp M n tb tn tk rk lt pc od (pre ++ nI (c + Q.length) :: (body ++ Q.flatMap meff)) i' p' (-1) h'
def xev' {α : Type} (o : Nat ⊕ α) : Int32 := match o with
  | .inl _ => 0
  | .inr _ => 1
section XJEFF
variable {G : xG} {nx sl B M n : Nat} {tb : Nat → Nat} {T : Nat} {tn tk rk : Int32} {lt : Value} {pc od : Int32}
set_option maxHeartbeats 8000000 in
theorem j_eff (ht : xTok G n tb T) : ∀ m i p k, T ≤ i + m → i < T → p ≤ 80 → k ≤ 8 → ∃ o, xGe T i k o ∧ (∀ dd h em L, 28 ≤ dd → em.length ≤ i + 5 → xCs B n tb T em i p (-2) h → ∃ h', xRun G dd 34 (4, [some (.ref (B + 3)), some (.int 1), some (.int (nI k)), L], [], (h, nx, sl)) (none, (h', nx, sl)) ∧ xfr B h h' ∧ xCe B n tb T em h' o) ∧ ∀ nx sl dd h pre body (L1 : Int32), 30 ≤ dd → pre.length + body.length ≤ 3 * i + 60 → xMp M n tb tn tk rk lt pc od (pre ++ nI k :: body) i p (-1) h → ∃ h', xRun G dd 88 (126, [some (.ref M), some (.int L1), some (.int (nI pre.length)), some (.int 1)], [], (h, nx, sl)) (some (.int (xev' o)), (h', nx, sl)) ∧ xfm M h h' ∧ xMe M n tb tn tk rk lt pc od pre k body h' o := by
  intro m
  induction m with
  | zero => intro i p k h1 h2; omega
  | succ m ih =>
    intro i p k hm hi hp hk8
    have ht0 := ht
    obtain ⟨hG, hn, hb, hT, hT4⟩ := ht
    by_cases e8 : k = 8
    · subst e8
      refine ⟨.inl i, ⟨Nat.le_refl _, hi⟩, fun dd h em L hdd he hC => ?_, fun nx sl dd h pre body L1 hdd hl hM => ?_⟩
      · obtain ⟨h1, r1, a1, a2⟩ := c_fail_ok (G := G) (d := dd - 1) (nx := nx) (sl := sl) hC hi hT
        obtain ⟨-, h3, -⟩ := hC
        refine ⟨h1, ?_, a1, em, p, hp, a2⟩
        refine xr_go i34_4 rfl ?_
        refine xr_if_eqF i34_5 (t := 56) (by decide) (by first | exact (show ¬ (1 : Int32) = 0 by decide) | decide) ?_
        refine xr_go i34_8 rfl ?_
        refine xr_go i34_9 rfl ?_
        refine xr_icmp_geT i34_11 (t := 56) (by decide) (by decide) ?_
        refine xr_go i34_56 rfl ?_
        refine xr_if_eqF i34_57 (t := 64) (by decide) (by first | exact (show ¬ (1 : Int32) = 0 by decide) | decide) ?_
        refine xr_go i34_60 rfl ?_
        refine xr_V i34_61 xc34_68 ⟨rfl, rfl⟩ xa_30 rfl (by assumption) rfl (Nat.le_of_ble_eq_true rfl) (by omega) ⟨Nat.le_of_ble_eq_true rfl, Nat.le_of_ble_eq_true rfl⟩ (r1) ?_
        exact xr_end i34_64 rfl
      · obtain ⟨h1, r1, a1, a2⟩ := m_badP (G := G) (d := dd - 1) (nx := nx) (sl := sl) hM
        obtain ⟨f, hf0, hf1, hf2⟩ := xMp_arr hM
        have hfc : f pre.length = nI 8 := by rw [hf1 pre.length (by simp)]; exact gd_mid
        obtain ⟨⟨nu, -, hO⟩, -⟩ := hM
        refine ⟨h1, ?_, a1, a2⟩
        refine xr_go i88_126 rfl ?_
        refine xr_get i88_127 xf88_55 (by assumption) rfl rfl ?_
        refine xr_go i88_130 rfl ?_
        refine xr_iald i88_131 (by assumption) rfl (by omega) (by omega) ?_
        rw [hfc]
        refine xr_go i88_132 rfl ?_
        refine xr_icmp_neF i88_134 (t := 142) (by decide) rfl ?_
        refine xr_go i88_137 rfl ?_
        refine xr_V i88_138 xc88_152 ⟨rfl, rfl⟩ xa_89 rfl (by assumption) rfl (Nat.le_of_ble_eq_true rfl) (by omega) ⟨Nat.le_of_ble_eq_true rfl, Nat.le_of_ble_eq_true rfl⟩ (r1) ?_
        exact xr_iret i88_141 xt_88 rfl
    have hk : k < 8 := by omega
    have headC : ∀ dd (h : xH) (L : Option Value) (res : Option Value × xW), xRun G dd 34 (17, [some (.ref (B + 3)), some (.int 1), some (.int (nI k)), L], [.int 8, .ref (B + 3)], (h, nx, sl)) res → xRun G dd 34 (4, [some (.ref (B + 3)), some (.int 1), some (.int (nI k)), L], [], (h, nx, sl)) res := by
      intro dd h L res r
      refine xr_go i34_4 rfl ?_
      refine xr_if_eqF i34_5 (t := 56) (by decide) (by first | exact (show ¬ (1 : Int32) = 0 by decide) | decide) ?_
      refine xr_go i34_8 rfl ?_
      refine xr_go i34_9 rfl ?_
      refine xr_icmp_geF i34_11 (t := 56) (by decide) (show ¬ nI 8 ≤ nI k from nI_ge hk (by omega)) ?_
      refine xr_go i34_14 rfl ?_
      refine xr_go i34_15 rfl ?_
      exact r
    have headM : ∀ nx sl dd h pre body (L1 : Int32), 30 ≤ dd → pre.length + body.length ≤ 3 * i + 60 → xMp M n tb tn tk rk lt pc od (pre ++ nI k :: body) i p (-1) h → ∃ k1, (∀ res, xRun G dd 88 (153, [some (.ref M), some (.int L1), some (.int (nI pre.length)), some (.int 1)], [.ref M], (k1, nx, sl)) res → xRun G dd 88 (126, [some (.ref M), some (.int L1), some (.int (nI pre.length)), some (.int 1)], [], (h, nx, sl)) res) ∧ xfm M h k1 ∧ xMp M n tb tn tk rk lt pc od (pre ++ nI (k + 1) :: body) i p (-1) k1 := by
      intro nx sl dd h pre body L1 hdd hl hM
      obtain ⟨f, hf0, hf1, hf2⟩ := xMp_arr hM
      obtain ⟨k1, ek1⟩ : ∃ y : xH, y = xup h (M + 35) (.inl (0, 1600, .inl (upd f pre.length (nI (k + 1))))) := ⟨_, rfl⟩
      obtain ⟨d1, d2⟩ := hf2 pre.length (nI (k + 1)) k1 (by simp) ek1
      rw [set_mid] at d1
      have hfc : f pre.length = nI k := by rw [hf1 pre.length (by simp)]; exact gd_mid
      obtain ⟨⟨nu, -, hO⟩, -⟩ := hM
      refine ⟨k1, fun res r => ?_, d2, d1⟩
      refine xr_go i88_126 rfl ?_
      refine xr_get i88_127 xf88_55 (by assumption) rfl rfl ?_
      refine xr_go i88_130 rfl ?_
      refine xr_iald i88_131 (by assumption) rfl (by omega) (by omega) ?_
      rw [hfc]
      refine xr_go i88_132 rfl ?_
      refine xr_icmp_neT i88_134 (t := 142) (by decide) (fun z => by have := (nI_eq (b := 8) (by omega) (by omega)).mp z; omega) ?_
      refine xr_go i88_142 rfl ?_
      refine xr_get i88_143 xf88_55 (by assumption) rfl rfl ?_
      refine xr_go i88_146 rfl ?_
      refine xr_go i88_147 rfl ?_
      refine xr_iald i88_148 (by assumption) rfl (by omega) (by omega) ?_
      rw [hfc]
      refine xr_go i88_149 rfl ?_
      refine xr_go i88_150 rfl ?_
      refine xr_top (show _ = nI (k + 1) from nI_add k 1) ?_
      refine xr_iast i88_151 (by assumption) rfl (by omega) (by omega) (fun z1 ez1 => ?_)
      obtain rfl : z1 = k1 := ez1.trans ek1.symm
      refine xr_go i88_152 rfl ?_
      exact r
    by_cases e1 : tK n tb (tP n tb i) = 8
    case neg =>
      refine ⟨.inl i, ⟨Nat.le_refl _, hi⟩, fun dd h em L hdd he hC => ?_, fun nx sl dd h pre body L1 hdd hl hM => ?_⟩
      · obtain ⟨h1, r1, a1, a2⟩ := c_req_bad (G := G) (d := dd - 1) (nx := nx) (sl := sl) (K := 8) hC hi hT (by omega) e1 (by omega)
        obtain ⟨h2, r2, b1, p', b2, b3⟩ := cf_eff20 (G := G) (d := dd) (nx := nx) (sl := sl) (L3 := L) (k := k) a2 (tP_nn hn) hi hT hp (by omega) (by omega)
        obtain ⟨-, h3, -⟩ := hC
        refine ⟨h2, headC dd h L _ ?_, a1.trans b1, em, p', b2, b3⟩
        refine xr_V i34_17 xc34_84 ⟨rfl, rfl⟩ xa_29 rfl (by assumption) rfl (Nat.le_of_ble_eq_true rfl) (by omega) ⟨Nat.le_of_ble_eq_true rfl, Nat.le_of_ble_eq_true rfl⟩ (r1) ?_
        exact r2
      · obtain ⟨k1, hd, a1, a2⟩ := headM nx sl dd h pre body L1 hdd hl hM
        obtain ⟨h2, r2, b1, b2⟩ := m_cell_no (G := G) (d := dd - 1) (nx := nx) (sl := sl) hG a2 hn hb (by omega) e1
        obtain ⟨⟨nu, -, hO⟩, -⟩ := a2
        refine ⟨h2, hd _ ?_, a1.trans b1, b2⟩
        refine xr_V i88_153 xc88_187 ⟨rfl, rfl⟩ xa_97 rfl (by assumption) rfl (Nat.le_of_ble_eq_true rfl) (by omega) ⟨Nat.le_of_ble_eq_true rfl, Nat.le_of_ble_eq_true rfl⟩ (r2) ?_
        refine xr_if_eqT i88_156 (t := 175) (by decide) rfl ?_
        refine xr_go i88_175 rfl ?_
        exact xr_iret i88_176 xt_88 rfl
    have hi1 := tok_next hT4 hi (by omega)
    by_cases e2 : tK n tb (tP n tb (i + 1)) = 9 ∧ tN n tb (tP n tb (i + 1)) < 32
    case neg =>
      refine ⟨.inl (i + 1), ⟨by omega, hi1⟩, fun dd h em L hdd he hC => ?_, fun nx sl dd h pre body L1 hdd hl hM => ?_⟩
      · obtain ⟨h1, r1, a1, a2⟩ := c_req_yes (G := G) (d := dd - 1) (nx := nx) (sl := sl) hC hi1 hT e1 (by omega)
        obtain ⟨h2, r2, b1, b2⟩ := c_cn_bad (G := G) (d := dd - 1) (nx := nx) (sl := sl) a2 hi1 hT e2 (by omega)
        obtain ⟨h3, r3, d1, p', d2, d3⟩ := cf_eff25 (G := G) (d := dd) (nx := nx) (sl := sl) (x := 0) (k := k) b2 (tP_nn hn) hi1 hT hp (by omega) (by omega)
        obtain ⟨-, h3', -⟩ := hC
        have a23 := a2.2.1
        refine ⟨h3, headC dd h L _ ?_, (a1.trans b1).trans d1, em, p', d2, d3⟩
        refine xr_V i34_17 xc34_84 ⟨rfl, rfl⟩ xa_29 rfl (by assumption) rfl (Nat.le_of_ble_eq_true rfl) (by omega) ⟨Nat.le_of_ble_eq_true rfl, Nat.le_of_ble_eq_true rfl⟩ (r1) ?_
        refine xr_go i34_20 rfl ?_
        refine xr_V i34_21 xc34_89 ⟨rfl, rfl⟩ xa_32 rfl (by assumption) rfl (Nat.le_of_ble_eq_true rfl) (by omega) ⟨Nat.le_of_ble_eq_true rfl, Nat.le_of_ble_eq_true rfl⟩ (r2) ?_
        refine xr_go i34_24 rfl ?_
        exact r3
      · obtain ⟨k1, hd, a1, a2⟩ := headM nx sl dd h pre body L1 hdd hl hM
        obtain ⟨h2, r2, b1, b2⟩ := m_cell_bad (G := G) (d := dd - 1) (nx := nx) (sl := sl) hG a2 hn hb (by omega) e1 e2
        obtain ⟨⟨nu, -, hO⟩, -⟩ := a2
        refine ⟨h2, hd _ ?_, a1.trans b1, b2⟩
        refine xr_V i88_153 xc88_187 ⟨rfl, rfl⟩ xa_97 rfl (by assumption) rfl (Nat.le_of_ble_eq_true rfl) (by omega) ⟨Nat.le_of_ble_eq_true rfl, Nat.le_of_ble_eq_true rfl⟩ (r2) ?_
        refine xr_if_eqT i88_156 (t := 175) (by decide) rfl ?_
        refine xr_go i88_175 rfl ?_
        exact xr_iret i88_176 xt_88 rfl
    obtain ⟨e2, e2'⟩ := e2
    have hi2 : i + 2 < T := tok_next hT4 hi1 (by omega)
    have cellC : ∀ dd h em L, 28 ≤ dd → xCs B n tb T em i p (-2) h → ∃ h1, (∀ res, xRun G dd 34 (25, [some (.ref (B + 3)), some (.int 1), some (.int (nI k)), some (.int (nI (tN n tb (tP n tb (i + 1)))))], [], (h1, nx, sl)) res → xRun G dd 34 (4, [some (.ref (B + 3)), some (.int 1), some (.int (nI k)), L], [], (h, nx, sl)) res) ∧ xfr B h h1 ∧ xCs B n tb T em (i + 2) p (-2) h1 := by
      intro dd h em L hdd hC
      obtain ⟨h1, r1, a1, a2⟩ := c_req_yes (G := G) (d := dd - 1) (nx := nx) (sl := sl) hC hi1 hT e1 (by omega)
      obtain ⟨h2, r2, b1, b2⟩ := c_cn_ok (G := G) (d := dd - 1) (nx := nx) (sl := sl) a2 hi2 hT e2 e2' (by omega)
      obtain ⟨-, h3', -⟩ := hC
      have a23 := a2.2.1
      refine ⟨h2, fun res r => headC dd h L _ ?_, a1.trans b1, b2⟩
      refine xr_V i34_17 xc34_84 ⟨rfl, rfl⟩ xa_29 rfl (by assumption) rfl (Nat.le_of_ble_eq_true rfl) (by omega) ⟨Nat.le_of_ble_eq_true rfl, Nat.le_of_ble_eq_true rfl⟩ (r1) ?_
      refine xr_go i34_20 rfl ?_
      refine xr_V i34_21 xc34_89 ⟨rfl, rfl⟩ xa_32 rfl (by assumption) rfl (Nat.le_of_ble_eq_true rfl) (by omega) ⟨Nat.le_of_ble_eq_true rfl, Nat.le_of_ble_eq_true rfl⟩ (r2) ?_
      refine xr_go i34_24 rfl ?_
      exact r
    have cellM : ∀ nx sl dd h pre body (L1 : Int32), 30 ≤ dd → pre.length + body.length ≤ 3 * i + 60 → xMp M n tb tn tk rk lt pc od (pre ++ nI k :: body) i p (-1) h → ∃ h1, (∀ res, xRun G dd 88 (159, [some (.ref M), some (.int L1), some (.int (nI pre.length)), some (.int 1)], [], (h1, nx, sl)) res → xRun G dd 88 (126, [some (.ref M), some (.int L1), some (.int (nI pre.length)), some (.int 1)], [], (h, nx, sl)) res) ∧ xfm M h h1 ∧ xMp M n tb tn tk rk lt pc od (pre ++ nI (k + 1) :: (body ++ [nI (tN n tb (tP n tb (i + 1)))])) (i + 2) p (-1) h1 := by
      intro nx sl dd h pre body L1 hdd hl hM
      obtain ⟨k1, hd, a1, a2⟩ := headM nx sl dd h pre body L1 hdd hl hM
      obtain ⟨h2, r2, b1, b2⟩ := m_cell_ok (G := G) (d := dd - 1) (nx := nx) (sl := sl) hG a2 (by simp only [List.length_append, List.length_cons]; omega) hn hb (by omega) e1 e2 e2'
      obtain ⟨⟨nu, -, hO⟩, -⟩ := a2
      rw [List.append_assoc] at b2
      refine ⟨h2, fun res r => hd _ ?_, a1.trans b1, b2⟩
      refine xr_V i88_153 xc88_187 ⟨rfl, rfl⟩ xa_97 rfl (by assumption) rfl (Nat.le_of_ble_eq_true rfl) (by omega) ⟨Nat.le_of_ble_eq_true rfl, Nat.le_of_ble_eq_true rfl⟩ (r2) ?_
      refine xr_if_eqF i88_156 (t := 175) (by decide) (by first | exact (show ¬ (1 : Int32) = 0 by decide) | decide) ?_
      exact r
    by_cases e3 : tK n tb (tP n tb (i + 2)) = 17
    case neg =>
      refine ⟨.inl (i + 2), ⟨by omega, hi2⟩, fun dd h em L hdd he hC => ?_, fun nx sl dd h pre body L1 hdd hl hM => ?_⟩
      · obtain ⟨h1, r1, a1, a2⟩ := cellC dd h em L hdd hC
        obtain ⟨h2, r2, b1, b2⟩ := c_req_bad (G := G) (d := dd - 1) (nx := nx) (sl := sl) (K := 17) a2 hi2 hT (by omega) e3 (by omega)
        obtain ⟨h3, r3, d1, p', d2, d3⟩ := cf_eff31 (G := G) (d := dd) (nx := nx) (sl := sl) (x := nI (tN n tb (tP n tb (i + 1)))) (k := k) b2 (tP_nn hn) hi2 hT hp (by omega) (by omega)
        have a23 := a2.2.1
        refine ⟨h3, r1 _ ?_, (a1.trans b1).trans d1, em, p', d2, d3⟩
        refine xr_go i34_25 rfl ?_
        refine xr_go i34_26 rfl ?_
        refine xr_V i34_28 xc34_84 ⟨rfl, rfl⟩ xa_29 rfl (by assumption) rfl (Nat.le_of_ble_eq_true rfl) (by omega) ⟨Nat.le_of_ble_eq_true rfl, Nat.le_of_ble_eq_true rfl⟩ (r2) ?_
        exact r3
      · obtain ⟨h1, r1, a1, a2⟩ := cellM nx sl dd h pre body L1 hdd hl hM
        obtain ⟨h2, r2, b1, b2⟩ := m_take_no (G := G) (d := dd - 1) (nx := nx) (sl := sl) (s := 16) hG (by omega) a2 hn hb (by omega) e3
        obtain ⟨⟨nu, -, hO⟩, -⟩ := a2
        refine ⟨h2, r1 _ ?_, a1.trans b1, b2⟩
        refine xr_go i88_159 rfl ?_
        refine xr_ldc i88_160 xd88_190 rfl rfl ?_
        refine xr_V i88_162 xc88_184 ⟨rfl, rfl⟩ xa_96 rfl (by assumption) rfl (Nat.le_of_ble_eq_true rfl) (by omega) ⟨Nat.le_of_ble_eq_true rfl, Nat.le_of_ble_eq_true rfl⟩ (r2) ?_
        refine xr_if_eqT i88_165 (t := 175) (by decide) rfl ?_
        refine xr_go i88_175 rfl ?_
        exact xr_iret i88_176 xt_88 rfl
    have hi3 : i + 3 < T := tok_next hT4 hi2 (by omega)
    obtain ⟨o1, g1, c1, m1⟩ := j_whole (G := G) (nx := nx) (sl := sl) (B := B) (M := M) (tn := tn) (tk := tk) (rk := rk) (lt := lt) (pc := pc) (od := od) (i := i + 3) (p := p) ht0 hi3 hp
    have sumC : ∀ dd h em L, 28 ≤ dd → em.length ≤ i + 5 → xCs B n tb T em i p (-2) h → ∃ h1, (∀ res, xRun G dd 34 (36, [some (.ref (B + 3)), some (.int 1), some (.int (nI k)), some (.int (nI (tN n tb (tP n tb (i + 1)))))], [], (h1, nx, sl)) res → xRun G dd 34 (4, [some (.ref (B + 3)), some (.int 1), some (.int (nI k)), L], [], (h, nx, sl)) res) ∧ xfr B h h1 ∧ xCq B n tb T em o1 h1 := by
      intro dd h em L hdd he hC
      obtain ⟨h1, r1, a1, a2⟩ := cellC dd h em L hdd hC
      obtain ⟨h2, r2, b1, b2⟩ := c_req_yes (G := G) (d := dd - 1) (nx := nx) (sl := sl) a2 hi3 hT e3 (by omega)
      obtain ⟨h3, r3, d1, d2⟩ := c1 (dd - 1) h2 em (by omega) (by omega) b2
      have a23 := a2.2.1
      have b23 := b2.2.1
      refine ⟨h3, fun res r => r1 _ ?_, (a1.trans b1).trans d1, d2⟩
      refine xr_go i34_25 rfl ?_
      refine xr_go i34_26 rfl ?_
      refine xr_V i34_28 xc34_84 ⟨rfl, rfl⟩ xa_29 rfl (by assumption) rfl (Nat.le_of_ble_eq_true rfl) (by omega) ⟨Nat.le_of_ble_eq_true rfl, Nat.le_of_ble_eq_true rfl⟩ (r2) ?_
      refine xr_go i34_31 rfl ?_
      refine xr_go i34_32 rfl ?_
      refine xr_V i34_33 xc34_80 ⟨rfl, rfl⟩ xa_26 rfl (by assumption) rfl (Nat.le_of_ble_eq_true rfl) (by omega) ⟨Nat.le_of_ble_eq_true rfl, Nat.le_of_ble_eq_true rfl⟩ (r3) ?_
      exact r
    have sumM : ∀ nx sl dd h pre body (L1 : Int32), 30 ≤ dd → pre.length + body.length ≤ 3 * i + 60 → xMp M n tb tn tk rk lt pc od (pre ++ nI k :: body) i p (-1) h → ∃ h1, (∀ res, xRun G dd 88 (172, [some (.ref M), some (.int L1), some (.int (nI pre.length)), some (.int 1)], [.int (xrv o1)], (h1, nx, sl)) res → xRun G dd 88 (126, [some (.ref M), some (.int L1), some (.int (nI pre.length)), some (.int 1)], [], (h, nx, sl)) res) ∧ xfm M h h1 ∧ xMw1 M n tb tn tk rk lt pc od (pre ++ nI (k + 1) :: (body ++ [nI (tN n tb (tP n tb (i + 1)))])) o1 h1 := by
      intro nx sl dd h pre body L1 hdd hl hM
      obtain ⟨h1, r1, a1, a2⟩ := cellM nx sl dd h pre body L1 hdd hl hM
      obtain ⟨h2, r2, b1, b2⟩ := m_take_yes (G := G) (d := dd - 1) (nx := nx) (sl := sl) (s := 16) hG (by omega) a2 hn hb (by omega) e3
      obtain ⟨h3, r3, d1, d2⟩ := m1 nx sl (dd - 1) h2 _ (by omega) (by simp only [List.length_append, List.length_cons, List.length_nil]; omega) b2
      obtain ⟨⟨nu, -, hO⟩, -⟩ := a2
      obtain ⟨⟨nu2, -, hO2⟩, -⟩ := b2
      refine ⟨h3, fun res r => r1 _ ?_, (a1.trans b1).trans d1, d2⟩
      refine xr_go i88_159 rfl ?_
      refine xr_ldc i88_160 xd88_190 rfl rfl ?_
      refine xr_V i88_162 xc88_184 ⟨rfl, rfl⟩ xa_96 rfl (by assumption) rfl (Nat.le_of_ble_eq_true rfl) (by omega) ⟨Nat.le_of_ble_eq_true rfl, Nat.le_of_ble_eq_true rfl⟩ (r2) ?_
      refine xr_if_eqF i88_165 (t := 175) (by decide) (by first | exact (show ¬ (1 : Int32) = 0 by decide) | decide) ?_
      refine xr_go i88_168 rfl ?_
      refine xr_V i88_169 xc88_192 ⟨rfl, rfl⟩ xa_92 rfl (by assumption) rfl (Nat.le_of_ble_eq_true rfl) (by omega) ⟨Nat.le_of_ble_eq_true rfl, Nat.le_of_ble_eq_true rfl⟩ (r3) ?_
      exact r
    cases o1 with
    | inl j =>
      have g' : i + 3 ≤ j ∧ j < T := g1
      refine ⟨.inl j, ⟨by omega, g'.2⟩, fun dd h em L hdd he hC => ?_, fun nx sl dd h pre body L1 hdd hl hM => ?_⟩
      · obtain ⟨h1, r1, a1, em', p', a2, a3⟩ := sumC dd h em L hdd he hC
        exact ⟨h1, r1 _ (cf_eff36 a3 (tP_nn hn) g'.2 hT (by omega) (by omega)), a1, em', p', a2, a3⟩
      · obtain ⟨h1, r1, a1, a2⟩ := sumM nx sl dd h pre body L1 hdd hl hM
        refine ⟨h1, r1 _ ?_, a1, a2⟩
        refine xr_if_neF i88_172 (t := 177) (by decide) rfl ?_
        refine xr_go i88_175 rfl ?_
        exact xr_iret i88_176 xt_88 rfl
    | inr v =>
      obtain ⟨E, i1, p1⟩ := v
      have g' : i + 3 + 1 ≤ i1 ∧ i1 < T ∧ E.length + (i + 3) ≤ i1 ∧ p1 ≤ 80 ∧ xQ1 E 15 := g1
      obtain ⟨q1, q2, q3, q4, q5⟩ := g'
      have hml := mop_len E
      have lenE : (mE E).length = (E.flatMap mop).length + 1 := by unfold mE; simp
      obtain ⟨Q, hQ⟩ : ∃ Q : xEfx, Q = (tN n tb (tP n tb (i + 1)), E) := ⟨_, rfl⟩
      have lQ1 : (xes Q).length = E.length + 1 := by rw [hQ]; unfold xes; simp
      have lQ2 : (meff Q).length = (mE E).length + 1 := by rw [hQ]; unfold meff; simp
      have wQ : xWe Q := by rw [hQ]; exact ⟨e2', q5⟩
      have emitC : ∀ dd h em L, 28 ≤ dd → em.length ≤ i + 5 → xCs B n tb T em i p (-2) h → ∃ h1, (∀ res, xRun G dd 34 (43, [some (.ref (B + 3)), some (.int 1), some (.int (nI k)), some (.int (nI (tN n tb (tP n tb (i + 1)))))], [], (h1, nx, sl)) res → xRun G dd 34 (4, [some (.ref (B + 3)), some (.int 1), some (.int (nI k)), L], [], (h, nx, sl)) res) ∧ xfr B h h1 ∧ xCs B n tb T (em ++ xes Q) i1 p1 (-2) h1 := by
        intro dd h em L hdd he hC
        obtain ⟨h1, r1, a1, a2⟩ := sumC dd h em L hdd he hC
        have a2' : xCs B n tb T (em ++ E) i1 p1 (-2) h1 := a2
        obtain ⟨h2, r2, b1, b2⟩ := c_emit_ok (G := G) (d := dd - 1) (nx := nx) (sl := sl) (K := 17) (x := 17) (v := nI (tN n tb (tP n tb (i + 1)))) rfl a2' (by rw [List.length_append]; omega)
        have a23 := a2'.2.1
        rw [List.append_assoc] at b2
        refine ⟨h2, fun res r => r1 _ ?_, a1.trans b1, by rw [hQ]; exact b2⟩
        refine xr_go i34_36 rfl ?_
        refine xr_go i34_37 rfl ?_
        refine xr_go i34_39 rfl ?_
        refine xr_V i34_40 xc34_60 ⟨rfl, rfl⟩ xa_33 rfl (by assumption) rfl (Nat.le_of_ble_eq_true rfl) (by omega) ⟨Nat.le_of_ble_eq_true rfl, Nat.le_of_ble_eq_true rfl⟩ (r2) ?_
        exact r
      have emitM : ∀ nx sl dd h pre body (L1 : Int32), 30 ≤ dd → pre.length + body.length ≤ 3 * i + 60 → xMp M n tb tn tk rk lt pc od (pre ++ nI k :: body) i p (-1) h → ∃ h1, (∀ res, xRun G dd 88 (172, [some (.ref M), some (.int L1), some (.int (nI pre.length)), some (.int 1)], [.int 1], (h1, nx, sl)) res → xRun G dd 88 (126, [some (.ref M), some (.int L1), some (.int (nI pre.length)), some (.int 1)], [], (h, nx, sl)) res) ∧ xfm M h h1 ∧ xMp M n tb tn tk rk lt pc od (pre ++ nI (k + 1) :: (body ++ meff Q)) i1 p1 (-1) h1 := by
        intro nx sl dd h pre body L1 hdd hl hM
        obtain ⟨h1, r1, a1, a2⟩ := sumM nx sl dd h pre body L1 hdd hl hM
        have a2' : xMp M n tb tn tk rk lt pc od (pre ++ nI (k + 1) :: (body ++ [nI (tN n tb (tP n tb (i + 1)))]) ++ mE E) i1 p1 (-1) h1 := a2
        rw [List.append_assoc, List.cons_append, List.append_assoc] at a2'
        exact ⟨h1, r1, a1, by rw [hQ]; exact a2'⟩
      by_cases h18 : tK n tb (tP n tb i1) = 18
      · have hi4 := tok_next hT4 q2 (by omega)
        obtain ⟨o2, g2, c2, m2⟩ := ih (i1 + 1) p1 (k + 1) (by omega) hi4 q4 (by omega)
        have runC : ∀ dd h em L, 28 ≤ dd → em.length ≤ i + 5 → xCs B n tb T em i p (-2) h → ∃ h', xRun G dd 34 (4, [some (.ref (B + 3)), some (.int 1), some (.int (nI k)), L], [], (h, nx, sl)) (none, (h', nx, sl)) ∧ xfr B h h' ∧ xCe B n tb T (em ++ xes Q) h' o2 := by
          intro dd h em L hdd he hC
          obtain ⟨h1, r1, a1, a2⟩ := emitC dd h em L hdd he hC
          obtain ⟨h2, r2, b1, b2⟩ := c_acc_yes (G := G) (d := dd - 1) (nx := nx) (sl := sl) a2 hi4 hT h18
          obtain ⟨h3, r3, d1, d2⟩ := c2 dd h2 (em ++ xes Q) (some (.int (nI (tN n tb (tP n tb (i + 1)))))) hdd (by rw [List.length_append]; omega) b2
          have a23 := a2.2.1
          refine ⟨h3, r1 _ ?_, (a1.trans b1).trans d1, d2⟩
          refine xr_go i34_43 rfl ?_
          refine xr_go i34_44 rfl ?_
          refine xr_V i34_46 xc34_48 ⟨rfl, rfl⟩ xa_24 rfl (by assumption) rfl (Nat.le_of_ble_eq_true rfl) (by omega) ⟨Nat.le_of_ble_eq_true rfl, Nat.le_of_ble_eq_true rfl⟩ (r2) ?_
          refine xr_go i34_49 rfl ?_
          refine xr_inc1 i34_50 rfl rfl ?_
          refine xr_goto i34_53 (t := 4) (by decide) ?_
          exact r3
        have runM : ∀ nx sl dd h pre body (L1 : Int32), 30 ≤ dd → pre.length + body.length ≤ 3 * i + 60 → xMp M n tb tn tk rk lt pc od (pre ++ nI k :: body) i p (-1) h → ∃ h', xRun G dd 88 (126, [some (.ref M), some (.int L1), some (.int (nI pre.length)), some (.int 1)], [], (h, nx, sl)) (some (.int (xev' o2)), (h', nx, sl)) ∧ xfm M h h' ∧ xMe M n tb tn tk rk lt pc od pre (k + 1) (body ++ meff Q) h' o2 := by
          intro nx sl dd h pre body L1 hdd hl hM
          obtain ⟨h1, r1, a1, a2⟩ := emitM nx sl dd h pre body L1 hdd hl hM
          have qa := m_isP (G := G) (d := dd - 1) (nx := nx) (sl := sl) (s := 17) hG (by omega) a2 hn hb (by omega)
          rw [decide_eq_true (show tK n tb (tP n tb i1) = tkind.getD 17 0 from h18)] at qa
          obtain ⟨h2, r2, b1, b2⟩ := m_stepP (G := G) (d := dd - 1) (nx := nx) (sl := sl) hG a2 hn hb (by omega)
          obtain ⟨h3, r3, d1, d2⟩ := m2 nx sl dd h2 pre (body ++ meff Q) L1 hdd (by rw [List.length_append]; omega) b2
          obtain ⟨⟨nu, -, hO⟩, -⟩ := a2
          refine ⟨h3, r1 _ ?_, (a1.trans b1).trans d1, d2⟩
          refine xr_if_neT i88_172 (t := 177) (by decide) (by first | exact (show ¬ (1 : Int32) = 0 by decide) | decide) ?_
          refine xr_go i88_177 rfl ?_
          refine xr_ldc i88_178 xd88_195 rfl rfl ?_
          refine xr_V i88_180 xc88_102 ⟨rfl, rfl⟩ xa_86 rfl (by assumption) rfl (Nat.le_of_ble_eq_true rfl) (by omega) ⟨Nat.le_of_ble_eq_true rfl, Nat.le_of_ble_eq_true rfl⟩ (qa) ?_
          refine xr_go i88_183 rfl ?_
          refine xr_go i88_184 rfl ?_
          refine xr_if_eqF i88_185 (t := 122) (by decide) (by first | exact (show ¬ (1 : Int32) = 0 by decide) | decide) ?_
          refine xr_go i88_188 rfl ?_
          refine xr_V i88_189 xc88_156 ⟨rfl, rfl⟩ xa_84 rfl (by assumption) rfl (Nat.le_of_ble_eq_true rfl) (by omega) ⟨Nat.le_of_ble_eq_true rfl, Nat.le_of_ble_eq_true rfl⟩ (r2) ?_
          refine xr_goto i88_192 (t := 122) (by decide) ?_
          refine xr_go i88_122 rfl ?_
          refine xr_if_eqF i88_123 (t := 195) (by decide) (by first | exact (show ¬ (1 : Int32) = 0 by decide) | decide) ?_
          exact r3
        cases o2 with
        | inl j =>
          have g'' : i1 + 1 ≤ j ∧ j < T := g2
          exact ⟨.inl j, ⟨by omega, g''.2⟩, fun dd h em L hdd he hC => runC dd h em L hdd he hC, fun nx sl dd h pre body L1 hdd hl hM => runM nx sl dd h pre body L1 hdd hl hM⟩
        | inr v =>
          obtain ⟨QS, i2, p2⟩ := v
          have g'' : i1 + 1 + 1 ≤ i2 ∧ i2 < T ∧ (QS.flatMap xes).length + (i1 + 1) + 2 ≤ i2 ∧ (QS.flatMap meff).length + 3 * (i1 + 1) ≤ 3 * i2 ∧ p2 ≤ 80 ∧ (∀ q ∈ QS, xWe q) ∧ k + 1 + QS.length ≤ 8 := g2
          obtain ⟨s1, s2, s3, s3', s4, s5, s6⟩ := g''
          refine ⟨.inr (Q :: QS, i2, p2), ⟨by omega, s2, by rw [List.flatMap_cons, List.length_append]; omega, by rw [List.flatMap_cons, List.length_append]; omega, s4, ?_, by rw [List.length_cons]; omega⟩, fun dd h em L hdd he hC => ?_, fun nx sl dd h pre body L1 hdd hl hM => ?_⟩
          · intro z hz
            rcases List.mem_cons.mp hz with rfl | hz
            · exact wQ
            · exact s5 z hz
          · obtain ⟨h', r, a1, a2⟩ := runC dd h em L hdd he hC
            refine ⟨h', r, a1, ?_⟩
            have a2' : xCs B n tb T (em ++ xes Q ++ QS.flatMap xes) i2 p2 (-2) h' := a2
            rw [List.append_assoc] at a2'
            show xCs B n tb T (em ++ (Q :: QS).flatMap xes) i2 p2 (-2) h'
            rw [List.flatMap_cons]
            exact a2'
          · obtain ⟨h', r, a1, a2⟩ := runM nx sl dd h pre body L1 hdd hl hM
            refine ⟨h', r, a1, ?_⟩
            show xMp M n tb tn tk rk lt pc od (pre ++ nI (k + (Q :: QS).length) :: (body ++ (Q :: QS).flatMap meff)) i2 p2 (-1) h'
            rw [List.flatMap_cons, List.length_cons, ← List.append_assoc body, show k + (QS.length + 1) = k + 1 + QS.length by omega]
            exact a2
      · refine ⟨.inr ([Q], i1, p1), ⟨by omega, q2, by simp only [List.flatMap_cons, List.flatMap_nil, List.append_nil]; omega, by simp only [List.flatMap_cons, List.flatMap_nil, List.append_nil]; omega, q4, ?_, by rw [List.length_singleton]; omega⟩, fun dd h em L hdd he hC => ?_, fun nx sl dd h pre body L1 hdd hl hM => ?_⟩
        · intro z hz
          rw [List.mem_singleton] at hz
          rw [hz]
          exact wQ
        · obtain ⟨h1, r1, a1, a2⟩ := emitC dd h em L hdd he hC
          have r2 := c_acc_no (G := G) (d := dd - 1) (nx := nx) (sl := sl) (K := 18) a2 q2 hT (by omega) (Or.inr h18)
          have a23 := a2.2.1
          refine ⟨h1, r1 _ ?_, a1, ?_⟩
          · refine xr_go i34_43 rfl ?_
            refine xr_go i34_44 rfl ?_
            refine xr_V i34_46 xc34_48 ⟨rfl, rfl⟩ xa_24 rfl (by assumption) rfl (Nat.le_of_ble_eq_true rfl) (by omega) ⟨Nat.le_of_ble_eq_true rfl, Nat.le_of_ble_eq_true rfl⟩ (r2) ?_
            refine xr_go i34_49 rfl ?_
            refine xr_inc1 i34_50 rfl rfl ?_
            refine xr_goto i34_53 (t := 4) (by decide) ?_
            refine xr_go i34_4 rfl ?_
            refine xr_if_eqT i34_5 (t := 56) (by decide) rfl ?_
            refine xr_go i34_56 rfl ?_
            refine xr_if_eqT i34_57 (t := 64) (by decide) rfl ?_
            exact xr_end i34_64 rfl
          · show xCs B n tb T (em ++ [Q].flatMap xes) i1 p1 (-2) h1
            rw [List.flatMap_cons, List.flatMap_nil, List.append_nil]
            exact a2
        · obtain ⟨h1, r1, a1, a2⟩ := emitM nx sl dd h pre body L1 hdd hl hM
          have qa := m_isP (G := G) (d := dd - 1) (nx := nx) (sl := sl) (s := 17) hG (by omega) a2 hn hb (by omega)
          rw [decide_eq_false (show ¬ tK n tb (tP n tb i1) = tkind.getD 17 0 from h18)] at qa
          have a20 := a2
          obtain ⟨⟨nu, -, hO⟩, -⟩ := a20
          refine ⟨h1, r1 _ ?_, a1, ?_⟩
          · refine xr_if_neT i88_172 (t := 177) (by decide) (by first | exact (show ¬ (1 : Int32) = 0 by decide) | decide) ?_
            refine xr_go i88_177 rfl ?_
            refine xr_ldc i88_178 xd88_195 rfl rfl ?_
            refine xr_V i88_180 xc88_102 ⟨rfl, rfl⟩ xa_86 rfl (by assumption) rfl (Nat.le_of_ble_eq_true rfl) (by omega) ⟨Nat.le_of_ble_eq_true rfl, Nat.le_of_ble_eq_true rfl⟩ (qa) ?_
            refine xr_go i88_183 rfl ?_
            refine xr_go i88_184 rfl ?_
            refine xr_if_eqT i88_185 (t := 122) (by decide) rfl ?_
            refine xr_go i88_122 rfl ?_
            refine xr_if_eqT i88_123 (t := 195) (by decide) rfl ?_
            refine xr_go i88_195 rfl ?_
            exact xr_iret i88_196 xt_88 rfl
          · show xMp M n tb tn tk rk lt pc od (pre ++ nI (k + 1) :: (body ++ [Q].flatMap meff)) i1 p1 (-1) h1
            rw [List.flatMap_cons, List.flatMap_nil, List.append_nil]
            exact a2
end XJEFF

