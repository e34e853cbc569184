/-! ===== the class's history and servers ===== -/
theorem xupdN {f : Nat → Nat} {k x : Nat} : upd (fun j => nI (f j)) k (nI x) = fun j => nI (va_up f k x j) := by
  funext j
  unfold upd va_up
  split <;> rfl
/-- the history: taken, committed; of each write: address, program's addresses, server, stamp, place, program; the commits -/
def xHist (B tak cmt : Nat) (wad pad psa poa sv sp pl : Nat → Nat) (pg : Nat → List (Nat × Int32)) (cm : Nat → Nat) (h : xH) : Prop :=
  (∃ wf : Nat → Option Nat, h (B + 10) = some (.inr (4, [.ref (B + 11), .ref (B + 12), .int (nI tak), .int (nI cmt)])) ∧ h (B + 11) = some (.inl (3, 500, .inr (.inr (.inr (.inr wf))))) ∧ ∀ w, w < tak → wf w = some (wad w)) ∧
  h (B + 12) = some (.inl (0, 500, .inl (fun j => nI (cm j)))) ∧ tak ≤ 500 ∧ cmt ≤ tak ∧
  ∀ w, w < tak → h (wad w) = some (.inr (9, [.int (nI (sv w)), .int (nI (sp w)), .ref (pad w), .int (nI (pl w))])) ∧ xProg (pad w) (psa w) (poa w) (pg w) h ∧ B + 78 ≤ wad w ∧ B + 78 ≤ pad w ∧ B + 78 ≤ psa w ∧ B + 78 ≤ poa w ∧ sv w < 5 ∧ sp w < 2 ^ 31
theorem xHist_kept {B tak cmt : Nat} {wad pad psa poa sv sp pl : Nat → Nat} {pg : Nat → List (Nat × Int32)} {cm : Nat → Nat} {h h' : xH} (hH : xHist B tak cmt wad pad psa poa sv sp pl pg cm h) (hk : ∀ q, (q = B + 10 ∨ q = B + 11 ∨ q = B + 12 ∨ B + 78 ≤ q) → h' q = h q) : xHist B tak cmt wad pad psa poa sv sp pl pg cm h' := by
  obtain ⟨⟨wf, h1, h2, h3⟩, h4, h5, h6, h7⟩ := hH
  refine ⟨⟨wf, (hk _ (by simp)).trans h1, (hk _ (by simp)).trans h2, h3⟩, (hk _ (by simp)).trans h4, h5, h6, fun w hw => ?_⟩
  obtain ⟨g1, ⟨fs, fo, p0, p1, p2, p3⟩, g3, g4, g5, g6, g7⟩ := h7 w hw
  exact ⟨(hk _ (by omega)).trans g1, ⟨fs, fo, (hk _ (by omega)).trans p0, (hk _ (by omega)).trans p1, (hk _ (by omega)).trans p2, p3⟩, g3, g4, g5, g6, g7⟩
/-- a server: (clock, committed, forgotten, tentatives, done), vector, known, tentative, committedCells, cells, outcomes -/
abbrev xSv : Type := (Nat × Nat × Nat × Nat × Nat) × (Nat → Nat) × (Nat → Nat) × (Nat → Nat) × (Nat → Int32) × (Nat → Int32) × (Nat → Nat)
def xSvF (B a : Nat) (n : Nat × Nat × Nat × Nat × Nat) : List Value := [.ref (B + 10), .ref (B + 13), .ref (a + 1), .ref (a + 2), .ref (a + 3), .ref (a + 4), .ref (a + 5), .ref (a + 6), .int (nI n.1), .int (nI n.2.1), .int (nI n.2.2.1), .int (nI n.2.2.2.1), .int (nI n.2.2.2.2)]
def xSrv (B a : Nat) (S : xSv) (h : xH) : Prop :=
  h a = some (.inr (6, xSvF B a S.1)) ∧ h (a + 1) = some (.inl (0, 5, .inl (fun j => nI (S.2.1 j)))) ∧ h (a + 2) = some (.inl (1, 500, .inl (fun j => nI (S.2.2.1 j)))) ∧ h (a + 3) = some (.inl (0, 500, .inl (fun j => nI (S.2.2.2.1 j)))) ∧ h (a + 4) = some (.inl (0, 32, .inl S.2.2.2.2.1)) ∧ h (a + 5) = some (.inl (0, 32, .inl S.2.2.2.2.2.1)) ∧ h (a + 6) = some (.inl (0, 500, .inl (fun j => nI (S.2.2.2.2.2.2 j))))
theorem xSrv_kept {B a : Nat} {S : xSv} {h h' : xH} (hS : xSrv B a S h) (hk : ∀ q, a ≤ q → q ≤ a + 6 → h' q = h q) : xSrv B a S h' := by
  obtain ⟨h0, h1, h2, h3, h4, h5, h6⟩ := hS
  exact ⟨(hk _ (by omega) (by omega)).trans h0, (hk _ (by omega) (by omega)).trans h1, (hk _ (by omega) (by omega)).trans h2, (hk _ (by omega) (by omega)).trans h3, (hk _ (by omega) (by omega)).trans h4, (hk _ (by omega) (by omega)).trans h5, (hk _ (by omega) (by omega)).trans h6⟩
/-- the order of writes: by stamp, then by server -/
def xlt (sv sp : Nat → Nat) (w v : Nat) : Prop := sp w < sp v ∨ (sp w = sp v ∧ sv w < sv v)
theorem xbef_iff {sv sp : Nat → Nat} {w v : Nat} (h1 : sp w < 2 ^ 31) (h2 : sp v < 2 ^ 31) (h3 : sv w < 5) (h4 : sv v < 5) : xbef (nI (sv w)) (nI (sp w)) (nI (sv v)) (nI (sp v)) = true ↔ xlt sv sp w v := by
  unfold xbef xlt
  simp only [Bool.or_eq_true, Bool.and_eq_true, decide_eq_true_eq, nI_ltI h1 h2, nI_eq h1 h2, nI_ltI (show sv w < 2 ^ 31 by omega) (show sv v < 2 ^ 31 by omega)]
/-- a tentative row while a place is made, and with the new write in it -/
def xshF (tN : Nat → Nat) (ten t : Nat) : Nat → Nat := fun j => if t < j ∧ j ≤ ten then tN (j - 1) else tN j
def xinF (tN : Nat → Nat) (ten t w : Nat) : Nat → Nat := va_up (xshF tN ten t) t w
theorem nI_max {x y : Nat} (hx : x < 2 ^ 31) (hy : y < 2 ^ 31) : (if nI x < nI y then nI y else nI x) = nI (max x y) := by
  by_cases h : x < y
  · rw [if_pos (nI_lt h hy), Nat.max_eq_right (by omega)]
  · rw [if_neg (nI_nlt (by omega) hx), Nat.max_eq_left (by omega)]
section XSERV
variable {G : xG} {d : Nat} {h : xH} {nx sl : Nat} {B a tak cmt : Nat} {wad pad psa poa sv sp pl : Nat → Nat} {pg : Nat → List (Nat × Int32)} {cm : Nat → Nat}
set_option maxHeartbeats 4000000 in
theorem s_learn_loop {S : xSv} {w ten : Nat} (hH : xHist B tak cmt wad pad psa poa sv sp pl pg cm h) (hS : xSrv B a S h) (ha : B + 18 ≤ a ∧ a + 6 < B + 53) (hw : w < tak) (htl : ten < 500) (htk : ∀ j, j < ten → S.2.2.2.1 j < tak) (hd : 1 ≤ d) (L0 : Option Value) : ∀ t g, t ≤ ten → (∀ j, t ≤ j → j < ten → xlt sv sp w (S.2.2.2.1 j)) → g = xup h (a + 3) (.inl (0, 500, .inl (fun j => nI (xshF S.2.2.2.1 ten t j)))) →
    ∃ t', t' ≤ ten ∧ (∀ j, t' ≤ j → j < ten → xlt sv sp w (S.2.2.2.1 j)) ∧ (∀ k, t' = k + 1 → ¬ xlt sv sp w (S.2.2.2.1 k)) ∧ ∀ res, (xRun G d 59 (109, [some (.ref a), some (.int (nI w)), some (.ref (wad w)), some (.int (nI t'))], [], (xup h (a + 3) (.inl (0, 500, .inl (fun j => nI (xshF S.2.2.2.1 ten t' j)))), nx, sl)) res → xRun G d 59 (62, [some (.ref a), some (.int (nI w)), some (.ref (wad w)), some (.int (nI t))], [], (g, nx, sl)) res) := by
  obtain ⟨⟨wf, w1, w2, w3⟩, -, h5, -, w7⟩ := hH
  obtain ⟨s0, s1, s2, s3, s4, s5, s6⟩ := hS
  unfold xSvF at s0
  intro t
  induction t with
  | zero =>
    intro g ht hall eg
    refine ⟨0, by omega, hall, fun k hk => by omega, fun res hres => ?_⟩
    refine xr_go i59_62 rfl ?_
    refine xr_if_leT i59_63 (t := 109) (by decide) (by decide) ?_
    rw [eg]
    exact hres
  | succ t ih =>
    intro g ht hall eg
    have htt : t < ten := by omega
    obtain ⟨q1, -, q3, q4, q5, q6, q7, q8⟩ := w7 w hw
    obtain ⟨u1, -, u3, u4, u5, u6, u7, u8⟩ := w7 _ (htk t htt)
    have e0 : xshF S.2.2.2.1 ten (t + 1) t = S.2.2.2.1 t := by unfold xshF; rw [if_neg (by omega)]
    have k0 : g a = some (.inr (6, [.ref (B + 10), .ref (B + 13), .ref (a + 1), .ref (a + 2), .ref (a + 3), .ref (a + 4), .ref (a + 5), .ref (a + 6), .int (nI S.1.1), .int (nI S.1.2.1), .int (nI S.1.2.2.1), .int (nI S.1.2.2.2.1), .int (nI S.1.2.2.2.2)])) := by rw [eg, xup_n (by omega)]; exact s0
    have k1 : g (B + 10) = some (.inr (4, [.ref (B + 11), .ref (B + 12), .int (nI tak), .int (nI cmt)])) := by rw [eg, xup_n (by omega)]; exact w1
    have k2 : g (B + 11) = some (.inl (3, 500, .inr (.inr (.inr (.inr wf))))) := by rw [eg, xup_n (by omega)]; exact w2
    have k3 : g (a + 3) = some (.inl (0, 500, .inl (fun j => nI (xshF S.2.2.2.1 ten (t + 1) j)))) := by rw [eg]; exact xup_s
    have k4 : g (wad w) = some (.inr (9, [.int (nI (sv w)), .int (nI (sp w)), .ref (pad w), .int (nI (pl w))])) := by rw [eg, xup_n (by omega)]; exact q1
    have k5 : g (wad (S.2.2.2.1 t)) = some (.inr (9, [.int (nI (sv (S.2.2.2.1 t))), .int (nI (sp (S.2.2.2.1 t))), .ref (pad (S.2.2.2.1 t)), .int (nI (pl (S.2.2.2.1 t)))])) := by rw [eg, xup_n (by omega)]; exact u1
    have k6 : wf (S.2.2.2.1 t) = some (wad (S.2.2.2.1 t)) := w3 _ (htk t htt)
    have htk' := htk t htt
    have rb := s_before (G := G) (d := d - 1) (nx := nx) (sl := sl) k4 k5
    have head : ∀ res, xRun G d 59 (86, [some (.ref a), some (.int (nI w)), some (.ref (wad w)), some (.int (nI (t + 1)))], [.int (xbi (xbef (nI (sv w)) (nI (sp w)) (nI (sv (S.2.2.2.1 t))) (nI (sp (S.2.2.2.1 t)))))], (g, nx, sl)) res → xRun G d 59 (62, [some (.ref a), some (.int (nI w)), some (.ref (wad w)), some (.int (nI (t + 1)))], [], (g, nx, sl)) res := by
      intro res hres
      refine xr_go i59_62 rfl ?_
      refine xr_if_leF i59_63 (t := 109) (by decide) (nI_nle (by omega) (by omega)) ?_
      refine xr_go i59_66 rfl ?_
      refine xr_go i59_67 rfl ?_
      refine xr_get i59_68 xf59_47 (by assumption) rfl rfl ?_
      refine xr_get i59_71 xf59_55 (by assumption) rfl rfl ?_
      refine xr_go i59_74 rfl ?_
      refine xr_get i59_75 xf59_19 (by assumption) rfl rfl ?_
      refine xr_go i59_78 rfl ?_
      refine xr_go i59_79 rfl ?_
      refine xr_go i59_80 rfl ?_
      refine xr_iald i59_81 (by assumption) (nI_pred t) (by omega) (by omega) ?_
      try dsimp only
      rw [e0]
      refine xr_aald i59_82 k2 (by decide) rfl (by omega) (by omega) k6 ?_
      refine xr_V i59_83 xc59_75 ⟨rfl, rfl⟩ xa_78 rfl (by assumption) rfl (Nat.le_of_ble_eq_true rfl) (by omega) ⟨Nat.le_of_ble_eq_true rfl, Nat.le_of_ble_eq_true rfl⟩ (rb) ?_
      exact hres
    by_cases hb : xlt sv sp w (S.2.2.2.1 t)
    · obtain ⟨t', c1, c2, c3, c4⟩ := ih (xup h (a + 3) (.inl (0, 500, .inl (fun j => nI (xshF S.2.2.2.1 ten t j))))) (by omega) (fun j hj hj2 => by
        by_cases hjt : j = t
        · subst hjt
          exact hb
        · exact hall j (by omega) hj2) rfl
      refine ⟨t', c1, c2, c3, fun res hres => head _ ?_⟩
      refine xr_if_eqF i59_86 (t := 109) (by decide) (by rw [xbi_t ((xbef_iff q8 u8 q7 u7).mpr hb)]; decide) ?_
      refine xr_go i59_89 rfl ?_
      refine xr_get i59_90 xf59_19 (by assumption) rfl rfl ?_
      refine xr_go i59_93 rfl ?_
      refine xr_go i59_94 rfl ?_
      refine xr_get i59_95 xf59_19 (by assumption) rfl rfl ?_
      refine xr_go i59_98 rfl ?_
      refine xr_go i59_99 rfl ?_
      refine xr_go i59_100 rfl ?_
      refine xr_iald i59_101 (by assumption) (nI_pred t) (by omega) (by omega) ?_
      refine xr_iast i59_102 (by assumption) rfl (by omega) (by omega) (fun g1 eg1 => ?_)
      have hg : g1 = xup h (a + 3) (.inl (0, 500, .inl (fun j => nI (xshF S.2.2.2.1 ten t j)))) := by
        rw [eg1, eg, xup_same]
        try dsimp only
        rw [e0, xupdN]
        congr 5
        funext j
        congr 1
        unfold va_up xshF
        by_cases hj : j = t + 1
        · subst hj
          rw [if_pos rfl, if_pos (by omega)]
          rfl
        · rw [if_neg hj]
          by_cases hj2 : t + 1 < j ∧ j ≤ ten
          · rw [if_pos hj2, if_pos (by omega)]
          · rw [if_neg hj2, if_neg (by omega)]
      rw [hg]
      refine xr_dec1 i59_103 rfl rfl ?_
      refine xr_goto i59_106 (t := 62) (by decide) ?_
      exact c4 res hres
    · refine ⟨t + 1, ht, hall, fun k hk => by
        have : k = t := by omega
        subst this
        exact hb, fun res hres => head _ ?_⟩
      have hf : xbef (nI (sv w)) (nI (sp w)) (nI (sv (S.2.2.2.1 t))) (nI (sp (S.2.2.2.1 t))) = false := by
        cases hz : xbef (nI (sv w)) (nI (sp w)) (nI (sv (S.2.2.2.1 t))) (nI (sp (S.2.2.2.1 t))) with
        | false => rfl
        | true => exact absurd ((xbef_iff q8 u8 q7 u7).mp hz) hb
      refine xr_if_eqT i59_86 (t := 109) (by decide) (xbi_f hf) ?_
      rw [eg]
      exact hres
set_option maxHeartbeats 4000000 in
theorem s_learn {clk com fog ten don w : Nat} {vec kno tN oc : Nat → Nat} {cc ce : Nat → Int32} (hH : xHist B tak cmt wad pad psa poa sv sp pl pg cm h) (hS : xSrv B a ((clk, com, fog, ten, don), vec, kno, tN, cc, ce, oc) h) (ha : B + 18 ≤ a ∧ a + 6 < B + 53) (hw : w < tak) (htl : ten < 500) (htk : ∀ j, j < ten → tN j < tak) (hdn : don ≤ ten) (hcl : clk < 2 ^ 31) (hvl : ∀ j, j < 5 → vec j < 2 ^ 31) (hd : 1 ≤ d) :
    ∃ h' t, xRun G d 59 (0, [some (.ref a), some (.int (nI w)), none, none], [], (h, nx, sl)) (none, (h', nx, sl)) ∧ xSrv B a ((max clk (sp w), com, fog, ten + 1, if t < don then 0 else don), va_up vec (sv w) (max (vec (sv w)) (sp w)), va_up kno w 1, xinF tN ten t w, cc, ce, oc) h' ∧ xsame a (a + 6) h h' ∧ t ≤ ten ∧ (∀ j, t ≤ j → j < ten → xlt sv sp w (tN j)) ∧ (∀ k, t = k + 1 → ¬ xlt sv sp w (tN k)) := by
  have hH0 := hH
  have hS0 := hS
  obtain ⟨⟨wf, w1, w2, w3⟩, -, h5, -, w7⟩ := hH
  obtain ⟨s0, s1, s2, s3, s4, s5, s6⟩ := hS
  unfold xSvF at s0
  dsimp only at s0 s1 s2 s3 s4 s5 s6
  obtain ⟨q1, -, q3, q4, q5, q6, q7, q8⟩ := w7 w hw
  have wfw := w3 w hw
  let g1 : xH := xup h (a + 2) (.inl (1, 500, .inl (fun j => nI (va_up kno w 1 j))))
  let g2 : xH := xup g1 a (.inr (6, xSvF B a (max clk (sp w), com, fog, ten, don)))
  let g3 : xH := xup g2 (a + 1) (.inl (0, 5, .inl (fun j => nI (va_up vec (sv w) (max (vec (sv w)) (sp w)) j))))
  have hsame3 : xsame a (a + 6) h g3 := ((xsame.up (c := a + 2) (by omega) (rfl : g1 = _)).trans (xsame.up (c := a) (by omega) (rfl : g2 = _))).trans (xsame.up (c := a + 1) (by omega) (rfl : g3 = _))
  have hH3 : xHist B tak cmt wad pad psa poa sv sp pl pg cm g3 := xHist_kept hH0 (fun q hq => hsame3 q (by omega))
  have hS3 : xSrv B a ((max clk (sp w), com, fog, ten, don), va_up vec (sv w) (max (vec (sv w)) (sp w)), va_up kno w 1, tN, cc, ce, oc) g3 := by
    refine ⟨?_, xup_s, ?_, ?_, ?_, ?_, ?_⟩
    · show xup g2 (a + 1) _ a = _
      rw [xup_n (by omega)]
      exact xup_s
    · show xup g2 (a + 1) _ (a + 2) = _
      rw [xup_n (by omega)]
      show xup g1 a _ (a + 2) = _
      rw [xup_n (by omega)]
      exact xup_s
    · show xup g2 (a + 1) _ (a + 3) = _
      rw [xup_n (by omega)]
      show xup g1 a _ (a + 3) = _
      rw [xup_n (by omega)]
      show xup h (a + 2) _ (a + 3) = _
      rw [xup_n (by omega)]
      exact s3
    · show xup g2 (a + 1) _ (a + 4) = _
      rw [xup_n (by omega)]
      show xup g1 a _ (a + 4) = _
      rw [xup_n (by omega)]
      show xup h (a + 2) _ (a + 4) = _
      rw [xup_n (by omega)]
      exact s4
    · show xup g2 (a + 1) _ (a + 5) = _
      rw [xup_n (by omega)]
      show xup g1 a _ (a + 5) = _
      rw [xup_n (by omega)]
      show xup h (a + 2) _ (a + 5) = _
      rw [xup_n (by omega)]
      exact s5
    · show xup g2 (a + 1) _ (a + 6) = _
      rw [xup_n (by omega)]
      show xup g1 a _ (a + 6) = _
      rw [xup_n (by omega)]
      show xup h (a + 2) _ (a + 6) = _
      rw [xup_n (by omega)]
      exact s6
  obtain ⟨t, c1, c2, c3, c4⟩ := s_learn_loop (G := G) (nx := nx) (sl := sl) (w := w) (ten := ten) hH3 hS3 ha hw htl htk hd none ten (xup g3 (a + 3) (.inl (0, 500, .inl (fun j => nI (xshF tN ten ten j))))) (Nat.le_refl _) (fun j h1 h2 => by omega) rfl
  have e3 : xup g3 (a + 3) (.inl (0, 500, .inl (fun j => nI (xshF tN ten ten j)))) = g3 := by
    funext q
    by_cases hq : q = a + 3
    · subst hq
      rw [xup_s, hS3.2.2.2.1]
      congr 5
      funext j
      congr 1
      unfold xshF
      rw [if_neg (by omega)]
    · rw [xup_n hq]
  rw [e3] at c4
  let g4 : xH := xup g3 (a + 3) (.inl (0, 500, .inl (fun j => nI (xinF tN ten t w j))))
  let g5 : xH := xup g4 a (.inr (6, xSvF B a (max clk (sp w), com, fog, ten + 1, if t < don then 0 else don)))
  have hS5 : xSrv B a ((max clk (sp w), com, fog, ten + 1, if t < don then 0 else don), va_up vec (sv w) (max (vec (sv w)) (sp w)), va_up kno w 1, xinF tN ten t w, cc, ce, oc) g5 := by
    obtain ⟨v0, v1, v2, v3, v4, v5, v6⟩ := hS3
    refine ⟨xup_s, ?_, ?_, ?_, ?_, ?_, ?_⟩
    · show xup g4 a _ (a + 1) = _
      rw [xup_n (by omega)]
      show xup g3 (a + 3) _ (a + 1) = _
      rw [xup_n (by omega)]
      exact v1
    · show xup g4 a _ (a + 2) = _
      rw [xup_n (by omega)]
      show xup g3 (a + 3) _ (a + 2) = _
      rw [xup_n (by omega)]
      exact v2
    · show xup g4 a _ (a + 3) = _
      rw [xup_n (by omega)]
      exact xup_s
    · show xup g4 a _ (a + 4) = _
      rw [xup_n (by omega)]
      show xup g3 (a + 3) _ (a + 4) = _
      rw [xup_n (by omega)]
      exact v4
    · show xup g4 a _ (a + 5) = _
      rw [xup_n (by omega)]
      show xup g3 (a + 3) _ (a + 5) = _
      rw [xup_n (by omega)]
      exact v5
    · show xup g4 a _ (a + 6) = _
      rw [xup_n (by omega)]
      show xup g3 (a + 3) _ (a + 6) = _
      rw [xup_n (by omega)]
      exact v6
  refine ⟨g5, t, ?_, hS5, (hsame3.trans (xsame.up (c := a + 3) (by omega) (rfl : g4 = _))).trans (xsame.up (c := a) (by omega) (rfl : g5 = _)), c1, c2, c3⟩
  refine xr_go i59_0 rfl ?_
  refine xr_get i59_1 xf59_47 (by assumption) rfl rfl ?_
  refine xr_get i59_4 xf59_55 (by assumption) rfl rfl ?_
  refine xr_go i59_7 rfl ?_
  refine xr_aald i59_8 (by assumption) (by decide) rfl (by omega) (by omega) (by assumption) ?_
  refine xr_go i59_9 rfl ?_
  refine xr_go i59_10 rfl ?_
  refine xr_get i59_11 xf59_15 (by assumption) rfl rfl ?_
  refine xr_go i59_14 rfl ?_
  refine xr_go i59_15 rfl ?_
  refine xr_zast i59_16 (by assumption) rfl (by omega) (by omega) rfl (fun f1 ef1 => ?_)
  have ef1' : f1 = g1 := by
    rw [ef1]
    show _ = xup h (a + 2) _
    congr 5
    exact xupdN
  have k0 : f1 a = some (.inr (6, [.ref (B + 10), .ref (B + 13), .ref (a + 1), .ref (a + 2), .ref (a + 3), .ref (a + 4), .ref (a + 5), .ref (a + 6), .int (nI clk), .int (nI com), .int (nI fog), .int (nI ten), .int (nI don)])) := by rw [ef1, xup_n (by omega)]; exact s0
  have k1 : f1 (wad w) = some (.inr (9, [.int (nI (sv w)), .int (nI (sp w)), .ref (pad w), .int (nI (pl w))])) := by rw [ef1, xup_n (by omega)]; exact q1
  have k2 : f1 (a + 1) = some (.inl (0, 5, .inl (fun j => nI (vec j)))) := by rw [ef1, xup_n (by omega)]; exact s1
  refine xr_go i59_17 rfl ?_
  refine xr_go i59_18 rfl ?_
  refine xr_get i59_19 xf59_31 (by assumption) rfl rfl ?_
  refine xr_go i59_22 rfl ?_
  refine xr_get i59_23 xf59_61 (by assumption) rfl rfl ?_
  refine xr_max i59_26 xc59_66 rfl (by omega) (Nat.le_of_ble_eq_true rfl) (nI_max hcl q8) ?_
  refine xr_put i59_29 xf59_31 (by assumption) ⟨rfl, Nat.le_of_ble_eq_true rfl, rfl, rfl, Or.inl rfl⟩ (fun f2 ef2 => ?_)
  have ef2' : f2 = g2 := by rw [ef2, ef1']; rfl
  have j0 : f2 a = some (.inr (6, [.ref (B + 10), .ref (B + 13), .ref (a + 1), .ref (a + 2), .ref (a + 3), .ref (a + 4), .ref (a + 5), .ref (a + 6), .int (nI (max clk (sp w))), .int (nI com), .int (nI fog), .int (nI ten), .int (nI don)])) := by rw [ef2']; exact xup_s
  have j1 : f2 (wad w) = some (.inr (9, [.int (nI (sv w)), .int (nI (sp w)), .ref (pad w), .int (nI (pl w))])) := by rw [ef2, xup_n (by omega)]; exact k1
  have j2 : f2 (a + 1) = some (.inl (0, 5, .inl (fun j => nI (vec j)))) := by rw [ef2, xup_n (by omega)]; exact k2
  refine xr_go i59_32 rfl ?_
  refine xr_get i59_33 xf59_9 (by assumption) rfl rfl ?_
  refine xr_go i59_36 rfl ?_
  refine xr_get i59_37 xf59_72 (by assumption) rfl rfl ?_
  refine xr_go i59_40 rfl ?_
  refine xr_get i59_41 xf59_9 (by assumption) rfl rfl ?_
  refine xr_go i59_44 rfl ?_
  refine xr_get i59_45 xf59_72 (by assumption) rfl rfl ?_
  refine xr_iald i59_48 (by assumption) rfl (by omega) (by omega) ?_
  refine xr_go i59_49 rfl ?_
  refine xr_get i59_50 xf59_61 (by assumption) rfl rfl ?_
  refine xr_max i59_53 xc59_66 rfl (by omega) (Nat.le_of_ble_eq_true rfl) (nI_max (hvl _ q7) q8) ?_
  refine xr_iast i59_56 (by assumption) rfl (by omega) (by omega) (fun f3 ef3 => ?_)
  have ef3' : f3 = g3 := by
    rw [ef3, ef2']
    show _ = xup g2 (a + 1) _
    congr 5
    exact xupdN
  have i0 : f3 a = some (.inr (6, [.ref (B + 10), .ref (B + 13), .ref (a + 1), .ref (a + 2), .ref (a + 3), .ref (a + 4), .ref (a + 5), .ref (a + 6), .int (nI (max clk (sp w))), .int (nI com), .int (nI fog), .int (nI ten), .int (nI don)])) := by rw [ef3, xup_n (by omega)]; exact j0
  refine xr_go i59_57 rfl ?_
  refine xr_get i59_58 xf59_41 (by assumption) rfl rfl ?_
  refine xr_go i59_61 rfl ?_
  rw [ef3']
  refine c4 _ ?_
  generalize eu : xup g3 (a + 3) (.inl (0, 500, .inl (fun j => nI (xshF tN ten t j)))) = u
  have z0 : u a = some (.inr (6, [.ref (B + 10), .ref (B + 13), .ref (a + 1), .ref (a + 2), .ref (a + 3), .ref (a + 4), .ref (a + 5), .ref (a + 6), .int (nI (max clk (sp w))), .int (nI com), .int (nI fog), .int (nI ten), .int (nI don)])) := by rw [← eu, xup_n (by omega), ← ef3']; exact i0
  have z3 : u (a + 3) = some (.inl (0, 500, .inl (fun j => nI (xshF tN ten t j)))) := by rw [← eu]; exact xup_s
  refine xr_go i59_109 rfl ?_
  refine xr_get i59_110 xf59_19 (by assumption) rfl rfl ?_
  refine xr_go i59_113 rfl ?_
  refine xr_go i59_114 rfl ?_
  refine xr_iast i59_115 (by assumption) rfl (by omega) (by omega) (fun f4 ef4 => ?_)
  have ef4' : f4 = g4 := by
    rw [ef4, ← eu, xup_same]
    show _ = xup g3 (a + 3) _
    congr 5
    exact xupdN
  have y0 : f4 a = some (.inr (6, [.ref (B + 10), .ref (B + 13), .ref (a + 1), .ref (a + 2), .ref (a + 3), .ref (a + 4), .ref (a + 5), .ref (a + 6), .int (nI (max clk (sp w))), .int (nI com), .int (nI fog), .int (nI ten), .int (nI don)])) := by rw [ef4, xup_n (by omega)]; exact z0
  refine xr_go i59_116 rfl ?_
  refine xr_go i59_117 rfl ?_
  refine xr_get i59_118 xf59_41 (by assumption) rfl rfl ?_
  refine xr_go i59_121 rfl ?_
  refine xr_go i59_122 rfl ?_
  refine xr_put i59_123 xf59_41 (by assumption) ⟨rfl, Nat.le_of_ble_eq_true rfl, rfl, rfl, Or.inl rfl⟩ (fun f5 ef5 => ?_)
  have ef5' : f5 = xup g4 a (.inr (6, xSvF B a (max clk (sp w), com, fog, ten + 1, don))) := by
    rw [ef5, ef4']
    show xup g4 a (.inr (6, [.ref (B + 10), .ref (B + 13), .ref (a + 1), .ref (a + 2), .ref (a + 3), .ref (a + 4), .ref (a + 5), .ref (a + 6), .int (nI (max clk (sp w))), .int (nI com), .int (nI fog), .int (nI ten + 1), .int (nI don)])) = _
    rw [nI_1]
    rfl
  have x0 : f5 a = some (.inr (6, [.ref (B + 10), .ref (B + 13), .ref (a + 1), .ref (a + 2), .ref (a + 3), .ref (a + 4), .ref (a + 5), .ref (a + 6), .int (nI (max clk (sp w))), .int (nI com), .int (nI fog), .int (nI (ten + 1)), .int (nI don)])) := by rw [ef5']; exact xup_s
  refine xr_go i59_126 rfl ?_
  refine xr_go i59_127 rfl ?_
  refine xr_get i59_128 xf59_44 (by assumption) rfl rfl ?_
  by_cases htd : t < don
  · refine xr_icmp_geF i59_131 (t := 139) (by decide) (nI_ge htd (by omega)) ?_
    refine xr_go i59_134 rfl ?_
    refine xr_go i59_135 rfl ?_
    refine xr_put i59_136 xf59_44 (by assumption) ⟨rfl, Nat.le_of_ble_eq_true rfl, rfl, rfl, Or.inl rfl⟩ (fun f6 ef6 => ?_)
    have ef6' : f6 = g5 := by
      rw [ef6, ef5', xup_same]
      show _ = xup g4 a _
      rw [if_pos htd]
      rfl
    rw [ef6']
    exact xr_end i59_139 rfl
  · refine xr_icmp_geT i59_131 (t := 139) (by decide) (nI_le (by omega) (by omega)) ?_
    have ef6' : f5 = g5 := by
      rw [ef5']
      show _ = xup g4 a _
      rw [if_neg htd]
    rw [ef6']
    exact xr_end i59_139 rfl
end XSERV

