/-! ===== servers: the next commit, catching up ===== -/
section XSERV3
variable {G : xG} {d : Nat} {h : xH} {nx sl : Nat} {B a tak cmt : Nat} {wad pad psa poa sv sp pl : Nat → Nat} {pg : Nat → List (Nat × Int32)} {cm : Nat → Nat} {clk com fog don : Nat} {vec kno oc : Nat → Nat} {tl : List Nat} {cc ce : Nat → Int32}
theorem xMS_kept {a : Nat} {b : List Int32} {e : List (Nat × Int32)} {t : Bool} {h h' : xH} (hM : xMS a b e t h) (hk : ∀ q, a ≤ q → q ≤ a + 3 → h' q = h q) : xMS a b e t h' := by
  obtain ⟨vals, tg, sm, ⟨m0, m1, m2, m3⟩, r⟩ := hM
  exact ⟨vals, tg, sm, ⟨(hk _ (by omega) (by omega)).trans m0, (hk _ (by omega) (by omega)).trans m1, (hk _ (by omega) (by omega)).trans m2, (hk _ (by omega) (by omega)).trans m3⟩, r⟩
/-- only the server at a and the machine may have changed -/
def xsm (B a : Nat) (h h' : xH) : Prop := ∀ q, (q < a ∨ a + 6 < q) → (q < B + 13 ∨ B + 16 < q) → h' q = h q
theorem xsm.trans {h h1 h2 : xH} (x : xsm B a h h1) (y : xsm B a h1 h2) : xsm B a h h2 := fun q h1 h2 => (y q h1 h2).trans (x q h1 h2)
theorem xsame.sm {h h' : xH} (x : xsame a (a + 6) h h') : xsm B a h h' := fun q h1 _ => x q h1
set_option maxHeartbeats 4000000 in
theorem l_next_tail {w : Nat} {l1 l2 : List Nat} {bb : List Int32} {ee : List (Nat × Int32)} {tt : Bool} (hH : xHist B tak cmt wad pad psa poa sv sp pl pg cm h) (hM : xMS (B + 13) bb ee tt h) (hS : xSV B a clk com fog don vec kno (l1 ++ w :: l2) cc ce oc h) (ha : B + 18 ≤ a ∧ a + 6 < B + 53) (hw : w < tak) (hok : xOKp (pg w)) (hlen : (l1 ++ w :: l2).length ≤ 500) (hw1 : w ∉ l1) (hb : ∀ x ∈ l1 ++ w :: l2, x < 500) (hcom : com < 500) (hd : 4 ≤ d) :
    ∃ h', xRun G d 62 (27, [some (.ref a), some (.int (nI w))], [], (h, nx, sl)) (none, (h', nx, sl)) ∧ xSV B a clk (com + 1) fog 0 vec kno (l1 ++ l2) (xpC (pg w) (nI (sv w)) (nI (sp w)) cc) ce (va_up oc w (xpO (pg w) (nI (sv w)) (nI (sp w)) cc)) h' ∧ (∃ b e t, xMS (B + 13) b e t h') ∧ xsm B a h h' := by
  have a0 : ∃ x, h a = some (.inr (6, x)) := by
    obtain ⟨tN, s, -⟩ := hS
    exact ⟨_, s.1⟩
  obtain ⟨x0, a0⟩ := a0
  obtain ⟨h1, r1, hS1, sm1⟩ := l_remove (G := G) (d := d - 1) (nx := nx) (sl := sl) hS hlen hw1 hb (by omega)
  have hH1 := xHist_kept hH (h' := h1) (fun q hq => sm1 q (by omega))
  have hM1 := xMS_kept hM (h' := h1) (fun q h1 h2 => sm1 q (by omega))
  obtain ⟨tN, ⟨s0, s1, s2, s3, s4, s5, s6⟩, htN⟩ := hS1
  unfold xSvF at s0
  dsimp only at s0 s1 s2 s3 s4 s5 s6
  generalize hT : (l1 ++ l2).length = ten at s0 htN
  let g2 : xH := xup h1 a (.inr (6, xSvF B a (clk, com + 1, fog, ten, don)))
  have sm2 : xsame a (a + 6) h1 g2 := xsame.up (c := a) (by omega) rfl
  have hH2 := xHist_kept hH1 (h' := g2) (fun q hq => sm2 q (by omega))
  have hM2 := xMS_kept hM1 (h' := g2) (fun q h1 h2 => sm2 q (by omega))
  have c4 : g2 (a + 4) = some (.inl (0, 32, .inl cc)) := by
    show xup h1 a _ (a + 4) = _
    rw [xup_n (by omega)]
    exact s4
  obtain ⟨h3, r3, p1, p2, p3⟩ := l_perf (G := G) (d := d - 1) (nx := nx) (sl := sl) (ca := a + 4) hH2 hM2 hw hok (by omega) c4 (by omega)
  obtain ⟨⟨wf, w1, w2, w3⟩, -, h5, -, w7⟩ := hH2
  have wfw := w3 w hw
  have e0 : g2 a = some (.inr (6, xSvF B a (clk, com + 1, fog, ten, don))) := xup_s
  unfold xSvF at e0
  dsimp only at e0
  have e1 : ∀ q, a < q → q ≤ a + 6 → q ≠ a + 4 → h3 q = h1 q := fun q h1 h2 h9 => (p3 q h9 (by omega)).trans (xup_n (by omega))
  have f0 : h3 a = some (.inr (6, [.ref (B + 10), .ref (B + 13), .ref (a + 1), .ref (a + 2), .ref (a + 3), .ref (a + 4), .ref (a + 5), .ref (a + 6), .int (nI clk), .int (nI (com + 1)), .int (nI fog), .int (nI ten), .int (nI don)])) := (p3 a (by omega) (by omega)).trans e0
  have f6 : h3 (a + 6) = some (.inl (0, 500, .inl (fun j => nI (oc j)))) := (e1 _ (by omega) (by omega) (by omega)).trans s6
  let g4 : xH := xup h3 (a + 6) (.inl (0, 500, .inl (fun j => nI (va_up oc w (xpO (pg w) (nI (sv w)) (nI (sp w)) cc) j))))
  let g5 : xH := xup g4 a (.inr (6, xSvF B a (clk, com + 1, fog, ten, 0)))
  refine ⟨g5, ?_, ⟨tN, ?_, by rw [hT]; exact htN⟩, ?_, ?_⟩
  · refine xr_go i62_27 rfl ?_
    refine xr_go i62_28 rfl ?_
    refine xr_V i62_29 xc62_86 ⟨rfl, rfl⟩ xa_63 rfl (by assumption) rfl (Nat.le_of_ble_eq_true rfl) (by omega) ⟨Nat.le_of_ble_eq_true rfl, Nat.le_of_ble_eq_true rfl⟩ (r1) ?_
    refine xr_go i62_32 rfl ?_
    refine xr_go i62_33 rfl ?_
    refine xr_get i62_34 xf62_35 (by assumption) rfl rfl ?_
    refine xr_go i62_37 rfl ?_
    refine xr_go i62_38 rfl ?_
    refine xr_put i62_39 xf62_35 (by assumption) ⟨rfl, Nat.le_of_ble_eq_true rfl, rfl, rfl, Or.inl rfl⟩ (fun f2 ef2 => ?_)
    have ef2' : f2 = g2 := by
      rw [ef2]
      show xup h1 a (.inr (6, [.ref (B + 10), .ref (B + 13), .ref (a + 1), .ref (a + 2), .ref (a + 3), .ref (a + 4), .ref (a + 5), .ref (a + 6), .int (nI clk), .int (nI com + 1), .int (nI fog), .int (nI ten), .int (nI don)])) = _
      rw [nI_1]
      rfl
    rw [ef2']
    have m0 := xMS_at hM2
    refine xr_go i62_42 rfl ?_
    refine xr_get i62_43 xf62_28 (by assumption) rfl rfl ?_
    refine xr_go i62_46 rfl ?_
    refine xr_go i62_47 rfl ?_
    refine xr_get i62_48 xf62_51 (by assumption) rfl rfl ?_
    refine xr_go i62_51 rfl ?_
    refine xr_get i62_52 xf62_47 (by assumption) rfl rfl ?_
    refine xr_get i62_55 xf62_55 (by assumption) rfl rfl ?_
    refine xr_go i62_58 rfl ?_
    refine xr_aald i62_59 (by assumption) (by decide) rfl (by omega) (by omega) (by assumption) ?_
    refine xr_go i62_60 rfl ?_
    refine xr_get i62_61 xf62_22 (by assumption) rfl rfl ?_
    refine xr_V i62_64 xc62_89 ⟨rfl, rfl⟩ xa_50 rfl (by assumption) rfl (Nat.le_of_ble_eq_true rfl) (by omega) ⟨Nat.le_of_ble_eq_true rfl, Nat.le_of_ble_eq_true rfl⟩ (r3) ?_
    refine xr_iast i62_67 (by assumption) rfl (by omega) (by omega) (fun f4 ef4 => ?_)
    have ef4' : f4 = g4 := by
      rw [ef4]
      show _ = xup h3 (a + 6) _
      congr 5
      exact xupdN
    have k0 : f4 a = some (.inr (6, [.ref (B + 10), .ref (B + 13), .ref (a + 1), .ref (a + 2), .ref (a + 3), .ref (a + 4), .ref (a + 5), .ref (a + 6), .int (nI clk), .int (nI (com + 1)), .int (nI fog), .int (nI ten), .int (nI don)])) := by rw [ef4, xup_n (by omega)]; exact f0
    refine xr_go i62_68 rfl ?_
    refine xr_go i62_69 rfl ?_
    refine xr_put i62_70 xf62_44 (by assumption) ⟨rfl, Nat.le_of_ble_eq_true rfl, rfl, rfl, Or.inl rfl⟩ (fun f5 ef5 => ?_)
    have ef5' : f5 = g5 := by rw [ef5, ef4']; rfl
    rw [ef5']
    exact xr_end i62_73 rfl
  · rw [hT]
    refine ⟨xup_s, ?_, ?_, ?_, ?_, ?_, ?_⟩
    · show xup g4 a _ (a + 1) = _
      rw [xup_n (by omega)]
      show xup h3 (a + 6) _ (a + 1) = _
      rw [xup_n (by omega), e1 _ (by omega) (by omega) (by omega)]
      exact s1
    · show xup g4 a _ (a + 2) = _
      rw [xup_n (by omega)]
      show xup h3 (a + 6) _ (a + 2) = _
      rw [xup_n (by omega), e1 _ (by omega) (by omega) (by omega)]
      exact s2
    · show xup g4 a _ (a + 3) = _
      rw [xup_n (by omega)]
      show xup h3 (a + 6) _ (a + 3) = _
      rw [xup_n (by omega), e1 _ (by omega) (by omega) (by omega)]
      exact s3
    · show xup g4 a _ (a + 4) = _
      rw [xup_n (by omega)]
      show xup h3 (a + 6) _ (a + 4) = _
      rw [xup_n (by omega)]
      exact p1
    · show xup g4 a _ (a + 5) = _
      rw [xup_n (by omega)]
      show xup h3 (a + 6) _ (a + 5) = _
      rw [xup_n (by omega), e1 _ (by omega) (by omega) (by omega)]
      exact s5
    · show xup g4 a _ (a + 6) = _
      rw [xup_n (by omega)]
      exact xup_s
  · obtain ⟨b, e, t, hm⟩ := p2
    refine ⟨b, e, t, xMS_kept hm (fun q h1 h2 => ?_)⟩
    show xup g4 a _ q = _
    rw [xup_n (by omega)]
    show xup h3 (a + 6) _ q = _
    rw [xup_n (by omega)]
  · intro q h1' h2'
    show xup g4 a _ q = _
    rw [xup_n (by omega)]
    show xup h3 (a + 6) _ q = _
    rw [xup_n (by omega), p3 q (by omega) h2']
    show xup h1 a _ q = _
    rw [xup_n (by omega)]
    exact sm1 q h1'
/-- the next commit, of a write that the server knows as tentative -/
theorem l_next_known {l1 l2 : List Nat} {bb : List Int32} {ee : List (Nat × Int32)} {tt : Bool} (hH : xHist B tak cmt wad pad psa poa sv sp pl pg cm h) (hM : xMS (B + 13) bb ee tt h) (hS : xSV B a clk com fog don vec kno (l1 ++ cm com :: l2) cc ce oc h) (ha : B + 18 ≤ a ∧ a + 6 < B + 53) (hcom : com < cmt) (hw : cm com < tak) (hok : xOKp (pg (cm com))) (hk : kno (cm com) = 1) (hlen : (l1 ++ cm com :: l2).length ≤ 500) (hw1 : cm com ∉ l1) (hb : ∀ x ∈ l1 ++ cm com :: l2, x < 500) (hd : 4 ≤ d) :
    ∃ h', xRun G d 62 (0, [some (.ref a), none], [], (h, nx, sl)) (none, (h', nx, sl)) ∧ xSV B a clk (com + 1) fog 0 vec kno (l1 ++ l2) (xpC (pg (cm com)) (nI (sv (cm com))) (nI (sp (cm com))) cc) ce (va_up oc (cm com) (xpO (pg (cm com)) (nI (sv (cm com))) (nI (sp (cm com))) cc)) h' ∧ (∃ b e t, xMS (B + 13) b e t h') ∧ xsm B a h h' := by
  have hH0 := hH
  obtain ⟨⟨wf, w1, w2, w3⟩, w4, w5, w6, w7⟩ := hH
  obtain ⟨h', r, g⟩ := l_next_tail (G := G) (nx := nx) (sl := sl) hH0 hM hS ha hw hok hlen hw1 hb (by omega) hd
  refine ⟨h', ?_, g⟩
  obtain ⟨tN, ⟨s0, s1, s2, s3, s4, s5, s6⟩, htN⟩ := hS
  unfold xSvF at s0
  dsimp only at s0 s1 s2 s3 s4 s5 s6
  refine xr_go i62_0 rfl ?_
  refine xr_get i62_1 xf62_47 (by assumption) rfl rfl ?_
  refine xr_get i62_4 xf62_79 (by assumption) rfl rfl ?_
  refine xr_go i62_7 rfl ?_
  refine xr_get i62_8 xf62_35 (by assumption) rfl rfl ?_
  refine xr_iald i62_11 (by assumption) rfl (by omega) (by omega) ?_
  refine xr_go i62_12 rfl ?_
  refine xr_go i62_13 rfl ?_
  refine xr_get i62_14 xf62_15 (by assumption) rfl rfl ?_
  refine xr_go i62_17 rfl ?_
  refine xr_zald i62_18 (by assumption) rfl (by omega) (by omega) ?_
  refine xr_if_neT i62_19 (t := 27) (by decide) (by rw [hk]; decide) ?_
  exact r
/-- the next commit, of a write that the server doesn't know -/
theorem l_next_new {bb : List Int32} {ee : List (Nat × Int32)} {tt : Bool} (hH : xHist B tak cmt wad pad psa poa sv sp pl pg cm h) (hM : xMS (B + 13) bb ee tt h) (hS : xSV B a clk com fog don vec kno tl cc ce oc h) (ha : B + 18 ≤ a ∧ a + 6 < B + 53) (hcom : com < cmt) (hw : cm com < tak) (hok : xOKp (pg (cm com))) (hk : kno (cm com) = 0) (hlen : tl.length < 500) (hw1 : cm com ∉ tl) (hb : ∀ x ∈ tl, x < tak) (hdn : don ≤ tl.length) (hcl : clk < 2 ^ 31) (hvl : ∀ j, j < 5 → vec j < 2 ^ 31) (hd : 4 ≤ d) :
    ∃ h', xRun G d 62 (0, [some (.ref a), none], [], (h, nx, sl)) (none, (h', nx, sl)) ∧ xSV B a (max clk (sp (cm com))) (com + 1) fog 0 (va_up vec (sv (cm com)) (max (vec (sv (cm com))) (sp (cm com)))) (va_up kno (cm com) 1) tl (xpC (pg (cm com)) (nI (sv (cm com))) (nI (sp (cm com))) cc) ce (va_up oc (cm com) (xpO (pg (cm com)) (nI (sv (cm com))) (nI (sp (cm com))) cc)) h' ∧ (∃ b e t, xMS (B + 13) b e t h') ∧ xsm B a h h' := by
  have hH0 := hH
  obtain ⟨⟨wf, w1, w2, w3⟩, w4, w5, w6, w7⟩ := hH
  obtain ⟨h1, t, r1, hS1, sm1, ht, -, -⟩ := l_learn (G := G) (d := d - 1) (nx := nx) (sl := sl) hH0 hS ha hw hlen hb hdn hcl hvl (by omega)
  have hH1 := xHist_kept hH0 (h' := h1) (fun q hq => sm1 q (by omega))
  have hM1 := xMS_kept hM (h' := h1) (fun q h1 h2 => sm1 q (by omega))
  have hL : (tl.take t ++ cm com :: tl.drop t).length = tl.length + 1 := by
    simp only [List.length_append, List.length_cons, List.length_take, List.length_drop]
    omega
  obtain ⟨h', r, g1, g2, g3⟩ := l_next_tail (G := G) (nx := nx) (sl := sl) hH1 hM1 hS1 ha hw hok (by omega) (fun z => hw1 (List.mem_of_mem_take z)) (fun x hx => by
    rcases List.mem_append.mp hx with hx | hx
    · have := hb x (List.mem_of_mem_take hx)
      omega
    · rcases List.mem_cons.mp hx with rfl | hx
      · omega
      · have := hb x (List.mem_of_mem_drop hx)
        omega) (by omega) hd
  rw [List.take_append_drop] at g1
  refine ⟨h', ?_, g1, g2, sm1.sm.trans g3⟩
  obtain ⟨tN, ⟨s0, s1, s2, s3, s4, s5, s6⟩, htN⟩ := hS
  unfold xSvF at s0
  dsimp only at s0 s1 s2 s3 s4 s5 s6
  refine xr_go i62_0 rfl ?_
  refine xr_get i62_1 xf62_47 (by assumption) rfl rfl ?_
  refine xr_get i62_4 xf62_79 (by assumption) rfl rfl ?_
  refine xr_go i62_7 rfl ?_
  refine xr_get i62_8 xf62_35 (by assumption) rfl rfl ?_
  refine xr_iald i62_11 (by assumption) rfl (by omega) (by omega) ?_
  refine xr_go i62_12 rfl ?_
  refine xr_go i62_13 rfl ?_
  refine xr_get i62_14 xf62_15 (by assumption) rfl rfl ?_
  refine xr_go i62_17 rfl ?_
  refine xr_zald i62_18 (by assumption) rfl (by omega) (by omega) ?_
  refine xr_if_neF i62_19 (t := 27) (by decide) (by rw [hk]; decide) ?_
  refine xr_go i62_22 rfl ?_
  refine xr_go i62_23 rfl ?_
  refine xr_V i62_24 xc62_82 ⟨rfl, rfl⟩ xa_59 rfl (by assumption) rfl (Nat.le_of_ble_eq_true rfl) (by omega) ⟨Nat.le_of_ble_eq_true rfl, Nat.le_of_ble_eq_true rfl⟩ (r1) ?_
  exact r
/-- doing writes one behind another: the cells behind them -/
def xruns (sv sp : Nat → Nat) (pg : Nat → List (Nat × Int32)) (c : Nat → Int32) (l : List Nat) : Nat → Int32 := l.foldl (fun c w => xpC (pg w) (nI (sv w)) (nI (sp w)) c) c
/-- and their outcomes -/
def xouts (sv sp : Nat → Nat) (pg : Nat → List (Nat × Int32)) : List Nat → (Nat → Int32) → (Nat → Nat) → (Nat → Nat)
  | [], _, oc => oc
  | w :: l, c, oc => xouts sv sp pg l (xpC (pg w) (nI (sv w)) (nI (sp w)) c) (va_up oc w (xpO (pg w) (nI (sv w)) (nI (sp w)) c))
set_option maxHeartbeats 4000000 in
theorem l_catch_loop (ha : B + 18 ≤ a ∧ a + 6 < B + 53) (hok : ∀ w, w < tak → xOKp (pg w)) (htk : ∀ x ∈ tl, x < tak) (hlen : tl.length ≤ 500) (hd : 4 ≤ d) : ∀ (rest : List Nat) (i : Nat) (h : xH) (ce : Nat → Int32) (oc : Nat → Nat) (L2 : Option Value), tl.drop i = rest → i + rest.length = tl.length → xHist B tak cmt wad pad psa poa sv sp pl pg cm h → (∃ b e t, xMS (B + 13) b e t h) → xSV B a clk com fog don vec kno tl cc ce oc h →
    ∃ h', xRun G d 61 (27, [some (.ref a), some (.int (nI i)), L2], [], (h, nx, sl)) (none, (h', nx, sl)) ∧ xSV B a clk com fog tl.length vec kno tl cc (xruns sv sp pg ce rest) (xouts sv sp pg rest ce oc) h' ∧ (∃ b e t, xMS (B + 13) b e t h') ∧ xsm B a h h' := by
  intro rest
  induction rest with
  | nil =>
    intro i h ce oc L2 hdr hi hH hM hS
    simp only [List.length_nil, Nat.add_zero] at hi
    obtain ⟨tN, ⟨s0, s1, s2, s3, s4, s5, s6⟩, htN⟩ := hS
    unfold xSvF at s0
    dsimp only at s0 s1 s2 s3 s4 s5 s6
    let g1 : xH := xup h a (.inr (6, xSvF B a (clk, com, fog, tl.length, tl.length)))
    refine ⟨g1, ?_, ⟨tN, ⟨xup_s, ?_, ?_, ?_, ?_, ?_, ?_⟩, htN⟩, ?_, ?_⟩
    · refine xr_go i61_27 rfl ?_
      refine xr_go i61_28 rfl ?_
      refine xr_get i61_29 xf61_41 (by assumption) rfl rfl ?_
      refine xr_icmp_geT i61_32 (t := 74) (by decide) (nI_le (by omega) (by omega)) ?_
      refine xr_go i61_74 rfl ?_
      refine xr_go i61_75 rfl ?_
      refine xr_get i61_76 xf61_41 (by assumption) rfl rfl ?_
      refine xr_put i61_79 xf61_44 (by assumption) ⟨rfl, Nat.le_of_ble_eq_true rfl, rfl, rfl, Or.inl rfl⟩ (fun f1 ef1 => ?_)
      have ef1' : f1 = g1 := by rw [ef1]; rfl
      rw [ef1']
      exact xr_end i61_82 rfl
    · exact (xup_n (by omega)).trans s1
    · exact (xup_n (by omega)).trans s2
    · exact (xup_n (by omega)).trans s3
    · exact (xup_n (by omega)).trans s4
    · exact (xup_n (by omega)).trans s5
    · exact (xup_n (by omega)).trans s6
    · obtain ⟨b, e, t, hm⟩ := hM
      exact ⟨b, e, t, xMS_kept hm (fun q h1 h2 => xup_n (by omega))⟩
    · exact fun q h1 h2 => xup_n (by omega)
  | cons w rest ih =>
    intro i h ce oc L2 hdr hi hH hM hS
    simp only [List.length_cons] at hi
    have hH0 := hH
    have hS0 := hS
    obtain ⟨tN, ⟨s0, s1, s2, s3, s4, s5, s6⟩, htN⟩ := hS
    unfold xSvF at s0
    dsimp only at s0 s1 s2 s3 s4 s5 s6
    obtain ⟨⟨wf, w1, w2, w3⟩, w4, w5, w6, w7⟩ := hH
    have hil : i < tl.length := by omega
    have hwi : tl.getD i 0 = w := by
      rw [List.getD_eq_getElem?_getD]
      have := congrArg (fun l => l[0]?) hdr
      simp only [List.getElem?_drop, Nat.add_zero, List.getElem?_cons_zero] at this
      rw [this]
      rfl
    have hdr2 : tl.drop (i + 1) = rest := by
      have := congrArg (fun l => l.drop 1) hdr
      simpa [List.drop_drop] using this
    have hwm : w ∈ tl := hwi ▸ getD_mem hil
    have hw := htk w hwm
    have hti : tN i = w := (htN i hil).trans hwi
    have wfw := w3 w hw
    obtain ⟨b9, e9, t9, hm⟩ := hM
    have m0 := xMS_at hm
    obtain ⟨h3, r3, p1, p2, p3⟩ := l_perf (G := G) (d := d - 1) (nx := nx) (sl := sl) (ca := a + 5) hH0 hm hw (hok w hw) (by omega) s5 (by omega)
    have e1 : ∀ q, a ≤ q → q ≤ a + 6 → q ≠ a + 5 → h3 q = h q := fun q h1 h2 h9 => p3 q h9 (by omega)
    let g4 : xH := xup h3 (a + 6) (.inl (0, 500, .inl (fun j => nI (va_up oc w (xpO (pg w) (nI (sv w)) (nI (sp w)) ce) j))))
    have sm4 : xsm B a h g4 := fun q h1 h2 => by
      show xup h3 (a + 6) _ q = _
      rw [xup_n (by omega)]
      exact p3 q (by omega) h2
    have hH4 := xHist_kept hH0 (h' := g4) (fun q hq => sm4 q (by omega) (by omega))
    have hM4 : ∃ b e t, xMS (B + 13) b e t g4 := by
      obtain ⟨b, e, t, hm4⟩ := p2
      exact ⟨b, e, t, xMS_kept hm4 (fun q h1 h2 => xup_n (by omega))⟩
    have f6 : h3 (a + 6) = some (.inl (0, 500, .inl (fun j => nI (oc j)))) := (e1 _ (by omega) (by omega) (by omega)).trans s6
    have hS4 : xSV B a clk com fog don vec kno tl cc (xpC (pg w) (nI (sv w)) (nI (sp w)) ce) (va_up oc w (xpO (pg w) (nI (sv w)) (nI (sp w)) ce)) g4 := by
      refine ⟨tN, ⟨?_, ?_, ?_, ?_, ?_, ?_, xup_s⟩, htN⟩
      · exact (xup_n (by omega)).trans ((e1 _ (by omega) (by omega) (by omega)).trans s0)
      · exact (xup_n (by omega)).trans ((e1 _ (by omega) (by omega) (by omega)).trans s1)
      · exact (xup_n (by omega)).trans ((e1 _ (by omega) (by omega) (by omega)).trans s2)
      · exact (xup_n (by omega)).trans ((e1 _ (by omega) (by omega) (by omega)).trans s3)
      · exact (xup_n (by omega)).trans ((e1 _ (by omega) (by omega) (by omega)).trans s4)
      · exact (xup_n (by omega)).trans p1
    obtain ⟨h', r, g1, g2, g3⟩ := ih (i + 1) g4 _ _ (some (.int (nI w))) hdr2 (by omega) hH4 hM4 hS4
    refine ⟨h', ?_, g1, g2, sm4.trans g3⟩
    refine xr_go i61_27 rfl ?_
    refine xr_go i61_28 rfl ?_
    refine xr_get i61_29 xf61_41 (by assumption) rfl rfl ?_
    refine xr_icmp_geF i61_32 (t := 74) (by decide) (nI_ge (by omega) (by omega)) ?_
    refine xr_go i61_35 rfl ?_
    refine xr_get i61_36 xf61_19 (by assumption) rfl rfl ?_
    refine xr_go i61_39 rfl ?_
    refine xr_iald i61_40 (by assumption) rfl (by omega) (by omega) ?_
    rw [hti]
    refine xr_go i61_41 rfl ?_
    refine xr_go i61_42 rfl ?_
    refine xr_get i61_43 xf61_28 (by assumption) rfl rfl ?_
    refine xr_go i61_46 rfl ?_
    refine xr_go i61_47 rfl ?_
    refine xr_get i61_48 xf61_51 (by assumption) rfl rfl ?_
    refine xr_go i61_51 rfl ?_
    refine xr_get i61_52 xf61_47 (by assumption) rfl rfl ?_
    refine xr_get i61_55 xf61_55 (by assumption) rfl rfl ?_
    refine xr_go i61_58 rfl ?_
    refine xr_aald i61_59 (by assumption) (by decide) rfl (by omega) (by omega) (by assumption) ?_
    refine xr_go i61_60 rfl ?_
    refine xr_get i61_61 xf61_25 (by assumption) rfl rfl ?_
    refine xr_V i61_64 xc61_89 ⟨rfl, rfl⟩ xa_50 rfl (by assumption) rfl (Nat.le_of_ble_eq_true rfl) (by omega) ⟨Nat.le_of_ble_eq_true rfl, Nat.le_of_ble_eq_true rfl⟩ (r3) ?_
    refine xr_iast i61_67 (by assumption) rfl (by omega) (by omega) (fun f4 ef4 => ?_)
    have ef4' : f4 = g4 := by
      rw [ef4]
      show _ = xup h3 (a + 6) _
      congr 5
      exact xupdN
    rw [ef4']
    refine xr_inc1 i61_68 rfl rfl ?_
    refine xr_goto i61_71 (t := 27) (by decide) ?_
    exact r
end XSERV3

