/-! ===== the model: meeting ===== -/
theorem xadv_add {sp cm : Nat → Nat} : ∀ (a b clk com : Nat) (kno : Nat → Nat), xadv sp cm (a + b) clk com kno = xadv sp cm b (xadv sp cm a clk com kno).1 (com + a) (xadv sp cm a clk com kno).2 := by
  intro a
  induction a with
  | zero => intro b clk com kno; rw [Nat.zero_add]; rfl
  | succ a ih =>
    intro b clk com kno
    rw [show a + 1 + b = (a + b) + 1 by omega]
    show xadv sp cm (a + b) (max clk (sp (cm com))) (com + 1) (va_up kno (cm com) 1) = _
    rw [ih]
    show _ = xadv sp cm b (xadv sp cm a (max clk (sp (cm com))) (com + 1) (va_up kno (cm com) 1)).1 (com + (a + 1)) (xadv sp cm a (max clk (sp (cm com))) (com + 1) (va_up kno (cm com) 1)).2
    rw [show com + 1 + a = com + (a + 1) by omega]
theorem xadv_known {sp cm : Nat → Nat} {clk : Nat} {kno : Nat → Nat} : ∀ (n com : Nat), (∀ r, com ≤ r → r < com + n → kno (cm r) = 1 ∧ sp (cm r) ≤ clk) → xadv sp cm n clk com kno = (clk, kno) := by
  intro n
  induction n with
  | zero => intro com _; rfl
  | succ n ih =>
    intro com h
    show xadv sp cm n (max clk (sp (cm com))) (com + 1) (va_up kno (cm com) 1) = _
    obtain ⟨h1, h2⟩ := h com (by omega) (by omega)
    rw [Nat.max_eq_left h2, vu_id' h1]
    exact ih (com + 1) (fun r a b => h r (by omega) (by omega))
section XMMEET2
variable {G : xG} {d : Nat} {h h' : xH} {sl : Nat} {M nx nx' tak cmt : Nat} {sv sp pl cm : Nat → Nat} {pg : Nat → List (Nat × Int32)} {clk com fog : Nat → Nat} {kno : Nat → Nat → Nat} {bit : Nat → Nat} {rd wr : Nat → Nat → Nat} {lat : Option (List (Nat × Int32))} {tn : Nat} {tb : Nat → Nat}
theorem m_isCommitted2 {s w : Nat} {tn rk at_ sz kd fr to_ ft pt mn pc od tk : Int32} {lt : Value} {nu : Int64} (hO : h M = some (.inr (10, xMf M tn tk rk lt at_ sz kd fr to_ ft pt nu mn pc od))) (hm : xMd M cmt sv sp pl cm clk com fog kno bit rd wr h) (hs : s < 5) (hw : w < 500) (hp : pl w < 2 ^ 31) (hc : com s < 2 ^ 31) : xRun G d 105 (0, [some (.ref M), some (.int (nI s)), some (.int (nI w))], [], (h, nx, sl)) (some (.int (xbi (decide (1 ≤ pl w ∧ pl w ≤ com s)))), (h, nx, sl)) := by
  obtain ⟨h1, h2, h3, -, -, -, -, h8, -⟩ := hm
  have no : ¬ (1 ≤ pl w ∧ pl w ≤ com s) → xRun G d 105 (28, [some (.ref M), some (.int (nI s)), some (.int (nI w))], [], (h, nx, sl)) (some (.int (xbi (decide (1 ≤ pl w ∧ pl w ≤ com s)))), (h, nx, sl)) := by
    intro hn
    rw [decide_eq_false hn]
    refine xr_go i105_28 rfl ?_
    exact xr_iret i105_29 xt_105 rfl
  refine xr_go i105_0 rfl ?_
  refine xr_get i105_1 xf105_20 (by assumption) rfl rfl ?_
  refine xr_go i105_4 rfl ?_
  refine xr_iald i105_5 (by assumption) rfl (by omega) (by omega) ?_
  by_cases e1 : pl w = 0
  · refine xr_if_leT i105_6 (t := 28) (by decide) (by rw [e1]; decide) ?_
    exact no (by omega)
  · refine xr_if_leF i105_6 (t := 28) (by decide) (show ¬ nI (pl w) ≤ nI 0 from nI_ge (by omega) (by omega)) ?_
    refine xr_go i105_9 rfl ?_
    refine xr_get i105_10 xf105_20 (by assumption) rfl rfl ?_
    refine xr_go i105_13 rfl ?_
    refine xr_iald i105_14 (by assumption) rfl (by omega) (by omega) ?_
    refine xr_go i105_15 rfl ?_
    refine xr_get i105_16 xf105_39 (by assumption) rfl rfl ?_
    refine xr_go i105_19 rfl ?_
    refine xr_iald i105_20 (by assumption) rfl (by omega) (by omega) ?_
    by_cases hle : pl w ≤ com s
    · refine xr_icmp_gtF i105_21 (t := 28) (by decide) (nI_nlt hle (by omega)) ?_
      rw [decide_eq_true (show 1 ≤ pl w ∧ pl w ≤ com s from ⟨by omega, hle⟩)]
      refine xr_go i105_24 rfl ?_
      refine xr_goto i105_25 (t := 29) (by decide) ?_
      exact xr_iret i105_29 xt_105 rfl
    · refine xr_icmp_gtT i105_21 (t := 28) (by decide) (nI_lt (by omega) (by omega)) ?_
      exact no (by omega)
theorem m_meet_fog {tn rk at_ sz kd fr to_ ft pt mn pc od tk : Int32} {lt : Value} {nu : Int64} {f t : Nat} {L3 : Option Value} (hf : f < 5) (ht : t < 5) (hfog : fog f ≤ cmt) (hc5 : cmt ≤ 500) (hcm : ∀ r, r < cmt → cm r < 500 ∧ sp (cm r) < 2 ^ 31) (hd : 2 ≤ d) : ∀ (n r c : Nat) (K : Nat → Nat) (h : xH), r + n = fog f → c < 2 ^ 31 → h M = some (.inr (10, xMf M tn tk rk lt at_ sz kd fr to_ ft pt nu mn pc od)) → xMd M cmt sv sp pl cm (va_up clk t c) com fog (va_up kno t K) bit rd wr h →
    ∃ h', xMd M cmt sv sp pl cm (va_up clk t (xadv sp cm n c r K).1) com fog (va_up kno t (xadv sp cm n c r K).2) bit rd wr h' ∧ (∀ q, q ≠ M + 8 + t → q ≠ M + 13 → h' q = h q) ∧ ∀ res, xRun G d 112 (96, [some (.ref M), some (.int (nI f)), some (.int (nI t)), L3, some (.int 0), some (.int (nI (fog f + 1))), none], [], (h', nx, sl)) res → xRun G d 112 (67, [some (.ref M), some (.int (nI f)), some (.int (nI t)), L3, some (.int 0), some (.int (nI (r + 1))), none], [], (h, nx, sl)) res := by
  intro n
  induction n with
  | zero =>
    intro r c K h hr hc hO hm
    have e : r = fog f := by omega
    subst e
    have h15 := hm.2.2.2.2.2.2.2.2.1
    refine ⟨h, hm, fun _ _ _ => rfl, fun res k => ?_⟩
    refine xr_go i112_67 rfl ?_
    refine xr_go i112_69 rfl ?_
    refine xr_get i112_70 xf112_42 (by assumption) rfl rfl ?_
    refine xr_go i112_73 rfl ?_
    refine xr_iald i112_74 (by assumption) rfl (by omega) (by omega) ?_
    refine xr_icmp_gtT i112_75 (t := 96) (by decide) (nI_lt (by omega) (by omega)) ?_
    exact k
  | succ n ih =>
    intro r c K h hr hc hO hm
    have h15 := hm.2.2.2.2.2.2.2.2.1
    obtain ⟨f5, h5, h5'⟩ := hm.2.2.2.1
    have hb := hcm r (by omega)
    obtain ⟨k1, r1, m1, k1n⟩ := m_learn (G := G) (d := d - 1) (nx := nx) (sl := sl) (s := t) (w := cm r) hO hm ht hb.1 hb.2 (by rw [vu_at]; exact hc) (by omega)
    rw [vu_vu, vu_vu, vu_at, vu_at] at m1
    obtain ⟨h', i1, i2, i3⟩ := ih (r + 1) (max c (sp (cm r))) (va_up K (cm r) 1) k1 (by omega) (by omega) ((k1n M (by omega) (by omega)).trans hO) m1
    refine ⟨h', i1, fun q a1 a2 => (i2 q a1 a2).trans (k1n q a1 a2), fun res k => ?_⟩
    refine xr_go i112_67 rfl ?_
    refine xr_go i112_69 rfl ?_
    refine xr_get i112_70 xf112_42 (by assumption) rfl rfl ?_
    refine xr_go i112_73 rfl ?_
    refine xr_iald i112_74 (by assumption) rfl (by omega) (by omega) ?_
    refine xr_icmp_gtF i112_75 (t := 96) (by decide) (nI_nlt (by omega) (by omega)) ?_
    refine xr_go i112_78 rfl ?_
    refine xr_go i112_79 rfl ?_
    refine xr_go i112_80 rfl ?_
    refine xr_get i112_81 xf112_23 (by assumption) rfl rfl ?_
    refine xr_go i112_84 rfl ?_
    refine xr_iald i112_86 (by assumption) rfl (by omega) (by omega) ?_
    rw [h5' r (by omega)]
    refine xr_V i112_87 xc112_288 ⟨rfl, rfl⟩ xa_113 rfl (by assumption) rfl (Nat.le_of_ble_eq_true rfl) (by omega) ⟨Nat.le_of_ble_eq_true rfl, Nat.le_of_ble_eq_true rfl⟩ (r1) ?_
    refine xr_inc1 i112_90 rfl rfl ?_
    refine xr_goto i112_93 (t := 67) (by decide) ?_
    exact i3 res k
/-- the tentative writes -/
theorem m_meet_tent {tn rk at_ sz kd fr to_ ft pt mn pc tk : Int32} {lt : Value} {nu : Int64} {f t : Nat} {fo : Nat → Int32} {L : List Nat} (hf : f < 5) (ht : t < 5) (hL5 : L.length ≤ 500) (hrow : xrow fo L) (hLs : ∀ w ∈ L, w < 500 ∧ sp w < 2 ^ 31) (hcf : com f ≤ L.length) {n : Nat} (hn : n < 2 ^ 31) {x : Nat} (hft : f ≠ t) (hd : 2 ≤ d) : ∀ (l : List Nat) (k done c : Nat) (K : Nat → Nat) (h : xH) (L6 : Option Value), L.drop k = l → k + l.length = L.length → com f ≤ k → done ≤ n → done ≤ 2000 + k → c < 2 ^ 31 → (∀ w, K w = 0 ∨ K w = 1) → h M = some (.inr (10, xMf M tn tk rk lt at_ sz kd fr to_ ft pt nu mn pc (nI L.length))) → h (M + 40) = some (.inl (0, 500, .inl fo)) → xMd M cmt sv sp pl cm (va_up clk t c) (va_up com t x) fog (va_up kno t K) bit rd wr h →
    ∃ h', xRun G d 112 (131, [some (.ref M), some (.int (nI f)), some (.int (nI t)), some (.int (nI n)), some (.int (nI done)), some (.int (nI k)), L6], [], (h, nx, sl)) (some (.int (nI (done + (xbring sp l (n - done) c K).1))), (h', nx, sl)) ∧ xMd M cmt sv sp pl cm (va_up clk t (xbring sp l (n - done) c K).2.1) (va_up com t x) fog (va_up kno t (xbring sp l (n - done) c K).2.2) bit rd wr h' ∧ ∀ q, q ≠ M + 8 + t → q ≠ M + 13 → h' q = h q := by
  intro l
  induction l with
  | nil =>
    intro k done c K h L6 hdr hk hck hdn hd2 hc hK hO h40 hm
    simp only [List.length_nil, Nat.add_zero] at hk
    refine ⟨h, ?_, hm, fun _ _ _ => rfl⟩
    show xRun G d 112 _ (some (.int (nI (done + 0))), (h, nx, sl))
    refine xr_go i112_131 rfl ?_
    refine xr_go i112_133 rfl ?_
    refine xr_get i112_134 xf112_236 (by assumption) rfl rfl ?_
    refine xr_icmp_geT i112_137 (t := 242) (by decide) (nI_le (by omega) (by omega)) ?_
    refine xr_go i112_242 rfl ?_
    exact xr_iret i112_244 xt_112 rfl
  | cons w l ih =>
    intro k done c K h L6 hdr hk hck hdn hd2 hc hK hO h40 hm
    simp only [List.length_cons] at hk
    have hLw : L.getD k 0 = w := by
      rw [List.getD_eq_getElem?_getD]
      have := congrArg (fun l => l[0]?) hdr
      simp only [List.getElem?_drop, Nat.add_zero, List.getElem?_cons_zero] at this
      rw [this]
      rfl
    have hdr2 : L.drop (k + 1) = l := by
      have := congrArg (fun l => l.drop 1) hdr
      simpa [List.drop_drop] using this
    have hfk : fo k = nI w := by rw [hrow k (by omega), hLw]
    have hb := hLs w (hLw ▸ getD_mem (by omega))
    have h14 := hm.2.2.2.2.2.2.2.1
    obtain ⟨f7, h7, h7'⟩ := hm.2.2.2.2.1
    have h7t := h7' t ht
    have h8t := hm.2.2.2.2.2.1 t ht
    cases e : n - done with
    | zero =>
      refine ⟨h, ?_, hm, fun _ _ _ => rfl⟩
      show xRun G d 112 _ (some (.int (nI (done + 0))), (h, nx, sl))
      refine xr_go i112_131 rfl ?_
      refine xr_go i112_133 rfl ?_
      refine xr_get i112_134 xf112_236 (by assumption) rfl rfl ?_
      refine xr_icmp_geF i112_137 (t := 242) (by decide) (nI_ge (by omega) (by omega)) ?_
      refine xr_go i112_140 rfl ?_
      refine xr_go i112_142 rfl ?_
      refine xr_icmp_geT i112_143 (t := 242) (by decide) (nI_le (by omega) (by omega)) ?_
      refine xr_go i112_242 rfl ?_
      exact xr_iret i112_244 xt_112 rfl
    | succ m =>
      have pre : ∀ res, xRun G d 112 (223, [some (.ref M), some (.int (nI f)), some (.int (nI t)), some (.int (nI n)), some (.int (nI done)), some (.int (nI k)), some (.int (nI w))], [.int (nI (K w))], (h, nx, sl)) res → xRun G d 112 (131, [some (.ref M), some (.int (nI f)), some (.int (nI t)), some (.int (nI n)), some (.int (nI done)), some (.int (nI k)), L6], [], (h, nx, sl)) res := by
        intro res r
        refine xr_go i112_131 rfl ?_
        refine xr_go i112_133 rfl ?_
        refine xr_get i112_134 xf112_236 (by assumption) rfl rfl ?_
        refine xr_icmp_geF i112_137 (t := 242) (by decide) (nI_ge (by omega) (by omega)) ?_
        refine xr_go i112_140 rfl ?_
        refine xr_go i112_142 rfl ?_
        refine xr_icmp_geF i112_143 (t := 242) (by decide) (nI_ge (by omega) (by omega)) ?_
        refine xr_go i112_146 rfl ?_
        refine xr_get i112_147 xf112_70 (by assumption) rfl rfl ?_
        refine xr_go i112_150 rfl ?_
        refine xr_iald i112_152 (by assumption) rfl (by omega) (by omega) ?_
        rw [hfk]
        refine xr_go i112_153 rfl ?_
        refine xr_go i112_155 rfl ?_
        refine xr_go i112_157 rfl ?_
        refine xr_get i112_158 xf112_39 (by assumption) rfl rfl ?_
        refine xr_go i112_161 rfl ?_
        refine xr_iald i112_162 (by assumption) rfl (by omega) (by omega) ?_
        rw [vu_ne hft]
        refine xr_icmp_geT i112_163 (t := 214) (by decide) (nI_le (by omega) (by omega)) ?_
        refine xr_go i112_214 rfl ?_
        refine xr_get i112_215 xf112_33 (by assumption) rfl rfl ?_
        refine xr_go i112_218 rfl ?_
        refine xr_aald i112_219 (by assumption) (by decide) rfl (by omega) (by omega) (by assumption) ?_
        refine xr_go i112_220 rfl ?_
        refine xr_zald i112_222 (by assumption) rfl (by omega) (by omega) ?_
        rw [vu_at]
        exact r
      rcases hK w with hk0 | hk1
      · obtain ⟨k1, r1, m1, k1n⟩ := m_learn (G := G) (d := d - 1) (nx := nx) (sl := sl) (s := t) (w := w) hO hm ht hb.1 hb.2 (by rw [vu_at]; exact hc) (by omega)
        rw [vu_vu, vu_vu, vu_at, vu_at] at m1
        obtain ⟨h', r, i1, i2⟩ := ih (k + 1) (done + 1) (max c (sp w)) (va_up K w 1) k1 (some (.int (nI w))) hdr2 (by omega) (by omega) (by omega) (by omega) (by omega) (fun v => by
          unfold va_up
          split
          · exact Or.inr rfl
          · exact hK v) ((k1n M (by omega) (by omega)).trans hO) ((k1n _ (by omega) (by omega)).trans h40) m1
        have ex : xbring sp (w :: l) (m + 1) c K = ((xbring sp l m (max c (sp w)) (va_up K w 1)).1 + 1, (xbring sp l m (max c (sp w)) (va_up K w 1)).2) := by
          show (if K w = 0 then _ else _) = _
          rw [if_pos hk0]
        rw [ex]
        rw [show n - (done + 1) = m by omega] at r i1
        refine ⟨h', pre _ ?_, i1, fun q a1 a2 => (i2 q a1 a2).trans (k1n q a1 a2)⟩
        show xRun G d 112 _ (some (.int (nI (done + ((xbring sp l m (max c (sp w)) (va_up K w 1)).1 + 1)))), (h', nx, sl))
        rw [show done + ((xbring sp l m (max c (sp w)) (va_up K w 1)).1 + 1) = done + 1 + (xbring sp l m (max c (sp w)) (va_up K w 1)).1 by omega]
        refine xr_if_neF i112_223 (t := 236) (by decide) (by rw [hk0]; decide) ?_
        refine xr_go i112_226 rfl ?_
        refine xr_go i112_227 rfl ?_
        refine xr_go i112_228 rfl ?_
        refine xr_V i112_230 xc112_288 ⟨rfl, rfl⟩ xa_113 rfl (by assumption) rfl (Nat.le_of_ble_eq_true rfl) (by omega) ⟨Nat.le_of_ble_eq_true rfl, Nat.le_of_ble_eq_true rfl⟩ (r1) ?_
        refine xr_inc1 i112_233 rfl rfl ?_
        refine xr_inc1 i112_236 rfl rfl ?_
        refine xr_goto i112_239 (t := 131) (by decide) ?_
        exact r
      · obtain ⟨h', r, i1, i2⟩ := ih (k + 1) done c K h (some (.int (nI w))) hdr2 (by omega) (by omega) (by omega) (by omega) hc hK hO h40 hm
        have ex : xbring sp (w :: l) (m + 1) c K = xbring sp l (m + 1) c K := by
          show (if K w = 0 then _ else _) = _
          rw [if_neg (by omega)]
        rw [ex]
        rw [e] at r i1
        refine ⟨h', pre _ ?_, i1, i2⟩
        refine xr_if_neT i112_223 (t := 236) (by decide) (by rw [hk1]; decide) ?_
        refine xr_inc1 i112_236 rfl rfl ?_
        refine xr_goto i112_239 (t := 131) (by decide) ?_
        exact r
end XMMEET2

