/-! ===== the model: doing a write, its rules ===== -/
theorem xEff_snoc {e : List (Nat × Int32)} {tg sm : Nat → Int32} {q : Nat × Int32} (h : xEff e tg sm) : xEff (e ++ [q]) (upd tg e.length (nI q.1)) (upd sm e.length q.2) := by
  intro j hj
  rw [List.length_append, List.length_singleton] at hj
  unfold upd
  by_cases hje : j = e.length
  · rw [if_pos hje, if_pos hje, hje, List.getD_eq_getElem?_getD, List.getElem?_append_right (Nat.le_refl _), Nat.sub_self]
    exact ⟨rfl, rfl⟩
  · rw [if_neg hje, if_neg hje, List.getD_eq_getElem?_getD, List.getElem?_append_left (by omega), ← List.getD_eq_getElem?_getD]
    exact h j (by omega)
section XPERF3
variable {G : xG} {d : Nat} {nx sl M w a len : Nat} {sv sp : Nat → Nat} {tn tk rk at_ sz kd fr to_ ft pt mn od : Int32} {lt : Value} {nu : Int64} {f c : Nat → Int32} {wf : Nat → Option Nat}
set_option maxHeartbeats 8000000 in
theorem m_found_loop (hw : w < 500) (hln : len ≤ 1600) (hd : 1 ≤ d) (hwf : wf w = some a) (haM : M + 41 ≤ a) (n : Nat) (hn : n ≤ 8) (r : Int32) : ∀ (es : List (Nat × List (Nat × Int32))) (e0 : List (Nat × Int32)) (p : Nat) (g gg ff : Nat → Int32) (h : xH), e0.length + es.length = n → h M = some (.inr (10, xMf M tn tk rk lt at_ sz kd fr to_ ft pt nu mn (nI p) od)) → h (M + 6) = some (.inl (6, 500, .inr (.inr (.inr (.inr wf))))) → h a = some (.inl (0, len, .inl f)) → h (M + 36) = some (.inl (0, 32, .inl c)) → h (M + 2) = some (.inl (0, 500, .inl (fun w => nI (sv w)))) → h (M + 3) = some (.inl (0, 500, .inl (fun w => nI (sp w)))) → h (M + 37) = some (.inl (0, 160, .inl g)) → h (M + 38) = some (.inl (0, 8, .inl ff)) → h (M + 39) = some (.inl (0, 8, .inl gg)) → xEff e0 gg ff → (∀ q ∈ es, xWe q) → xseg f p (es.flatMap meff) → p + (es.flatMap meff).length ≤ len →
    ∃ h' g' gg' ff' p', h' M = some (.inr (10, xMf M tn tk rk lt at_ sz kd fr to_ ft pt nu mn (nI p') od)) ∧ h' (M + 37) = some (.inl (0, 160, .inl g')) ∧ h' (M + 38) = some (.inl (0, 8, .inl ff')) ∧ h' (M + 39) = some (.inl (0, 8, .inl gg')) ∧ xEff (e0 ++ xre (nI (sv w)) (nI (sp w)) c es) gg' ff' ∧ (∀ q, q ≠ M → q ≠ M + 37 → q ≠ M + 38 → q ≠ M + 39 → h' q = h q) ∧ ∀ res, xRun G d 107 (103, [some (.ref M), some (.int (nI w)), some (.ref a), some (.int r), some (.int (nI n)), some (.int (nI n))], [], (h', nx, sl)) res → xRun G d 107 (55, [some (.ref M), some (.int (nI w)), some (.ref a), some (.int r), some (.int (nI n)), some (.int (nI e0.length))], [], (h, nx, sl)) res := by
  intro es
  induction es with
  | nil =>
    intro e0 p g gg ff h hi hO hwh ha hc hsv hsp hg hff hgg hE hW hseg hle
    simp only [List.length_nil, Nat.add_zero] at hi
    refine ⟨h, g, gg, ff, p, hO, hg, hff, hgg, ?_, fun _ _ _ _ _ => rfl, fun res k => ?_⟩
    · show xEff (e0 ++ []) gg ff
      rw [List.append_nil]
      exact hE
    · rw [hi]
      refine xr_go i107_55 rfl ?_
      refine xr_go i107_57 rfl ?_
      refine xr_icmp_geT i107_59 (t := 103) (by decide) (nI_le (by omega) (by omega)) ?_
      exact k
  | cons q es ih =>
    intro e0 p g gg ff h hi hO hwh ha hc hsv hsp hg hff hgg hE hW hseg hle
    simp only [List.length_cons] at hi
    rw [List.flatMap_cons] at hseg hle
    obtain ⟨sg1, sg2⟩ := xseg_app hseg
    rw [List.length_append] at hle
    obtain ⟨s0, sg3⟩ := xseg_cons sg1
    have hml : (meff q).length = 1 + (mE q.2).length := by
      unfold meff
      rw [List.length_cons]
      omega
    obtain ⟨hq1, hq2⟩ := hW q List.mem_cons_self
    obtain ⟨k1, ek1⟩ : ∃ z : xH, z = xup h (M + 39) (.inl (0, 8, .inl (upd gg e0.length (nI q.1)))) := ⟨_, rfl⟩
    have k1n : ∀ q, q ≠ M + 39 → k1 q = h q := fun q hq => by rw [ek1]; exact xup_n hq
    have k1g : k1 (M + 39) = some (.inl (0, 8, .inl (upd gg e0.length (nI q.1)))) := by rw [ek1]; exact xup_s
    have k1M := (k1n M (by omega)).trans hO
    obtain ⟨k2, ek2⟩ : ∃ z : xH, z = xup k1 M (.inr (10, xMf M tn tk rk lt at_ sz kd fr to_ ft pt nu mn (nI (p + 1)) od)) := ⟨_, rfl⟩
    have k2M : k2 M = some (.inr (10, xMf M tn tk rk lt at_ sz kd fr to_ ft pt nu mn (nI (p + 1)) od)) := by rw [ek2]; exact xup_s
    have k2n : ∀ q, q ≠ M → k2 q = k1 q := fun q hq => by rw [ek2]; exact xup_n hq
    have o2 : ∀ q, q ≠ M → q ≠ M + 39 → k2 q = h q := fun q a1 a2 => (k2n q a1).trans (k1n q a2)
    obtain ⟨k3, g3, r3, k3M, k3g, k3n⟩ := m_value (G := G) (d := d - 1) (nx := nx) (sl := sl) (sv := sv) (sp := sp) (c := c) hw hln k2M ((o2 _ (by omega) (by omega)).trans hwh) hwf ((o2 _ (by omega) (by omega)).trans ha) haM ((o2 _ (by omega) (by omega)).trans hc) ((o2 _ (by omega) (by omega)).trans hsv) ((o2 _ (by omega) (by omega)).trans hsp) ((o2 _ (by omega) (by omega)).trans hg) hq2 sg3 (by omega)
    have k3f : k3 (M + 38) = some (.inl (0, 8, .inl ff)) := (k3n _ (by omega) (by omega)).trans ((o2 _ (by omega) (by omega)).trans hff)
    have k3gg : k3 (M + 39) = some (.inl (0, 8, .inl (upd gg e0.length (nI q.1)))) := (k3n _ (by omega) (by omega)).trans ((k2n _ (by omega)).trans k1g)
    obtain ⟨k4, ek4⟩ : ∃ z : xH, z = xup k3 (M + 38) (.inl (0, 8, .inl (upd ff e0.length (xval q.2 (nI (sv w)) (nI (sp w)) c)))) := ⟨_, rfl⟩
    have k4n : ∀ q, q ≠ M + 38 → k4 q = k3 q := fun q hq => by rw [ek4]; exact xup_n hq
    have k4f : k4 (M + 38) = some (.inl (0, 8, .inl (upd ff e0.length (xval q.2 (nI (sv w)) (nI (sp w)) c)))) := by rw [ek4]; exact xup_s
    have o4 : ∀ q, q ≠ M → q ≠ M + 37 → q ≠ M + 38 → q ≠ M + 39 → k4 q = h q := fun q a1 a2 a3 a4 => (k4n q a3).trans ((k3n q a1 a2).trans (o2 q a1 a4))
    have hl1 : (e0 ++ [(q.1, xval q.2 (nI (sv w)) (nI (sp w)) c)]).length = e0.length + 1 := by simp
    obtain ⟨h', g', gg', ff', p', i1, i2, i3, i4, i5, i6, i7⟩ := ih (e0 ++ [(q.1, xval q.2 (nI (sv w)) (nI (sp w)) c)]) (p + 1 + (mE q.2).length) g3 _ _ k4 (by rw [hl1]; omega) ((k4n _ (by omega)).trans k3M) ((o4 _ (by omega) (by omega) (by omega) (by omega)).trans hwh) ((o4 _ (by omega) (by omega) (by omega) (by omega)).trans ha) ((o4 _ (by omega) (by omega) (by omega) (by omega)).trans hc) ((o4 _ (by omega) (by omega) (by omega) (by omega)).trans hsv) ((o4 _ (by omega) (by omega) (by omega) (by omega)).trans hsp) ((k4n _ (by omega)).trans k3g) k4f ((k4n _ (by omega)).trans k3gg) (xEff_snoc (q := (q.1, xval q.2 (nI (sv w)) (nI (sp w)) c)) hE) (fun z hz => hW z (List.mem_cons_of_mem _ hz)) (by rw [show p + 1 + (mE q.2).length = p + (meff q).length by omega]; exact sg2) (by omega)
    refine ⟨h', g', gg', ff', p', i1, i2, i3, i4, ?_, fun q a1 a2 a3 a4 => (i6 q a1 a2 a3 a4).trans (o4 q a1 a2 a3 a4), fun res k => ?_⟩
    · rw [List.append_assoc] at i5
      exact i5
    · have rr := i7 res k
      rw [hl1] at rr
      refine xr_go i107_55 rfl ?_
      refine xr_go i107_57 rfl ?_
      refine xr_icmp_geF i107_59 (t := 103) (by decide) (nI_ge (by omega) (by omega)) ?_
      refine xr_go i107_62 rfl ?_
      refine xr_get i107_63 xf107_67 (by assumption) rfl rfl ?_
      refine xr_go i107_66 rfl ?_
      refine xr_go i107_68 rfl ?_
      refine xr_go i107_69 rfl ?_
      refine xr_get i107_70 xf107_226 (by assumption) rfl rfl ?_
      refine xr_iald i107_73 (by assumption) rfl (by omega) (by omega) ?_
      rw [s0]
      refine xr_iast i107_74 (by assumption) rfl (by omega) (by omega) (fun z1 ez1 => ?_)
      obtain rfl : z1 = k1 := ez1.trans ek1.symm
      refine xr_go i107_75 rfl ?_
      refine xr_go i107_76 rfl ?_
      refine xr_get i107_77 xf107_226 (by assumption) rfl rfl ?_
      refine xr_go i107_80 rfl ?_
      refine xr_go i107_81 rfl ?_
      refine xr_top (show _ = nI (p + 1) from nI_add p 1) ?_
      refine xr_put i107_82 xf107_226 (by assumption) ⟨rfl, Nat.le_of_ble_eq_true rfl, rfl, rfl, Or.inl rfl⟩ (fun z2 ez2 => ?_)
      obtain rfl : z2 = k2 := ez2.trans ek2.symm
      refine xr_go i107_85 rfl ?_
      refine xr_get i107_86 xf107_64 (by assumption) rfl rfl ?_
      refine xr_go i107_89 rfl ?_
      refine xr_go i107_91 rfl ?_
      refine xr_go i107_92 rfl ?_
      refine xr_V i107_93 xc107_229 ⟨rfl, rfl⟩ xa_109 rfl (by assumption) rfl (Nat.le_of_ble_eq_true rfl) (by omega) ⟨Nat.le_of_ble_eq_true rfl, Nat.le_of_ble_eq_true rfl⟩ (r3) ?_
      refine xr_iast i107_96 (by assumption) rfl (by omega) (by omega) (fun z4 ez4 => ?_)
      obtain rfl : z4 = k4 := ez4.trans ek4.symm
      refine xr_inc1 i107_97 rfl rfl ?_
      refine xr_goto i107_100 (t := 55) (by decide) ?_
      exact rr
theorem m_assign_loop (n : Nat) (hn : n ≤ 8) (r : Int32) {gg ff : Nat → Int32} {pc : Int32} {L1 : Option Value} : ∀ (es : List (Nat × Int32)) (i : Nat) (cl : Nat → Int32) (h : xH), i + es.length = n → (∀ j, j < es.length → gg (i + j) = nI (es.getD j (0, 0)).1 ∧ ff (i + j) = (es.getD j (0, 0)).2 ∧ (es.getD j (0, 0)).1 < 32) → h M = some (.inr (10, xMf M tn tk rk lt at_ sz kd fr to_ ft pt nu mn pc od)) → h (M + 36) = some (.inl (0, 32, .inl cl)) → h (M + 38) = some (.inl (0, 8, .inl ff)) → h (M + 39) = some (.inl (0, 8, .inl gg)) →
    ∃ h', xRun G d 107 (106, [some (.ref M), L1, some (.ref a), some (.int r), some (.int (nI n)), some (.int (nI i))], [], (h, nx, sl)) (some (.int r), (h', nx, sl)) ∧ h' (M + 36) = some (.inl (0, 32, .inl (xchg es cl))) ∧ ∀ q, q ≠ M + 36 → h' q = h q := by
  intro es
  induction es with
  | nil =>
    intro i cl h hi he hO hc hff hgg
    simp only [List.length_nil, Nat.add_zero] at hi
    refine ⟨h, ?_, hc, fun _ _ => rfl⟩
    refine xr_go i107_106 rfl ?_
    refine xr_go i107_108 rfl ?_
    refine xr_icmp_geT i107_110 (t := 138) (by decide) (nI_le (by omega) (by omega)) ?_
    refine xr_go i107_138 rfl ?_
    exact xr_iret i107_139 xt_107 rfl
  | cons q es ih =>
    intro i cl h hi he hO hc hff hgg
    simp only [List.length_cons] at hi
    obtain ⟨e1, e2, e3⟩ := he 0 (by simp)
    rw [Nat.add_zero] at e1 e2
    rw [List.getD_cons_zero] at e1 e2 e3
    obtain ⟨k1, ek1⟩ : ∃ z : xH, z = xup h (M + 36) (.inl (0, 32, .inl (upd cl q.1 q.2))) := ⟨_, rfl⟩
    have k1n : ∀ q, q ≠ M + 36 → k1 q = h q := fun q hq => by rw [ek1]; exact xup_n hq
    obtain ⟨h', rr, i1, i2⟩ := ih (i + 1) (upd cl q.1 q.2) k1 (by omega) (fun j hj => by
      have := he (j + 1) (by simpa using hj)
      rw [List.getD_cons_succ, show i + (j + 1) = i + 1 + j by omega] at this
      exact this) ((k1n _ (by omega)).trans hO) (by rw [ek1]; exact xup_s) ((k1n _ (by omega)).trans hff) ((k1n _ (by omega)).trans hgg)
    refine ⟨h', ?_, i1, fun q hq => (i2 q hq).trans (k1n q hq)⟩
    refine xr_go i107_106 rfl ?_
    refine xr_go i107_108 rfl ?_
    refine xr_icmp_geF i107_110 (t := 138) (by decide) (nI_ge (by omega) (by omega)) ?_
    refine xr_go i107_113 rfl ?_
    refine xr_get i107_114 xf107_58 (by assumption) rfl rfl ?_
    refine xr_go i107_117 rfl ?_
    refine xr_get i107_118 xf107_67 (by assumption) rfl rfl ?_
    refine xr_go i107_121 rfl ?_
    refine xr_iald i107_123 (by assumption) rfl (by omega) (by omega) ?_
    refine xr_go i107_124 rfl ?_
    refine xr_get i107_125 xf107_64 (by assumption) rfl rfl ?_
    refine xr_go i107_128 rfl ?_
    refine xr_iald i107_130 (by assumption) rfl (by omega) (by omega) ?_
    rw [e1, e2]
    refine xr_iast i107_131 (by assumption) rfl (by omega) (by omega) (fun z1 ez1 => ?_)
    obtain rfl : z1 = k1 := ez1.trans ek1.symm
    refine xr_inc1 i107_132 rfl rfl ?_
    refine xr_goto i107_135 (t := 106) (by decide) ?_
    exact rr
set_option maxHeartbeats 8000000 in
theorem m_rules_loop {R : List xRu} (hw : w < 500) (hln : len ≤ 1600) (h7 : 7 ≤ len) (hd : 2 ≤ d) (hwf : wf w = some a) (haM : M + 41 ≤ a) (hR6 : R.length ≤ 6) (hRW : ∀ r ∈ R, xWr r) (hf0 : f 0 = nI R.length) (hfk : ∀ k, k < R.length → ∃ st, f (k + 1) = nI st ∧ st + (mrule (R.getD k ([], []))).length ≤ len ∧ xseg f st (mrule (R.getD k ([], [])))) : ∀ (R2 : List xRu) (k : Nat) (pc : Int32) (g : Nat → Int32) (h : xH) (L4 L5 : Option Value), R.drop k = R2 → k + R2.length = R.length → h M = some (.inr (10, xMf M tn tk rk lt at_ sz kd fr to_ ft pt nu mn pc od)) → h (M + 6) = some (.inl (6, 500, .inr (.inr (.inr (.inr wf))))) → h a = some (.inl (0, len, .inl f)) → h (M + 36) = some (.inl (0, 32, .inl c)) → h (M + 2) = some (.inl (0, 500, .inl (fun w => nI (sv w)))) → h (M + 3) = some (.inl (0, 500, .inl (fun w => nI (sp w)))) → h (M + 37) = some (.inl (0, 160, .inl g)) → (∃ ff, h (M + 38) = some (.inl (0, 8, .inl ff))) → (∃ gg, h (M + 39) = some (.inl (0, 8, .inl gg))) →
    ∃ h' pc', xRun G d 107 (9, [some (.ref M), some (.int (nI w)), some (.ref a), some (.int (nI (k + 1))), L4, L5], [], (h, nx, sl)) (some (.int (nI (xrw (nI (sv w)) (nI (sp w)) c (k + 1) R2).1)), (h', nx, sl)) ∧ h' M = some (.inr (10, xMf M tn tk rk lt at_ sz kd fr to_ ft pt nu mn pc' od)) ∧ h' (M + 36) = some (.inl (0, 32, .inl (xrw (nI (sv w)) (nI (sp w)) c (k + 1) R2).2)) ∧ (∃ g, h' (M + 37) = some (.inl (0, 160, .inl g))) ∧ (∃ ff, h' (M + 38) = some (.inl (0, 8, .inl ff))) ∧ (∃ gg, h' (M + 39) = some (.inl (0, 8, .inl gg))) ∧ ∀ q, q ≠ M → q ≠ M + 36 → q ≠ M + 37 → q ≠ M + 38 → q ≠ M + 39 → h' q = h q := by
  intro R2
  induction R2 with
  | nil =>
    intro k pc g h L4 L5 hdr hk hO hwh ha hc hsv hsp hg hff hgg
    simp only [List.length_nil, Nat.add_zero] at hk
    refine ⟨h, pc, ?_, hO, hc, ⟨g, hg⟩, hff, hgg, fun _ _ _ _ _ _ => rfl⟩
    refine xr_go i107_9 rfl ?_
    refine xr_go i107_10 rfl ?_
    refine xr_go i107_11 rfl ?_
    refine xr_iald i107_12 ha (j := 0) rfl (by omega) (by omega) ?_
    rw [hf0]
    refine xr_icmp_gtT i107_13 (t := 146) (by decide) (nI_lt (by omega) (by omega)) ?_
    refine xr_go i107_146 rfl ?_
    exact xr_iret i107_147 xt_107 rfl
  | cons r R2 ih =>
    intro k pc g h L4 L5 hdr hk hO hwh ha hc hsv hsp hg hff hgg
    simp only [List.length_cons] at hk
    have hrk : R.getD k ([], []) = r := by
      rw [List.getD_eq_getElem?_getD]
      have := congrArg (fun l => l[0]?) hdr
      simp only [List.getElem?_drop, Nat.add_zero, List.getElem?_cons_zero] at this
      rw [this]
      rfl
    have hdr2 : R.drop (k + 1) = R2 := by
      have := congrArg (fun l => l.drop 1) hdr
      simpa [List.drop_drop] using this
    have hrm : r ∈ R := by
      have : r ∈ R.drop k := by rw [hdr]; exact List.mem_cons_self
      exact List.mem_of_mem_drop this
    obtain ⟨W1, W2, W3⟩ := hRW r hrm
    obtain ⟨st, q1, q2, q3⟩ := hfk k (by omega)
    rw [hrk] at q2 q3
    have hml : (mrule r).length = 1 + (r.1.flatMap mcmp).length + 1 + (r.2.flatMap meff).length := by
      unfold mrule
      simp only [List.length_cons, List.length_append]
      omega
    have hcl : r.1.length < 2000 := by
      have h9 : ∀ (l : List (Nat × List (Nat × Int32) × List (Nat × Int32))), l.length ≤ (l.flatMap mcmp).length := by
        intro l
        induction l with
        | nil => simp
        | cons x l ih =>
          rw [List.flatMap_cons, List.length_append, List.length_cons]
          have : 1 ≤ (mcmp x).length := by unfold mcmp; simp
          omega
      have := h9 r.1
      omega
    obtain ⟨k1, ek1⟩ : ∃ z : xH, z = xup h M (.inr (10, xMf M tn tk rk lt at_ sz kd fr to_ ft pt nu mn (nI st) od)) := ⟨_, rfl⟩
    have k1M : k1 M = some (.inr (10, xMf M tn tk rk lt at_ sz kd fr to_ ft pt nu mn (nI st) od)) := by rw [ek1]; exact xup_s
    have k1n : ∀ q, q ≠ M → k1 q = h q := fun q hq => by rw [ek1]; exact xup_n hq
    unfold mrule at q3
    obtain ⟨k2, g2, p2, r2, k2M, k2g, k2p, k2n⟩ := m_holds (G := G) (d := d - 1) (nx := nx) (sl := sl) (sv := sv) (sp := sp) (c := c) hw hln (by omega) k1M ((k1n _ (by omega)).trans hwh) hwf ((k1n _ (by omega)).trans ha) haM ((k1n _ (by omega)).trans hc) ((k1n _ (by omega)).trans hsv) ((k1n _ (by omega)).trans hsp) ((k1n _ (by omega)).trans hg) W1 q3 (by omega) hcl
    have o2 : ∀ q, q ≠ M → q ≠ M + 37 → k2 q = h q := fun q a1 a2 => (k2n q a1 a2).trans (k1n q a1)
    have pre : ∀ res, xRun G d 107 (28, [some (.ref M), some (.int (nI w)), some (.ref a), some (.int (nI (k + 1))), L4, L5], [.int (xbi (r.1.all (xch (nI (sv w)) (nI (sp w)) c)))], (k2, nx, sl)) res → xRun G d 107 (9, [some (.ref M), some (.int (nI w)), some (.ref a), some (.int (nI (k + 1))), L4, L5], [], (h, nx, sl)) res := by
      intro res z
      refine xr_go i107_9 rfl ?_
      refine xr_go i107_10 rfl ?_
      refine xr_go i107_11 rfl ?_
      refine xr_iald i107_12 ha (j := 0) rfl (by omega) (by omega) ?_
      rw [hf0]
      refine xr_icmp_gtF i107_13 (t := 146) (by decide) (nI_nlt (by omega) (by omega)) ?_
      refine xr_go i107_16 rfl ?_
      refine xr_go i107_17 rfl ?_
      refine xr_go i107_18 rfl ?_
      refine xr_iald i107_19 (by assumption) rfl (by omega) (by omega) ?_
      rw [q1]
      refine xr_put i107_20 xf107_226 (by assumption) ⟨rfl, Nat.le_of_ble_eq_true rfl, rfl, rfl, Or.inl rfl⟩ (fun y1 ey1 => ?_)
      obtain rfl : y1 = k1 := ey1.trans ek1.symm
      refine xr_go i107_23 rfl ?_
      refine xr_go i107_24 rfl ?_
      refine xr_V i107_25 xc107_233 ⟨rfl, rfl⟩ xa_108 rfl (by assumption) rfl (Nat.le_of_ble_eq_true rfl) (by omega) ⟨Nat.le_of_ble_eq_true rfl, Nat.le_of_ble_eq_true rfl⟩ (r2) ?_
      exact z
    obtain ⟨ff, hff⟩ := hff
    obtain ⟨gg, hgg⟩ := hgg
    unfold xrw
    cases hrh : xrh (nI (sv w)) (nI (sp w)) c r with
    | false =>
      rw [if_neg (by simp)]
      obtain ⟨h', pc', rr, i1, i2, i3, i4, i5, i6⟩ := ih (k + 1) (nI p2) g2 k2 L4 L5 hdr2 (by omega) k2M ((o2 _ (by omega) (by omega)).trans hwh) ((o2 _ (by omega) (by omega)).trans ha) ((o2 _ (by omega) (by omega)).trans hc) ((o2 _ (by omega) (by omega)).trans hsv) ((o2 _ (by omega) (by omega)).trans hsp) k2g ⟨ff, (o2 _ (by omega) (by omega)).trans hff⟩ ⟨gg, (o2 _ (by omega) (by omega)).trans hgg⟩
      refine ⟨h', pc', pre _ ?_, i1, i2, i3, i4, i5, fun q a1 a2 a3 a4 a5 => (i6 q a1 a2 a3 a4 a5).trans (o2 q a1 a3)⟩
      have e : r.1.all (xch (nI (sv w)) (nI (sp w)) c) = false := hrh
      rw [e]
      refine xr_if_neF i107_28 (t := 34) (by decide) (by decide) ?_
      refine xr_goto i107_31 (t := 140) (by decide) ?_
      refine xr_inc1 i107_140 rfl rfl ?_
      refine xr_goto i107_143 (t := 9) (by decide) ?_
      exact rr
    | true =>
      rw [if_pos rfl]
      have e : r.1.all (xch (nI (sv w)) (nI (sp w)) c) = true := hrh
      have ep2 := k2p e
      obtain ⟨s1, sg⟩ := xseg_cons q3
      obtain ⟨sg1, sg2⟩ := xseg_app sg
      rw [← ep2] at sg2
      obtain ⟨s3, sg4⟩ := xseg_cons sg2
      obtain ⟨k3, ek3⟩ : ∃ z : xH, z = xup k2 M (.inr (10, xMf M tn tk rk lt at_ sz kd fr to_ ft pt nu mn (nI (p2 + 1)) od)) := ⟨_, rfl⟩
      have k3M : k3 M = some (.inr (10, xMf M tn tk rk lt at_ sz kd fr to_ ft pt nu mn (nI (p2 + 1)) od)) := by rw [ek3]; exact xup_s
      have k3n : ∀ q, q ≠ M → k3 q = k2 q := fun q hq => by rw [ek3]; exact xup_n hq
      have o3 : ∀ q, q ≠ M → q ≠ M + 37 → k3 q = h q := fun q a1 a2 => (k3n q a1).trans (o2 q a1 a2)
      obtain ⟨k4, g4, gg4, ff4, p4, k4M, k4g, k4f, k4gg, k4e, k4n, k4r⟩ := m_found_loop (G := G) (d := d) (nx := nx) (sl := sl) (sv := sv) (sp := sp) (c := c) hw hln (by omega) hwf haM r.2.length W3 (nI (k + 1)) r.2 [] (p2 + 1) g2 gg ff k3 (by simp) k3M ((o3 _ (by omega) (by omega)).trans hwh) ((o3 _ (by omega) (by omega)).trans ha) ((o3 _ (by omega) (by omega)).trans hc) ((o3 _ (by omega) (by omega)).trans hsv) ((o3 _ (by omega) (by omega)).trans hsp) ((k3n _ (by omega)).trans k2g) ((o3 _ (by omega) (by omega)).trans hff) ((o3 _ (by omega) (by omega)).trans hgg) (fun j hj => by simp at hj) W2 sg4 (by omega)
      rw [List.nil_append] at k4e
      have hrl : (xre (nI (sv w)) (nI (sp w)) c r.2).length = r.2.length := by
        unfold xre
        rw [List.length_map]
      have k4c : k4 (M + 36) = some (.inl (0, 32, .inl c)) := (k4n _ (by omega) (by omega) (by omega) (by omega)).trans ((o3 _ (by omega) (by omega)).trans hc)
      obtain ⟨h', rr, i1, i2⟩ := m_assign_loop (G := G) (d := d) (nx := nx) (sl := sl) (M := M) (a := a) (L1 := some (.int (nI w))) r.2.length W3 (nI (k + 1)) (xre (nI (sv w)) (nI (sp w)) c r.2) 0 c k4 (by omega) (fun j hj => by
        have := k4e j hj
        rw [Nat.zero_add]
        refine ⟨this.1, this.2, ?_⟩
        have hm : (xre (nI (sv w)) (nI (sp w)) c r.2).getD j (0, 0) ∈ xre (nI (sv w)) (nI (sp w)) c r.2 := by
          rw [List.getD_eq_getElem?_getD, List.getElem?_eq_getElem hj]
          exact List.getElem_mem hj
        unfold xre at hm
        obtain ⟨z, hz, ez⟩ := List.mem_map.mp hm
        unfold xre
        rw [← ez]
        exact (W2 z hz).1) k4M k4c k4f k4gg
      refine ⟨h', nI p4, pre _ ?_, (i2 _ (by omega)).trans k4M, i1, ⟨g4, (i2 _ (by omega)).trans k4g⟩, ⟨ff4, (i2 _ (by omega)).trans k4f⟩, ⟨gg4, (i2 _ (by omega)).trans k4gg⟩, fun q a1 a2 a3 a4 a5 => (i2 q a2).trans ((k4n q a1 a3 a4 a5).trans (o3 q a1 a3))⟩
      rw [e]
      have hp2 : p2 < len := by omega
      have k2a := (o2 a (by omega) (by omega)).trans ha
      refine xr_if_neT i107_28 (t := 34) (by decide) (by decide) ?_
      refine xr_go i107_34 rfl ?_
      refine xr_go i107_35 rfl ?_
      refine xr_get i107_36 xf107_226 (by assumption) rfl rfl ?_
      refine xr_iald i107_39 (by assumption) rfl (by omega) (by omega) ?_
      rw [s3]
      refine xr_go i107_40 rfl ?_
      refine xr_go i107_42 rfl ?_
      refine xr_go i107_43 rfl ?_
      refine xr_get i107_44 xf107_226 (by assumption) rfl rfl ?_
      refine xr_go i107_47 rfl ?_
      refine xr_go i107_48 rfl ?_
      refine xr_top (show _ = nI (p2 + 1) from nI_add p2 1) ?_
      refine xr_put i107_49 xf107_226 (by assumption) ⟨rfl, Nat.le_of_ble_eq_true rfl, rfl, rfl, Or.inl rfl⟩ (fun y3 ey3 => ?_)
      obtain rfl : y3 = k3 := ey3.trans ek3.symm
      refine xr_go i107_52 rfl ?_
      refine xr_go i107_53 rfl ?_
      refine k4r _ ?_
      refine xr_go i107_103 rfl ?_
      refine xr_go i107_104 rfl ?_
      exact rr
theorem m_perform {pg : List (Nat × Int32)} {pc : Int32} {g : Nat → Int32} {h : xH} (hw : w < 500) (hd : 2 ≤ d) (hO : h M = some (.inr (10, xMf M tn tk rk lt at_ sz kd fr to_ ft pt nu mn pc od))) (hwh : h (M + 6) = some (.inl (6, 500, .inr (.inr (.inr (.inr wf)))))) (hwf : wf w = some a) (haM : M + 41 ≤ a) (hcd : xMcd a pg h) (hc : h (M + 36) = some (.inl (0, 32, .inl c))) (hsv : h (M + 2) = some (.inl (0, 500, .inl (fun w => nI (sv w))))) (hsp : h (M + 3) = some (.inl (0, 500, .inl (fun w => nI (sp w))))) (hg : h (M + 37) = some (.inl (0, 160, .inl g))) (hff : ∃ ff, h (M + 38) = some (.inl (0, 8, .inl ff))) (hgg : ∃ gg, h (M + 39) = some (.inl (0, 8, .inl gg))) :
    ∃ h' pc', xRun G d 107 (0, [some (.ref M), some (.int (nI w)), none, none, none, none], [], (h, nx, sl)) (some (.int (nI (xpO pg (nI (sv w)) (nI (sp w)) c))), (h', nx, sl)) ∧ h' M = some (.inr (10, xMf M tn tk rk lt at_ sz kd fr to_ ft pt nu mn pc' od)) ∧ h' (M + 36) = some (.inl (0, 32, .inl (xpC pg (nI (sv w)) (nI (sp w)) c))) ∧ (∃ g, h' (M + 37) = some (.inl (0, 160, .inl g))) ∧ (∃ ff, h' (M + 38) = some (.inl (0, 8, .inl ff))) ∧ (∃ gg, h' (M + 39) = some (.inl (0, 8, .inl gg))) ∧ ∀ q, q ≠ M → q ≠ M + 36 → q ≠ M + 37 → q ≠ M + 38 → q ≠ M + 39 → h' q = h q := by
  obtain ⟨R, len, f, rfl, hR6, hRW, ha, hln, h7, hf0, hfk⟩ := hcd
  rw [xpO_rules hRW hR6, xpC_rules hRW]
  obtain ⟨h', pc', r, i⟩ := m_rules_loop (G := G) (d := d) (nx := nx) (sl := sl) (sv := sv) (sp := sp) (c := c) hw hln h7 hd hwf haM hR6 hRW hf0 hfk R 0 pc g h none none rfl (by omega) hO hwh ha hc hsv hsp hg hff hgg
  refine ⟨h', pc', ?_, i⟩
  refine xr_go i107_0 rfl ?_
  refine xr_get i107_1 xf107_27 (by assumption) rfl rfl ?_
  refine xr_go i107_4 rfl ?_
  refine xr_aald i107_5 (by assumption) (by decide) rfl (by omega) (by omega) (by assumption) ?_
  refine xr_go i107_6 rfl ?_
  refine xr_go i107_7 rfl ?_
  refine xr_go i107_8 rfl ?_
  exact r
end XPERF3

