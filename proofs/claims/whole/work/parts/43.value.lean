/-! ===== the model: sums ===== -/
def mop (q : Nat × Int32) : List Int32 := if q.1 = 9 then [0, q.2] else if q.1 = 8 then [1, q.2] else if q.1 = 6 then [2] else if q.1 = 7 then [3] else if q.1 = 14 then [4] else if q.1 = 15 then [5] else [6]
def mE (E : List (Nat × Int32)) : List Int32 := E.flatMap mop ++ [7]
def xseg (f : Nat → Int32) (p : Nat) (l : List Int32) : Prop := ∀ i, i < l.length → f (p + i) = l.getD i 0
theorem xseg_cons {f : Nat → Int32} {p : Nat} {v : Int32} {l : List Int32} (h : xseg f p (v :: l)) : f p = v ∧ xseg f (p + 1) l := by
  refine ⟨h 0 (by simp), fun i hi => ?_⟩
  have := h (i + 1) (by simpa using hi)
  rw [List.getD_cons_succ] at this
  rw [← this]
  congr 1
  omega
theorem xseg_app {f : Nat → Int32} {p : Nat} {l1 l2 : List Int32} (h : xseg f p (l1 ++ l2)) : xseg f p l1 ∧ xseg f (p + l1.length) l2 := by
  refine ⟨fun i hi => ?_, fun i hi => ?_⟩
  · have := h i (by rw [List.length_append]; omega)
    rw [this, List.getD_eq_getElem?_getD, List.getD_eq_getElem?_getD, List.getElem?_append_left hi]
  · have := h (l1.length + i) (by rw [List.length_append]; omega)
    rw [Nat.add_assoc, this, List.getD_eq_getElem?_getD, List.getD_eq_getElem?_getD, List.getElem?_append_right (by omega)]
    congr 2
    omega
theorem xStk_two {b : List Int32} {g : Nat → Int32} {r l : Int32} (h : xStk (r :: l :: b) g) : g b.length = l ∧ g (b.length + 1) = r ∧ xStk b g := by
  refine ⟨?_, ?_, fun j hj => ?_⟩
  · have := h b.length (by simp only [List.length_cons]; omega)
    rw [this]
    simp only [List.length_cons]
    rw [show b.length + 1 + 1 - 1 - b.length = 1 by omega]
    rfl
  · have := h (b.length + 1) (by simp only [List.length_cons]; omega)
    rw [this]
    simp only [List.length_cons]
    rw [show b.length + 1 + 1 - 1 - (b.length + 1) = 0 by omega]
    rfl
  · have := h j (by simp only [List.length_cons]; omega)
    rw [this]
    simp only [List.length_cons]
    rw [show b.length + 1 + 1 - 1 - j = (b.length - 1 - j) + 1 + 1 by omega, List.getD_cons_succ, List.getD_cons_succ]
section XVALUE
variable {G : xG} {d : Nat} {nx sl M w a len : Nat} {sv sp : Nat → Nat} {tn tk rk at_ sz kd fr to_ ft pt mn od : Int32} {lt : Value} {nu : Int64} {f c : Nat → Int32}
set_option maxHeartbeats 8000000 in
theorem m_value_loop (hw : w < 500) (hln : len ≤ 1600) {v : Int32} : ∀ (E : List (Nat × Int32)) (b : List Int32) (p : Nat) (g : Nat → Int32) (h : xH) (L4 : Option Value), h M = some (.inr (10, xMf M tn tk rk lt at_ sz kd fr to_ ft pt nu mn (nI p) od)) → h a = some (.inl (0, len, .inl f)) → M + 41 ≤ a → h (M + 36) = some (.inl (0, 32, .inl c)) → h (M + 2) = some (.inl (0, 500, .inl (fun w => nI (sv w)))) → h (M + 3) = some (.inl (0, 500, .inl (fun w => nI (sp w)))) → h (M + 37) = some (.inl (0, 160, .inl g)) → xStk b g → b.length ≤ 160 → xev 160 (nI (sv w)) (nI (sp w)) c E b = some [v] → xseg f p (mE E) → p + (mE E).length ≤ len →
    ∃ h' g', xRun G d 109 (9, [some (.ref M), some (.int (nI w)), some (.ref a), some (.int (nI b.length)), L4], [], (h, nx, sl)) (some (.int v), (h', nx, sl)) ∧ h' M = some (.inr (10, xMf M tn tk rk lt at_ sz kd fr to_ ft pt nu mn (nI (p + (mE E).length)) od)) ∧ h' (M + 37) = some (.inl (0, 160, .inl g')) ∧ ∀ q, q ≠ M → q ≠ M + 37 → h' q = h q := by
  intro E
  induction E with
  | nil =>
    intro b p g h L4 hO ha haM hc hsv hsp hg hs hb hev hseg hle
    cases hev
    obtain ⟨e1, -⟩ := xseg_cons hseg
    have hlen : (mE []).length = 1 := rfl
    rw [hlen] at hle ⊢
    have g0 : g 0 = v := hs 0 (by simp)
    obtain ⟨k1, ek1⟩ : ∃ z : xH, z = xup h M (.inr (10, xMf M tn tk rk lt at_ sz kd fr to_ ft pt nu mn (nI (p + 1)) od)) := ⟨_, rfl⟩
    have k1M : k1 M = some (.inr (10, xMf M tn tk rk lt at_ sz kd fr to_ ft pt nu mn (nI (p + 1)) od)) := by rw [ek1]; exact xup_s
    have k1g : k1 (M + 37) = some (.inl (0, 160, .inl g)) := by rw [ek1]; exact (xup_n (by omega)).trans hg
    refine ⟨k1, g, ?_, k1M, k1g, fun q h1 h2 => by rw [ek1]; exact xup_n h1⟩
    refine xr_go i109_9 rfl ?_
    refine xr_go i109_10 rfl ?_
    refine xr_get i109_11 xf109_226 (by assumption) rfl rfl ?_
    refine xr_iald i109_14 (by assumption) rfl (by omega) (by omega) ?_
    refine xr_go i109_15 rfl ?_
    refine xr_icmp_eqT i109_17 (t := 204) (by decide) (by rw [e1]; rfl) ?_
    refine xr_go i109_204 rfl ?_
    refine xr_go i109_205 rfl ?_
    refine xr_get i109_206 xf109_226 (by assumption) rfl rfl ?_
    refine xr_go i109_209 rfl ?_
    refine xr_go i109_210 rfl ?_
    refine xr_top (show _ = nI (p + 1) from nI_add p 1) ?_
    refine xr_put i109_211 xf109_226 (by assumption) ⟨rfl, Nat.le_of_ble_eq_true rfl, rfl, rfl, Or.inl rfl⟩ (fun z ez => ?_)
    obtain rfl : z = k1 := ez.trans ek1.symm
    refine xr_go i109_214 rfl ?_
    refine xr_get i109_215 xf109_61 (by assumption) rfl rfl ?_
    refine xr_go i109_218 rfl ?_
    refine xr_iald i109_219 k1g (j := 0) rfl (by omega) (by omega) ?_
    rw [g0]
    exact xr_iret i109_220 xt_109 rfl
  | cons q E ih =>
    intro b p g h L4 hO ha haM hc hsv hsp hg hs hb hev hseg hle
    have hk := xev_kinds (q :: E) b _ hev q List.mem_cons_self
    have emE : mE (q :: E) = mop q ++ mE E := by
      unfold mE
      rw [List.flatMap_cons, List.append_assoc]
    rw [emE] at hseg hle ⊢
    obtain ⟨sg1, sg2⟩ := xseg_app hseg
    rw [List.length_append] at hle ⊢
    have hml : 1 ≤ (mE E).length := by
      unfold mE
      rw [List.length_append]
      simp
    cases h1 : xev1 160 (nI (sv w)) (nI (sp w)) c q.1 q.2 b with
    | none =>
      unfold xev at hev
      rw [h1] at hev
      cases hev
    | some b1 =>
      unfold xev at hev
      rw [h1] at hev
      /- the operation is read, and the place moves on -/
      obtain ⟨k1, ek1⟩ : ∃ z : xH, z = xup h M (.inr (10, xMf M tn tk rk lt at_ sz kd fr to_ ft pt nu mn (nI (p + 1)) od)) := ⟨_, rfl⟩
      have k1M : k1 M = some (.inr (10, xMf M tn tk rk lt at_ sz kd fr to_ ft pt nu mn (nI (p + 1)) od)) := by rw [ek1]; exact xup_s
      have k1n : ∀ q, q ≠ M → k1 q = h q := fun q hq => by rw [ek1]; exact xup_n hq
      have k1g := (k1n (M + 37) (by omega)).trans hg
      have k1a := (k1n a (by omega)).trans ha
      have k1c := (k1n (M + 36) (by omega)).trans hc
      have k1s := (k1n (M + 2) (by omega)).trans hsv
      have k1t := (k1n (M + 3) (by omega)).trans hsp
      have adv : ∀ (op : Int32) (res : Option Value × xW), f p = op → ¬ op = 7 → xRun G d 109 (38, [some (.ref M), some (.int (nI w)), some (.ref a), some (.int (nI b.length)), some (.int op)], [], (k1, nx, sl)) res → xRun G d 109 (9, [some (.ref M), some (.int (nI w)), some (.ref a), some (.int (nI b.length)), L4], [], (h, nx, sl)) res := by
        intro op res e1 e2 k
        have hpl : p < len := by omega
        refine xr_go i109_9 rfl ?_
        refine xr_go i109_10 rfl ?_
        refine xr_get i109_11 xf109_226 (by assumption) rfl rfl ?_
        refine xr_iald i109_14 (by assumption) rfl (by omega) (by omega) ?_
        refine xr_go i109_15 rfl ?_
        refine xr_icmp_eqF i109_17 (t := 204) (by decide) (by rw [e1]; exact e2) ?_
        refine xr_go i109_20 rfl ?_
        refine xr_go i109_21 rfl ?_
        refine xr_get i109_22 xf109_226 (by assumption) rfl rfl ?_
        refine xr_iald i109_25 (by assumption) rfl (by omega) (by omega) ?_
        rw [e1]
        refine xr_go i109_26 rfl ?_
        refine xr_go i109_28 rfl ?_
        refine xr_go i109_29 rfl ?_
        refine xr_get i109_30 xf109_226 (by assumption) rfl rfl ?_
        refine xr_go i109_33 rfl ?_
        refine xr_go i109_34 rfl ?_
        refine xr_top (show _ = nI (p + 1) from nI_add p 1) ?_
        refine xr_put i109_35 xf109_226 (by assumption) ⟨rfl, Nat.le_of_ble_eq_true rfl, rfl, rfl, Or.inl rfl⟩ (fun z ez => ?_)
        obtain rfl : z = k1 := ez.trans ek1.symm
        exact k
      /- what is pushed -/
      have psh : ∀ (v1 : Int32) (op : Int32) (p2 : Nat), b.length < 160 → b1 = v1 :: b → ((op ≤ 1 ∧ p2 = p + 2) ∨ (¬ op ≤ 1 ∧ p2 = p + 1)) → p2 = p + (mop q).length → xseg f p2 (mE E) → ∃ h' g', xRun G d 109 (104, [some (.ref M), some (.int (nI w)), some (.ref a), some (.int (nI b.length)), some (.int op)], [.int v1, .int (nI b.length), .ref (M + 37)], (k1, nx, sl)) (some (.int v), (h', nx, sl)) ∧ h' M = some (.inr (10, xMf M tn tk rk lt at_ sz kd fr to_ ft pt nu mn (nI (p + ((mop q).length + (mE E).length))) od)) ∧ h' (M + 37) = some (.inl (0, 160, .inl g')) ∧ ∀ q, q ≠ M → q ≠ M + 37 → h' q = h q := by
        intro v1 op p2 hbl eb hop ep2 hs2
        subst eb
        obtain ⟨k2, ek2⟩ : ∃ z : xH, z = xup k1 (M + 37) (.inl (0, 160, .inl (upd g b.length v1))) := ⟨_, rfl⟩
        have k2M : k2 M = some (.inr (10, xMf M tn tk rk lt at_ sz kd fr to_ ft pt nu mn (nI (p + 1)) od)) := by rw [ek2]; exact (xup_n (by omega)).trans k1M
        obtain ⟨k3, ek3⟩ : ∃ z : xH, z = xup k2 M (.inr (10, xMf M tn tk rk lt at_ sz kd fr to_ ft pt nu mn (nI p2) od)) := ⟨_, rfl⟩
        have k3M : k3 M = some (.inr (10, xMf M tn tk rk lt at_ sz kd fr to_ ft pt nu mn (nI p2) od)) := by rw [ek3]; exact xup_s
        have k3g : k3 (M + 37) = some (.inl (0, 160, .inl (upd g b.length v1))) := by rw [ek3, xup_n (by omega), ek2]; exact xup_s
        have k3n : ∀ q, q ≠ M → q ≠ M + 37 → k3 q = h q := fun q a1 a2 => by rw [ek3, xup_n a1, ek2, xup_n a2]; exact k1n q a1
        obtain ⟨h', g', r, i1, i2, i3⟩ := ih (v1 :: b) p2 (upd g b.length v1) k3 (some (.int op)) k3M ((k3n _ (by omega) (by omega)).trans ha) haM ((k3n _ (by omega) (by omega)).trans hc) ((k3n _ (by omega) (by omega)).trans hsv) ((k3n _ (by omega) (by omega)).trans hsp) k3g (xStk_push v1 hs) (by simp only [List.length_cons]; omega) hev hs2 (by omega)
        refine ⟨h', g', ?_, by rw [i1, ep2, Nat.add_assoc], i2, fun q a1 a2 => (i3 q a1 a2).trans (k3n q a1 a2)⟩
        rw [List.length_cons] at r
        have e23 : p2 = p + 1 → k2 = k3 := fun o2 => by
          rw [ek3]
          funext q
          by_cases hq : q = M
          · subst hq
            rw [k2M, o2]
            exact xup_s.symm
          · exact (xup_n hq).symm
        refine xr_iast i109_104 (by assumption) rfl (by omega) (by omega) (fun z ez => ?_)
        obtain rfl : z = k2 := ez.trans ek2.symm
        refine xr_go i109_105 rfl ?_
        refine xr_go i109_107 rfl ?_
        rcases hop with ⟨o1, o2⟩ | ⟨o1, o2⟩
        · refine xr_icmp_gtF i109_108 (t := 121) (by decide) (Int32.not_lt.mpr o1) ?_
          refine xr_go i109_111 rfl ?_
          refine xr_go i109_112 rfl ?_
          refine xr_get i109_113 xf109_226 (by assumption) rfl rfl ?_
          refine xr_go i109_116 rfl ?_
          refine xr_go i109_117 rfl ?_
          refine xr_top (show _ = nI p2 from (nI_add (p + 1) 1).trans (by rw [o2])) ?_
          refine xr_put i109_118 xf109_226 (by assumption) ⟨rfl, Nat.le_of_ble_eq_true rfl, rfl, rfl, Or.inl rfl⟩ (fun y ey => ?_)
          obtain rfl : y = k3 := ey.trans ek3.symm
          refine xr_inc1 i109_121 rfl rfl ?_
          refine xr_goto i109_124 (t := 201) (by decide) ?_
          refine xr_goto i109_201 (t := 9) (by decide) ?_
          exact r
        · refine xr_icmp_gtT i109_108 (t := 121) (by decide) (Int32.not_le.mp o1) ?_
          rw [e23 o2]
          refine xr_inc1 i109_121 rfl rfl ?_
          refine xr_goto i109_124 (t := 201) (by decide) ?_
          refine xr_goto i109_201 (t := 9) (by decide) ?_
          exact r
      /- what is combined -/
      have cmb : ∀ (r l : Int32) (b2 : List Int32) (v1 : Int32) (op : Int32), b = r :: l :: b2 → b1 = v1 :: b2 → 3 < op → (mop q).length = 1 → (∀ res, xRun G d 109 (200, [some (.ref M), some (.int (nI w)), some (.ref a), some (.int (nI (b2.length + 1))), some (.int op)], [.int v1, .int (nI b2.length), .ref (M + 37)], (k1, nx, sl)) res → xRun G d 109 (137, [some (.ref M), some (.int (nI w)), some (.ref a), some (.int (nI (b2.length + 1))), some (.int op)], [.int (nI b2.length), .ref (M + 37)], (k1, nx, sl)) res) → ∃ h' g', xRun G d 109 (38, [some (.ref M), some (.int (nI w)), some (.ref a), some (.int (nI b.length)), some (.int op)], [], (k1, nx, sl)) (some (.int v), (h', nx, sl)) ∧ h' M = some (.inr (10, xMf M tn tk rk lt at_ sz kd fr to_ ft pt nu mn (nI (p + ((mop q).length + (mE E).length))) od)) ∧ h' (M + 37) = some (.inl (0, 160, .inl g')) ∧ ∀ q, q ≠ M → q ≠ M + 37 → h' q = h q := by
        intro r l b2 v1 op eb eb1 hop hm1 hmid
        subst eb
        subst eb1
        obtain ⟨s1, s2, s3⟩ := xStk_two hs
        simp only [List.length_cons] at hb
        obtain ⟨k2, ek2⟩ : ∃ z : xH, z = xup k1 (M + 37) (.inl (0, 160, .inl (upd g b2.length v1))) := ⟨_, rfl⟩
        have k2M : k2 M = some (.inr (10, xMf M tn tk rk lt at_ sz kd fr to_ ft pt nu mn (nI (p + 1)) od)) := by rw [ek2]; exact (xup_n (by omega)).trans k1M
        have k2g : k2 (M + 37) = some (.inl (0, 160, .inl (upd g b2.length v1))) := by rw [ek2]; exact xup_s
        have k2n : ∀ q, q ≠ M → q ≠ M + 37 → k2 q = h q := fun q a1 a2 => by rw [ek2, xup_n a2]; exact k1n q a1
        rw [hm1] at sg2 ⊢
        obtain ⟨h', g', rr, i1, i2, i3⟩ := ih (v1 :: b2) (p + 1) (upd g b2.length v1) k2 (some (.int op)) k2M ((k2n _ (by omega) (by omega)).trans ha) haM ((k2n _ (by omega) (by omega)).trans hc) ((k2n _ (by omega) (by omega)).trans hsv) ((k2n _ (by omega) (by omega)).trans hsp) k2g (xStk_push v1 s3) (by simp only [List.length_cons]; omega) hev sg2 (by omega)
        refine ⟨h', g', ?_, by rw [i1, Nat.add_assoc], i2, fun q a1 a2 => (i3 q a1 a2).trans (k2n q a1 a2)⟩
        rw [List.length_cons] at rr
        show xRun G d 109 (38, [some (.ref M), some (.int (nI w)), some (.ref a), some (.int (nI (b2.length + 1 + 1))), some (.int op)], [], (k1, nx, sl)) _
        refine xr_go i109_38 rfl ?_
        refine xr_go i109_40 rfl ?_
        refine xr_icmp_gtT i109_41 (t := 127) (by decide) hop ?_
        refine xr_dec1 i109_127 rfl rfl ?_
        refine xr_go i109_130 rfl ?_
        refine xr_get i109_131 xf109_61 (by assumption) rfl rfl ?_
        refine xr_go i109_134 rfl ?_
        refine xr_go i109_135 rfl ?_
        refine xr_go i109_136 rfl ?_
        refine xr_top (show _ = nI b2.length from pk_sub (a := b2.length + 1) (b := 1) (by omega)) ?_
        refine hmid _ ?_
        refine xr_iast i109_200 (by assumption) rfl (by omega) (by omega) (fun z ez => ?_)
        obtain rfl : z = k2 := ez.trans ek2.symm
        refine xr_goto i109_201 (t := 9) (by decide) ?_
        exact rr
      rcases hk with e | e | e | e | e | e | e
      · have em : mop q = [2] := by unfold mop; rw [e]; rfl
        have ev : b.length < 160 ∧ b1 = nI (sv w) :: b := by
          unfold xev1 at h1
          rw [e] at h1
          simp only [show ¬ (6 : Nat) = 9 by omega, show ¬ (6 : Nat) = 8 by omega, if_false, if_true] at h1
          split at h1
          · rename_i hl
            cases h1
            exact ⟨hl, rfl⟩
          · cases h1
        rw [em] at sg1 sg2
        obtain ⟨h', g', r, i⟩ := psh (nI (sv w)) 2 (p + 1) ev.1 ev.2 (Or.inr ⟨by decide, rfl⟩) (by rw [em]; rfl) sg2
        refine ⟨h', g', adv 2 _ (xseg_cons sg1).1 (by decide) ?_, i⟩
        refine xr_go i109_38 rfl ?_
        refine xr_go i109_40 rfl ?_
        refine xr_icmp_gtF i109_41 (t := 127) (by decide) (by decide) ?_
        refine xr_go i109_44 rfl ?_
        refine xr_get i109_45 xf109_61 (by assumption) rfl rfl ?_
        refine xr_go i109_48 rfl ?_
        refine xr_go i109_49 rfl ?_
        refine xr_if_neT i109_51 (t := 63) (by decide) (by decide) ?_
        refine xr_go i109_63 rfl ?_
        refine xr_go i109_65 rfl ?_
        refine xr_icmp_neT i109_66 (t := 83) (by decide) (by decide) ?_
        refine xr_go i109_83 rfl ?_
        refine xr_go i109_85 rfl ?_
        refine xr_icmp_neF i109_86 (t := 98) (by decide) (by decide) ?_
        refine xr_go i109_89 rfl ?_
        refine xr_get i109_90 xf109_13 (by assumption) rfl rfl ?_
        refine xr_go i109_93 rfl ?_
        refine xr_iald i109_94 (by assumption) rfl (by omega) (by omega) ?_
        refine xr_goto i109_95 (t := 104) (by decide) ?_
        exact r
      · have em : mop q = [3] := by unfold mop; rw [e]; rfl
        have ev : b.length < 160 ∧ b1 = nI (sp w) :: b := by
          unfold xev1 at h1
          rw [e] at h1
          simp only [show ¬ (7 : Nat) = 9 by omega, show ¬ (7 : Nat) = 8 by omega, show ¬ (7 : Nat) = 6 by omega, if_false, if_true] at h1
          split at h1
          · rename_i hl
            cases h1
            exact ⟨hl, rfl⟩
          · cases h1
        rw [em] at sg1 sg2
        obtain ⟨h', g', r, i⟩ := psh (nI (sp w)) 3 (p + 1) ev.1 ev.2 (Or.inr ⟨by decide, rfl⟩) (by rw [em]; rfl) sg2
        refine ⟨h', g', adv 3 _ (xseg_cons sg1).1 (by decide) ?_, i⟩
        refine xr_go i109_38 rfl ?_
        refine xr_go i109_40 rfl ?_
        refine xr_icmp_gtF i109_41 (t := 127) (by decide) (by decide) ?_
        refine xr_go i109_44 rfl ?_
        refine xr_get i109_45 xf109_61 (by assumption) rfl rfl ?_
        refine xr_go i109_48 rfl ?_
        refine xr_go i109_49 rfl ?_
        refine xr_if_neT i109_51 (t := 63) (by decide) (by decide) ?_
        refine xr_go i109_63 rfl ?_
        refine xr_go i109_65 rfl ?_
        refine xr_icmp_neT i109_66 (t := 83) (by decide) (by decide) ?_
        refine xr_go i109_83 rfl ?_
        refine xr_go i109_85 rfl ?_
        refine xr_icmp_neT i109_86 (t := 98) (by decide) (by decide) ?_
        refine xr_go i109_98 rfl ?_
        refine xr_get i109_99 xf109_17 (by assumption) rfl rfl ?_
        refine xr_go i109_102 rfl ?_
        refine xr_iald i109_103 (by assumption) rfl (by omega) (by omega) ?_
        exact r
      · have em : mop q = [1, q.2] := by unfold mop; rw [e]; rfl
        have ev : (¬ q.2 < 0 ∧ q.2.toNatClampNeg < 32) ∧ b.length < 160 ∧ b1 = c q.2.toNatClampNeg :: b := by
          unfold xev1 at h1
          rw [e] at h1
          simp only [show ¬ (8 : Nat) = 9 by omega, if_false, if_true] at h1
          split at h1
          · rename_i ho
            split at h1
            · rename_i hl
              cases h1
              exact ⟨ho, hl, rfl⟩
            · cases h1
          · cases h1
        rw [em] at sg1 sg2
        have e2 := (xseg_cons (xseg_cons sg1).2).1
        obtain ⟨h', g', r, i⟩ := psh (c q.2.toNatClampNeg) 1 (p + 2) ev.2.1 ev.2.2 (Or.inl ⟨by decide, rfl⟩) (by rw [em]; rfl) sg2
        refine ⟨h', g', adv 1 _ (xseg_cons sg1).1 (by decide) ?_, i⟩
        have hml2 : (mop q).length = 2 := by rw [em]; rfl
        refine xr_go i109_38 rfl ?_
        refine xr_go i109_40 rfl ?_
        refine xr_icmp_gtF i109_41 (t := 127) (by decide) (by decide) ?_
        refine xr_go i109_44 rfl ?_
        refine xr_get i109_45 xf109_61 (by assumption) rfl rfl ?_
        refine xr_go i109_48 rfl ?_
        refine xr_go i109_49 rfl ?_
        refine xr_if_neT i109_51 (t := 63) (by decide) (by decide) ?_
        refine xr_go i109_63 rfl ?_
        refine xr_go i109_65 rfl ?_
        refine xr_icmp_neF i109_66 (t := 83) (by decide) (by decide) ?_
        refine xr_go i109_69 rfl ?_
        refine xr_get i109_70 xf109_58 (by assumption) rfl rfl ?_
        refine xr_go i109_73 rfl ?_
        refine xr_go i109_74 rfl ?_
        refine xr_get i109_75 xf109_226 (by assumption) rfl rfl ?_
        refine xr_iald i109_78 (by assumption) rfl (by omega) (by omega) ?_
        rw [e2]
        refine xr_iald i109_79 (by assumption) (nI_clampOf ev.1.1) (by omega) (by omega) ?_
        refine xr_goto i109_80 (t := 104) (by decide) ?_
        exact r
      · have em : mop q = [0, q.2] := by unfold mop; rw [e]; rfl
        have ev : b.length < 160 ∧ b1 = q.2 :: b := by
          unfold xev1 at h1
          rw [e] at h1
          simp only [if_true] at h1
          split at h1
          · rename_i hl
            cases h1
            exact ⟨hl, rfl⟩
          · cases h1
        rw [em] at sg1 sg2
        have e2 := (xseg_cons (xseg_cons sg1).2).1
        obtain ⟨h', g', r, i⟩ := psh q.2 0 (p + 2) ev.1 ev.2 (Or.inl ⟨by decide, rfl⟩) (by rw [em]; rfl) sg2
        refine ⟨h', g', adv 0 _ (xseg_cons sg1).1 (by decide) ?_, i⟩
        have hml2 : (mop q).length = 2 := by rw [em]; rfl
        refine xr_go i109_38 rfl ?_
        refine xr_go i109_40 rfl ?_
        refine xr_icmp_gtF i109_41 (t := 127) (by decide) (by decide) ?_
        refine xr_go i109_44 rfl ?_
        refine xr_get i109_45 xf109_61 (by assumption) rfl rfl ?_
        refine xr_go i109_48 rfl ?_
        refine xr_go i109_49 rfl ?_
        refine xr_if_neF i109_51 (t := 63) (by decide) (by decide) ?_
        refine xr_go i109_54 rfl ?_
        refine xr_go i109_55 rfl ?_
        refine xr_get i109_56 xf109_226 (by assumption) rfl rfl ?_
        refine xr_iald i109_59 (by assumption) rfl (by omega) (by omega) ?_
        rw [e2]
        refine xr_goto i109_60 (t := 104) (by decide) ?_
        exact r
      · have em : mop q = [4] := by unfold mop; rw [e]; rfl
        have ev : ∃ r l b2, b = r :: l :: b2 ∧ b1 = (l + r) :: b2 := by
          unfold xev1 at h1
          rw [e] at h1
          simp only [show ¬ (14 : Nat) = 9 by omega, show ¬ (14 : Nat) = 8 by omega, show ¬ (14 : Nat) = 6 by omega, show ¬ (14 : Nat) = 7 by omega, if_false, if_true] at h1
          split at h1
          · rename_i r l b2
            cases h1
            exact ⟨r, l, b2, rfl, rfl⟩
          · cases h1
        obtain ⟨r, l, b2, eb, eb1⟩ := ev
        rw [em] at sg1
        have hs' := hs
        rw [eb] at hs'
        obtain ⟨s1, s2, s3⟩ := xStk_two hs'
        have hb' := hb
        rw [eb] at hb'
        simp only [List.length_cons] at hb'
        refine Exists.elim (cmb r l b2 (l + r) 4 eb eb1 (by decide) (by rw [em]; rfl) ?mid) (fun h' z => Exists.elim z (fun g' z => ⟨h', g', adv 4 _ (xseg_cons sg1).1 (by decide) z.1, z.2⟩))
        case mid =>
          intro res k
          refine xr_go i109_137 rfl ?_
          refine xr_go i109_139 rfl ?_
          refine xr_icmp_neF i109_140 (t := 161) (by decide) (by decide) ?_
          refine xr_go i109_143 rfl ?_
          refine xr_get i109_144 xf109_61 (by assumption) rfl rfl ?_
          refine xr_go i109_147 rfl ?_
          refine xr_go i109_148 rfl ?_
          refine xr_go i109_149 rfl ?_
          refine xr_iald i109_150 (by assumption) (pk_sub (a := b2.length + 1) (b := 1) (by omega)) (by omega) (by omega) ?_
          refine xr_go i109_151 rfl ?_
          refine xr_get i109_152 xf109_61 (by assumption) rfl rfl ?_
          refine xr_go i109_155 rfl ?_
          refine xr_iald i109_156 (by assumption) rfl (by omega) (by omega) ?_
          refine xr_go i109_157 rfl ?_
          refine xr_goto i109_158 (t := 200) (by decide) ?_
          rw [show b2.length + 1 - 1 = b2.length by omega, s1, s2]
          exact k
      · have em : mop q = [5] := by unfold mop; rw [e]; rfl
        have ev : ∃ r l b2, b = r :: l :: b2 ∧ b1 = (l - r) :: b2 := by
          unfold xev1 at h1
          rw [e] at h1
          simp only [show ¬ (15 : Nat) = 9 by omega, show ¬ (15 : Nat) = 8 by omega, show ¬ (15 : Nat) = 6 by omega, show ¬ (15 : Nat) = 7 by omega, show ¬ (15 : Nat) = 14 by omega, if_false, if_true] at h1
          split at h1
          · rename_i r l b2
            cases h1
            exact ⟨r, l, b2, rfl, rfl⟩
          · cases h1
        obtain ⟨r, l, b2, eb, eb1⟩ := ev
        rw [em] at sg1
        have hs' := hs
        rw [eb] at hs'
        obtain ⟨s1, s2, s3⟩ := xStk_two hs'
        have hb' := hb
        rw [eb] at hb'
        simp only [List.length_cons] at hb'
        refine Exists.elim (cmb r l b2 (l - r) 5 eb eb1 (by decide) (by rw [em]; rfl) ?mid) (fun h' z => Exists.elim z (fun g' z => ⟨h', g', adv 5 _ (xseg_cons sg1).1 (by decide) z.1, z.2⟩))
        case mid =>
          intro res k
          refine xr_go i109_137 rfl ?_
          refine xr_go i109_139 rfl ?_
          refine xr_icmp_neT i109_140 (t := 161) (by decide) (by decide) ?_
          refine xr_go i109_161 rfl ?_
          refine xr_go i109_163 rfl ?_
          refine xr_icmp_neF i109_164 (t := 185) (by decide) (by decide) ?_
          refine xr_go i109_167 rfl ?_
          refine xr_get i109_168 xf109_61 (by assumption) rfl rfl ?_
          refine xr_go i109_171 rfl ?_
          refine xr_go i109_172 rfl ?_
          refine xr_go i109_173 rfl ?_
          refine xr_iald i109_174 (by assumption) (pk_sub (a := b2.length + 1) (b := 1) (by omega)) (by omega) (by omega) ?_
          refine xr_go i109_175 rfl ?_
          refine xr_get i109_176 xf109_61 (by assumption) rfl rfl ?_
          refine xr_go i109_179 rfl ?_
          refine xr_iald i109_180 (by assumption) rfl (by omega) (by omega) ?_
          refine xr_go i109_181 rfl ?_
          refine xr_goto i109_182 (t := 200) (by decide) ?_
          rw [show b2.length + 1 - 1 = b2.length by omega, s1, s2]
          exact k
      · have em : mop q = [6] := by unfold mop; rw [e]; rfl
        have ev : ∃ r l b2, b = r :: l :: b2 ∧ b1 = (l * r) :: b2 := by
          unfold xev1 at h1
          rw [e] at h1
          simp only [show ¬ (16 : Nat) = 9 by omega, show ¬ (16 : Nat) = 8 by omega, show ¬ (16 : Nat) = 6 by omega, show ¬ (16 : Nat) = 7 by omega, show ¬ (16 : Nat) = 14 by omega, show ¬ (16 : Nat) = 15 by omega, if_false, if_true] at h1
          split at h1
          · rename_i r l b2
            cases h1
            exact ⟨r, l, b2, rfl, rfl⟩
          · cases h1
        obtain ⟨r, l, b2, eb, eb1⟩ := ev
        rw [em] at sg1
        have hs' := hs
        rw [eb] at hs'
        obtain ⟨s1, s2, s3⟩ := xStk_two hs'
        have hb' := hb
        rw [eb] at hb'
        simp only [List.length_cons] at hb'
        refine Exists.elim (cmb r l b2 (l * r) 6 eb eb1 (by decide) (by rw [em]; rfl) ?mid) (fun h' z => Exists.elim z (fun g' z => ⟨h', g', adv 6 _ (xseg_cons sg1).1 (by decide) z.1, z.2⟩))
        case mid =>
          intro res k
          refine xr_go i109_137 rfl ?_
          refine xr_go i109_139 rfl ?_
          refine xr_icmp_neT i109_140 (t := 161) (by decide) (by decide) ?_
          refine xr_go i109_161 rfl ?_
          refine xr_go i109_163 rfl ?_
          refine xr_icmp_neT i109_164 (t := 185) (by decide) (by decide) ?_
          refine xr_go i109_185 rfl ?_
          refine xr_get i109_186 xf109_61 (by assumption) rfl rfl ?_
          refine xr_go i109_189 rfl ?_
          refine xr_go i109_190 rfl ?_
          refine xr_go i109_191 rfl ?_
          refine xr_iald i109_192 (by assumption) (pk_sub (a := b2.length + 1) (b := 1) (by omega)) (by omega) (by omega) ?_
          refine xr_go i109_193 rfl ?_
          refine xr_get i109_194 xf109_61 (by assumption) rfl rfl ?_
          refine xr_go i109_197 rfl ?_
          refine xr_iald i109_198 (by assumption) rfl (by omega) (by omega) ?_
          refine xr_go i109_199 rfl ?_
          rw [show b2.length + 1 - 1 = b2.length by omega, s1, s2]
          exact k
theorem m_value {E : List (Nat × Int32)} {p : Nat} {g : Nat → Int32} {h : xH} {wf : Nat → Option Nat} (hw : w < 500) (hln : len ≤ 1600) (hO : h M = some (.inr (10, xMf M tn tk rk lt at_ sz kd fr to_ ft pt nu mn (nI p) od))) (hwh : h (M + 6) = some (.inl (6, 500, .inr (.inr (.inr (.inr wf)))))) (hwf : wf w = some a) (ha : h a = some (.inl (0, len, .inl f))) (haM : M + 41 ≤ a) (hc : h (M + 36) = some (.inl (0, 32, .inl c))) (hsv : h (M + 2) = some (.inl (0, 500, .inl (fun w => nI (sv w))))) (hsp : h (M + 3) = some (.inl (0, 500, .inl (fun w => nI (sp w))))) (hg : h (M + 37) = some (.inl (0, 160, .inl g))) (hE : xQ1 E 15) (hseg : xseg f p (mE E)) (hle : p + (mE E).length ≤ len) :
    ∃ h' g', xRun G d 109 (0, [some (.ref M), some (.int (nI w)), none, none, none], [], (h, nx, sl)) (some (.int (xval E (nI (sv w)) (nI (sp w)) c)), (h', nx, sl)) ∧ h' M = some (.inr (10, xMf M tn tk rk lt at_ sz kd fr to_ ft pt nu mn (nI (p + (mE E).length)) od)) ∧ h' (M + 37) = some (.inl (0, 160, .inl g')) ∧ ∀ q, q ≠ M → q ≠ M + 37 → h' q = h q := by
  obtain ⟨h', g', r, i⟩ := m_value_loop (G := G) (d := d) (nx := nx) (sl := sl) hw hln E [] p g h none hO ha haM hc hsv hsp hg (fun j hj => by simp at hj) (by simp) (xQ1_val hE (by omega) (by simp)) hseg hle
  refine ⟨h', g', ?_, i⟩
  refine xr_go i109_0 rfl ?_
  refine xr_get i109_1 xf109_27 (by assumption) rfl rfl ?_
  refine xr_go i109_4 rfl ?_
  refine xr_aald i109_5 (by assumption) (by decide) rfl (by omega) (by omega) (by assumption) ?_
  refine xr_go i109_6 rfl ?_
  refine xr_go i109_7 rfl ?_
  refine xr_go i109_8 rfl ?_
  exact r
end XVALUE

