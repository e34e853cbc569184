/-! ===== the class's Machine, in words of lists: a stack (newest first), the effects kept, whether the tests hold ===== -/
def xStk (b : List Int32) (vals : Nat → Int32) : Prop := ∀ j, j < b.length → vals j = b.getD (b.length - 1 - j) 0
def xEff (e : List (Nat × Int32)) (tg sm : Nat → Int32) : Prop := ∀ j, j < e.length → tg j = nI (e.getD j (0, 0)).1 ∧ sm j = (e.getD j (0, 0)).2
def xbi (t : Bool) : Int32 := if t = true then 1 else 0
def xMS (a : Nat) (b : List Int32) (e : List (Nat × Int32)) (t : Bool) (h : xH) : Prop := ∃ vals tg sm, xMach a b.length e.length (xbi t) vals tg sm h ∧ xStk b vals ∧ xEff e tg sm ∧ b.length ≤ 16 ∧ e.length ≤ 8
theorem xStk_push {b : List Int32} {vals : Nat → Int32} (v : Int32) (hs : xStk b vals) : xStk (v :: b) (upd vals b.length v) := by
  intro j hj
  simp only [List.length_cons] at hj
  by_cases h : j = b.length
  · subst h
    simp [upd]
  · have e : (v :: b).length - 1 - j = (b.length - 1 - j) + 1 := by simp only [List.length_cons]; omega
    rw [e, List.getD_cons_succ]
    simp only [upd, if_neg h]
    exact hs j (by omega)
theorem xStk_pop {b : List Int32} {v : Int32} {vals : Nat → Int32} (hs : xStk (v :: b) vals) : vals b.length = v ∧ xStk b vals := by
  refine ⟨?_, fun j hj => ?_⟩
  · have := hs b.length (by simp)
    simpa using this
  · have := hs j (by simp only [List.length_cons]; omega)
    have e : (v :: b).length - 1 - j = (b.length - 1 - j) + 1 := by simp only [List.length_cons]; omega
    rw [e, List.getD_cons_succ] at this
    exact this
theorem xEff_add {e : List (Nat × Int32)} {tg sm : Nat → Int32} (c : Nat) (v : Int32) (he : xEff e tg sm) : xEff (e ++ [(c, v)]) (upd tg e.length (nI c)) (upd sm e.length v) := by
  intro j hj
  simp only [List.length_append, List.length_singleton] at hj
  by_cases h : j = e.length
  · subst h
    simp [upd, List.getD_eq_getElem?_getD]
  · have hl : j < e.length := by omega
    have e1 : (e ++ [(c, v)]).getD j (0, 0) = e.getD j (0, 0) := by
      rw [List.getD_eq_getElem?_getD, List.getD_eq_getElem?_getD, List.getElem?_append_left hl]
    rw [e1]
    simp only [upd, if_neg h]
    exact he j hl
section XM2
variable {G : xG} {d : Nat} {h : xH} {nx sl : Nat} {a : Nat} {b : List Int32} {e : List (Nat × Int32)} {t : Bool}
theorem s_push (v : Int32) (hM : xMS a b e t h) (hb : b.length < 16) : ∃ h', xRun G d 53 (0, [some (.ref a), some (.int v)], [], (h, nx, sl)) (none, (h', nx, sl)) ∧ xMS a (v :: b) e t h' ∧ xsame a (a + 3) h h' := by
  obtain ⟨vals, tg, sm, h1, h2, h3, h4, h5⟩ := hM
  obtain ⟨h', r, hm, hs⟩ := c_push (G := G) (d := d) (nx := nx) (sl := sl) (v := v) h1 hb
  exact ⟨h', r, ⟨_, tg, sm, hm, xStk_push v h2, h3, hb, h5⟩, hs⟩
theorem s_pop {v : Int32} (hM : xMS a (v :: b) e t h) : ∃ h', xRun G d 55 (0, [some (.ref a)], [], (h, nx, sl)) (some (.int v), (h', nx, sl)) ∧ xMS a b e t h' ∧ xsame a (a + 3) h h' := by
  obtain ⟨vals, tg, sm, h1, h2, h3, h4, h5⟩ := hM
  have hl : b.length < 16 := by simp only [List.length_cons] at h4; omega
  obtain ⟨h', r, hm, hs⟩ := c_pop (G := G) (d := d) (nx := nx) (sl := sl) (dep := b.length) h1 hl
  obtain ⟨e1, e2⟩ := xStk_pop h2
  rw [e1] at r
  exact ⟨h', r, ⟨vals, tg, sm, hm, e2, h3, by omega, h5⟩, hs⟩
theorem s_begin (hM : xMS a b e t h) : ∃ h', xRun G d 51 (0, [some (.ref a)], [], (h, nx, sl)) (none, (h', nx, sl)) ∧ xMS a [] [] true h' ∧ xsame a (a + 3) h h' := by
  obtain ⟨vals, tg, sm, h1, h2, h3, h4, h5⟩ := hM
  obtain ⟨h', r, hm, hs⟩ := c_begin (G := G) (d := d) (nx := nx) (sl := sl) h1
  exact ⟨h', r, ⟨vals, tg, sm, hm, fun j hj => by simp at hj, fun j hj => by simp at hj, by simp, by simp⟩, hs⟩
theorem s_keep {v : Int32} (c : Nat) (hM : xMS a (v :: b) e t h) (he : e.length < 8) (hd : 1 ≤ d) : ∃ h', xRun G d 54 (0, [some (.ref a), some (.int (nI c)), none], [], (h, nx, sl)) (none, (h', nx, sl)) ∧ xMS a b (e ++ [(c, v)]) t h' ∧ xsame a (a + 3) h h' := by
  obtain ⟨vals, tg, sm, h1, h2, h3, h4, h5⟩ := hM
  have hl : b.length < 16 := by simp only [List.length_cons] at h4; omega
  obtain ⟨h', r, hm, hs⟩ := c_keep (G := G) (d := d) (nx := nx) (sl := sl) (t := nI c) (dep := b.length) h1 hl he hd
  obtain ⟨e1, e2⟩ := xStk_pop h2
  rw [e1] at hm
  exact ⟨h', r, ⟨vals, _, _, by rw [show (e ++ [(c, v)]).length = e.length + 1 by simp]; exact hm, e2, xEff_add c v h3, by omega, by simp; omega⟩, hs⟩
theorem xMS_holds (t' : Bool) {g : xH} {vals tg sm : Nat → Int32} (h1 : xMach a b.length e.length (xbi t) vals tg sm h) (h2 : xStk b vals) (h3 : xEff e tg sm) (h4 : b.length ≤ 16) (h5 : e.length ≤ 8) (hg : g = xup h a (.inr (5, [.ref (a + 1), .ref (a + 2), .ref (a + 3), .int (nI b.length), .int (nI e.length), .int (xbi t')]))) : xMS a b e t' g ∧ xsame a (a + 3) h g := by
  obtain ⟨m, s⟩ := xMach_of h1 hg
  exact ⟨⟨vals, tg, sm, m, h2, h3, h4, h5⟩, s⟩
/-- what a step does with two values: a new value, or whether the test holds -/
def xcomb (k : Nat) (l r : Int32) (b : List Int32) (t : Bool) : Option (List Int32 × Bool) :=
  if k = 14 then some ((l + r) :: b, t) else if k = 15 then some ((l - r) :: b, t) else if k = 16 then some ((l * r) :: b, t)
  else if k = 10 then some (b, decide (l = r)) else if k = 11 then some (b, decide (¬ l = r)) else if k = 12 then some (b, decide (l < r)) else if k = 13 then some (b, decide (r < l)) else none
set_option maxHeartbeats 4000000 in
theorem s_combine {k : Nat} {l r : Int32} {b' : List Int32} {t' : Bool} (hM : xMS a (r :: l :: b) e t h) (hk : xcomb k l r b t = some (b', t')) (hd : 1 ≤ d) : ∃ h', xRun G d 56 (0, [some (.ref a), some (.int (nI k)), none, none], [], (h, nx, sl)) (none, (h', nx, sl)) ∧ xMS a b' e t' h' ∧ xsame a (a + 3) h h' := by
  have hM0 : ∃ x, h a = some (.inr (5, x)) := by
    obtain ⟨_, _, _, h1, -⟩ := hM
    exact ⟨_, h1.1⟩
  obtain ⟨x0, m0⟩ := hM0
  obtain ⟨h1, r1, hM1, s1⟩ := s_pop (G := G) (d := d - 1) (nx := nx) (sl := sl) hM
  have hM10 : ∃ x, h1 a = some (.inr (5, x)) := by
    obtain ⟨_, _, _, h1, -⟩ := hM1
    exact ⟨_, h1.1⟩
  obtain ⟨x1, m1⟩ := hM10
  obtain ⟨h2, r2, hM2, s2⟩ := s_pop (G := G) (d := d - 1) (nx := nx) (sl := sl) hM1
  have hbl : b.length < 16 := by
    obtain ⟨_, _, _, -, -, -, h4, -⟩ := hM1
    simp only [List.length_cons] at h4; omega
  have hM20 : ∃ x, h2 a = some (.inr (5, x)) := by
    obtain ⟨_, _, _, h1, -⟩ := hM2
    exact ⟨_, h1.1⟩
  obtain ⟨x2, m2⟩ := hM20
  have start : ∀ res, xRun G d 56 (11, [some (.ref a), some (.int (nI k)), some (.int r), some (.int l)], [.int (nI k)], (h2, nx, sl)) res → xRun G d 56 (0, [some (.ref a), some (.int (nI k)), none, none], [], (h, nx, sl)) res := by
    intro res hres
    refine xr_go i56_0 rfl ?_
    refine xr_V i56_1 xc56_71 ⟨rfl, rfl⟩ xa_55 rfl (by assumption) rfl (Nat.le_of_ble_eq_true rfl) (by omega) ⟨Nat.le_of_ble_eq_true rfl, Nat.le_of_ble_eq_true rfl⟩ (r1) ?_
    refine xr_go i56_4 rfl ?_
    refine xr_go i56_5 rfl ?_
    refine xr_V i56_6 xc56_71 ⟨rfl, rfl⟩ xa_55 rfl (by assumption) rfl (Nat.le_of_ble_eq_true rfl) (by omega) ⟨Nat.le_of_ble_eq_true rfl, Nat.le_of_ble_eq_true rfl⟩ (r2) ?_
    refine xr_go i56_9 rfl ?_
    refine xr_go i56_10 rfl ?_
    exact hres
  have push : ∀ v, ∃ h3, xRun G (d - 1) 53 (0, [some (.ref a), some (.int v)], [], (h2, nx, sl)) (none, (h3, nx, sl)) ∧ xMS a (v :: b) e t h3 ∧ xsame a (a + 3) h2 h3 := fun v => s_push v hM2 hbl
  have hold : ∀ t9 : Bool, ∃ g, g = xup h2 a (.inr (5, [.ref (a + 1), .ref (a + 2), .ref (a + 3), .int (nI b.length), .int (nI e.length), .int (xbi t9)])) ∧ xMS a b e t9 g ∧ xsame a (a + 3) h2 g := by
    intro t9
    obtain ⟨vals, tg, sm, q1, q2, q3, q4, q5⟩ := hM2
    exact ⟨_, rfl, xMS_holds t9 q1 q2 q3 q4 q5 rfl⟩
  have hfield : h2 a = some (.inr (5, [.ref (a + 1), .ref (a + 2), .ref (a + 3), .int (nI b.length), .int (nI e.length), .int (xbi t)])) := by
    obtain ⟨_, _, _, q1, -⟩ := hM2
    exact q1.1
  unfold xcomb at hk
  by_cases k14 : k = 14
  · rw [if_pos k14] at hk
    cases hk
    subst k14
    obtain ⟨h3, r3, hM3, s3⟩ := push (l + r)
    refine ⟨h3, start _ ?_, hM3, (s1.trans s2).trans s3⟩
    refine xr_go i56_11 rfl ?_
    refine xr_go i56_52 rfl ?_
    refine xr_go i56_53 rfl ?_
    refine xr_go i56_54 rfl ?_
    refine xr_go i56_55 rfl ?_
    refine xr_V i56_56 xc56_55 ⟨rfl, rfl⟩ xa_53 rfl (by assumption) rfl (Nat.le_of_ble_eq_true rfl) (by omega) ⟨Nat.le_of_ble_eq_true rfl, Nat.le_of_ble_eq_true rfl⟩ (r3) ?_
    refine xr_goto i56_59 (t := 147) (by decide) ?_
    exact xr_end i56_147 rfl
  rw [if_neg k14] at hk
  by_cases k15 : k = 15
  · rw [if_pos k15] at hk
    cases hk
    subst k15
    obtain ⟨h3, r3, hM3, s3⟩ := push (l - r)
    refine ⟨h3, start _ ?_, hM3, (s1.trans s2).trans s3⟩
    refine xr_go i56_11 rfl ?_
    refine xr_go i56_62 rfl ?_
    refine xr_go i56_63 rfl ?_
    refine xr_go i56_64 rfl ?_
    refine xr_go i56_65 rfl ?_
    refine xr_V i56_66 xc56_55 ⟨rfl, rfl⟩ xa_53 rfl (by assumption) rfl (Nat.le_of_ble_eq_true rfl) (by omega) ⟨Nat.le_of_ble_eq_true rfl, Nat.le_of_ble_eq_true rfl⟩ (r3) ?_
    refine xr_goto i56_69 (t := 147) (by decide) ?_
    exact xr_end i56_147 rfl
  rw [if_neg k15] at hk
  by_cases k16 : k = 16
  · rw [if_pos k16] at hk
    cases hk
    subst k16
    obtain ⟨h3, r3, hM3, s3⟩ := push (l * r)
    refine ⟨h3, start _ ?_, hM3, (s1.trans s2).trans s3⟩
    refine xr_go i56_11 rfl ?_
    refine xr_go i56_72 rfl ?_
    refine xr_go i56_73 rfl ?_
    refine xr_go i56_74 rfl ?_
    refine xr_go i56_75 rfl ?_
    refine xr_V i56_76 xc56_55 ⟨rfl, rfl⟩ xa_53 rfl (by assumption) rfl (Nat.le_of_ble_eq_true rfl) (by omega) ⟨Nat.le_of_ble_eq_true rfl, Nat.le_of_ble_eq_true rfl⟩ (r3) ?_
    refine xr_goto i56_79 (t := 147) (by decide) ?_
    exact xr_end i56_147 rfl
  rw [if_neg k16] at hk
  by_cases k10 : k = 10
  · rw [if_pos k10] at hk
    cases hk
    subst k10
    obtain ⟨g, eg, hMg, sg⟩ := hold (decide (l = r))
    refine ⟨g, start _ ?_, hMg, (s1.trans s2).trans sg⟩
    refine xr_go i56_11 rfl ?_
    refine xr_go i56_82 rfl ?_
    refine xr_go i56_83 rfl ?_
    refine xr_go i56_84 rfl ?_
    refine xr_icmp_ne i56_85 (t := 92) (by decide) (fun hc => ?_) (fun hc => ?_)
    · refine xr_go i56_92 rfl ?_
      refine xr_put i56_93 xf56_26 (by assumption) ⟨rfl, Nat.le_of_ble_eq_true rfl, rfl, rfl, Or.inl rfl⟩ (fun g1 eg1 => ?_)
      have hg : g1 = g := by rw [eg1, eg, decide_eq_false hc]; rfl
      rw [hg]
      refine xr_goto i56_96 (t := 147) (by decide) ?_
      exact xr_end i56_147 rfl
    · refine xr_go i56_88 rfl ?_
      refine xr_goto i56_89 (t := 93) (by decide) ?_
      refine xr_put i56_93 xf56_26 (by assumption) ⟨rfl, Nat.le_of_ble_eq_true rfl, rfl, rfl, Or.inl rfl⟩ (fun g1 eg1 => ?_)
      have hg : g1 = g := by rw [eg1, eg, decide_eq_true hc]; rfl
      rw [hg]
      refine xr_goto i56_96 (t := 147) (by decide) ?_
      exact xr_end i56_147 rfl
  rw [if_neg k10] at hk
  by_cases k11 : k = 11
  · rw [if_pos k11] at hk
    cases hk
    subst k11
    obtain ⟨g, eg, hMg, sg⟩ := hold (decide (¬ l = r))
    refine ⟨g, start _ ?_, hMg, (s1.trans s2).trans sg⟩
    refine xr_go i56_11 rfl ?_
    refine xr_go i56_99 rfl ?_
    refine xr_go i56_100 rfl ?_
    refine xr_go i56_101 rfl ?_
    refine xr_icmp_eq i56_102 (t := 109) (by decide) (fun hc => ?_) (fun hc => ?_)
    · refine xr_go i56_109 rfl ?_
      refine xr_put i56_110 xf56_26 (by assumption) ⟨rfl, Nat.le_of_ble_eq_true rfl, rfl, rfl, Or.inl rfl⟩ (fun g1 eg1 => ?_)
      have hg : g1 = g := by rw [eg1, eg, decide_eq_false (fun z => z hc)]; rfl
      rw [hg]
      refine xr_goto i56_113 (t := 147) (by decide) ?_
      exact xr_end i56_147 rfl
    · refine xr_go i56_105 rfl ?_
      refine xr_goto i56_106 (t := 110) (by decide) ?_
      refine xr_put i56_110 xf56_26 (by assumption) ⟨rfl, Nat.le_of_ble_eq_true rfl, rfl, rfl, Or.inl rfl⟩ (fun g1 eg1 => ?_)
      have hg : g1 = g := by rw [eg1, eg, decide_eq_true hc]; rfl
      rw [hg]
      refine xr_goto i56_113 (t := 147) (by decide) ?_
      exact xr_end i56_147 rfl
  rw [if_neg k11] at hk
  by_cases k12 : k = 12
  · rw [if_pos k12] at hk
    cases hk
    subst k12
    obtain ⟨g, eg, hMg, sg⟩ := hold (decide (l < r))
    refine ⟨g, start _ ?_, hMg, (s1.trans s2).trans sg⟩
    refine xr_go i56_11 rfl ?_
    refine xr_go i56_116 rfl ?_
    refine xr_go i56_117 rfl ?_
    refine xr_go i56_118 rfl ?_
    refine xr_icmp_ge i56_119 (t := 126) (by decide) (fun hc => ?_) (fun hc => ?_)
    · refine xr_go i56_126 rfl ?_
      refine xr_put i56_127 xf56_26 (by assumption) ⟨rfl, Nat.le_of_ble_eq_true rfl, rfl, rfl, Or.inl rfl⟩ (fun g1 eg1 => ?_)
      have hg : g1 = g := by rw [eg1, eg, decide_eq_false (Int32.not_lt.mpr hc)]; rfl
      rw [hg]
      refine xr_goto i56_130 (t := 147) (by decide) ?_
      exact xr_end i56_147 rfl
    · refine xr_go i56_122 rfl ?_
      refine xr_goto i56_123 (t := 127) (by decide) ?_
      refine xr_put i56_127 xf56_26 (by assumption) ⟨rfl, Nat.le_of_ble_eq_true rfl, rfl, rfl, Or.inl rfl⟩ (fun g1 eg1 => ?_)
      have hg : g1 = g := by rw [eg1, eg, decide_eq_true (Int32.not_le.mp hc)]; rfl
      rw [hg]
      refine xr_goto i56_130 (t := 147) (by decide) ?_
      exact xr_end i56_147 rfl
  rw [if_neg k12] at hk
  by_cases k13 : k = 13
  · rw [if_pos k13] at hk
    cases hk
    subst k13
    obtain ⟨g, eg, hMg, sg⟩ := hold (decide (r < l))
    refine ⟨g, start _ ?_, hMg, (s1.trans s2).trans sg⟩
    refine xr_go i56_11 rfl ?_
    refine xr_go i56_133 rfl ?_
    refine xr_go i56_134 rfl ?_
    refine xr_go i56_135 rfl ?_
    refine xr_icmp_le i56_136 (t := 143) (by decide) (fun hc => ?_) (fun hc => ?_)
    · refine xr_go i56_143 rfl ?_
      refine xr_put i56_144 xf56_26 (by assumption) ⟨rfl, Nat.le_of_ble_eq_true rfl, rfl, rfl, Or.inl rfl⟩ (fun g1 eg1 => ?_)
      have hg : g1 = g := by rw [eg1, eg, decide_eq_false (Int32.not_lt.mpr hc)]; rfl
      rw [hg]
      exact xr_end i56_147 rfl
    · refine xr_go i56_139 rfl ?_
      refine xr_goto i56_140 (t := 144) (by decide) ?_
      refine xr_put i56_144 xf56_26 (by assumption) ⟨rfl, Nat.le_of_ble_eq_true rfl, rfl, rfl, Or.inl rfl⟩ (fun g1 eg1 => ?_)
      have hg : g1 = g := by rw [eg1, eg, decide_eq_true (Int32.not_le.mp hc)]; rfl
      rw [hg]
      exact xr_end i56_147 rfl
  rw [if_neg k13] at hk
  cases hk
end XM2

