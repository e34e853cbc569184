/-! ===== the class does a write ===== -/
/-- all kept effects, in their order -/
def xchg (e : List (Nat × Int32)) (cl : Nat → Int32) : Nat → Int32 := e.foldl (fun c p => upd c p.1 p.2) cl
theorem xchg_snoc {e : List (Nat × Int32)} {p : Nat × Int32} {cl : Nat → Int32} : xchg (e ++ [p]) cl = upd (xchg e cl) p.1 p.2 := by simp [xchg]
theorem take_succ_getD {α : Type} {e : List α} {i : Nat} (z : α) (hi : i < e.length) : e.take (i + 1) = e.take i ++ [e.getD i z] := by
  rw [List.take_add_one, List.getD_eq_getElem?_getD, List.getElem?_eq_getElem hi]
  rfl
section XPERF
variable {G : xG} {d : Nat} {h : xH} {nx sl : Nat} {a ca : Nat} {b : List Int32} {e : List (Nat × Int32)} {t : Bool} {cl : Nat → Int32}
theorem s_change_loop (hM : xMS a b e t h) (hc : h ca = some (.inl (0, 32, .inl cl))) (hca : ca < a ∨ a + 3 < ca) (ht : ∀ p ∈ e, p.1 < 32) : ∀ n i g, i + n = e.length → g = xup h ca (.inl (0, 32, .inl (xchg (e.take i) cl))) → xRun G d 57 (2, [some (.ref a), some (.ref ca), some (.int (nI i))], [], (g, nx, sl)) (none, (xup h ca (.inl (0, 32, .inl (xchg e cl))), nx, sl)) := by
  obtain ⟨vals, tg, sm, ⟨m0, m1, m2, m3⟩, h2, h3, h4, h5⟩ := hM
  intro n
  induction n with
  | zero =>
    intro i g hi eg
    have k0 : g a = some (.inr (5, [.ref (a + 1), .ref (a + 2), .ref (a + 3), .int (nI b.length), .int (nI e.length), .int (xbi t)])) := by rw [eg, xup_n (by omega)]; exact m0
    refine xr_go i57_2 rfl ?_
    refine xr_go i57_3 rfl ?_
    refine xr_get i57_4 xf57_23 (by assumption) rfl rfl ?_
    refine xr_icmp_geT i57_7 (t := 30) (by decide) (nI_le (by omega) (by omega)) ?_
    rw [eg, show i = e.length by omega, List.take_length]
    exact xr_end i57_30 rfl
  | succ n ih =>
    intro i g hi eg
    have k0 : g a = some (.inr (5, [.ref (a + 1), .ref (a + 2), .ref (a + 3), .int (nI b.length), .int (nI e.length), .int (xbi t)])) := by rw [eg, xup_n (by omega)]; exact m0
    have k2 : g (a + 2) = some (.inl (0, 8, .inl tg)) := by rw [eg, xup_n (by omega)]; exact m2
    have k3 : g (a + 3) = some (.inl (0, 8, .inl sm)) := by rw [eg, xup_n (by omega)]; exact m3
    have kc : g ca = some (.inl (0, 32, .inl (xchg (e.take i) cl))) := by rw [eg]; exact xup_s
    have hlt : i < e.length := by omega
    obtain ⟨e1, e2⟩ := h3 i hlt
    have h32 : (e.getD i (0, 0)).1 < 32 := by
      apply ht
      rw [List.getD_eq_getElem?_getD, List.getElem?_eq_getElem hlt]
      exact List.getElem_mem hlt
    refine xr_go i57_2 rfl ?_
    refine xr_go i57_3 rfl ?_
    refine xr_get i57_4 xf57_23 (by assumption) rfl rfl ?_
    refine xr_icmp_geF i57_7 (t := 30) (by decide) (nI_ge (by omega) (by omega)) ?_
    refine xr_go i57_10 rfl ?_
    refine xr_go i57_11 rfl ?_
    refine xr_get i57_12 xf57_13 (by assumption) rfl rfl ?_
    refine xr_go i57_15 rfl ?_
    refine xr_iald i57_16 (by assumption) rfl (by omega) (by omega) ?_
    refine xr_go i57_17 rfl ?_
    refine xr_get i57_18 xf57_16 (by assumption) rfl rfl ?_
    refine xr_go i57_21 rfl ?_
    refine xr_iald i57_22 (by assumption) rfl (by omega) (by omega) ?_
    refine xr_iast i57_23 (by assumption) e1 (by omega) (by omega) (fun g1 eg1 => ?_)
    refine xr_inc1 i57_24 rfl rfl ?_
    refine xr_goto i57_27 (t := 2) (by decide) ?_
    refine ih (i + 1) g1 (by omega) ?_
    rw [eg1, eg, xup_same, take_succ_getD (0, 0) hlt, xchg_snoc, e2]
theorem s_change (hM : xMS a b e t h) (hc : h ca = some (.inl (0, 32, .inl cl))) (hca : ca < a ∨ a + 3 < ca) (ht : ∀ p ∈ e, p.1 < 32) : xRun G d 57 (0, [some (.ref a), some (.ref ca), none], [], (h, nx, sl)) (none, (xup h ca (.inl (0, 32, .inl (xchg e cl))), nx, sl)) := by
  refine xr_go i57_0 rfl ?_
  refine xr_go i57_1 rfl ?_
  refine s_change_loop hM hc hca ht e.length 0 h (by omega) ?_
  funext q
  by_cases hq : q = ca
  · subst hq
    rw [xup_s]
    exact hc
  · rw [xup_n hq]
/-- the state of a machine: stack, effects, whether the tests hold -/
abbrev xS : Type := List Int32 × List (Nat × Int32) × Bool
def xspush (v : Int32) (s : xS) : Option xS := if s.1.length < 16 then some (v :: s.1, s.2) else none
/-- one step -/
def xstep (sv sp : Int32) (cl : Nat → Int32) (k : Nat) (o : Int32) (s : xS) : Option xS :=
  if k = 9 then xspush o s
  else if k = 8 then (if ¬ o < 0 ∧ o.toNatClampNeg < 32 then xspush (cl o.toNatClampNeg) s else none)
  else if k = 6 then xspush sv s
  else if k = 7 then xspush sp s
  else if k = 17 then (match s.1 with
    | v :: b => if s.2.1.length < 8 ∧ ¬ o < 0 ∧ o.toNatClampNeg < 32 then some (b, s.2.1 ++ [(o.toNatClampNeg, v)], s.2.2) else none
    | [] => none)
  else (match s.1 with
    | r :: l :: b => (xcomb k l r b s.2.2).map (fun q => (q.1, s.2.1, q.2))
    | _ => none)
theorem xMS_at (hM : xMS a b e t h) : h a = some (.inr (5, [.ref (a + 1), .ref (a + 2), .ref (a + 3), .int (nI b.length), .int (nI e.length), .int (xbi t)])) := by
  obtain ⟨_, _, _, q1, -⟩ := hM
  exact q1.1
theorem nI_clampOf {o : Int32} (h : ¬ o < 0) : o = nI o.toNatClampNeg := by
  obtain ⟨j, hj, rfl⟩ := nI_of h
  rw [nI_clamp hj]
theorem xcomb_k {k : Nat} {l r : Int32} {b : List Int32} {t : Bool} {q : List Int32 × Bool} (h : xcomb k l r b t = some q) : 10 ≤ k ∧ k ≤ 16 := by
  unfold xcomb at h
  repeat' (split at h)
  all_goals first | omega | cases h
set_option maxHeartbeats 4000000 in
theorem s_doStep {k wa : Nat} {o sv sp : Int32} {w2 w3 : Value} {s s' : xS} (hM : xMS a s.1 s.2.1 s.2.2 h) (hw : h wa = some (.inr (9, [.int sv, .int sp, w2, w3]))) (hc : h ca = some (.inl (0, 32, .inl cl))) (hs : xstep sv sp cl k o s = some s') (hd : 2 ≤ d) : ∃ h', xRun G d 52 (0, [some (.ref a), some (.int (nI k)), some (.int o), some (.ref wa), some (.ref ca)], [], (h, nx, sl)) (none, (h', nx, sl)) ∧ xMS a s'.1 s'.2.1 s'.2.2 h' ∧ xsame a (a + 3) h h' := by
  obtain ⟨b, e, t⟩ := s
  have m0 := xMS_at hM
  unfold xstep at hs
  by_cases k9 : k = 9
  · rw [if_pos k9] at hs
    subst k9
    unfold xspush at hs
    split at hs
    · rename_i hl
      cases hs
      obtain ⟨h1, r1, hM1, s1⟩ := s_push (G := G) (d := d - 1) (nx := nx) (sl := sl) o hM hl
      refine ⟨h1, ?_, hM1, s1⟩
      refine xr_go i52_0 rfl ?_
      refine xr_go i52_1 rfl ?_
      refine xr_go i52_64 rfl ?_
      refine xr_go i52_65 rfl ?_
      refine xr_V i52_66 xc52_55 ⟨rfl, rfl⟩ xa_53 rfl (by assumption) rfl (Nat.le_of_ble_eq_true rfl) (by omega) ⟨Nat.le_of_ble_eq_true rfl, Nat.le_of_ble_eq_true rfl⟩ (r1) ?_
      refine xr_goto i52_69 (t := 118) (by decide) ?_
      exact xr_end i52_118 rfl
    · cases hs
  rw [if_neg k9] at hs
  by_cases k8 : k = 8
  · rw [if_pos k8] at hs
    subst k8
    split at hs
    · rename_i ho
      unfold xspush at hs
      split at hs
      · rename_i hl
        cases hs
        obtain ⟨h1, r1, hM1, s1⟩ := s_push (G := G) (d := d - 1) (nx := nx) (sl := sl) (cl o.toNatClampNeg) hM hl
        refine ⟨h1, ?_, hM1, s1⟩
        refine xr_go i52_0 rfl ?_
        refine xr_go i52_1 rfl ?_
        refine xr_go i52_72 rfl ?_
        refine xr_go i52_73 rfl ?_
        refine xr_go i52_75 rfl ?_
        refine xr_iald i52_76 (by assumption) (nI_clampOf ho.1) (by omega) (by omega) ?_
        refine xr_V i52_77 xc52_55 ⟨rfl, rfl⟩ xa_53 rfl (by assumption) rfl (Nat.le_of_ble_eq_true rfl) (by omega) ⟨Nat.le_of_ble_eq_true rfl, Nat.le_of_ble_eq_true rfl⟩ (r1) ?_
        refine xr_goto i52_80 (t := 118) (by decide) ?_
        exact xr_end i52_118 rfl
      · cases hs
    · cases hs
  rw [if_neg k8] at hs
  by_cases k6 : k = 6
  · rw [if_pos k6] at hs
    subst k6
    unfold xspush at hs
    split at hs
    · rename_i hl
      cases hs
      obtain ⟨h1, r1, hM1, s1⟩ := s_push (G := G) (d := d - 1) (nx := nx) (sl := sl) sv hM hl
      refine ⟨h1, ?_, hM1, s1⟩
      refine xr_go i52_0 rfl ?_
      refine xr_go i52_1 rfl ?_
      refine xr_go i52_83 rfl ?_
      refine xr_go i52_84 rfl ?_
      refine xr_get i52_85 xf52_59 (by assumption) rfl rfl ?_
      refine xr_V i52_88 xc52_55 ⟨rfl, rfl⟩ xa_53 rfl (by assumption) rfl (Nat.le_of_ble_eq_true rfl) (by omega) ⟨Nat.le_of_ble_eq_true rfl, Nat.le_of_ble_eq_true rfl⟩ (r1) ?_
      refine xr_goto i52_91 (t := 118) (by decide) ?_
      exact xr_end i52_118 rfl
    · cases hs
  rw [if_neg k6] at hs
  by_cases k7 : k = 7
  · rw [if_pos k7] at hs
    subst k7
    unfold xspush at hs
    split at hs
    · rename_i hl
      cases hs
      obtain ⟨h1, r1, hM1, s1⟩ := s_push (G := G) (d := d - 1) (nx := nx) (sl := sl) sp hM hl
      refine ⟨h1, ?_, hM1, s1⟩
      refine xr_go i52_0 rfl ?_
      refine xr_go i52_1 rfl ?_
      refine xr_go i52_94 rfl ?_
      refine xr_go i52_95 rfl ?_
      refine xr_get i52_96 xf52_62 (by assumption) rfl rfl ?_
      refine xr_V i52_99 xc52_55 ⟨rfl, rfl⟩ xa_53 rfl (by assumption) rfl (Nat.le_of_ble_eq_true rfl) (by omega) ⟨Nat.le_of_ble_eq_true rfl, Nat.le_of_ble_eq_true rfl⟩ (r1) ?_
      refine xr_goto i52_102 (t := 118) (by decide) ?_
      exact xr_end i52_118 rfl
    · cases hs
  rw [if_neg k7] at hs
  by_cases k17 : k = 17
  · rw [if_pos k17] at hs
    subst k17
    split at hs
    · rename_i v b' hb
      split at hs
      · rename_i hl
        cases hs
        dsimp only at hb
        subst hb
        obtain ⟨h1, r1, hM1, s1⟩ := s_keep (G := G) (d := d - 1) (nx := nx) (sl := sl) o.toNatClampNeg hM hl.1 (by omega)
        rw [← nI_clampOf hl.2.1] at r1
        refine ⟨h1, ?_, hM1, s1⟩
        refine xr_go i52_0 rfl ?_
        refine xr_go i52_1 rfl ?_
        refine xr_go i52_105 rfl ?_
        refine xr_go i52_106 rfl ?_
        refine xr_V i52_107 xc52_65 ⟨rfl, rfl⟩ xa_54 rfl (by assumption) rfl (Nat.le_of_ble_eq_true rfl) (by omega) ⟨Nat.le_of_ble_eq_true rfl, Nat.le_of_ble_eq_true rfl⟩ (r1) ?_
        refine xr_goto i52_110 (t := 118) (by decide) ?_
        exact xr_end i52_118 rfl
      · cases hs
    · cases hs
  rw [if_neg k17] at hs
  split at hs
  · rename_i r l b' hb
    obtain ⟨q, hq, he⟩ := Option.map_eq_some_iff.mp hs
    cases he
    dsimp only at hb
    subst hb
    obtain ⟨h1, r1, hM1, s1⟩ := s_combine (G := G) (d := d - 1) (nx := nx) (sl := sl) hM hq (by omega)
    refine ⟨h1, ?_, hM1, s1⟩
    have hk := xcomb_k hq
    have hgo : ∀ res, xRun G d 52 (113, [some (.ref a), some (.int (nI k)), some (.int o), some (.ref wa), some (.ref ca)], [], (h, nx, sl)) res → xRun G d 52 (1, [some (.ref a), some (.int (nI k)), some (.int o), some (.ref wa), some (.ref ca)], [.int (nI k)], (h, nx, sl)) res := by
      intro res hres
      have : k = 10 ∨ k = 11 ∨ k = 12 ∨ k = 13 ∨ k = 14 ∨ k = 15 ∨ k = 16 := by omega
      rcases this with rfl | rfl | rfl | rfl | rfl | rfl | rfl <;> exact xr_go i52_1 rfl hres
    refine xr_go i52_0 rfl ?_
    refine hgo _ ?_
    refine xr_go i52_113 rfl ?_
    refine xr_go i52_114 rfl ?_
    refine xr_V i52_115 xc52_68 ⟨rfl, rfl⟩ xa_56 rfl (by assumption) rfl (Nat.le_of_ble_eq_true rfl) (by omega) ⟨Nat.le_of_ble_eq_true rfl, Nat.le_of_ble_eq_true rfl⟩ (r1) ?_
    exact xr_end i52_118 rfl
  · cases hs
/-- a step's number as the program's row has it -/
def xkv (k : Nat) : Int32 := if k = 99 then -1 else nI k
/-- a whole write: its outcome, and the cells behind it -/
def xperf (sv sp : Int32) (cl : Nat → Int32) : List (Nat × Int32) → xS → Option (Int32 × (Nat → Int32))
  | [], _ => some (0, cl)
  | p :: rest, s => if p.1 = 99 then (if s.2.2 = true then (if s.2.1.all (fun q => decide (q.1 < 32)) = true then some (p.2, xchg s.2.1 cl) else none) else xperf sv sp cl rest ([], [], true))
    else if p.1 ≤ 20 then (if s.2.2 = true then (match xstep sv sp cl p.1 p.2 s with
      | some s' => xperf sv sp cl rest s'
      | none => none) else xperf sv sp cl rest s)
    else none
/-- a program's two rows -/
def xProg (pa sa oa : Nat) (pg : List (Nat × Int32)) (h : xH) : Prop := ∃ fs fo, h pa = some (.inr (8, [.ref sa, .ref oa])) ∧ h sa = some (.inl (0, pg.length, .inl fs)) ∧ h oa = some (.inl (0, pg.length, .inl fo)) ∧ (∀ i, i < pg.length → fs i = xkv (pg.getD i (0, 0)).1 ∧ fo i = (pg.getD i (0, 0)).2) ∧ pg.length ≤ 1000
theorem xkv_ne {k : Nat} (h : k ≤ 20) : xkv k = nI k ∧ ¬ nI k = -1 := by
  unfold xkv
  rw [if_neg (by omega)]
  refine ⟨rfl, fun z => ?_⟩
  have : nI k < 0 := by rw [z]; decide
  exact nI_pos (by omega) this
set_option maxHeartbeats 4000000 in
theorem s_perf_loop {wa pa sa oa : Nat} {sv sp : Int32} {w3 : Value} {pg : List (Nat × Int32)} (hd : 3 ≤ d) : ∀ (rest : List (Nat × Int32)) (i : Nat) (h : xH) (s : xS) (o : Int32) (cl' : Nat → Int32) (L5 : Option Value), pg.drop i = rest → i + rest.length = pg.length → xMS a s.1 s.2.1 s.2.2 h → h wa = some (.inr (9, [.int sv, .int sp, .ref pa, w3])) → xProg pa sa oa pg h → h ca = some (.inl (0, 32, .inl cl)) → (∀ q, q = wa ∨ q = pa ∨ q = sa ∨ q = oa ∨ q = ca → q < a ∨ a + 3 < q) → ca ≠ oa → xperf sv sp cl rest s = some (o, cl') →
    ∃ h', xRun G d 50 (12, [some (.ref a), some (.ref wa), some (.ref ca), some (.ref pa), some (.int (nI i)), L5], [], (h, nx, sl)) (some (.int o), (h', nx, sl)) ∧ h' ca = some (.inl (0, 32, .inl cl')) ∧ (∃ b e t, xMS a b e t h') ∧ ∀ q, q ≠ ca → (q < a ∨ a + 3 < q) → h' q = h q := by
  intro rest
  induction rest with
  | nil =>
    intro i h s o cl' L5 hdr hi hM hw hP hc hq hco hp
    obtain ⟨fs, fo, p0, p1, p2, p3, p4⟩ := hP
    simp only [List.length_nil, Nat.add_zero] at hi
    cases hp
    refine ⟨h, ?_, hc, ⟨_, _, _, hM⟩, fun _ _ _ => rfl⟩
    refine xr_go i50_12 rfl ?_
    refine xr_go i50_14 rfl ?_
    refine xr_get i50_15 xf50_39 (by assumption) rfl rfl ?_
    refine xr_alen i50_18 (by assumption) (by decide) ?_
    refine xr_icmp_geT i50_19 (t := 92) (by decide) (nI_le (by show pg.length ≤ i; omega) (by omega)) ?_
    refine xr_go i50_92 rfl ?_
    exact xr_iret i50_93 xt_50 rfl
  | cons p rest ih =>
    intro i h s o cl' L5 hdr hi hM hw hP hc hq hco hp
    have hP0 := hP
    obtain ⟨fs, fo, p0, p1, p2, p3, p4⟩ := hP
    simp only [List.length_cons] at hi
    have hil : i < pg.length := by omega
    have hpi : pg.getD i (0, 0) = p := by
      rw [List.getD_eq_getElem?_getD]
      have := congrArg (fun l => l[0]?) hdr
      simp only [List.getElem?_drop, Nat.add_zero, List.getElem?_cons_zero] at this
      rw [this]
      rfl
    have hdr2 : pg.drop (i + 1) = rest := by
      have := congrArg (fun l => l.drop 1) hdr
      simpa [List.drop_drop] using this
    obtain ⟨f1, f2⟩ := p3 i hil
    rw [hpi] at f1 f2
    have m0 := xMS_at hM
    have next : ∀ (h2 : xH) (s2 : xS) (L6 : Option Value), xMS a s2.1 s2.2.1 s2.2.2 h2 → xsame a (a + 3) h h2 → xperf sv sp cl rest s2 = some (o, cl') → ∃ h', xRun G d 50 (86, [some (.ref a), some (.ref wa), some (.ref ca), some (.ref pa), some (.int (nI i)), L6], [], (h2, nx, sl)) (some (.int o), (h', nx, sl)) ∧ h' ca = some (.inl (0, 32, .inl cl')) ∧ (∃ b e t, xMS a b e t h') ∧ ∀ q, q ≠ ca → (q < a ∨ a + 3 < q) → h' q = h q := by
      intro h2 s2 L6 hM2 hs2 hp2
      have tr : ∀ q, (q = wa ∨ q = pa ∨ q = sa ∨ q = oa ∨ q = ca) → h2 q = h q := fun q hq9 => hs2 q (hq q hq9)
      obtain ⟨h', r, g1, g2, g3⟩ := ih (i + 1) h2 s2 o cl' L6 hdr2 (by omega) hM2 ((tr wa (by simp)).trans hw) ⟨fs, fo, (tr pa (by simp)).trans p0, (tr sa (by simp)).trans p1, (tr oa (by simp)).trans p2, p3, p4⟩ ((tr ca (by simp)).trans hc) hq hco hp2
      refine ⟨h', ?_, g1, g2, fun q h1 h9 => (g3 q h1 h9).trans (hs2 q h9)⟩
      refine xr_inc1 i50_86 rfl rfl ?_
      refine xr_goto i50_89 (t := 12) (by decide) ?_
      exact r
    have head : ∀ res, xRun G d 50 (31, [some (.ref a), some (.ref wa), some (.ref ca), some (.ref pa), some (.int (nI i)), some (.int (xkv p.1))], [], (h, nx, sl)) res → xRun G d 50 (12, [some (.ref a), some (.ref wa), some (.ref ca), some (.ref pa), some (.int (nI i)), L5], [], (h, nx, sl)) res := by
      intro res hres
      refine xr_go i50_12 rfl ?_
      refine xr_go i50_14 rfl ?_
      refine xr_get i50_15 xf50_39 (by assumption) rfl rfl ?_
      refine xr_alen i50_18 (by assumption) (by decide) ?_
      refine xr_icmp_geF i50_19 (t := 92) (by decide) (nI_ge (b := pg.length) hil (by omega)) ?_
      refine xr_go i50_22 rfl ?_
      refine xr_get i50_23 xf50_39 (by assumption) rfl rfl ?_
      refine xr_go i50_26 rfl ?_
      refine xr_iald i50_28 (by assumption) rfl (by omega) (by omega) ?_
      rw [f1]
      refine xr_go i50_29 rfl ?_
      exact hres
    unfold xperf at hp
    by_cases k99 : p.1 = 99
    · rw [if_pos k99] at hp
      have hkv : xkv p.1 = -1 := by unfold xkv; rw [if_pos k99]
      by_cases ht : s.2.2 = true
      · rw [if_pos ht] at hp
        split at hp
        · rename_i hall
          cases hp
          have hall2 : ∀ q ∈ s.2.1, q.1 < 32 := fun q hq9 => of_decide_eq_true (List.all_eq_true.mp hall q hq9)
          have r1 := s_change (G := G) (d := d - 1) (nx := nx) (sl := sl) hM hc (hq ca (by simp)) hall2
          refine ⟨xup h ca (.inl (0, 32, .inl (xchg s.2.1 cl))), ?_, xup_s, ⟨s.1, s.2.1, s.2.2, ?_⟩, fun q h1 _ => xup_n h1⟩
          · refine head _ ?_
            have j2 : xup h ca (.inl (0, 32, .inl (xchg s.2.1 cl))) pa = some (.inr (8, [.ref sa, .ref oa])) := by
              rw [xup_n (fun z => by rw [z, hc] at p0; cases p0)]; exact p0
            rw [hkv]
            refine xr_go i50_31 rfl ?_
            refine xr_go i50_33 rfl ?_
            refine xr_icmp_eqT i50_34 (t := 62) (by decide) rfl ?_
            refine xr_go i50_62 rfl ?_
            refine xr_get i50_63 xf50_26 (by assumption) rfl rfl ?_
            refine xr_if_eqF i50_66 (t := 82) (by decide) (by rw [ht]; decide) ?_
            refine xr_go i50_69 rfl ?_
            refine xr_go i50_70 rfl ?_
            have j3 : xup h ca (.inl (0, 32, .inl (xchg s.2.1 cl))) oa = some (.inl (0, pg.length, .inl fo)) := by
              rw [xup_n (Ne.symm hco)]; exact p2
            refine xr_V i50_71 xc50_51 ⟨rfl, rfl⟩ xa_57 rfl (by assumption) rfl (Nat.le_of_ble_eq_true rfl) (by omega) ⟨Nat.le_of_ble_eq_true rfl, Nat.le_of_ble_eq_true rfl⟩ (r1) ?_
            refine xr_go i50_74 rfl ?_
            refine xr_get i50_75 xf50_44 (by assumption) rfl rfl ?_
            refine xr_go i50_78 rfl ?_
            refine xr_iald i50_80 (by assumption) rfl (by omega) (by omega) ?_
            rw [f2]
            exact xr_iret i50_81 xt_50 rfl
          · obtain ⟨vals, tg, sm, ⟨q0, q1, q2, q3⟩, q5⟩ := hM
            have hqc := hq ca (by simp)
            exact ⟨vals, tg, sm, ⟨by rw [xup_n (by omega)]; exact q0, by rw [xup_n (by omega)]; exact q1, by rw [xup_n (by omega)]; exact q2, by rw [xup_n (by omega)]; exact q3⟩, q5⟩
        · cases hp
      · rw [if_neg ht] at hp
        obtain ⟨h1, r1, hM1, s1⟩ := s_begin (G := G) (d := d - 1) (nx := nx) (sl := sl) hM
        obtain ⟨h', r, g⟩ := next h1 ([], [], true) (some (.int (-1))) hM1 s1 hp
        refine ⟨h', head _ ?_, g⟩
        rw [hkv]
        have hz : xbi s.2.2 = 0 := by unfold xbi; rw [if_neg ht]
        refine xr_go i50_31 rfl ?_
        refine xr_go i50_33 rfl ?_
        refine xr_icmp_eqT i50_34 (t := 62) (by decide) rfl ?_
        refine xr_go i50_62 rfl ?_
        refine xr_get i50_63 xf50_26 (by assumption) rfl rfl ?_
        refine xr_if_eqT i50_66 (t := 82) (by decide) hz ?_
        refine xr_go i50_82 rfl ?_
        refine xr_V i50_83 xc50_36 ⟨rfl, rfl⟩ xa_51 rfl (by assumption) rfl (Nat.le_of_ble_eq_true rfl) (by omega) ⟨Nat.le_of_ble_eq_true rfl, Nat.le_of_ble_eq_true rfl⟩ (r1) ?_
        exact r
    · rw [if_neg k99] at hp
      split at hp
      · rename_i h20
        obtain ⟨e1, e2⟩ := xkv_ne h20
        by_cases ht : s.2.2 = true
        · rw [if_pos ht] at hp
          split at hp
          · rename_i s' hs'
            obtain ⟨h1, r1, hM1, s1⟩ := s_doStep (G := G) (d := d - 1) (nx := nx) (sl := sl) hM hw hc hs' (by omega)
            obtain ⟨h', r, g⟩ := next h1 s' (some (.int (nI p.1))) hM1 s1 hp
            refine ⟨h', head _ ?_, g⟩
            rw [e1]
            refine xr_go i50_31 rfl ?_
            refine xr_go i50_33 rfl ?_
            refine xr_icmp_eqF i50_34 (t := 62) (by decide) e2 ?_
            refine xr_go i50_37 rfl ?_
            refine xr_get i50_38 xf50_26 (by assumption) rfl rfl ?_
            refine xr_if_eqF i50_41 (t := 86) (by decide) (by rw [ht]; decide) ?_
            refine xr_go i50_44 rfl ?_
            refine xr_go i50_45 rfl ?_
            refine xr_go i50_47 rfl ?_
            refine xr_get i50_48 xf50_44 (by assumption) rfl rfl ?_
            refine xr_go i50_51 rfl ?_
            refine xr_iald i50_53 (by assumption) rfl (by omega) (by omega) ?_
            rw [f2]
            refine xr_go i50_54 rfl ?_
            refine xr_go i50_55 rfl ?_
            refine xr_V i50_56 xc50_47 ⟨rfl, rfl⟩ xa_52 rfl (by assumption) rfl (Nat.le_of_ble_eq_true rfl) (by omega) ⟨Nat.le_of_ble_eq_true rfl, Nat.le_of_ble_eq_true rfl⟩ (r1) ?_
            refine xr_goto i50_59 (t := 86) (by decide) ?_
            exact r
          · cases hp
        · rw [if_neg ht] at hp
          obtain ⟨h', r, g⟩ := next h s (some (.int (nI p.1))) hM xsame.refl hp
          refine ⟨h', head _ ?_, g⟩
          have hz : xbi s.2.2 = 0 := by unfold xbi; rw [if_neg ht]
          rw [e1]
          refine xr_go i50_31 rfl ?_
          refine xr_go i50_33 rfl ?_
          refine xr_icmp_eqF i50_34 (t := 62) (by decide) e2 ?_
          refine xr_go i50_37 rfl ?_
          refine xr_get i50_38 xf50_26 (by assumption) rfl rfl ?_
          refine xr_if_eqT i50_41 (t := 86) (by decide) hz ?_
          exact r
      · cases hp
theorem s_perform {wa pa sa oa : Nat} {sv sp : Int32} {w3 : Value} {pg : List (Nat × Int32)} {o : Int32} {cl' : Nat → Int32} (hd : 3 ≤ d) (hM : xMS a b e t h) (hw : h wa = some (.inr (9, [.int sv, .int sp, .ref pa, w3]))) (hP : xProg pa sa oa pg h) (hc : h ca = some (.inl (0, 32, .inl cl))) (hq : ∀ q, q = wa ∨ q = pa ∨ q = sa ∨ q = oa ∨ q = ca → q < a ∨ a + 3 < q) (hco : ca ≠ oa) (hp : xperf sv sp cl pg ([], [], true) = some (o, cl')) :
    ∃ h', xRun G d 50 (0, [some (.ref a), some (.ref wa), some (.ref ca), none, none, none], [], (h, nx, sl)) (some (.int o), (h', nx, sl)) ∧ h' ca = some (.inl (0, 32, .inl cl')) ∧ (∃ b e t, xMS a b e t h') ∧ ∀ q, q ≠ ca → (q < a ∨ a + 3 < q) → h' q = h q := by
  have m0 := xMS_at hM
  obtain ⟨h1, r1, hM1, s1⟩ := s_begin (G := G) (d := d - 1) (nx := nx) (sl := sl) hM
  have tr : ∀ q, (q = wa ∨ q = pa ∨ q = sa ∨ q = oa ∨ q = ca) → h1 q = h q := fun q hq9 => s1 q (hq q hq9)
  obtain ⟨fs, fo, p0, p1, p2, p3, p4⟩ := hP
  obtain ⟨h', r, g1, g2, g3⟩ := s_perf_loop (G := G) (nx := nx) (sl := sl) (pg := pg) hd pg 0 h1 ([], [], true) o cl' none rfl (by omega) hM1 ((tr wa (by simp)).trans hw) ⟨fs, fo, (tr pa (by simp)).trans p0, (tr sa (by simp)).trans p1, (tr oa (by simp)).trans p2, p3, p4⟩ ((tr ca (by simp)).trans hc) hq hco hp
  refine ⟨h', ?_, g1, g2, fun q h1 h9 => (g3 q h1 h9).trans (s1 q h9)⟩
  refine xr_go i50_0 rfl ?_
  refine xr_get i50_1 xf50_30 (by assumption) rfl rfl ?_
  refine xr_go i50_4 rfl ?_
  refine xr_go i50_5 rfl ?_
  refine xr_V i50_6 xc50_36 ⟨rfl, rfl⟩ xa_51 rfl (by assumption) rfl (Nat.le_of_ble_eq_true rfl) (by omega) ⟨Nat.le_of_ble_eq_true rfl, Nat.le_of_ble_eq_true rfl⟩ (r1) ?_
  refine xr_go i50_9 rfl ?_
  refine xr_go i50_10 rfl ?_
  exact r
end XPERF

