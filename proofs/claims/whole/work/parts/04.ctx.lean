/-! ===== WHAT THE SMALL MACHINE STANDS ON: tables, worlds, locals ===== -/
abbrev xtys (tA : Nat → ClassId) : List (ClassId × FieldType) := [(tA 0, .int), (tA 1, .boolean), (tA 2, .byte), (tA 3, .object "DriftStore$Write"), (tA 4, .object "DriftStore$Server"), (tA 5, .object "DriftStore$Session"), (tA 6, .array .int), (tA 7, .array .boolean)]
def xte (tA : Nat → ClassId) : xE → va_E
  | .inl (t, x) => .inl (tA t, x)
  | .inr o => .inr o
def xnw : Jvm.Cond → Bool
  | .fieldLinkNest .. | .methodLinkNest .. => true
  | _ => false
/-- what is said of the tables -/
def xK (D : va_G) (tA : Nat → ClassId) (U : State) : Prop :=
  (∀ w ∈ lw_tbl, goodWord w = true → ∀ a : Array Value, w.before a U = true) ∧ (∀ w ∈ lw_tbl, xnw w = true → va_Nw w U) ∧ va_K D xcl (xtys tA) U ∧
  va_AO "DriftStore$Write" U ∧ va_AO "DriftStore$Server" U ∧ va_AO "DriftStore$Session" U ∧ (Jvm.Cond.arrayOver (.array .int)).before #[] U = true ∧ (Jvm.Cond.arrayOver (.array .boolean)).before #[] U = true
/-- arrays of arrays are there still when the tables have moved -/
theorem xAO_moved {t : FieldType} {u U : State} (hvm : u.vm.Alike U.vm) (h : (Jvm.Cond.arrayOver (.array t)).before #[] u = true) : (Jvm.Cond.arrayOver (.array t)).before #[] U = true := by
  obtain ⟨comp, c, k, h1, h2, h3, h4, h5⟩ := arrayOverA_spec h
  obtain ⟨k', hk', he⟩ := hvm.2.2 _ _ h3
  have hi := (hvm.findIdx?_eq _ (fun _ => rfl)).trans h2
  have hkind : k'.kind = .array comp (.array t) := by rw [he]; exact h4
  have f1 : U.vm.findClass (FieldType.array t).toString = some comp := by rw [hvm.findClass]; exact h1
  have f2 : U.vm.findClass ("[" ++ (FieldType.array t).toString) = some c := by rw [hvm.findClass]; exact h5
  unfold Cond.before Cond.holds
  simp only [Cond.value]
  rw [f1, Option.bind_some]
  refine (congrArg (fun o : Option Nat => (o.bind (fun c => (U.vm.classes[c]?).map fun (k : Class) => match k.kind with | .array _ ty => decide (ty = FieldType.array t) && decide (U.vm.findClass ("[" ++ (FieldType.array t).toString) = some c) | _ => false) == some true)) hi).trans ?_
  simp [hk', hkind, f2]
theorem xK_warm {D : va_G} {tA : Nat → ClassId} {s U : State} (h : xK D tA s) (hW : s.WarmedH U.vm) : xK D tA U := by
  obtain ⟨h1, h2, h3, h4, h5, h6, h7, h8⟩ := h
  refine ⟨fun w hw hg a => word_at hW (good_of_word hg) (h1 w hw hg a), fun w hw hn => ?_, va_K.moved hW.alike h3, h4.moved hW.alike, h5.moved hW.alike, h6.moved hW.alike, xAO_moved hW.alike h7, xAO_moved hW.alike h8⟩
  have hz := h2 w hw hn
  cases w <;> first | exact va_Nw.warmF hW hz | exact va_Nw.warmM hW hz | (exact absurd hn (by simp [xnw]))
theorem xK_same {D : va_G} {tA : Nat → ClassId} {s U : State} (h : xK D tA s) (hv : U.vm = s.vm) : xK D tA U := xK_warm h (by rw [hv]; exact State.WarmedH.refl s)
/-- a word of the tables -/
theorem xK.w {D : va_G} {tA : Nat → ClassId} {U : State} (h : xK D tA U) (i : Nat) {w : Jvm.Cond} (hw : lw_tbl[i]? = some w) (hg : goodWord w = true) (a : Array Value) : w.before a U = true := h.1 w (List.mem_of_getElem? hw) hg a
theorem xK.n {D : va_G} {tA : Nat → ClassId} {U : State} (h : xK D tA U) (i : Nat) {w : Jvm.Cond} (hw : lw_tbl[i]? = some w) (hg : xnw w = true) : va_Nw w U := h.2.1 w (List.mem_of_getElem? hw) hg
/-- the world in the heap -/
def xrep (D : va_G) (tA : Nat → ClassId) (A : Nat → Prop) (H0 : Heap) (s0 : Nat) (w : xW) (H : Heap) (locs : List Loc) (cells slots : Nat) : Prop :=
  (∀ a e, w.1 a = some e → va_at D xcl (a, xte tA e) H ∧ A a) ∧ w.2.1 = H.size ∧ va_S A H0 H locs ∧ (∀ q, H0.size ≤ q → A q) ∧ H0.size + cells = w.2.1 ∧ s0 + slots = w.2.2
/-- the method that runs -/
def xCtx (mi : Nat) (p : Program) (s : State) (m : MethodId) (meth : Method) (c : Code) : Prop :=
  p.tables.exec = Jvm.exec ∧ c.code = xB mi ∧ c.maxLocals = xM mi ∧ meth.sig.returnType = xT mi ∧ s.vm.findClass (xon (xO mi)) = some m.cls ∧ meth.locks = false ∧ ((xY mi).name = "<init>" → meth.name = "<init>")
/-- the locals -/
def xpr (L : xL) : List (Nat × Value) := (List.range L.length).filterMap (fun i => match L[i]? with
  | some (some v) => some (i, v)
  | _ => none)
theorem xpr_mem {L : xL} {q : Nat × Value} : q ∈ xpr L ↔ L[q.1]? = some (some q.2) := by
  unfold xpr
  rw [List.mem_filterMap]
  constructor
  · rintro ⟨i, -, hi⟩
    split at hi
    · rename_i v hv
      cases hi
      exact hv
    · cases hi
  · intro h
    have hl : q.1 < L.length := (List.getElem?_eq_some_iff.mp h).1
    exact ⟨q.1, List.mem_range.mpr hl, by rw [h]⟩
def xlr (ls : Array Slot) (nL : Nat) (L : xL) : Prop := L.length = nL ∧ lv_has ls nL (xpr L)
theorem xlr.at {ls : Array Slot} {nL : Nat} {L : xL} (h : xlr ls nL L) {i : Nat} {v : Value} (hv : L[i]? = some (some v)) : ls[i]? = some (.val v) := h.2.2.2 (i, v) (xpr_mem.mpr hv)
theorem xst_some {L L' : xL} {i : Nat} {v : Value} (h : xst L i v = some L') : i < L.length ∧ L' = L.set i (some v) ∧ ∀ u, i ≠ 0 → L[i - 1]? = some (some u) → ¬ u.category = 2 := by
  unfold xst at h
  split at h
  · rename_i hi
    split at h
    · rename_i u hu
      split at h
      · cases h
      · rename_i hc
        cases h
        refine ⟨hi, rfl, fun u' h0 hu' => ?_⟩
        rw [if_neg h0, hu'] at hu
        cases hu
        exact hc
    · rename_i hn
      cases h
      refine ⟨hi, rfl, fun u' h0 hu' => ?_⟩
      exact absurd (by rw [if_neg h0]; exact hu') (hn u')
  · cases h
theorem xst2_some {L L' : xL} {i : Nat} {v : Value} (h : xst2 L i v = some L') : i + 1 < L.length ∧ L' = (L.set i (some v)).set (i + 1) none ∧ ∀ u, i ≠ 0 → L[i - 1]? = some (some u) → ¬ u.category = 2 := by
  unfold xst2 at h
  split at h
  · rename_i hi
    split at h
    · rename_i u hu
      split at h
      · cases h
      · rename_i hc
        cases h
        refine ⟨hi, rfl, fun u' h0 hu' => ?_⟩
        rw [if_neg h0, hu'] at hu
        cases hu
        exact hc
    · rename_i hn
      cases h
      refine ⟨hi, rfl, fun u' h0 hu' => ?_⟩
      exact absurd (by rw [if_neg h0]; exact hu') (hn u')
  · cases h
theorem xlr_set {ls' : Array Slot} {nL : Nat} {L L' : xL} {i : Nat} {v : Value} (hL : L.length = nL) (h : xst L i v = some L') (h' : lv_has ls' nL ((i, v) :: (xpr L).filter (fun q => !(q.1 == i) && !(q.1 + 1 == i && q.2.category == 2)))) : xlr ls' nL L' := by
  obtain ⟨hi, rfl, hc⟩ := xst_some h
  refine ⟨by simpa using hL, h'.1, h'.2.1, fun q hq => ?_⟩
  have hq := xpr_mem.mp hq
  apply h'.2.2
  by_cases hqi : q.1 = i
  · rw [hqi, List.getElem?_set_self hi] at hq
    cases hq
    obtain ⟨a, b⟩ := q
    cases hqi
    exact List.mem_cons_self
  · rw [List.getElem?_set_ne (Ne.symm hqi)] at hq
    refine List.mem_cons_of_mem _ (List.mem_filter.mpr ⟨xpr_mem.mpr hq, ?_⟩)
    simp only [Bool.and_eq_true, Bool.not_eq_true', beq_eq_false_iff_ne, Bool.and_eq_false_iff]
    refine ⟨hqi, ?_⟩
    by_cases h1 : q.1 + 1 = i
    · right
      refine hc q.2 (by omega) ?_
      rw [← h1]
      exact hq
    · left
      exact h1
theorem xlr_set2 {ls' : Array Slot} {nL : Nat} {L L' : xL} {i : Nat} {v : Value} (hL : L.length = nL) (h : xst2 L i v = some L') (h' : lv_has ls' nL ((i, v) :: (xpr L).filter (fun q => !(q.1 == i) && (!(q.1 == i + 1) && !(q.1 + 1 == i && q.2.category == 2))))) : xlr ls' nL L' := by
  obtain ⟨hi, rfl, hc⟩ := xst2_some h
  refine ⟨by simpa using hL, h'.1, h'.2.1, fun q hq => ?_⟩
  have hq := xpr_mem.mp hq
  apply h'.2.2
  by_cases hq1 : q.1 = i + 1
  · rw [hq1, List.getElem?_set_self (by simpa using hi)] at hq
    cases hq
  · rw [List.getElem?_set_ne (Ne.symm hq1)] at hq
    by_cases hqi : q.1 = i
    · rw [hqi, List.getElem?_set_self (by omega)] at hq
      cases hq
      obtain ⟨a, b⟩ := q
      cases hqi
      exact List.mem_cons_self
    · rw [List.getElem?_set_ne (Ne.symm hqi)] at hq
      refine List.mem_cons_of_mem _ (List.mem_filter.mpr ⟨xpr_mem.mpr hq, ?_⟩)
      simp only [Bool.and_eq_true, Bool.not_eq_true', beq_eq_false_iff_ne, Bool.and_eq_false_iff]
      refine ⟨hqi, hq1, ?_⟩
      by_cases h1 : q.1 + 1 = i
      · right
        refine hc q.2 (by omega) ?_
        rw [← h1]
        exact hq
      · left
        exact h1
/-- from here on the run goes well -/
def xnx (p : Program) (l : Launch) (e : Env) (R : Room) (s : State) (m : MethodId) (args : Array Value) (below : List Frame) (meth : Method) (c : Code) (Q : State → Prop) (D : va_G) (tA : Nat → ClassId) (A : Nat → Prop) (s0 nL : Nat) (f : xF) : Prop :=
  ∀ H locs cells slots ls, xrep D tA A s.heap s0 f.2.2.2 H locs cells slots → xlr ls nL f.2.1 → W p l e R s m args below meth c H locs cells slots Q (F0 m f.1 ls f.2.2.1)
theorem xI_dec {mi pc : Nat} {i : Instr} (h : xI mi pc = some i) : ∃ n, decode (xB mi) pc = .ok (i, n) ∧ (n = xlen i ∨ xsw i = true) := by
  unfold xI at h
  split at h
  · rename_i i' n hd
    split at h
    · rename_i hc
      cases h
      exact ⟨n, hd, hc⟩
    · cases h
  · cases h
