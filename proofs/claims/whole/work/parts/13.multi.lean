/-! ===== arrays of arrays: multianewarray with two lengths ===== -/
def mgO (cA : ClassId) (N h0 i : Nat) : Cell := arrV cA N (fun j => if j < i then Value.ref (h0 + 1 + j) else Value.null)
def mgI (cB : ClassId) (M : Nat) (dv : Value) : Cell := arrV cB M (fun _ => dv)
/-- the state with the outer array and its first i rows -/
def mgS (T : State) (cA cB : ClassId) (N M : Nat) (dv : Value) : Nat → State
  | 0 => T.pushCell (mgO cA N T.heap.size 0)
  | i + 1 => ((mgS T cA cB N M dv i).pushCell (mgI cB M dv)).setCell T.heap.size (mgO cA N T.heap.size (i + 1))
theorem mgO_set {cA : ClassId} {N h0 i : Nat} : (mgO cA N h0 i).setSlot i (.ref (h0 + 1 + i)) = mgO cA N h0 (i + 1) := by
  unfold mgO
  rw [arrV_store]
  refine congrArg (arrV cA N) (funext fun j => ?_)
  unfold updV
  by_cases e : j = i
  · rw [if_pos e, if_pos (by omega), e]
  · rw [if_neg e]
    dsimp only
    by_cases z : j < i
    · rw [if_pos z, if_pos (by omega)]
    · rw [if_neg z, if_neg (by omega)]
theorem mgO_new {cA : ClassId} {N h0 : Nat} : ({ cls := cA, slots := Array.replicate N Value.null, vm := .none } : Cell) = mgO cA N h0 0 := by
  rw [arrV_new]
  exact congrArg (arrV cA N) (funext fun j => (if_neg (Nat.not_lt_zero j)).symm)
theorem arrV_len {cA : ClassId} {N : Nat} {f : Nat → Value} : (arrV cA N f).slots.size = N := by simp [arrV]
theorem mgS_all (T : State) (cA cB : ClassId) (N M : Nat) (dv : Value) : ∀ i, (mgS T cA cB N M dv i).heap.size = T.heap.size + 1 + i ∧ (mgS T cA cB N M dv i).heap[T.heap.size]? = some (mgO cA N T.heap.size i) ∧ (mgS T cA cB N M dv i).vm = T.vm ∧ (mgS T cA cB N M dv i).slotsUsed = T.slotsUsed + N + i * M ∧ (∀ a : Nat, a < T.heap.size → (mgS T cA cB N M dv i).heap[a]? = T.heap[a]?) ∧ ∀ j, j < i → (mgS T cA cB N M dv i).heap[T.heap.size + 1 + j]? = some (mgI cB M dv) := by
  intro i
  induction i with
  | zero =>
    refine ⟨by simp [mgS], by simp [mgS], rfl, ?_, fun a ha => State.heap_pushCell_of_lt _ _ ha, fun j hj => absurd hj (Nat.not_lt_zero _)⟩
    have e : (mgO cA N T.heap.size 0).slots.size = N := arrV_len
    simp [mgS, e]
  | succ i ih =>
    obtain ⟨h1, h2, h3, h4, h5, h6⟩ := ih
    generalize hU : mgS T cA cB N M dv i = U at *
    have hS : mgS T cA cB N M dv (i + 1) = (U.pushCell (mgI cB M dv)).setCell T.heap.size (mgO cA N T.heap.size (i + 1)) := by rw [← hU]; rfl
    rw [hS]
    have hlt : T.heap.size < U.heap.size := by omega
    have hc : (U.pushCell (mgI cB M dv)).heap[T.heap.size]? = some (mgO cA N T.heap.size i) := by rw [State.heap_pushCell_of_lt (h := hlt)]; exact h2
    have el : (mgI cB M dv).slots.size = M := arrV_len
    refine ⟨?_, State.heap_setCell_self hc, ?_, ?_, fun a ha => ?_, fun j hj => ?_⟩
    · simp [State.setCell, h1]
      omega
    · simp [h3]
    · simp [h4, el, Nat.succ_mul]
      omega
    · rw [State.heap_setCell_other (Nat.ne_of_gt ha), State.heap_pushCell_of_lt (h := Nat.lt_trans ha hlt)]
      exact h5 a ha
    · rw [State.heap_setCell_other (show T.heap.size ≠ T.heap.size + 1 + j by omega)]
      by_cases e : j = i
      · rw [e, ← h1]
        exact State.heap_pushCell_size _ _
      · rw [State.heap_pushCell_of_lt (h := show T.heap.size + 1 + j < U.heap.size by omega)]
        exact h6 j (by omega)
theorem mgS_top (T : State) (f : JFrame) (cA cB : ClassId) (N M : Nat) (dv : Value) : ∀ i, mgS (T.setTop f) cA cB N M dv i = (mgS T cA cB N M dv i).setTop f := by
  intro i
  induction i with
  | zero => rfl
  | succ i ih =>
    show ((mgS (T.setTop f) cA cB N M dv i).pushCell _).setCell _ _ = _
    rw [ih]
    rfl
section XMULTI
variable {p : Program} {l : Launch} {e : Env} {R : Room} {s : State} {m : MethodId} {args : Array Value} {below : List Frame} {meth : Method} {c : Code} {Q : State → Prop} {D : va_G} {tA : Nat → ClassId} {A : Nat → Prop} {s0 nL : Nat} {cc : ByteArray} {pc : Nat} {L : xL} {st : List Value} {w : xW} {f' : xF} {G : xG} {adV : Nat → Nat} {o : Nat} {T : State} {locs : List Loc} {cells slots : Nat}
theorem mgS_stand (X : Stand p l e R s m args below meth c T locs cells slots) (cA cB : ClassId) (N M : Nat) (dv : Value) : ∀ i, Stand p l e R s m args below meth c (mgS T cA cB N M dv i) (locs ++ (List.range i).map (fun j => (⟨T.heap.size, j⟩ : Loc))) (cells + 1 + i) (slots + N + i * M) := by
  intro i
  induction i with
  | zero =>
    have h := X.pushed (mgO cA N T.heap.size 0)
    rw [show (mgO cA N T.heap.size 0).slots.size = N from arrV_len] at h
    simpa [mgS] using h
  | succ i ih =>
    obtain ⟨h1, h2, -⟩ := mgS_all T cA cB N M dv i
    have hlt : T.heap.size < (mgS T cA cB N M dv i).heap.size := by omega
    have hc : ((mgS T cA cB N M dv i).pushCell (mgI cB M dv)).heap[T.heap.size]? = some (mgO cA N T.heap.size i) := by rw [State.heap_pushCell_of_lt (h := hlt)]; exact h2
    have h := (ih.pushed (mgI cB M dv)).stored hc i (.ref (T.heap.size + 1 + i))
    rw [show (mgI cB M dv).slots.size = M from arrV_len, mgO_set, List.append_assoc] at h
    have e2 : (List.range (i + 1)).map (fun j => (⟨T.heap.size, j⟩ : Loc)) = (List.range i).map (fun j => (⟨T.heap.size, j⟩ : Loc)) ++ [⟨T.heap.size, i⟩] := by simp [List.range_succ]
    have e3 : slots + N + (i + 1) * M = slots + N + i * M + M := by rw [Nat.succ_mul]; omega
    rw [e2, e3]
    exact h
section XMW
variable {E : CtlPost} {d : Bool} {acts : List Action} {U : State}
theorem mg_row {cB cD : ClassId} {kB : Class} {ty : FieldType} {k : Int32} {P : Addr → Pre} (hkB : U.vm.classes[cB]? = some kB) (hkd : kB.kind = .array cD ty) (hk : ¬ k < 0) (hl : ¬ k.toNatClampNeg > e.platform.arrayLengthLimit) (hh : ¬ k.toNatClampNeg * componentBytes ty > e.platform.maxHeapBytes) (hf : fits ty (defaultValue ty) = true) (h1 : U.heap.size < e.platform.maxCells) (h2 : U.slotsUsed + k.toNatClampNeg ≤ e.platform.maxSlots) (hq : ∀ acts', P U.heap.size d acts' (U.pushCell (mgI cB k.toNatClampNeg (defaultValue ty)))) : Sem.wp (Jvm.Op.multianewarray.make cB [k]) P E e d acts U := by
  rw [Jvm.Op.multianewarray.make]
  simp only [wp_bind', Jvm.W.ite, hk, if_false, wp_pure', Jvm.W.theClass, hkB, hkd, Option.some.injEq, exists_eq_left']
  refine Jvm.W.newArray_of hkB hkd hl hh h1 h2 hf (fun acts' => ?_)
  have := hq acts'
  unfold mgI at this
  rw [← arrV_new] at this
  exact this
theorem mg_make {cA cB cD : ClassId} {kA kB : Class} {t0 ty : FieldType} {n k : Int32} {P : Addr → Pre} (hkA : U.vm.classes[cA]? = some kA) (hkdA : kA.kind = .array cB (.array ty)) (hkB : U.vm.classes[cB]? = some kB) (hkd : kB.kind = .array cD ty) (hn : ¬ n < 0) (hk : ¬ k < 0) (hl1 : ¬ n.toNatClampNeg > e.platform.arrayLengthLimit) (hh1 : ¬ n.toNatClampNeg * componentBytes (.array ty) > e.platform.maxHeapBytes) (hl : ¬ k.toNatClampNeg > e.platform.arrayLengthLimit) (hh : ¬ k.toNatClampNeg * componentBytes ty > e.platform.maxHeapBytes) (hf : fits ty (defaultValue ty) = true) (h1 : U.heap.size + 1 + n.toNatClampNeg ≤ e.platform.maxCells) (h2 : U.slotsUsed + n.toNatClampNeg + n.toNatClampNeg * k.toNatClampNeg ≤ e.platform.maxSlots) (hq : ∀ d' acts', P U.heap.size d' acts' (mgS U cA cB n.toNatClampNeg k.toNatClampNeg (defaultValue ty) n.toNatClampNeg)) : Sem.wp (Jvm.Op.multianewarray.make cA [n, k]) P E e d acts U := by
  have hno : ([k].find? (· < 0)) = none := by simp [hk]
  rw [Jvm.Op.multianewarray.make]
  simp only [wp_bind', Jvm.W.ite, hn, if_false, wp_pure', Jvm.W.theClass, hkA, hkdA, Option.some.injEq, exists_eq_left']
  generalize hN : n.toNatClampNeg = N at *
  generalize hM : k.toNatClampNeg = M at *
  refine Jvm.W.newArray_of hkA hkdA hl1 hh1 (by omega) (by omega) rfl (fun acts' => ?_)
  rw [mgO_new (h0 := U.heap.size)]
  simp only [hno]
  rw [ite_self, wp_bind', Std.Legacy.Range.forIn_eq_forIn_range']
  have hsz : ([:N] : Std.Legacy.Range).size = N := by simp [Std.Legacy.Range.size]
  rw [hsz]
  show Sem.wp (forIn (List.range' 0 N 1) PUnit.unit _) _ E e d acts' _
  refine wp_forIn_inv (fun rest s' => ∃ i, i + rest.length = N ∧ rest = List.range' i rest.length ∧ s' = mgS U cA cB N M (defaultValue ty) i) _ _ ⟨0, by simp, by simp, rfl⟩ ?_ ?_
  · rintro x rest s' d' acts2 Q' ⟨i, hi, hr, rfl⟩ hnext
    rw [List.length_cons, List.range'_succ] at hr
    obtain ⟨rfl, hr⟩ := List.cons.inj hr
    rw [List.length_cons] at hi
    obtain ⟨g1, g2, g3, g4, -, -⟩ := mgS_all U cA cB N M (defaultValue ty) x
    have hmul : x * M + M ≤ N * M := by
      have := Nat.mul_le_mul_right M (show x + 1 ≤ N by omega)
      rw [Nat.succ_mul] at this
      exact this
    simp only [wp_bind']
    refine mg_row (by rw [g3]; exact hkB) hkd hk (by rw [hM]; exact hl) (by rw [hM]; exact hh) hf (by rw [g1]; omega) (by rw [g4, hM]; omega) (fun acts3 => ?_)
    rw [hM]
    simp only [wp_bind', Jvm.W.writeLoc, wp_pure']
    have hlt : U.heap.size < (mgS U cA cB N M (defaultValue ty) x).heap.size := by omega
    refine ⟨mgO cA N U.heap.size x, by rw [State.heap_pushCell_of_lt (h := hlt)]; exact g2, by simp [mgO, arrV], by rw [show (mgO cA N U.heap.size x).slots.size = N from arrV_len]; omega, ?_, hnext _ _ _ ⟨x + 1, by omega, hr, ?_⟩⟩
    · simp [State.fitsSlot, State.slotType?, g3, mgO, arrV, hkA, hkdA, fits]
    · rw [g1, mgO_set]
      rfl
  · rintro s' d' acts2 ⟨i, hi, hr, rfl⟩
    have : i = N := by simpa using hi
    subst this
    simp only [wp_pure']
    exact hq _ _
end XMW
theorem mg_W {own : String} {index : Nat} {ty : FieldType} {H : Heap} {ls : Array Slot} {rest : List Value} {n k : Int32} (hx : p.tables.exec = Jvm.exec) (hb : c.code = cc) (hown : s.vm.findClass own = some m.cls) (hcl : (Jvm.Cond.classLink own index ("[" ++ (FieldType.array ty).toString)).before args s = true) (hov : (Jvm.Cond.arrayOver (.array ty)).before args s = true) (har : (Jvm.Cond.arrayClass ty).before args s = true) (hdg : decode cc pc = .ok (.multianewarray index 2, 4)) (hn : ¬ n < 0) (hk : ¬ k < 0) (hb1 : n.toNatClampNeg * 4 ≤ 536870912) (hb2 : k.toNatClampNeg * componentBytes ty ≤ 536870912) (hb3 : k.toNatClampNeg ≤ 536870912) (hf : fits ty (defaultValue ty) = true) (hcells : cells + (1 + n.toNatClampNeg) ≤ R.cells) (hslots : slots + (n.toNatClampNeg + n.toNatClampNeg * k.toNatClampNeg) ≤ R.slots)
    (kk : ∀ (cA cB : ClassId) (H' : Heap) (L' : List Loc), s.vm.findClass ("[" ++ (FieldType.array ty).toString) = some cA → s.vm.findClass ("[" ++ ty.toString) = some cB → H'.size = H.size + 1 + n.toNatClampNeg → H'[H.size]? = some (mgO cA n.toNatClampNeg H.size n.toNatClampNeg) → (∀ a : Nat, a < H.size → H'[a]? = H[a]?) → (∀ j, j < n.toNatClampNeg → H'[H.size + 1 + j]? = some (mgI cB k.toNatClampNeg (defaultValue ty))) → (∀ q ∈ L', q.base = H.size) → W p l e R s m args below meth c H' (locs ++ L') (cells + 1 + n.toNatClampNeg) (slots + n.toNatClampNeg + n.toNatClampNeg * k.toNatClampNeg) Q (F0 m (pc + 4) ls (.ref H.size :: rest))) : W p l e R s m args below meth c H locs cells slots Q (F0 m pc ls (.int k :: .int n :: rest)) := by
  intro T hT X
  subst hT
  subst hb
  have hpl : e.platform.magicAccessors = ({} : Platform).magicAccessors := by rw [X.admits.platform]
  obtain ⟨cB, cA, kA, hcB, -, hkA, hkdA, hnA⟩ := arrayOverA_spec hov
  obtain ⟨cB', kB, cD, hcB', hkB, hkdB⟩ := Cond.arrayClass_spec har
  have eB : cB' = cB := Option.some.inj (hcB'.symm.trans hcB)
  subst eB
  obtain ⟨c0, hf0, hlk⟩ := Cond.classLink_spec hown hcl e.platform hpl
  cases hnA.symm.trans hf0
  obtain ⟨hg1, hw1, hr1⟩ := State.classEntry (e := e) X.warmed hlk
  generalize T.vm.noted m.cls index (.cls cA) = vm1 at hg1 hw1 hr1
  have hal : s.vm.Alike vm1 := hw1.alike
  obtain ⟨kA1, hkA1, eA⟩ := hal.2.2 _ _ hkA
  obtain ⟨kB1, hkB1, eB⟩ := hal.2.2 _ _ hkB
  have hkdA1 : kA1.kind = .array cB' (.array ty) := by rw [eA]; exact hkdA
  have hkdB1 : kB1.kind = .array cD ty := by rw [eB]; exact hkdB
  have X1 := X.noted hw1
  obtain ⟨hm1, hm2⟩ := X.roomAbove hcells hslots
  have XF := mgS_stand X1 cA cB' n.toNatClampNeg k.toNatClampNeg (defaultValue ty) n.toNatClampNeg
  obtain ⟨g1, g2, g3, g4, g5, g6⟩ := mgS_all (T.setVm vm1) cA cB' n.toNatClampNeg k.toNatClampNeg (defaultValue ty) n.toNatClampNeg
  obtain ⟨t, a1, b1⟩ := kk cA cB' _ _ hnA hcB' g1 g2 g5 g6 (fun q hq => by obtain ⟨j, -, rfl⟩ := List.mem_map.mp hq; rfl) _ rfl XF
  refine ⟨t, ?_, b1⟩
  have hl1 : ¬ n.toNatClampNeg > e.platform.arrayLengthLimit := by rw [Launch.admits_arrayLengthLimit X.admits]; omega
  have hh1 : ¬ n.toNatClampNeg * componentBytes (.array ty) > e.platform.maxHeapBytes := by
    rw [Launch.admits_maxHeapBytes X.admits]
    show ¬ n.toNatClampNeg * 4 > 536870912
    omega
  have hl2 : ¬ k.toNatClampNeg > e.platform.arrayLengthLimit := by rw [Launch.admits_arrayLengthLimit X.admits]; omega
  have hh2 : ¬ k.toNatClampNeg * componentBytes ty > e.platform.maxHeapBytes := by rw [Launch.admits_maxHeapBytes X.admits]; omega
  jvm_step X.here [hx, hdg]
  simp only [Jvm.Op.multianewarray.sem, wp_bind', Jvm.W.resolveClassAt_links (State.method?_setTop (F0 m pc ls (.int k :: .int n :: rest)) X.here.top) hg1]
  rw [Jvm.W.popN, if_neg (by decide)]
  refine ⟨F0 m pc ls (.int k :: .int n :: rest), State.topJava?_setTop' (s := T.setVm vm1) _ X.here.top, [.int n, .int k], rest, rfl, rfl, ?_⟩
  simp only [List.mapM_cons, List.mapM_nil, wp_bind', wp_pure']
  refine mg_make (kA := kA1) (kB := kB1) (t0 := .int) hkA1 hkdA1 hkB1 hkdB1 hn hk hl1 hh1 hl2 hh2 hf (by show T.heap.size + 1 + _ ≤ _; omega) (by show T.slotsUsed + _ + _ ≤ _; omega) (fun d' acts' => ?_)
  have eS : ((T.setTop (F0 m pc ls (.int k :: .int n :: rest))).setVm vm1).setTop { F0 m pc ls (.int k :: .int n :: rest) with stack := rest } = (T.setVm vm1).setTop { F0 m pc ls (.int k :: .int n :: rest) with stack := rest } := by
    show ((T.setVm vm1).setTop _).setTop _ = _
    rw [State.setTop_setTop]
  rw [eS, mgS_top]
  simp only [wp_bind', Jvm.W.mark, Jvm.W.pushRef, State.topJava?_setTop' _ XF.here.top, Option.some.injEq, exists_eq_left', State.setTop_setTop, State.heap_setTop]
  intro acts
  simp [jvm, XF.here.top]
  exact a1
/-- the world with a grid -/
theorem xrep_grid {H H' : Heap} {L' : List Loc} {t k N M : Nat} {cA cB : ClassId} (h : xrep D tA A s.heap s0 w H locs cells slots) (eA : tA t = cA) (eB : tA k = cB) (hz : H'.size = H.size + 1 + N) (h0 : H'[H.size]? = some (mgO cA N H.size N)) (hold : ∀ a : Nat, a < H.size → H'[a]? = H[a]?) (hrow : ∀ j, j < N → H'[H.size + 1 + j]? = some (mgI cB M (.int 0))) (hL' : ∀ q ∈ L', q.base = H.size) : xrep D tA A s.heap s0 (xgrid w.1 w.2.1 N M t k, w.2.1 + 1 + N, w.2.2 + N + N * M) H' (locs ++ L') (cells + 1 + N) (slots + N + N * M) := by
  obtain ⟨h1, h2, h3, h4, h5, h6⟩ := h
  have hA : ∀ q, H.size ≤ q → A q := fun q hq => h4 q (Nat.le_trans h3.1 hq)
  refine ⟨fun a e' ha => ?_, by show w.2.1 + 1 + N = _; omega, ⟨by have := h3.1; omega, fun q g1 g2 => (hold q (Nat.lt_of_lt_of_le g1 h3.1)).trans (h3.2.1 q g1 g2), fun q hq => ?_⟩, h4, by show _ = w.2.1 + 1 + N; omega, by show _ = w.2.2 + N + N * M; omega⟩
  · have ha : xgrid w.1 w.2.1 N M t k a = some e' := ha
    unfold xgrid at ha
    by_cases e1 : a = w.2.1
    · rw [if_pos e1] at ha
      cases ha
      rw [e1, h2]
      refine ⟨?_, hA _ (Nat.le_refl _)⟩
      show H'[H.size]? = some (vp_cell (tA t) _)
      rw [h0, vp_cell_q, eA]
      refine congrArg some (congrArg (arrV cA N) (funext fun j => ?_))
      by_cases z : j < N
      · rw [if_pos z, if_pos z]
        rfl
      · rw [if_neg z, if_neg z]
        rfl
    · rw [if_neg e1] at ha
      by_cases e2 : w.2.1 < a ∧ a ≤ w.2.1 + N
      · rw [if_pos e2] at ha
        cases ha
        refine ⟨?_, hA _ (by omega)⟩
        show H'[a]? = some (vp_cell (tA k) _)
        have e3 := hrow (a - w.2.1 - 1) (by omega)
        rw [show H.size + 1 + (a - w.2.1 - 1) = a by omega] at e3
        rw [e3, vp_cell_i, eB]
        rfl
      · rw [if_neg e2] at ha
        exact ⟨(h1 a e' ha).1.kept (hold a (h1 a e' ha).1.lt), (h1 a e' ha).2⟩
  · rcases List.mem_append.mp hq with z | z
    · exact h3.2.2 q z
    · rw [hL' q z]
      exact hA _ (Nat.le_refl _)
theorem xw89 : lw_tbl[89]? = some (Jvm.Cond.arrayClass .int) := by decide +kernel
theorem xw248 : lw_tbl[248]? = some (Jvm.Cond.arrayClass .boolean) := by decide +kernel
theorem xs_multi (hx : p.tables.exec = Jvm.exec) (hb : c.code = cc) (hK : xK D tA s) (hown : s.vm.findClass (xon o) = some m.cls) {idx dims : Nat} (hf1 : f'.2.2.2.2.1 ≤ s.heap.size + R.cells) (hf2 : f'.2.2.2.2.2 ≤ s0 + R.slots) (hdg : decode cc pc = .ok (.multianewarray idx dims, 4)) (hop : xmulti o idx dims pc L st w = some (.inl f')) (hk : xnx p l e R s m args below meth c Q D tA A s0 nL f') : xnx p l e R s m args below meth c Q D tA A s0 nL (pc, L, st, w) := by
  unfold xmulti at hop
  split at hop
  · rename_i mm nn r
    split at hop
    · rename_i q hq
      split at hop
      · cases hop
      · rename_i hc
        cases hop
        obtain ⟨w1, -, -⟩ := xNl_some hq
        obtain ⟨q1, q2, k, q4, q5⟩ := q
        dsimp only at w1 hc hk hf1 hf2
        have c1 : ¬ nn < 0 := fun z => hc (Or.inl z)
        have c2 : ¬ 1000 < nn.toNatClampNeg := fun z => hc (Or.inr (Or.inl z))
        have c3 : ¬ mm < 0 := fun z => hc (Or.inr (Or.inr (Or.inl z)))
        have c4 : ¬ 1000 < mm.toNatClampNeg := fun z => hc (Or.inr (Or.inr (Or.inr (Or.inl z))))
        have c5 : dims = 2 := Classical.byContradiction fun z => hc (Or.inr (Or.inr (Or.inr (Or.inr (Or.inl z)))))
        have c6 : k = 16 ∨ k = 17 := Classical.byContradiction fun z => hc (Or.inr (Or.inr (Or.inr (Or.inr (Or.inr z)))))
        subst c5
        intro H locs cells slots ls hR hL
        have hcell : s.heap.size + cells = w.2.1 := hR.2.2.2.2.1
        have hslot : s0 + slots = w.2.2 := hR.2.2.2.2.2
        have hsz : w.2.1 = H.size := hR.2.1
        have hKv := hK.2.2.1
        rcases c6 with rfl | rfl
        · refine mg_W (ty := .int) hx hb hown (hK.w _ w1 rfl args) hK.2.2.2.2.2.2.1 (hK.w 89 xw89 rfl args) hdg c1 c3 (by omega) (by show _ * 4 ≤ _; omega) (by omega) rfl (by omega) (by omega) (fun cA cB H' L' z1 z2 z3 z4 z5 z6 z7 => ?_)
          rw [← hsz]
          exact hk H' (locs ++ L') _ _ ls (xrep_grid (t := 6) (k := 0) hR (Option.some.inj ((hKv.2 6 _ rfl).2.symm.trans z1)) (Option.some.inj ((hKv.2 0 _ rfl).2.symm.trans z2)) z3 z4 z5 z6 z7) hL
        · refine mg_W (ty := .boolean) hx hb hown (hK.w _ w1 rfl args) hK.2.2.2.2.2.2.2 (hK.w 248 xw248 rfl args) hdg c1 c3 (by omega) (by show _ * 1 ≤ _; omega) (by omega) rfl (by omega) (by omega) (fun cA cB H' L' z1 z2 z3 z4 z5 z6 z7 => ?_)
          rw [← hsz]
          exact hk H' (locs ++ L') _ _ ls (xrep_grid (t := 7) (k := 1) hR (Option.some.inj ((hKv.2 7 _ rfl).2.symm.trans z1)) (Option.some.inj ((hKv.2 1 _ rfl).2.symm.trans z2)) z3 z4 z5 z6 z7) hL
    · cases hop
  · cases hop
end XMULTI

