/-! ===== the small machine is right: new cells, constants, answers ===== -/
def xKok (q : Nat × Nat × Nat × Nat × Nat × Nat) : Bool := match xcl[q.2.2.1]? with
  | some r => decide (lw_tbl[q.2.2.2.1]? = some (Jvm.Cond.classLink (xon q.1) q.2.1 r.1)) && decide (lw_tbl[q.2.2.2.2.1]? = some (Jvm.Cond.instantiable r.1 r.2.2)) && decide (lw_tbl[q.2.2.2.2.2]? = some (Jvm.Cond.initialized r.1))
  | none => false
set_option maxRecDepth 100000 in
theorem xKt_ok : xKt.all xKok = true := by decide +kernel
theorem xKl_some {o i : Nat} {q : Nat × Nat × Nat × Nat × Nat × Nat} (h : xKl o i = some q) : ∃ r, xcl[q.2.2.1]? = some r ∧ lw_tbl[q.2.2.2.1]? = some (Jvm.Cond.classLink (xon o) i r.1) ∧ lw_tbl[q.2.2.2.2.1]? = some (Jvm.Cond.instantiable r.1 r.2.2) ∧ lw_tbl[q.2.2.2.2.2]? = some (Jvm.Cond.initialized r.1) := by
  have hm := List.mem_of_find?_eq_some h
  have hp := List.find?_some h
  simp only [Bool.and_eq_true, beq_iff_eq] at hp
  obtain ⟨rfl, rfl⟩ := hp
  have hk := List.all_eq_true.mp xKt_ok q hm
  unfold xKok at hk
  split at hk
  · rename_i r hr
    simp only [Bool.and_eq_true, decide_eq_true_eq] at hk
    exact ⟨r, hr, hk.1.1, hk.1.2, hk.2⟩
  · cases hk
/-- the component of an array of references, by its kind -/
def xcomp (t : Nat) : FieldType := if t = 3 then .object "DriftStore$Write" else if t = 4 then .object "DriftStore$Server" else if t = 5 then .object "DriftStore$Session" else if t = 6 ∨ t = 16 then .array .int else .array .boolean
def xcname (t : Nat) : String := if t = 3 then "DriftStore$Write" else if t = 4 then "DriftStore$Server" else if t = 5 then "DriftStore$Session" else if t = 6 then (FieldType.array .int).toString else if t = 16 then (FieldType.array (.array .int)).toString else (FieldType.array (.array .boolean)).toString
def xNok (q : Nat × Nat × Nat × Nat × Nat) : Bool := decide (lw_tbl[q.2.2.2.1]? = some (Jvm.Cond.classLink (xon q.1) q.2.1 (xcname q.2.2.1))) && decide (lw_tbl[q.2.2.2.2]? = some (Jvm.Cond.arrayOver (xcomp q.2.2.1))) && decide (q.2.2.1 = 3 ∨ q.2.2.1 = 4 ∨ q.2.2.1 = 5 ∨ q.2.2.1 = 6 ∨ q.2.2.1 = 16 ∨ q.2.2.1 = 17)
set_option maxRecDepth 100000 in
theorem xNt_ok : xNt.all xNok = true := by decide +kernel
theorem xNl_some {o i : Nat} {q : Nat × Nat × Nat × Nat × Nat} (h : xNl o i = some q) : lw_tbl[q.2.2.2.1]? = some (Jvm.Cond.classLink (xon o) i (xcname q.2.2.1)) ∧ lw_tbl[q.2.2.2.2]? = some (Jvm.Cond.arrayOver (xcomp q.2.2.1)) ∧ (q.2.2.1 = 3 ∨ q.2.2.1 = 4 ∨ q.2.2.1 = 5 ∨ q.2.2.1 = 6 ∨ q.2.2.1 = 16 ∨ q.2.2.1 = 17) := by
  have hm := List.mem_of_find?_eq_some h
  have hp := List.find?_some h
  simp only [Bool.and_eq_true, beq_iff_eq] at hp
  obtain ⟨rfl, rfl⟩ := hp
  have hk := List.all_eq_true.mp xNt_ok q hm
  unfold xNok at hk
  simp only [Bool.and_eq_true, decide_eq_true_eq] at hk
  exact ⟨hk.1.1, hk.1.2, hk.2⟩
def xDok (q : Nat × Nat × Nat × Int32 × Nat × Nat) : Bool := if q.2.2.1 = 0 then decide (lw_tbl[q.2.2.2.2.2]? = some (Jvm.Cond.constant (xon q.1) q.2.1 q.2.2.2.1)) else decide (lw_tbl[q.2.2.2.2.2]? = some (Jvm.Cond.stringRef (xon q.1) q.2.1 (xSn.getD q.2.2.2.2.1 ""))) && decide (q.2.2.1 = 1)
set_option maxRecDepth 100000 in
theorem xDt_ok : xDt.all xDok = true := by decide +kernel
def xLok (q : Nat × Nat × Int64 × Nat) : Bool := decide (lw_tbl[q.2.2.2]? = some (Jvm.Cond.constantLong (xon q.1) q.2.1 q.2.2.1))
set_option maxRecDepth 100000 in
theorem xLt_ok : xLt.all xLok = true := by decide +kernel
set_option maxRecDepth 100000 in
theorem xac_int : Jvm.Cond.arrayClass .int ∈ lw_tbl := by decide +kernel
set_option maxRecDepth 100000 in
theorem xac_boolean : Jvm.Cond.arrayClass .boolean ∈ lw_tbl := by decide +kernel
set_option maxRecDepth 100000 in
theorem xac_byte : Jvm.Cond.arrayClass .byte ∈ lw_tbl := by decide +kernel
/-- a method's end -/
def xQ (D : va_G) (tA : Nat → ClassId) (A : Nat → Prop) (v : Option Value) (w' : xW) : Array Value → State → Outcome → State → Prop := fun _ st oc t => oc = .returned v ∧ (∀ a e, w'.1 a = some e → va_at D xcl (a, xte tA e) t.heap ∧ A a) ∧ w'.2.1 = t.heap.size ∧ va_F A st t
section XM
variable {p : Program} {l : Launch} {e : Env} {R : Room} {s : State} {m : MethodId} {args : Array Value} {below : List Frame} {meth : Method} {c : Code} {Q : State → Prop} {D : va_G} {tA : Nat → ClassId} {A : Nat → Prop} {s0 nL : Nat} {cc : ByteArray} {pc : Nat} {L : xL} {st : List Value} {w : xW} {f' : xF} {G : xG} {adV : Nat → Nat} {o : Nat}
theorem xs_new (hx : p.tables.exec = Jvm.exec) (hb : c.code = cc) (hK : xK D tA s) (hown : s.vm.findClass (xon o) = some m.cls) {idx : Nat} (hf1 : f'.2.2.2.2.1 ≤ s.heap.size + R.cells) (hf2 : f'.2.2.2.2.2 ≤ s0 + R.slots) (hdg : decode cc pc = .ok (.new idx, 3)) (hop : xnew o idx pc L st w = some (.inl f')) (hk : xnx p l e R s m args below meth c Q D tA A s0 nL f') : xnx p l e R s m args below meth c Q D tA A s0 nL (pc, L, st, w) := by
  unfold xnew at hop
  split at hop
  · rename_i q hq
    cases hop
    intro H locs cells slots ls hR hL
    obtain ⟨⟨C, T, N⟩, hr, w1, w2, w3⟩ := xKl_some hq
    obtain ⟨hin, hnm, hty, hlen, hdef⟩ := xcl_ok _ _ hr
    have hts : ∀ w ∈ u_ws C T N, w.before args s = true := fun w hw' => hK.1 w (hin w hw') (xlay_good w hw') args
    have hKn := hK.2.2.1.1 _ _ hr
    have hcell : s.heap.size + cells = w.2.1 := hR.2.2.2.2.1
    have hslot : s0 + slots = w.2.2 := hR.2.2.2.2.2
    have hf1 : w.2.1 + 1 ≤ s.heap.size + R.cells := hf1
    have hf2 : w.2.2 + (xdef q.2.2.1).length ≤ s0 + R.slots := hf2
    have hlen : (xdef q.2.2.1).length = N := hlen
    refine W.newcK hx hb hown (hK.w _ w1 rfl args) (hK.w _ w2 rfl args) (hK.w _ w3 rfl args) rfl hdg (by omega) (by show slots + N ≤ _; omega) hKn.2.1 rfl fun H1 kC hkC e1 z1 o1 => ?_
    have h9 := hk H1 locs (cells + 1) (slots + (xdef q.2.2.1).length) ls (xrep_new hR z1 o1 ⟨_, hr, (u_born (xtyOf q.2.2.1) hts (fun _ h => h) hKn hkC e1 hty).to hdef⟩) hL
    rw [hlen] at h9
    rw [hR.2.1] at h9
    exact h9
  · cases hop
theorem xs_newa1 (hx : p.tables.exec = Jvm.exec) (hb : c.code = cc) {atype : ArrayType} {t : Nat} (harr : (Jvm.Cond.arrayClass (newarray.typeOf atype)).before args s = true) (htA : s.vm.findClass ("[" ++ (newarray.typeOf atype).toString) = some (tA t)) (hdv : defaultValue (newarray.typeOf atype) = .int 0) (hcb : componentBytes (newarray.typeOf atype) ≤ 4) {n : Int32} {r : List Value} (hn : ¬ (n < 0 ∨ 100000 < n.toNatClampNeg)) (hf1 : w.2.1 + 1 ≤ s.heap.size + R.cells) (hf2 : w.2.2 + n.toNatClampNeg ≤ s0 + R.slots) (hdg : decode cc pc = .ok (.newarray atype, 2))
    (hk : xnx p l e R s m args below meth c Q D tA A s0 nL (pc + 2, L, .ref w.2.1 :: r, xup w.1 w.2.1 (.inl (t, n.toNatClampNeg, .inl (fun _ => 0))), w.2.1 + 1, w.2.2 + n.toNatClampNeg)) : xnx p l e R s m args below meth c Q D tA A s0 nL (pc, L, .int n :: r, w) := by
  intro H locs cells slots ls hR hL
  have hcell : s.heap.size + cells = w.2.1 := hR.2.2.2.2.1
  have hslot : s0 + slots = w.2.2 := hR.2.2.2.2.2
  have hm : n.toNatClampNeg * componentBytes (newarray.typeOf atype) ≤ n.toNatClampNeg * 4 := Nat.mul_le_mul_left _ hcb
  refine va_newaK hx hb harr rfl hdg rfl (fun z => hn (Or.inl z)) rfl (by have : ¬ 100000 < n.toNatClampNeg := fun z => hn (Or.inr z); omega) (by omega) (by omega) rfl fun H1 cA e1 z1 o1 hAr hNm => ?_
  have hcA : cA = tA t := Option.some.inj (hNm.symm.trans htA)
  subst hcA
  have h9 := hk H1 locs (cells + 1) (slots + n.toNatClampNeg) ls (xrep_new hR z1 o1 (by
    show H1[H.size]? = some (vp_cell _ _)
    rw [e1, vp_cell_i, hdv])) hL
  rw [hR.2.1] at h9
  exact h9
theorem xs_newarray (hx : p.tables.exec = Jvm.exec) (hb : c.code = cc) (hK : xK D tA s) {t : ArrayType} (hf1 : f'.2.2.2.2.1 ≤ s.heap.size + R.cells) (hf2 : f'.2.2.2.2.2 ≤ s0 + R.slots) (hdg : decode cc pc = .ok (.newarray t, 2)) (hop : xnewa t pc L st w = some (.inl f')) (hk : xnx p l e R s m args below meth c Q D tA A s0 nL f') : xnx p l e R s m args below meth c Q D tA A s0 nL (pc, L, st, w) := by
  unfold xnewa at hop
  split at hop
  · rename_i n r
    split at hop
    · rename_i k ht
      split at hop
      · cases hop
      · rename_i hn
        cases hop
        cases t <;> cases ht
        · exact xs_newa1 (atype := .boolean) (t := 1) hx hb (hK.1 (Jvm.Cond.arrayClass .boolean) xac_boolean rfl args) (hK.2.2.1.2 1 _ rfl).2 rfl (by decide) hn hf1 hf2 hdg hk
        · exact xs_newa1 (atype := .byte) (t := 2) hx hb (hK.1 (Jvm.Cond.arrayClass .byte) xac_byte rfl args) (hK.2.2.1.2 2 _ rfl).2 rfl (by decide) hn hf1 hf2 hdg hk
        · exact xs_newa1 (atype := .int) (t := 0) hx hb (hK.1 (Jvm.Cond.arrayClass .int) xac_int rfl args) (hK.2.2.1.2 0 _ rfl).2 rfl (by decide) hn hf1 hf2 hdg hk
    · cases hop
  · cases hop
theorem xnewq {H : Heap} {locs : List Loc} {cells slots n k : Nat} {ls : Array Slot} {cA : ClassId} {r : List Value} (hR : xrep D tA A s.heap s0 w H locs cells slots) (hL : xlr ls nL L) (hcA : cA = tA k) (hk : xnx p l e R s m args below meth c Q D tA A s0 nL (pc + 3, L, .ref w.2.1 :: r, xup w.1 w.2.1 (.inl (k, n, .inr (.inr (.inr (.inr (fun _ => none)))))), w.2.1 + 1, w.2.2 + n)) :
    W p l e R s m args below meth c (H.push { cls := cA, slots := Array.replicate n .null, vm := .none }) locs (cells + 1) (slots + n) Q (F0 m (pc + 3) ls (.ref H.size :: r)) := by
  subst hcA
  have h9 := hk (H.push { cls := tA k, slots := Array.replicate n .null, vm := .none }) locs (cells + 1) (slots + n) ls (xrep_new hR (Array.size_push ..) (fun q hq => by rw [Array.getElem?_push, if_neg (Nat.ne_of_lt hq)]) (by
    show (H.push _)[H.size]? = some (vp_cell _ _)
    rw [Array.getElem?_push_size, arrV_new, vp_cell_q]
    rfl)) hL
  rw [hR.2.1] at h9
  exact h9
theorem xs_anewarray (hx : p.tables.exec = Jvm.exec) (hb : c.code = cc) (hK : xK D tA s) (hown : s.vm.findClass (xon o) = some m.cls) {idx : Nat} (hf1 : f'.2.2.2.2.1 ≤ s.heap.size + R.cells) (hf2 : f'.2.2.2.2.2 ≤ s0 + R.slots) (hdg : decode cc pc = .ok (.anewarray idx, 3)) (hop : xanew o idx pc L st w = some (.inl f')) (hk : xnx p l e R s m args below meth c Q D tA A s0 nL f') : xnx p l e R s m args below meth c Q D tA A s0 nL (pc, L, st, w) := by
  unfold xanew at hop
  split at hop
  · rename_i n r
    split at hop
    · rename_i q hq
      split at hop
      · cases hop
      · rename_i hn
        cases hop
        intro H locs cells slots ls hR hL
        obtain ⟨w1, -, w3⟩ := xNl_some hq
        obtain ⟨q1, q2, k, q4, q5⟩ := q
        dsimp only at w1 w3 hn hk hf1 hf2
        have hcell : s.heap.size + cells = w.2.1 := hR.2.2.2.2.1
        have hslot : s0 + slots = w.2.2 := hR.2.2.2.2.2
        have hn0 : ¬ n < 0 := fun z => hn (Or.inl z)
        have hby : n.toNatClampNeg * 4 ≤ 536870912 := by have : ¬ 100000 < n.toNatClampNeg := fun z => hn (Or.inr (Or.inl z)); omega
        have h7 : ¬ 7 < k := fun z => hn (Or.inr (Or.inr z))
        have hKv := hK.2.2.1
        rcases w3 with rfl | rfl | rfl | rfl | rfl | rfl
        · exact W.anew hx hb hown (hK.w _ w1 rfl args) (va_AO.use hK.2.2.2.1) rfl hdg rfl hn0 hby (by omega) (by omega) fun cA kA comp f1 f2 f3 f4 => xnewq hR hL (by obtain ⟨_, _, -, -, -, k4⟩ := (hKv.2 3 _ rfl).2; exact Option.some.inj (f1.symm.trans k4)) hk
        · exact W.anew hx hb hown (hK.w _ w1 rfl args) (va_AO.use hK.2.2.2.2.1) rfl hdg rfl hn0 hby (by omega) (by omega) fun cA kA comp f1 f2 f3 f4 => xnewq hR hL (by obtain ⟨_, _, -, -, -, k4⟩ := (hKv.2 4 _ rfl).2; exact Option.some.inj (f1.symm.trans k4)) hk
        · exact W.anew hx hb hown (hK.w _ w1 rfl args) (va_AO.use hK.2.2.2.2.2.1) rfl hdg rfl hn0 hby (by omega) (by omega) fun cA kA comp f1 f2 f3 f4 => xnewq hR hL (by obtain ⟨_, _, -, -, -, k4⟩ := (hKv.2 5 _ rfl).2; exact Option.some.inj (f1.symm.trans k4)) hk
        · exact W.anewA (t := .int) hx hb hown (hK.w _ w1 rfl args) hK.2.2.2.2.2.2.1 rfl hdg rfl hn0 hby (by omega) (by omega) fun cA kA comp f1 f2 f3 f4 => xnewq hR hL (Option.some.inj (f1.symm.trans (hKv.2 6 _ rfl).2)) hk
        · omega
        · omega
    · cases hop
  · cases hop
theorem xs_ldc (hx : p.tables.exec = Jvm.exec) (hb : c.code = cc) (hK : xK D tA s) (hro : xro G adV A s s.heap) (hown : s.vm.findClass (xon o) = some m.cls) {idx : Nat} (hdg : decode cc pc = .ok (.ldc idx, 2)) (hop : xldc G o idx pc L st w = some (.inl f')) (hk : xnx p l e R s m args below meth c Q D tA A s0 nL f') : xnx p l e R s m args below meth c Q D tA A s0 nL (pc, L, st, w) := by
  unfold xldc at hop
  split at hop
  · rename_i q h
    have hm := List.mem_of_find?_eq_some h
    have hp := List.find?_some h
    simp only [Bool.and_eq_true, beq_iff_eq] at hp
    obtain ⟨rfl, rfl⟩ := hp
    have hq := List.all_eq_true.mp xDt_ok q hm
    unfold xDok at hq
    split at hop
    · rename_i h0
      cases hop
      rw [if_pos h0] at hq
      intro H locs cells slots ls hR hL
      exact lv_ldc hx hb hown (hK.w _ (of_decide_eq_true hq) rfl args) hdg (hk H locs cells slots ls hR hL)
    · rename_i h0
      cases hop
      rw [if_neg h0] at hq
      simp only [Bool.and_eq_true, decide_eq_true_eq] at hq
      intro H locs cells slots ls hR hL
      exact va_ldcS hx hb hown (hro.2.2.2.2.1 q hm hq.2) hdg (hk H locs cells slots ls hR hL)
  · cases hop
theorem xs_ldc2 (hx : p.tables.exec = Jvm.exec) (hb : c.code = cc) (hK : xK D tA s) (hown : s.vm.findClass (xon o) = some m.cls) {idx : Nat} (hdg : decode cc pc = .ok (.ldc2_w idx, 3)) (hop : xldc2 o idx pc L st w = some (.inl f')) (hk : xnx p l e R s m args below meth c Q D tA A s0 nL f') : xnx p l e R s m args below meth c Q D tA A s0 nL (pc, L, st, w) := by
  unfold xldc2 at hop
  split at hop
  · rename_i q h
    have hm := List.mem_of_find?_eq_some h
    have hp := List.find?_some h
    simp only [Bool.and_eq_true, beq_iff_eq] at hp
    obtain ⟨rfl, rfl⟩ := hp
    have hq := List.all_eq_true.mp xLt_ok q hm
    unfold xLok at hq
    cases hop
    intro H locs cells slots ls hR hL
    exact lv_ldc2 hx hb hown (hK.w _ (of_decide_eq_true hq) rfl args) hdg (hk H locs cells slots ls hR hL)
  · cases hop
theorem xQ_of {H : Heap} {locs : List Loc} {cells slots : Nat} {v : Option Value} (hR : xrep D tA A s.heap s0 w H locs cells slots) : ∀ t : State, t.heap = H → s.WarmedH t.vm → xQ D tA A v w args s (.returned v) t := fun t ht _ => ⟨rfl, by rw [ht]; exact hR.1, by rw [ht]; exact hR.2.1, hR.2.2.1.F ht⟩
theorem xs_ireturn (hx : p.tables.exec = Jvm.exec) (hb : c.code = cc) {rt : Option FieldType} (hr : meth.sig.returnType = rt) (hlocks : meth.locks = false) {v : Option Value} {w' : xW} (hf1 : w.2.1 ≤ s.heap.size + R.cells) (hf2 : w.2.2 ≤ s0 + R.slots) (hdg : decode cc pc = .ok (.ireturn, 1)) (hop : xiret rt st w = some (.inr (.inl (v, w')))) : xnx p l e R s m args below meth c (MQ below (xQ D tA A v w') args s R.cells R.slots A) D tA A s0 nL (pc, L, st, w) := by
  unfold xiret at hop
  split at hop
  · split at hop
    · split at hop
      · rename_i hn
        cases hop
        intro H locs cells slots ls hR hL
        have hcell : s.heap.size + cells = w.2.1 := hR.2.2.2.2.1
        have hslot : s0 + slots = w.2.2 := hR.2.2.2.2.2
        exact W.widen (k := R.cells) (n := R.slots) (by omega) (by omega) (W.zret hx hb hr hn (xQ_of hR) hR.2.2.1.2.2 hdg)
      · cases hop
    · cases hop
  · cases hop
theorem xs_lreturn (hx : p.tables.exec = Jvm.exec) (hb : c.code = cc) {rt : Option FieldType} (hr : meth.sig.returnType = rt) (hlocks : meth.locks = false) {v : Option Value} {w' : xW} (hf1 : w.2.1 ≤ s.heap.size + R.cells) (hf2 : w.2.2 ≤ s0 + R.slots) (hdg : decode cc pc = .ok (.lreturn, 1)) (hop : xlret rt st w = some (.inr (.inl (v, w')))) : xnx p l e R s m args below meth c (MQ below (xQ D tA A v w') args s R.cells R.slots A) D tA A s0 nL (pc, L, st, w) := by
  unfold xlret at hop
  split at hop
  · split at hop
    · rename_i hn
      cases hop
      intro H locs cells slots ls hR hL
      have hcell : s.heap.size + cells = w.2.1 := hR.2.2.2.2.1
      have hslot : s0 + slots = w.2.2 := hR.2.2.2.2.2
      exact W.widen (k := R.cells) (n := R.slots) (by omega) (by omega) (W.lret hx hb (hr.trans hn) (xQ_of hR) hR.2.2.1.2.2 hdg)
    · cases hop
  · cases hop
theorem xs_areturn (hx : p.tables.exec = Jvm.exec) (hb : c.code = cc) {rt : Option FieldType} (hr : meth.sig.returnType = rt) (hlocks : meth.locks = false) {v : Option Value} {w' : xW} (hf1 : w.2.1 ≤ s.heap.size + R.cells) (hf2 : w.2.2 ≤ s0 + R.slots) (hdg : decode cc pc = .ok (.areturn, 1)) (hop : xaret rt st w = some (.inr (.inl (v, w')))) : xnx p l e R s m args below meth c (MQ below (xQ D tA A v w') args s R.cells R.slots A) D tA A s0 nL (pc, L, st, w) := by
  unfold xaret at hop
  split at hop
  · split at hop
    · cases hop
      intro H locs cells slots ls hR hL
      have hcell : s.heap.size + cells = w.2.1 := hR.2.2.2.2.1
      have hslot : s0 + slots = w.2.2 := hR.2.2.2.2.2
      exact W.widen (k := R.cells) (n := R.slots) (by omega) (by omega) (W.aret hx hb hr (Or.inl ⟨_, rfl⟩) (Or.inr ⟨_, rfl⟩) (xQ_of hR) hR.2.2.1.2.2 hdg)
    · cases hop
      intro H locs cells slots ls hR hL
      have hcell : s.heap.size + cells = w.2.1 := hR.2.2.2.2.1
      have hslot : s0 + slots = w.2.2 := hR.2.2.2.2.2
      exact W.widen (k := R.cells) (n := R.slots) (by omega) (by omega) (W.aret hx hb hr (Or.inr ⟨_, rfl⟩) (Or.inr ⟨_, rfl⟩) (xQ_of hR) hR.2.2.1.2.2 hdg)
    · cases hop
  · cases hop
theorem xs_return (hx : p.tables.exec = Jvm.exec) (hb : c.code = cc) {rt : Option FieldType} (hr : meth.sig.returnType = rt) (hlocks : meth.locks = false) {v : Option Value} {w' : xW} (hf1 : w.2.1 ≤ s.heap.size + R.cells) (hf2 : w.2.2 ≤ s0 + R.slots) (hdg : decode cc pc = .ok (.return_, 1)) (hop : xvret rt st w = some (.inr (.inl (v, w')))) : xnx p l e R s m args below meth c (MQ below (xQ D tA A v w') args s R.cells R.slots A) D tA A s0 nL (pc, L, st, w) := by
  unfold xvret at hop
  split at hop
  · split at hop
    · rename_i hn
      cases hop
      intro H locs cells slots ls hR hL
      have hcell : s.heap.size + cells = w.2.1 := hR.2.2.2.2.1
      have hslot : s0 + slots = w.2.2 := hR.2.2.2.2.2
      exact W.widen (k := R.cells) (n := R.slots) (by omega) (by omega) (W.vret hx hb (hr.trans hn) (xQ_of hR) hR.2.2.1.2.2 hdg)
    · cases hop
  · cases hop
end XM
