/-! ===== the small machine is right: members of the JDK; behind a call ===== -/
theorem xro_call {G : xG} {adV : Nat → Nat} {A B : Nat → Prop} {s U : State} {H : Heap} {locs : List Loc} (h : xro G adV A s s.heap) (hS : va_S A s.heap H locs) (hW : s.WarmedH U.vm) (hU : U.heap = H) (hB : ∀ q, B q → A q) : xro G adV B U U.heap := by
  obtain ⟨h1, h2, h3, h4, h5, h6, h7, h8⟩ := h
  rw [hU]
  exact ⟨(h1.moved hW.alike).kept (hS.2.1 _ h2 h3), Nat.lt_of_lt_of_le h2 hS.1, fun z => h3 (hB _ z), ((h4.moved hW.alike).kept hS.2.1).narrow hB, fun q hq h0 => (h5 q hq h0).warm hW, h6, ((h7.moved hW.alike).kept hS.2.1).narrow hB, ((h8.moved hW.alike).kept hS.2.1).narrow hB⟩
theorem xro_same {G : xG} {adV : Nat → Nat} {A : Nat → Prop} {s U : State} (h : xro G adV A s s.heap) (hv : U.vm = s.vm) (hU : U.heap = s.heap) : xro G adV A U U.heap :=
  xro_call (locs := []) h va_S.rf (by rw [hv]; exact State.WarmedH.refl s) hU (fun _ z => z)
set_option maxRecDepth 100000 in
theorem xw71 : lw_tbl[71]? = some (Jvm.Cond.instanceMethod objectInit) := rfl
set_option maxRecDepth 100000 in
theorem xw72 : lw_tbl[72]? = some (Jvm.Cond.code objectInit ⟨#[0xb1]⟩ 1 none) := rfl
set_option maxRecDepth 100000 in
theorem xw62 : lw_tbl[62]? = some (Jvm.Cond.initialized "java/lang/Math") := rfl
set_option maxRecDepth 100000 in
theorem xw63 : lw_tbl[63]? = some (Jvm.Cond.initialized "java/lang/System") := rfl
set_option maxRecDepth 100000 in
theorem xw499 : lw_tbl[499]? = some (Jvm.Cond.static Lib.Math.max.name) := rfl
set_option maxRecDepth 100000 in
theorem xw500 : lw_tbl[500]? = some (Jvm.Cond.code Lib.Math.max.name Lib.Math.max.code 2 (some .int)) := rfl
set_option maxRecDepth 100000 in
theorem xw457 : lw_tbl[457]? = some (Jvm.Cond.static Lib.Math.min.name) := rfl
set_option maxRecDepth 100000 in
theorem xw458 : lw_tbl[458]? = some (Jvm.Cond.code Lib.Math.min.name Lib.Math.min.code 2 (some .int)) := rfl
set_option maxRecDepth 100000 in
theorem xw846 : lw_tbl[846]? = some (Jvm.Cond.static Lib.MathLoose.min_long.x) := rfl
set_option maxRecDepth 100000 in
theorem xw847 : lw_tbl[847]? = some (Jvm.Cond.code Lib.MathLoose.min_long.x Lib.MathLoose.min_long.code 4 (some .long)) := rfl
set_option maxRecDepth 100000 in
theorem xw460 : lw_tbl[460]? = some (Jvm.Cond.static arraycopyName) := rfl
set_option maxRecDepth 100000 in
theorem xw461 : lw_tbl[461]? = some (Jvm.Cond.native arraycopyName) := rfl
theorem xcl_nn {z : Int32} (hz : ¬ z < 0) : z.toInt = (z.toNatClampNeg : Int) := by
  have hz0 : (0 : Int) ≤ z.toInt := by
    have := Int32.not_lt.mp hz
    simpa using Int32.le_iff_toInt_le.mp this
  show z.toInt = ((z.toInt.toNat : Nat) : Int)
  omega
section XB
variable {p : Program} {l : Launch} {e : Env} {R : Room} {s : State} {m : MethodId} {args : Array Value} {below : List Frame} {meth : Method} {c : Code} {Q : State → Prop} {D : va_G} {tA : Nat → ClassId} {A : Nat → Prop} {s0 nL : Nat} {cc : ByteArray} {pc : Nat} {L : xL} {st : List Value} {w : xW} {f' : xF} {G : xG} {adV : Nat → Nat} {o : Nat}
theorem xs_obj (hx : p.tables.exec = Jvm.exec) (hb : c.code = cc) (hml : c.maxLocals = nL) (hK : xK D tA s) (hown : s.vm.findClass (xon o) = some m.cls) {idx : Nat} (hR1 : 1 ≤ R.frames) (hR2 : 64 ≤ R.locals) (hl : (Jvm.Cond.methodLink (xon o) idx objectInit).before args s = true) (hdg : decode cc pc = .ok (.invokespecial idx, 3)) (hop : xobj pc L st w = some (.inl f')) (hk : xnx p l e R s m args below meth c Q D tA A s0 nL f') : xnx p l e R s m args below meth c Q D tA A s0 nL (pc, L, st, w) := by
  unfold xobj at hop
  split at hop
  · rename_i a r
    split at hop
    · rename_i hc
      cases hop
      intro H locs cells slots ls hR hL
      have hc : (r.map fun v => v.category).sum ≤ 8 := hc
      exact W.objInit hx hb hown hl (hK.w _ xw71 rfl args) (hK.w _ xw72 rfl args) rfl (by rw [hml]; exact hL.2.1) rfl hdg hR1 (by show 2 * 0 + (r.map fun v => v.category).sum + 12 ≤ R.locals; omega) (hk H locs cells slots ls hR hL)
    · cases hop
  · cases hop
theorem xs_max (hx : p.tables.exec = Jvm.exec) (hb : c.code = cc) (hml : c.maxLocals = nL) (hK : xK D tA s) (hown : s.vm.findClass (xon o) = some m.cls) {idx : Nat} (hR1 : 1 ≤ R.frames) (hR2 : 64 ≤ R.locals) (hf1 : f'.2.2.2.2.1 ≤ s.heap.size + R.cells) (hf2 : f'.2.2.2.2.2 ≤ s0 + R.slots) (hl : (Jvm.Cond.methodLink (xon o) idx Lib.Math.max.name).before args s = true) (hdg : decode cc pc = .ok (.invokestatic idx, 3)) (hop : xmax pc L st w = some (.inl f')) (hk : xnx p l e R s m args below meth c Q D tA A s0 nL f') : xnx p l e R s m args below meth c Q D tA A s0 nL (pc, L, st, w) := by
  unfold xmax at hop
  split at hop
  · rename_i y x r
    split at hop
    · rename_i hc
      cases hop
      intro H locs cells slots ls hR hL
      have hc : (r.map fun v => v.category).sum ≤ 8 := hc
      have hcell : s.heap.size + cells = w.2.1 := hR.2.2.2.2.1
      have hslot : s0 + slots = w.2.2 := hR.2.2.2.2.2
      have hf1 : w.2.1 ≤ s.heap.size + R.cells := hf1
      have hf2 : w.2.2 ≤ s0 + R.slots := hf2
      exact va_mmax hx hb (by rw [hml]; exact hL.2.1.symm) hown hl (hK.w _ xw499 rfl args) (hK.w _ xw62 rfl args) (hK.w _ xw500 rfl args) hR1 (by omega) (by omega) (by omega) hdg (hk H locs cells slots ls hR hL)
    · cases hop
  · cases hop
theorem xs_min (hx : p.tables.exec = Jvm.exec) (hb : c.code = cc) (hml : c.maxLocals = nL) (hK : xK D tA s) (hown : s.vm.findClass (xon o) = some m.cls) {idx : Nat} (hR1 : 1 ≤ R.frames) (hR2 : 64 ≤ R.locals) (hf1 : f'.2.2.2.2.1 ≤ s.heap.size + R.cells) (hf2 : f'.2.2.2.2.2 ≤ s0 + R.slots) (hl : (Jvm.Cond.methodLink (xon o) idx Lib.Math.min.name).before args s = true) (hdg : decode cc pc = .ok (.invokestatic idx, 3)) (hop : xmin pc L st w = some (.inl f')) (hk : xnx p l e R s m args below meth c Q D tA A s0 nL f') : xnx p l e R s m args below meth c Q D tA A s0 nL (pc, L, st, w) := by
  unfold xmin at hop
  split at hop
  · rename_i y x r
    split at hop
    · rename_i hc
      cases hop
      intro H locs cells slots ls hR hL
      have hc : (r.map fun v => v.category).sum ≤ 8 := hc
      have hcell : s.heap.size + cells = w.2.1 := hR.2.2.2.2.1
      have hslot : s0 + slots = w.2.2 := hR.2.2.2.2.2
      have hf1 : w.2.1 ≤ s.heap.size + R.cells := hf1
      have hf2 : w.2.2 ≤ s0 + R.slots := hf2
      exact va_mmin hx hb (by rw [hml]; exact hL.2.1.symm) hown hl (hK.w _ xw457 rfl args) (hK.w _ xw62 rfl args) (hK.w _ xw458 rfl args) hR1 (by omega) (by omega) (by omega) hdg (hk H locs cells slots ls hR hL)
    · cases hop
  · cases hop
theorem xs_minl (hx : p.tables.exec = Jvm.exec) (hb : c.code = cc) (hml : c.maxLocals = nL) (hK : xK D tA s) (hown : s.vm.findClass (xon o) = some m.cls) {idx : Nat} (hR1 : 1 ≤ R.frames) (hR2 : 64 ≤ R.locals) (hf1 : f'.2.2.2.2.1 ≤ s.heap.size + R.cells) (hf2 : f'.2.2.2.2.2 ≤ s0 + R.slots) (hl : (Jvm.Cond.methodLink (xon o) idx Lib.MathLoose.min_long.x).before args s = true) (hdg : decode cc pc = .ok (.invokestatic idx, 3)) (hop : xminl pc L st w = some (.inl f')) (hk : xnx p l e R s m args below meth c Q D tA A s0 nL f') : xnx p l e R s m args below meth c Q D tA A s0 nL (pc, L, st, w) := by
  unfold xminl at hop
  split at hop
  · rename_i y x r
    split at hop
    · rename_i hc
      cases hop
      intro H locs cells slots ls hR hL
      have hc : (r.map fun v => v.category).sum ≤ 8 := hc
      have hcell : s.heap.size + cells = w.2.1 := hR.2.2.2.2.1
      have hslot : s0 + slots = w.2.2 := hR.2.2.2.2.2
      have hf1 : w.2.1 ≤ s.heap.size + R.cells := hf1
      have hf2 : w.2.2 ≤ s0 + R.slots := hf2
      exact va_mmin_long hx hb (by rw [hml]; exact hL.2.1.symm) hown hl (hK.w _ xw846 rfl args) (hK.w _ xw62 rfl args) (hK.w _ xw847 rfl args) hR1 (by omega) (by omega) (by omega) hdg (hk H locs cells slots ls hR hL)
    · cases hop
  · cases hop
theorem xrep_puts {H H1 : Heap} {locs locs1 : List Loc} {cells slots a : Nat} {e0 e1 : xE} (h : xrep D tA A s.heap s0 w H locs cells slots) (ha : w.1 a = some e0) (he : va_at D xcl (a, xte tA e1) H1) (z : H1.size = H.size) (oq : ∀ q : Nat, q ≠ a → H1[q]? = H[q]?) (hl : ∀ q ∈ locs1, q.base = a) : xrep D tA A s.heap s0 (xup w.1 a e1, w.2) H1 (locs ++ locs1) cells slots := by
  have h2 := xrep_put (k := 0) h ha he z oq
  obtain ⟨g1, g2, g3, g4, g5, g6⟩ := h2
  refine ⟨g1, g2, ⟨g3.1, g3.2.1, fun q hq => ?_⟩, g4, g5, g6⟩
  rcases List.mem_append.mp hq with hq | hq
  · exact h.2.2.1.2.2 q hq
  · rw [hl q hq]
    exact (h.1 a e0 ha).2
theorem xs_copy (hx : p.tables.exec = Jvm.exec) (hb : c.code = cc) (hml : c.maxLocals = nL) (hK : xK D tA s) (hown : s.vm.findClass (xon o) = some m.cls) {idx : Nat} (hR1 : 1 ≤ R.frames) (hR2 : 64 ≤ R.locals) (hl : (Jvm.Cond.methodLink (xon o) idx arraycopyName).before args s = true) (hdg : decode cc pc = .ok (.invokestatic idx, 3)) (hop : xcopy pc L st w = some (.inl f')) (hk : xnx p l e R s m args below meth c Q D tA A s0 nL f') : xnx p l e R s m args below meth c Q D tA A s0 nL (pc, L, st, w) := by
  unfold xcopy at hop
  split at hop
  · rename_i n dp b sp a r
    split at hop
    · rename_i n0 f n1 g ha hb1
      split at hop
      · cases hop
      · rename_i hc
        cases hop
        simp only [not_or] at hc
        obtain ⟨hc8, h1, h2, h3, h4, h5⟩ := hc
        intro H locs cells slots ls hR hL T hT X
        have hc0 : H[a]? = some (vp_cell (tA 0) (n0, .inl f)) := (hR.1 a _ ha).1
        have hc1 : H[b]? = some (vp_cell (tA 0) (n1, .inl g)) := (hR.1 b _ hb1).1
        obtain ⟨-, k0, hk0, cm0, hkk0⟩ := (hK.2.2.1.2 0 _ rfl).1 n0 (fun j => .int (f j))
        have hc8 : (r.map fun v => v.category).sum ≤ 8 := by unfold xcats at hc8; omega
        have hnat : nativeFrameWords "java/lang/System" "arraycopy" 5 ≤ 40 := by decide
        obtain ⟨vm', X', step⟩ := X.arraycopy hx hown hl (hK.w _ xw461 rfl args) (hK.w _ xw460 rfl args) (hK.w _ xw63 rfl args) (src := a) (dst := b) (cs := vp_cell (tA 0) (n0, .inl f)) (cd := vp_cell (tA 0) (n1, .inl g)) (srcPos := sp) (destPos := dp) (n := n) (by rw [hT]; exact hc0) (by rw [hT]; exact hc1)
          (fun _ h => by cases h) (fun _ h => by cases h) (fun h => by cases h) (fun h => by cases h) hk0 hk0 hkk0 hkk0 (by simp [refKind]) h1 h2 h3
          (by rw [xcl_nn h1, xcl_nn h3]; show ¬ _ > ((arrV (tA 0) n0 (fun j => .int (f j))).slots.size : Int); rw [arrV_size]; omega)
          (by rw [xcl_nn h2, xcl_nn h3]; show ¬ _ > ((arrV (tA 0) n1 (fun j => .int (g j))).slots.size : Int); rw [arrV_size]; omega)
          (fun vm₁ _ i hi => by
            have e9 : (vp_cell (tA 0) (n0, .inl f)).slots.getD (sp.toNatClampNeg + i) .null = .int (f (sp.toNatClampNeg + i)) := by
              show (arrV (tA 0) n0 (fun j => .int (f j))).slots.getD _ _ = _
              rw [Array.getD_eq_getD_getElem?, arrV_read _ _ (by omega)]
              rfl
            rw [e9]
            exact ⟨rfl, trivial⟩)
          (g := F0 m pc ls (.int n :: .int dp :: .ref b :: .int sp :: .ref a :: r)) rfl (by rw [hml]; exact hL.2.1) (rest := r) rfl (by rw [hb]; exact hdg) hR1 (by show 2 * 0 + (r.map fun v => v.category).sum + (nativeFrameWords "java/lang/System" "arraycopy" 5 + 11) ≤ R.locals; omega)
        have e1 : copied (vp_cell (tA 0) (n0, .inl f)) (vp_cell (tA 0) (n1, .inl g)) sp dp n = vp_cell (tA 0) (n1, .inl (va_cpy f g sp.toNatClampNeg dp.toNatClampNeg n.toNatClampNeg)) := va_copied (fun z => .int z) (tA 0) (tA 0) f g (by omega)
        rw [e1] at X' step
        have hlt : b < H.size := (Array.getElem?_eq_some_iff.mp hc1).1
        have hheap : ((T.setVm vm').setCell b (vp_cell (tA 0) (n1, .inl (va_cpy f g sp.toNatClampNeg dp.toNatClampNeg n.toNatClampNeg)))).heap = H.setIfInBounds b (vp_cell (tA 0) (n1, .inl (va_cpy f g sp.toNatClampNeg dp.toNatClampNeg n.toNatClampNeg))) := by rw [← hT]; rfl
        have oq : ∀ q : Nat, q ≠ b → (H.setIfInBounds b (vp_cell (tA 0) (n1, .inl (va_cpy f g sp.toNatClampNeg dp.toNatClampNeg n.toNatClampNeg))))[q]? = H[q]? := fun q hq => by simp [Array.getElem?_setIfInBounds, Ne.symm hq]
        obtain ⟨t, a1, b1⟩ := hk _ _ cells slots ls (xrep_puts (e1 := .inl (0, n1, .inl (va_cpy f g sp.toNatClampNeg dp.toNatClampNeg n.toNatClampNeg))) hR hb1 (show (H.setIfInBounds b _)[b]? = some _ by simp [Array.getElem?_setIfInBounds, hlt]) (by simp) oq (fun q hq => by
          obtain ⟨z, -, hz⟩ := List.mem_map.mp hq
          rw [← hz])) hL _ hheap X'
        exact ⟨t, step t a1, b1⟩
    · cases hop
  · cases hop
/-- behind a call of the claim's own methods -/
theorem xs_after {H : Heap} {locs : List Loc} {cells slots mc ms : Nat} {ls : Array Slot} {v1 : Option Value} {w1 : xW} {A1 : Nat → Prop} {a : Array Value} {rest st0 : List Value} (hr : va_Run p l e R s m args below meth c H locs cells slots mc ms (F0 m pc ls st0) rest (xQ D tA A1 v1 w1 a) A1) (hR : xrep D tA A s.heap s0 w H locs cells slots) (hL : xlr ls nL L) (hA1 : ∀ q, A1 q → A q) (hmc : w.2.1 + mc = w1.2.1) (hms : w.2.2 + ms = w1.2.2)
    (hk : xnx p l e R s m args below meth c Q D tA A s0 nL (pc + 3, L, v1.toList ++ rest, w1)) : W p l e R s m args below meth c H locs cells slots Q (F0 m pc ls st0) := by
  intro T hT X
  obtain ⟨v, st₀, t, T', L', h0, X', hL', e1, e2, ⟨hv, hw, hz, hF⟩, step⟩ := hr T hT X
  cases hv
  obtain ⟨g1, g2, g3, g4, g5, g6⟩ := hR
  have hrep : xrep D tA A s.heap s0 w1 T'.heap (locs ++ L') (cells + mc) (slots + ms) := by
    refine ⟨fun b e' hb => ?_, by rw [e1]; exact hz, ⟨Nat.le_trans g3.1 (by rw [e1, ← h0]; exact hF.1), fun q h1 h2 => ?_, fun q hq => ?_⟩, g4, by omega, by omega⟩
    · rw [e1]
      exact ⟨(hw b e' hb).1, hA1 _ (hw b e' hb).2⟩
    · have hq : q < st₀.heap.size := by rw [h0]; exact Nat.lt_of_lt_of_le h1 g3.1
      rw [e1, hF.2 q hq (fun z => h2 (hA1 q z)), h0]
      exact g3.2.1 q h1 h2
    · rcases List.mem_append.mp hq with h | h
      · exact g3.2.2 q h
      · exact hA1 _ (hL' q h)
  obtain ⟨t2, a1, b1⟩ := hk T'.heap (locs ++ L') (cells + mc) (slots + ms) ls hrep hL T' rfl X'
  exact ⟨t2, step t2 a1, b1⟩
end XB
