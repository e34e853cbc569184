/-! ===== String.length and String.charAt, on the texts ===== -/
def sPc (G : xG) (adV : Nat → Nat) (D : va_G) (tA : Nat → ClassId) (as : List Value) : Array Value → State → Prop := va_Pc as (fun U => xK D tA U ∧ ∃ A1 : Nat → Prop, xro G adV A1 U U.heap)
def sQc (v : Option Value) : Array Value → State → Outcome → State → Prop := fun _ st oc t => oc = .returned v ∧ t.heap = st.heap
theorem sPc_blind {G : xG} {adV : Nat → Nat} {D : va_G} {tA : Nat → ClassId} {as : List Value} : FrameBlind (sPc G adV D tA as) := by
  intro a U g mk h
  obtain ⟨h0, h1, A1, h2⟩ := h
  exact ⟨h0, xK_same h1 rfl, A1, xro_same h2 rfl rfl⟩
def sMet (G : xG) (adV : Nat → Nat) (D : va_G) (tA : Nat → ClassId) (l : Launch) (y : MethodName) (bytes : ByteArray) (maxL : Nat) (ret : Option FieldType) (fr : Nat) (as : List Value) (v : Option Value) : Prop :=
  Met l y [Jvm.Cond.code y bytes maxL ret] { frames := fr, cells := 0, slots := 0, locals := 64 * fr } (sPc G adV D tA as) (sQc v) 0 0 (fun _ => False)
theorem xw1005 : lw_tbl[1005]? = some (Jvm.Cond.fieldLink "java/lang/String" 9 "java/lang/String" "value" "[B") := by decide +kernel
theorem xw1006 : lw_tbl[1006]? = some (Jvm.Cond.fieldLink "java/lang/String" 15 "java/lang/String" "coder" "B") := by decide +kernel
theorem xini (k : Nat) (C : String) (h : lw_tbl[k]? = some (Jvm.Cond.initialized C)) : lw_tbl[k]? = some (Jvm.Cond.initialized C) := h
theorem xshr0 : ∀ k : Fin 7, nI k.val >>> ((0 : Int32) &&& 31) = nI k.val := by decide +kernel
theorem xchr : ∀ k : Fin 128, ((nI k.val &&& 255).toUInt32 % 65536).toInt32 = nI k.val ∧ narrow .char (.int (nI k.val)) = .int (nI k.val) := by decide +kernel
theorem xSt_128 : ∀ a : Fin 18, ∀ b : Fin 7, (xSt.getD a.val []).getD b.val 0 < 128 := by decide
theorem xSt_le : ∀ a : Fin 18, (xSt.getD a.val []).length ≤ 6 := by decide
theorem xSl_at : ∀ a : Fin 18, xSl.getD a.val 0 = (xSt.getD a.val []).length := by decide +kernel
theorem xSb_at : ∀ a : Fin 18, ∀ b : Fin 7, b.val < (xSt.getD a.val []).length → (xSb.getD a.val []).getD b.val 0 = nI ((xSt.getD a.val []).getD b.val 0) := by decide +kernel
theorem nI_clampQ {o : Int32} (h : ¬ o < 0) : o = nI o.toNatClampNeg := by
  have h1 := xcl_nn h
  apply Int32.toInt_inj.mp
  rw [nI_toInt (Int32.toNatClampNeg_lt o)]
  exact h1
section XSTR
variable {p : Program} {l : Launch} {e : Env} {R : Room} {s : State} {m : MethodId} {args : Array Value} {below : List Frame} {meth : Method} {c : Code} {Q : State → Prop} {D : va_G} {tA : Nat → ClassId} {A : Nat → Prop} {s0 nL : Nat} {cc : ByteArray} {pc : Nat} {L : xL} {st : List Value} {w : xW} {f' : xF} {G : xG} {adV : Nat → Nat} {o : Nat} {H : Heap} {locs : List Loc} {cells slots : Nat} {ls : Array Slot} {rest : List Value} {y : MethodName} {bytes : ByteArray} {maxL fr : Nat} {ret : Option FieldType} {as : List Value} {v : Option Value} {own : String} {index : Nat}
theorem s_after {st0 : List Value} {a : Array Value} (hr : va_Run p l e R s m args below meth c H locs cells slots 0 0 (F0 m pc ls st0) rest (sQc v a) (fun _ => False)) (hk : W p l e R s m args below meth c H locs cells slots Q (F0 m (pc + 3) ls (v.toList ++ rest))) : W p l e R s m args below meth c H locs cells slots Q (F0 m pc ls st0) := by
  intro T hT X
  obtain ⟨v', st₀, t, T', L', h0, X', hL', e1, e2, ⟨hv, hh⟩, step⟩ := hr T hT X
  cases hv
  cases L' with
  | nil =>
    rw [List.append_nil] at X'
    obtain ⟨t2, a1, b1⟩ := hk T' (e1.trans (hh.trans h0)) X'
    exact ⟨t2, step t2 a1, b1⟩
  | cons q L' => exact (hL' q List.mem_cons_self).elim
theorem s_words (hK : xK D tA s) {pcode : Nat} (w1 : lw_tbl[pcode]? = some (Jvm.Cond.code y bytes maxL ret)) : ∀ w9 ∈ [Jvm.Cond.code y bytes maxL ret], ∀ (a' : Array Value) (U : State), s.WarmedH U.vm → w9.before a' U = true := fun w9 hw9 a' U hW => by
  rw [List.mem_singleton.mp hw9]
  exact word_at (args := #[]) hW (Or.inl rfl) (hK.w _ w1 rfl #[])
theorem s_runS {pcode pini plink pstat : Nat} (hM : sMet G adV D tA l y bytes maxL ret fr as v) (hx : p.tables.exec = Jvm.exec) (hb : c.code = cc) (hml : c.maxLocals = nL) (hown : s.vm.findClass own = some m.cls) (hK : xK D tA s) (hro : xro G adV A s s.heap) (hS : va_S A s.heap H locs) (w1 : lw_tbl[pcode]? = some (Jvm.Cond.code y bytes maxL ret)) (w2 : lw_tbl[pini]? = some (Jvm.Cond.initialized y.cls)) (w3 : lw_tbl[plink]? = some (Jvm.Cond.methodLink own index y)) (w4 : lw_tbl[pstat]? = some (Jvm.Cond.static y)) (hy : y.cls ≠ "java/lang/invoke/MethodHandle" ∧ y.cls ≠ "java/lang/invoke/VarHandle") (hlen : ∀ sig, parseMethodDescriptor y.desc = some sig → as.length = sig.parameters.length) (hfr : fr + 1 ≤ R.frames) (hlo : 8 + (maxL + 11) + 64 * fr ≤ R.locals) (hcat : (rest.map fun v => v.category).sum ≤ 8) (hfit : cells + 0 ≤ R.cells ∧ slots + 0 ≤ R.slots) (hsize : ls.size = nL) (hstk : st = as.reverse ++ rest) (hdg : decode cc pc = .ok (.invokestatic index, 3)) (hk : W p l e R s m args below meth c H locs cells slots Q (F0 m (pc + 3) ls (v.toList ++ rest))) : W p l e R s m args below meth c H locs cells slots Q (F0 m pc ls st) := by
  have hPre : ∀ U : State, U.heap = H → s.WarmedH U.vm → sPc G adV D tA as as.toArray U := fun U hU hW => ⟨rfl, xK_warm hK hW, A, xro_call hro hS hW hU (fun _ z => z)⟩
  exact s_after (va_runS (cc := cc) (nL := nL) (Ts := []) (own := own) (bytes := bytes) (maxL := maxL) (ret := ret) (n := as.length) ⟨hx, hb, hml, hown, fun _ h => by cases h⟩ hM ⟨⟨rfl, rfl, hfr, hlo, s_words hK w1, List.mem_singleton.mpr rfl, hK.w _ w1 rfl args, hK.w _ w2 rfl args, hy, hlen, hK.w _ w3 rfl args⟩, hK.w _ w4 rfl args⟩ ⟨sPc_blind, hPre⟩ rfl rfl hsize hstk (by show 2 * 0 + _ ≤ 8; omega) hdg hfit) hk
theorem s_runV {pcode pini pin psel i : Nat} {As : List Value} (hM : sMet G adV D tA l y bytes maxL ret fr (.ref (G.1 i) :: As) v) (hi : i < 18) (hx : p.tables.exec = Jvm.exec) (hb : c.code = cc) (hml : c.maxLocals = nL) (hown : s.vm.findClass own = some m.cls) (hK : xK D tA s) (hro : xro G adV A s s.heap) (hS : va_S A s.heap H locs) (w1 : lw_tbl[pcode]? = some (Jvm.Cond.code y bytes maxL ret)) (w2 : lw_tbl[pini]? = some (Jvm.Cond.initialized y.cls)) (w3 : (Jvm.Cond.methodLink own index y).before args s = true) (w4 : lw_tbl[pin]? = some (Jvm.Cond.instanceMethod y)) (w5 : lw_tbl[psel]? = some (Jvm.Cond.selects "java/lang/String" y y)) (hy : y.cls ≠ "java/lang/invoke/MethodHandle" ∧ y.cls ≠ "java/lang/invoke/VarHandle") (hlen : ∀ sig, parseMethodDescriptor y.desc = some sig → As.length = sig.parameters.length) (hfr : fr + 1 ≤ R.frames) (hlo : 8 + (maxL + 11) + 64 * fr ≤ R.locals) (hcat : (rest.map fun v => v.category).sum ≤ 8) (hfit : cells + 0 ≤ R.cells ∧ slots + 0 ≤ R.slots) (hsize : ls.size = nL) (hstk : st = As.reverse ++ .ref (G.1 i) :: rest) (hdg : decode cc pc = .ok (.invokevirtual index, 3)) (hk : W p l e R s m args below meth c H locs cells slots Q (F0 m (pc + 3) ls (v.toList ++ rest))) : W p l e R s m args below meth c H locs cells slots Q (F0 m pc ls st) := by
  have hPre : ∀ U : State, U.heap = H → s.WarmedH U.vm → sPc G adV D tA (.ref (G.1 i) :: As) (Value.ref (G.1 i) :: As).toArray U := fun U hU hW => ⟨rfl, xK_warm hK hW, A, xro_call hro hS hW hU (fun _ z => z)⟩
  obtain ⟨cell, g1, g2, g3⟩ := vk_recv hro.2.2.2.1 hi hS
  exact s_after (va_runV (C := "java/lang/String") (cc := cc) (nL := nL) (Ts := []) (own := own) (bytes := bytes) (maxL := maxL) (ret := ret) (n := As.length) ⟨hx, hb, hml, hown, fun _ h => by cases h⟩ hM ⟨⟨rfl, rfl, hfr, hlo, s_words hK w1, List.mem_singleton.mpr rfl, hK.w _ w1 rfl args, hK.w _ w2 rfl args, hy, hlen, w3⟩, hK.w _ w4 rfl args, hK.w _ w5 rfl args⟩ ⟨sPc_blind, ⟨cell, g1, g2, g3⟩, hPre⟩ rfl rfl hsize hstk (by show 2 * 0 + _ ≤ 8; omega) hdg hfit) hk
theorem sQ_of {a : Array Value} : ∀ t : State, t.heap = s.heap → s.WarmedH t.vm → sQc v a s (.returned v) t := fun t ht _ => ⟨rfl, ht⟩
abbrev yCoder : MethodName := ⟨"java/lang/String", "coder", "()B"⟩
abbrev yLen : MethodName := ⟨"java/lang/String", "length", "()I"⟩
abbrev yLat : MethodName := ⟨"java/lang/String", "isLatin1", "()Z"⟩
abbrev yChar : MethodName := ⟨"java/lang/String", "charAt", "(I)C"⟩
abbrev yL1 : MethodName := ⟨"java/lang/StringLatin1", "charAt", "([BI)C"⟩
abbrev yChk : MethodName := ⟨"java/lang/String", "checkIndex", "(II)V"⟩
abbrev yPre : MethodName := ⟨"jdk/internal/util/Preconditions", "checkIndex", "(IILjava/util/function/BiFunction;)I"⟩
theorem s_coder {i : Nat} (hi : i < 18) : sMet G adV D tA l yCoder prog_16_method_152_code 1 (some .byte) 0 [.ref (G.1 i)] (some (.int 0)) := by
  refine Met.ofW (cc := prog_16_method_152_code) (maxL := 1) (ret := some .byte) (by decide) rfl ?_
  intro p e s m args below meth c s1 B hml hv
  obtain ⟨rfl, hK, A, hro⟩ := hv
  rw [lg_entry_eq]
  have hS : va_S A s.heap s.heap [] := va_S.rf
  have hown : s.vm.findClass "java/lang/String" = some m.cls := findClass_of_methodNamed B.named
  refine va_gets B.exec B.bytes hro.2.2.2.2.2.2.1 hS hown (hK.w 338 rfl rfl _) (fun _ h => h) (show decode prog_16_method_152_code 0 = .ok (.getstatic 38, 3) by decide +kernel) ?_
  refine lv_if_eq B.exec B.bytes (show decode prog_16_method_152_code 3 = .ok (.ifCond .eq 10, 3) by decide +kernel) (tgt := 13) rfl (fun h => absurd h (by decide)) (fun _ => ?_)
  refine lv_aload_n B.exec B.bytes (show decode prog_16_method_152_code 6 = .ok (.aload_n 0, 1) by decide +kernel) rfl rfl ?_
  refine vk_getf B.exec B.bytes (hro.2.2.2.1.1 i hi).2.1 hS hown (hK.w 1006 xw1006 rfl _) (fun _ h => h) (show decode prog_16_method_152_code 7 = .ok (.getfield 15, 3) by decide +kernel) ?_
  refine lv_goto B.exec B.bytes (show decode prog_16_method_152_code 10 = .ok (.goto 4, 3) by decide +kernel) (tgt := 14) rfl ?_
  exact W.zret B.exec B.bytes B.returns rfl sQ_of (fun q hq => by cases hq) (show decode prog_16_method_152_code 14 = .ok (.ireturn, 1) by decide +kernel) B.notSynchronized
theorem s_length {i : Nat} (hi : i < 18) : sMet G adV D tA l yLen prog_16_method_54_code 1 (some .int) 1 [.ref (G.1 i)] (some (.int (nI (xSt.getD i []).length))) := by
  have hl := xSt_le ⟨i, hi⟩
  dsimp only at hl
  refine Met.ofW (cc := prog_16_method_54_code) (maxL := 1) (ret := some .int) (by decide) rfl ?_
  intro p e s m args below meth c s1 B hml hv
  obtain ⟨rfl, hK, A, hro⟩ := hv
  rw [lg_entry_eq]
  have hS : va_S A s.heap s.heap [] := va_S.rf
  have hown : s.vm.findClass "java/lang/String" = some m.cls := findClass_of_methodNamed B.named
  refine lv_aload_n B.exec B.bytes (show decode prog_16_method_54_code 0 = .ok (.aload_n 0, 1) by decide +kernel) rfl rfl ?_
  refine vk_getf B.exec B.bytes (hro.2.2.2.1.1 i hi).2.2.1 hS hown (hK.w 1005 xw1005 rfl _) (fun _ h => h) (show decode prog_16_method_54_code 1 = .ok (.getfield 9, 3) by decide +kernel) ?_
  refine va_tlen B.exec B.bytes (hro.2.2.2.1.1 i hi).2.2.2 hS (v := nI (xSt.getD i []).length) (congrArg Int32.ofNat (xSl_at ⟨i, hi⟩)) (show decode prog_16_method_54_code 4 = .ok (.arraylength, 1) by decide +kernel) ?_
  refine lv_aload_n B.exec B.bytes (show decode prog_16_method_54_code 5 = .ok (.aload_n 0, 1) by decide +kernel) rfl rfl ?_
  refine s_runV (As := []) (rest := [.int (nI (xSt.getD i []).length)]) (s_coder hi) hi B.exec B.bytes hml hown hK hro hS (pcode := 337) rfl (pini := 56) rfl (hK.w 334 rfl rfl _) (pin := 335) rfl (psel := 336) rfl ⟨by decide, by decide⟩ (fun sig h => by rw [show parseMethodDescriptor "()B" = some ⟨[], some .byte⟩ from by decide +kernel] at h; cases h; rfl) (Nat.le_refl _) (by decide) (show 1 ≤ 8 by decide) ⟨Nat.le_refl _, Nat.le_refl _⟩ rfl rfl (show decode prog_16_method_54_code 6 = .ok (.invokevirtual 335, 3) by decide +kernel) ?_
  refine lv_ishr B.exec B.bytes (show decode prog_16_method_54_code 9 = .ok (.ishr, 1) by decide +kernel) ?_
  rw [xshr0 ⟨(xSt.getD i []).length, by omega⟩]
  exact W.zret B.exec B.bytes B.returns rfl sQ_of (fun q hq => by cases hq) (show decode prog_16_method_54_code 10 = .ok (.ireturn, 1) by decide +kernel) B.notSynchronized
theorem s_latin {i : Nat} (hi : i < 18) : sMet G adV D tA l yLat prog_16_method_154_code 1 (some .boolean) 0 [.ref (G.1 i)] (some (.int 1)) := by
  refine Met.ofW (cc := prog_16_method_154_code) (maxL := 1) (ret := some .boolean) (by decide) rfl ?_
  intro p e s m args below meth c s1 B hml hv
  obtain ⟨rfl, hK, A, hro⟩ := hv
  rw [lg_entry_eq]
  have hS : va_S A s.heap s.heap [] := va_S.rf
  have hown : s.vm.findClass "java/lang/String" = some m.cls := findClass_of_methodNamed B.named
  refine va_gets B.exec B.bytes hro.2.2.2.2.2.2.1 hS hown (hK.w 338 rfl rfl _) (fun _ h => h) (show decode prog_16_method_154_code 0 = .ok (.getstatic 38, 3) by decide +kernel) ?_
  refine lv_if_eq B.exec B.bytes (show decode prog_16_method_154_code 3 = .ok (.ifCond .eq 14, 3) by decide +kernel) (tgt := 17) rfl (fun h => absurd h (by decide)) (fun _ => ?_)
  refine lv_aload_n B.exec B.bytes (show decode prog_16_method_154_code 6 = .ok (.aload_n 0, 1) by decide +kernel) rfl rfl ?_
  refine vk_getf B.exec B.bytes (hro.2.2.2.1.1 i hi).2.1 hS hown (hK.w 1006 xw1006 rfl _) (fun _ h => h) (show decode prog_16_method_154_code 7 = .ok (.getfield 15, 3) by decide +kernel) ?_
  refine lv_if_ne B.exec B.bytes (show decode prog_16_method_154_code 10 = .ok (.ifCond .ne 7, 3) by decide +kernel) (tgt := 17) rfl (fun h => absurd rfl h) (fun _ => ?_)
  refine lv_iconst B.exec B.bytes (show decode prog_16_method_154_code 13 = .ok (.iconst 1, 1) by decide +kernel) rfl ?_
  refine lv_goto B.exec B.bytes (show decode prog_16_method_154_code 14 = .ok (.goto 4, 3) by decide +kernel) (tgt := 18) rfl ?_
  exact W.zret B.exec B.bytes B.returns rfl sQ_of (fun q hq => by cases hq) (show decode prog_16_method_154_code 18 = .ok (.ireturn, 1) by decide +kernel) B.notSynchronized
theorem s_pre {k n : Nat} {z : Value} (hz : z.category = 1) (hk : k < n) (hn : n < 2 ^ 31) : sMet G adV D tA l yPre prog_21_method_11_code 3 (some .int) 0 [.int (nI k), .int (nI n), z] (some (.int (nI k))) := by
  refine Met.ofW (cc := prog_21_method_11_code) (maxL := 3) (ret := some .int) (by decide) rfl ?_
  intro p e s m args below meth c s1 B hml hv
  obtain ⟨rfl, hK, A, hro⟩ := hv
  have hcat : ∀ v ∈ [Value.int (nI k), Value.int (nI n), z], v.category = 1 := by
    intro v hv
    simp only [List.mem_cons, List.not_mem_nil, or_false] at hv
    rcases hv with rfl | rfl | rfl
    · rfl
    · rfl
    · exact hz
  rw [entry_eq m _ hcat]
  have hown : s.vm.findClass "jdk/internal/util/Preconditions" = some m.cls := findClass_of_methodNamed B.named
  refine lv_iload_n B.exec B.bytes (show decode prog_21_method_11_code 0 = .ok (.iload_n 0, 1) by decide +kernel) rfl rfl ?_
  refine lv_if_lt B.exec B.bytes (show decode prog_21_method_11_code 1 = .ok (.ifCond .lt 8, 3) by decide +kernel) (tgt := 9) rfl (fun h => absurd h (nI_pos (by omega))) (fun _ => ?_)
  refine lv_iload_n B.exec B.bytes (show decode prog_21_method_11_code 4 = .ok (.iload_n 0, 1) by decide +kernel) rfl rfl ?_
  refine lv_iload_n B.exec B.bytes (show decode prog_21_method_11_code 5 = .ok (.iload_n 1, 1) by decide +kernel) rfl rfl ?_
  refine lv_icmp_lt B.exec B.bytes (show decode prog_21_method_11_code 6 = .ok (.if_icmp .lt 10, 3) by decide +kernel) (tgt := 16) rfl (fun _ => ?_) (fun h => absurd (nI_lt hk hn) h)
  refine lv_iload_n B.exec B.bytes (show decode prog_21_method_11_code 16 = .ok (.iload_n 0, 1) by decide +kernel) rfl rfl ?_
  exact W.zret B.exec B.bytes B.returns rfl sQ_of (fun q hq => by cases hq) (show decode prog_21_method_11_code 17 = .ok (.ireturn, 1) by decide +kernel) B.notSynchronized
theorem s_check {k n : Nat} (hk : k < n) (hn : n < 2 ^ 31) : sMet G adV D tA l yChk prog_16_method_155_code 2 none 1 [.int (nI k), .int (nI n)] none := by
  refine Met.ofW (cc := prog_16_method_155_code) (maxL := 2) (ret := none) (by decide) rfl ?_
  intro p e s m args below meth c s1 B hml hv
  obtain ⟨rfl, hK, A, hro⟩ := hv
  rw [lg_entry_eq]
  have hS : va_S A s.heap s.heap [] := va_S.rf
  have hown : s.vm.findClass "java/lang/String" = some m.cls := findClass_of_methodNamed B.named
  refine lv_iload_n B.exec B.bytes (show decode prog_16_method_155_code 0 = .ok (.iload_n 0, 1) by decide +kernel) rfl rfl ?_
  refine lv_iload_n B.exec B.bytes (show decode prog_16_method_155_code 1 = .ok (.iload_n 1, 1) by decide +kernel) rfl rfl ?_
  have tail : ∀ z : Value, z.category = 1 → W p l e (headSpec [Jvm.Cond.code yChk prog_16_method_155_code 2 none] { frames := 1, cells := 0, slots := 0, locals := 64 * 1 }).room s m [Value.int (nI k), Value.int (nI n)].toArray below meth c s.heap [] 0 0 (MQ below (sQc none) [Value.int (nI k), Value.int (nI n)].toArray s 0 0 (fun _ => False)) (F0 m 5 ((lg_sl [Value.int (nI k), Value.int (nI n)] ++ List.replicate (2 - (lg_sl [Value.int (nI k), Value.int (nI n)]).length) Slot.unset).toArray) [z, .int (nI n), .int (nI k)]) := by
    intro z hz
    refine s_runS (rest := []) (s_pre (z := z) hz hk hn) B.exec B.bytes hml hown hK hro hS (pcode := 358) rfl (pini := 58) rfl (plink := 356) rfl (pstat := 357) rfl ⟨by decide, by decide⟩ (fun sig h => by rw [show parseMethodDescriptor "(IILjava/util/function/BiFunction;)I" = some ⟨[.int, .int, .object "java/util/function/BiFunction"], some .int⟩ from by decide +kernel] at h; cases h; rfl) (Nat.le_refl _) (by decide) (by decide) ⟨Nat.le_refl _, Nat.le_refl _⟩ rfl rfl (show decode prog_16_method_155_code 5 = .ok (.invokestatic 1059, 3) by decide +kernel) ?_
    refine lv_pop B.exec B.bytes (show decode prog_16_method_155_code 8 = .ok (.pop, 1) by decide +kernel) rfl ?_
    exact W.vret B.exec B.bytes B.returns sQ_of (fun q hq => by cases hq) (show decode prog_16_method_155_code 9 = .ok (.return_, 1) by decide +kernel) B.notSynchronized
  rcases hro.2.2.2.2.2.2.2 with hq | ⟨t, hq⟩
  · exact va_gets B.exec B.bytes hq hS hown (hK.w 354 rfl rfl _) (fun _ h => h) (show decode prog_16_method_155_code 2 = .ok (.getstatic 1053, 3) by decide +kernel) (tail .null rfl)
  · exact va_gets B.exec B.bytes hq hS hown (hK.w 354 rfl rfl _) (fun _ h => h) (show decode prog_16_method_155_code 2 = .ok (.getstatic 1053, 3) by decide +kernel) (tail (.ref t) rfl)
theorem s_l1 {i k : Nat} (hi : i < 18) (hk : k < (xSt.getD i []).length) : sMet G adV D tA l yL1 prog_17_method_2_code 2 (some .char) 2 [.ref (adV i), .int (nI k)] (some (.int (nI ((xSt.getD i []).getD k 0)))) := by
  have hl := xSt_le ⟨i, hi⟩
  dsimp only at hl
  have h1 : (xSt.getD i []).getD k 0 < 128 := xSt_128 ⟨i, hi⟩ ⟨k, by omega⟩
  have h2 := xchr ⟨(xSt.getD i []).getD k 0, h1⟩
  dsimp only at h2
  have h3 : xSl.getD i 0 = (xSt.getD i []).length := xSl_at ⟨i, hi⟩
  have h4 : (xSb.getD i []).getD k 0 = nI ((xSt.getD i []).getD k 0) := xSb_at ⟨i, hi⟩ ⟨k, by omega⟩ hk
  refine Met.ofW (cc := prog_17_method_2_code) (maxL := 2) (ret := some .char) (by decide) rfl ?_
  intro p e s m args below meth c s1 B hml hv
  obtain ⟨rfl, hK, A, hro⟩ := hv
  rw [lg_entry_eq]
  have hS : va_S A s.heap s.heap [] := va_S.rf
  have hown : s.vm.findClass "java/lang/StringLatin1" = some m.cls := findClass_of_methodNamed B.named
  refine lv_iload_n B.exec B.bytes (show decode prog_17_method_2_code 0 = .ok (.iload_n 1, 1) by decide +kernel) rfl rfl ?_
  refine lv_aload_n B.exec B.bytes (show decode prog_17_method_2_code 1 = .ok (.aload_n 0, 1) by decide +kernel) rfl rfl ?_
  refine va_tlen B.exec B.bytes (hro.2.2.2.1.1 i hi).2.2.2 hS (v := nI (xSt.getD i []).length) (congrArg Int32.ofNat h3) (show decode prog_17_method_2_code 2 = .ok (.arraylength, 1) by decide +kernel) ?_
  refine s_runS (rest := []) (s_check (n := (xSt.getD i []).length) hk (by omega)) B.exec B.bytes hml hown hK hro hS (pcode := 353) rfl (pini := 56) rfl (plink := 351) rfl (pstat := 352) rfl ⟨by decide, by decide⟩ (fun sig h => by rw [show parseMethodDescriptor "(II)V" = some ⟨[.int, .int], none⟩ from by decide +kernel] at h; cases h; rfl) (Nat.le_refl _) (by decide) (by decide) ⟨Nat.le_refl _, Nat.le_refl _⟩ rfl rfl (show decode prog_17_method_2_code 3 = .ok (.invokestatic 9, 3) by decide +kernel) ?_
  refine lv_aload_n B.exec B.bytes (show decode prog_17_method_2_code 6 = .ok (.aload_n 0, 1) by decide +kernel) rfl rfl ?_
  refine lv_iload_n B.exec B.bytes (show decode prog_17_method_2_code 7 = .ok (.iload_n 1, 1) by decide +kernel) rfl rfl ?_
  refine va_tb B.exec B.bytes (hro.2.2.2.1.1 i hi).2.2.2 hS (vp_in_nI (by omega) (by omega)) (v := .int (nI ((xSt.getD i []).getD k 0))) (by rw [nI_clamp (by omega), h4]) (show decode prog_17_method_2_code 8 = .ok (.baload, 1) by decide +kernel) ?_
  refine lv_sipush B.exec B.bytes (show decode prog_17_method_2_code 9 = .ok (.sipush 255, 3) by decide +kernel) (v := 255) rfl ?_
  refine lv_iand B.exec B.bytes (show decode prog_17_method_2_code 12 = .ok (.iand, 1) by decide +kernel) ?_
  refine lv_i2c B.exec B.bytes (show decode prog_17_method_2_code 13 = .ok (.i2c, 1) by decide +kernel) h2.1 ?_
  exact W.zret B.exec B.bytes B.returns h2.2 sQ_of (fun q hq => by cases hq) (show decode prog_17_method_2_code 14 = .ok (.ireturn, 1) by decide +kernel) B.notSynchronized
theorem s_char {i k : Nat} (hi : i < 18) (hk : k < (xSt.getD i []).length) : sMet G adV D tA l yChar prog_16_method_56_code 2 (some .char) 3 [.ref (G.1 i), .int (nI k)] (some (.int (nI ((xSt.getD i []).getD k 0)))) := by
  have hl := xSt_le ⟨i, hi⟩
  dsimp only at hl
  have h1 : (xSt.getD i []).getD k 0 < 128 := xSt_128 ⟨i, hi⟩ ⟨k, by omega⟩
  have h2 := xchr ⟨(xSt.getD i []).getD k 0, h1⟩
  dsimp only at h2
  refine Met.ofW (cc := prog_16_method_56_code) (maxL := 2) (ret := some .char) (by decide) rfl ?_
  intro p e s m args below meth c s1 B hml hv
  obtain ⟨rfl, hK, A, hro⟩ := hv
  rw [lg_entry_eq]
  have hS : va_S A s.heap s.heap [] := va_S.rf
  have hown : s.vm.findClass "java/lang/String" = some m.cls := findClass_of_methodNamed B.named
  refine lv_aload_n B.exec B.bytes (show decode prog_16_method_56_code 0 = .ok (.aload_n 0, 1) by decide +kernel) rfl rfl ?_
  refine s_runV (As := []) (rest := []) (s_latin hi) hi B.exec B.bytes hml hown hK hro hS (pcode := 347) rfl (pini := 56) rfl (hK.w 344 rfl rfl _) (pin := 345) rfl (psel := 346) rfl ⟨by decide, by decide⟩ (fun sig h => by rw [show parseMethodDescriptor "()Z" = some ⟨[], some .boolean⟩ from by decide +kernel] at h; cases h; rfl) (by decide) (by decide) (by decide) ⟨Nat.le_refl _, Nat.le_refl _⟩ rfl rfl (show decode prog_16_method_56_code 1 = .ok (.invokevirtual 492, 3) by decide +kernel) ?_
  refine lv_if_eq B.exec B.bytes (show decode prog_16_method_56_code 4 = .ok (.ifCond .eq 12, 3) by decide +kernel) (tgt := 16) rfl (fun h => absurd h (by decide)) (fun _ => ?_)
  refine lv_aload_n B.exec B.bytes (show decode prog_16_method_56_code 7 = .ok (.aload_n 0, 1) by decide +kernel) rfl rfl ?_
  refine vk_getf B.exec B.bytes (hro.2.2.2.1.1 i hi).2.2.1 hS hown (hK.w 1005 xw1005 rfl _) (fun _ h => h) (show decode prog_16_method_56_code 8 = .ok (.getfield 9, 3) by decide +kernel) ?_
  refine lv_iload_n B.exec B.bytes (show decode prog_16_method_56_code 11 = .ok (.iload_n 1, 1) by decide +kernel) rfl rfl ?_
  refine s_runS (rest := []) (s_l1 hi hk) B.exec B.bytes hml hown hK hro hS (pcode := 350) rfl (pini := 57) rfl (plink := 348) rfl (pstat := 349) rfl ⟨by decide, by decide⟩ (fun sig h => by rw [show parseMethodDescriptor "([BI)C" = some ⟨[.array .byte, .int], some .char⟩ from by decide +kernel] at h; cases h; rfl) (Nat.le_refl _) (by decide) (by decide) ⟨Nat.le_refl _, Nat.le_refl _⟩ rfl rfl (show decode prog_16_method_56_code 12 = .ok (.invokestatic 495, 3) by decide +kernel) ?_
  exact W.zret B.exec B.bytes B.returns h2.2 sQ_of (fun q hq => by cases hq) (show decode prog_16_method_56_code 15 = .ok (.ireturn, 1) by decide +kernel) B.notSynchronized
theorem xs_slen (hx : p.tables.exec = Jvm.exec) (hb : c.code = cc) (hml : c.maxLocals = nL) (hK : xK D tA s) (hro : xro G adV A s s.heap) (hown : s.vm.findClass (xon o) = some m.cls) {idx : Nat} (hR1 : 8 ≤ R.frames) (hR2 : 512 ≤ R.locals) (hf1 : f'.2.2.2.2.1 ≤ s.heap.size + R.cells) (hf2 : f'.2.2.2.2.2 ≤ s0 + R.slots) (hl : (Jvm.Cond.methodLink (xon o) idx ⟨"java/lang/String", "length", "()I"⟩).before args s = true) (hdg : decode cc pc = .ok (.invokevirtual idx, 3)) (hop : xslen G pc L st w = some (.inl f')) (hk : xnx p l e R s m args below meth c Q D tA A s0 nL f') : xnx p l e R s m args below meth c Q D tA A s0 nL (pc, L, st, w) := by
  unfold xslen at hop
  split at hop
  · rename_i a r
    split at hop
    · rename_i i ha
      split at hop
      · cases hop
      · rename_i hc
        cases hop
        obtain ⟨hi, rfl⟩ := hro.2.2.2.2.2.1 a i ha
        intro H locs cells slots ls hR hL
        have hcell : s.heap.size + cells = w.2.1 := hR.2.2.2.2.1
        have hslot : s0 + slots = w.2.2 := hR.2.2.2.2.2
        have hf1 : w.2.1 ≤ s.heap.size + R.cells := hf1
        have hf2 : w.2.2 ≤ s0 + R.slots := hf2
        have hc : ¬ 8 < (r.map fun v => v.category).sum := hc
        exact s_runV (As := []) (s_length hi) hi hx hb hml hown hK hro hR.2.2.1 (pcode := 333) rfl (pini := 56) rfl hl (pin := 331) rfl (psel := 332) rfl ⟨by decide, by decide⟩ (fun sig h => by rw [show parseMethodDescriptor "()I" = some ⟨[], some .int⟩ from by decide +kernel] at h; cases h; rfl) (by omega) (by omega) (by omega) ⟨by omega, by omega⟩ hL.2.1 rfl hdg (hk H locs cells slots ls hR hL)
    · cases hop
  · cases hop
theorem xs_sat (hx : p.tables.exec = Jvm.exec) (hb : c.code = cc) (hml : c.maxLocals = nL) (hK : xK D tA s) (hro : xro G adV A s s.heap) (hown : s.vm.findClass (xon o) = some m.cls) {idx : Nat} (hR1 : 8 ≤ R.frames) (hR2 : 512 ≤ R.locals) (hf1 : f'.2.2.2.2.1 ≤ s.heap.size + R.cells) (hf2 : f'.2.2.2.2.2 ≤ s0 + R.slots) (hl : (Jvm.Cond.methodLink (xon o) idx ⟨"java/lang/String", "charAt", "(I)C"⟩).before args s = true) (hdg : decode cc pc = .ok (.invokevirtual idx, 3)) (hop : xsat G pc L st w = some (.inl f')) (hk : xnx p l e R s m args below meth c Q D tA A s0 nL f') : xnx p l e R s m args below meth c Q D tA A s0 nL (pc, L, st, w) := by
  unfold xsat at hop
  split at hop
  · rename_i k a r
    split at hop
    · rename_i i ha
      split at hop
      · cases hop
      · rename_i hc
        cases hop
        obtain ⟨hi, rfl⟩ := hro.2.2.2.2.2.1 a i ha
        intro H locs cells slots ls hR hL
        have hcell : s.heap.size + cells = w.2.1 := hR.2.2.2.2.1
        have hslot : s0 + slots = w.2.2 := hR.2.2.2.2.2
        have hf1 : w.2.1 ≤ s.heap.size + R.cells := hf1
        have hf2 : w.2.2 ≤ s0 + R.slots := hf2
        have hc1 : ¬ 8 < (r.map fun v => v.category).sum := fun z => hc (Or.inl z)
        have hc2 : ¬ k < 0 := fun z => hc (Or.inr (Or.inl z))
        have hc3 : k.toNatClampNeg < (xSt.getD i []).length := Nat.not_le.mp (fun z => hc (Or.inr (Or.inr z)))
        have ek := nI_clampQ hc2
        generalize k.toNatClampNeg = j at *
        subst ek
        exact s_runV (As := [.int (nI j)]) (s_char hi hc3) hi hx hb hml hown hK hro hR.2.2.1 (pcode := 343) rfl (pini := 56) rfl hl (pin := 341) rfl (psel := 342) rfl ⟨by decide, by decide⟩ (fun sig h => by rw [show parseMethodDescriptor "(I)C" = some ⟨[.int], some .char⟩ from by decide +kernel] at h; cases h; rfl) (by omega) (by omega) (by omega) ⟨by omega, by omega⟩ hL.2.1 rfl hdg (hk H locs cells slots ls hR hL)
    · cases hop
  · cases hop
end XSTR

