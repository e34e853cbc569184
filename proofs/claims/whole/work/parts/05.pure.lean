/-! ===== the small machine is right: instructions that leave the world as it is (wip/gen/lay05.py) ===== -/
section XP
variable {p : Program} {l : Launch} {e : Env} {R : Room} {s : State} {m : MethodId} {args : Array Value} {below : List Frame} {meth : Method} {c : Code} {Q : State → Prop} {D : va_G} {tA : Nat → ClassId} {A : Nat → Prop} {s0 nL : Nat} {cc : ByteArray} {pc : Nat} {L : xL} {st : List Value} {w : xW} {f' : xF}
theorem xs_aconst_null (hx : p.tables.exec = Jvm.exec) (hb : c.code = cc)  (hdg : decode cc pc = .ok (.aconst_null, 1)) (hop : xpush 1 (.null) pc L st w = some (.inl f')) (hk : xnx p l e R s m args below meth c Q D tA A s0 nL f') : xnx p l e R s m args below meth c Q D tA A s0 nL (pc, L, st, w) := by
  cases hop
  intro H locs cells slots ls hR hL
  exact lv_null hx hb hdg (hk H locs cells slots ls hR hL)
theorem xs_iconst (hx : p.tables.exec = Jvm.exec) (hb : c.code = cc) {n : Int} (hdg : decode cc pc = .ok (.iconst n, 1)) (hop : xpush 1 (.int (Int32.ofInt n)) pc L st w = some (.inl f')) (hk : xnx p l e R s m args below meth c Q D tA A s0 nL f') : xnx p l e R s m args below meth c Q D tA A s0 nL (pc, L, st, w) := by
  cases hop
  intro H locs cells slots ls hR hL
  exact lv_iconst hx hb hdg rfl (hk H locs cells slots ls hR hL)
theorem xs_lconst (hx : p.tables.exec = Jvm.exec) (hb : c.code = cc) {n : Fin 2} (hdg : decode cc pc = .ok (.lconst n, 1)) (hop : xpush 1 (.long (Int64.ofNat (n : Nat))) pc L st w = some (.inl f')) (hk : xnx p l e R s m args below meth c Q D tA A s0 nL f') : xnx p l e R s m args below meth c Q D tA A s0 nL (pc, L, st, w) := by
  cases hop
  intro H locs cells slots ls hR hL
  exact lv_lconst hx hb hdg rfl (hk H locs cells slots ls hR hL)
theorem xs_bipush (hx : p.tables.exec = Jvm.exec) (hb : c.code = cc) {n : Int} (hdg : decode cc pc = .ok (.bipush n, 2)) (hop : xpush 2 (.int (Int8.ofInt n).toInt32) pc L st w = some (.inl f')) (hk : xnx p l e R s m args below meth c Q D tA A s0 nL f') : xnx p l e R s m args below meth c Q D tA A s0 nL (pc, L, st, w) := by
  cases hop
  intro H locs cells slots ls hR hL
  exact lv_bipush hx hb hdg rfl (hk H locs cells slots ls hR hL)
theorem xs_sipush (hx : p.tables.exec = Jvm.exec) (hb : c.code = cc) {n : Int} (hdg : decode cc pc = .ok (.sipush n, 3)) (hop : xpush 3 (.int (Int16.ofInt n).toInt32) pc L st w = some (.inl f')) (hk : xnx p l e R s m args below meth c Q D tA A s0 nL f') : xnx p l e R s m args below meth c Q D tA A s0 nL (pc, L, st, w) := by
  cases hop
  intro H locs cells slots ls hR hL
  exact lv_sipush hx hb hdg rfl (hk H locs cells slots ls hR hL)
theorem xs_iload (hx : p.tables.exec = Jvm.exec) (hb : c.code = cc) {i : Nat} (hdg : decode cc pc = .ok (.iload i, 2)) (hop : xiload 2 i pc L st w = some (.inl f')) (hk : xnx p l e R s m args below meth c Q D tA A s0 nL f') : xnx p l e R s m args below meth c Q D tA A s0 nL (pc, L, st, w) := by
  unfold xiload at hop
  split at hop
  · rename_i v hv
    cases hop
    intro H locs cells slots ls hR hL
    exact lv_iload hx hb hdg (hL.at hv) (hk H locs cells slots ls hR hL)
  · cases hop
theorem xs_iload_n (hx : p.tables.exec = Jvm.exec) (hb : c.code = cc) {i : Fin 4} (hdg : decode cc pc = .ok (.iload_n i, 1)) (hop : xiload 1 i pc L st w = some (.inl f')) (hk : xnx p l e R s m args below meth c Q D tA A s0 nL f') : xnx p l e R s m args below meth c Q D tA A s0 nL (pc, L, st, w) := by
  unfold xiload at hop
  split at hop
  · rename_i v hv
    cases hop
    intro H locs cells slots ls hR hL
    exact lv_iload_n hx hb hdg rfl (hL.at hv) (hk H locs cells slots ls hR hL)
  · cases hop
theorem xs_lload (hx : p.tables.exec = Jvm.exec) (hb : c.code = cc) {i : Nat} (hdg : decode cc pc = .ok (.lload i, 2)) (hop : xlload 2 i pc L st w = some (.inl f')) (hk : xnx p l e R s m args below meth c Q D tA A s0 nL f') : xnx p l e R s m args below meth c Q D tA A s0 nL (pc, L, st, w) := by
  unfold xlload at hop
  split at hop
  · rename_i v hv
    cases hop
    intro H locs cells slots ls hR hL
    exact lv_lload hx hb hdg (hL.at hv) (hk H locs cells slots ls hR hL)
  · cases hop
theorem xs_lload_n (hx : p.tables.exec = Jvm.exec) (hb : c.code = cc) {i : Fin 4} (hdg : decode cc pc = .ok (.lload_n i, 1)) (hop : xlload 1 i pc L st w = some (.inl f')) (hk : xnx p l e R s m args below meth c Q D tA A s0 nL f') : xnx p l e R s m args below meth c Q D tA A s0 nL (pc, L, st, w) := by
  unfold xlload at hop
  split at hop
  · rename_i v hv
    cases hop
    intro H locs cells slots ls hR hL
    exact lv_lload_n hx hb hdg rfl (hL.at hv) (hk H locs cells slots ls hR hL)
  · cases hop
theorem xs_aload (hx : p.tables.exec = Jvm.exec) (hb : c.code = cc) {i : Nat} (hdg : decode cc pc = .ok (.aload i, 2)) (hop : xaload 2 i pc L st w = some (.inl f')) (hk : xnx p l e R s m args below meth c Q D tA A s0 nL f') : xnx p l e R s m args below meth c Q D tA A s0 nL (pc, L, st, w) := by
  unfold xaload at hop
  split at hop
  · rename_i v hv
    cases hop
    intro H locs cells slots ls hR hL
    exact lv_aload hx hb hdg (hL.at hv) (hk H locs cells slots ls hR hL)
  · cases hop
theorem xs_aload_n (hx : p.tables.exec = Jvm.exec) (hb : c.code = cc) {i : Fin 4} (hdg : decode cc pc = .ok (.aload_n i, 1)) (hop : xaload 1 i pc L st w = some (.inl f')) (hk : xnx p l e R s m args below meth c Q D tA A s0 nL f') : xnx p l e R s m args below meth c Q D tA A s0 nL (pc, L, st, w) := by
  unfold xaload at hop
  split at hop
  · rename_i v hv
    cases hop
    intro H locs cells slots ls hR hL
    exact lv_aload_n hx hb hdg rfl (hL.at hv) (hk H locs cells slots ls hR hL)
  · cases hop
theorem xs_istore (hx : p.tables.exec = Jvm.exec) (hb : c.code = cc) {i : Nat} (hdg : decode cc pc = .ok (.istore i, 2)) (hop : xistore 2 i pc L st w = some (.inl f')) (hk : xnx p l e R s m args below meth c Q D tA A s0 nL f') : xnx p l e R s m args below meth c Q D tA A s0 nL (pc, L, st, w) := by
  unfold xistore at hop
  split at hop
  · rename_i v r
    obtain ⟨L', hs, he⟩ := Option.map_eq_some_iff.mp hop
    cases he
    intro H locs cells slots ls hR hL
    exact lv_istore hx hb hdg hL.2 (by have := (xst_some hs).1; rw [hL.1] at this; exact this) rfl (fun ls' h' => hk H locs cells slots ls' hR (xlr_set hL.1 hs h'))
  · cases hop
theorem xs_istore_n (hx : p.tables.exec = Jvm.exec) (hb : c.code = cc) {i : Fin 4} (hdg : decode cc pc = .ok (.istore_n i, 1)) (hop : xistore 1 i pc L st w = some (.inl f')) (hk : xnx p l e R s m args below meth c Q D tA A s0 nL f') : xnx p l e R s m args below meth c Q D tA A s0 nL (pc, L, st, w) := by
  unfold xistore at hop
  split at hop
  · rename_i v r
    obtain ⟨L', hs, he⟩ := Option.map_eq_some_iff.mp hop
    cases he
    intro H locs cells slots ls hR hL
    exact lv_istore_n hx hb hdg rfl hL.2 (by have := (xst_some hs).1; rw [hL.1] at this; exact this) rfl (fun ls' h' => hk H locs cells slots ls' hR (xlr_set hL.1 hs h'))
  · cases hop
theorem xs_astore (hx : p.tables.exec = Jvm.exec) (hb : c.code = cc) {i : Nat} (hdg : decode cc pc = .ok (.astore i, 2)) (hop : xastore 2 i pc L st w = some (.inl f')) (hk : xnx p l e R s m args below meth c Q D tA A s0 nL f') : xnx p l e R s m args below meth c Q D tA A s0 nL (pc, L, st, w) := by
  unfold xastore at hop
  split at hop
  · rename_i v r
    obtain ⟨L', hs, he⟩ := Option.map_eq_some_iff.mp hop
    cases he
    intro H locs cells slots ls hR hL
    exact lv_astore hx hb hdg hL.2 (by have := (xst_some hs).1; rw [hL.1] at this; exact this) rfl (fun ls' h' => hk H locs cells slots ls' hR (xlr_set hL.1 hs h'))
  · cases hop
theorem xs_astore_n (hx : p.tables.exec = Jvm.exec) (hb : c.code = cc) {i : Fin 4} (hdg : decode cc pc = .ok (.astore_n i, 1)) (hop : xastore 1 i pc L st w = some (.inl f')) (hk : xnx p l e R s m args below meth c Q D tA A s0 nL f') : xnx p l e R s m args below meth c Q D tA A s0 nL (pc, L, st, w) := by
  unfold xastore at hop
  split at hop
  · rename_i v r
    obtain ⟨L', hs, he⟩ := Option.map_eq_some_iff.mp hop
    cases he
    intro H locs cells slots ls hR hL
    exact lv_astore_n hx hb hdg rfl hL.2 (by have := (xst_some hs).1; rw [hL.1] at this; exact this) rfl (fun ls' h' => hk H locs cells slots ls' hR (xlr_set hL.1 hs h'))
  · cases hop
theorem xs_lstore_n (hx : p.tables.exec = Jvm.exec) (hb : c.code = cc) {i : Fin 4} (hdg : decode cc pc = .ok (.lstore_n i, 1)) (hop : xlstore 1 i pc L st w = some (.inl f')) (hk : xnx p l e R s m args below meth c Q D tA A s0 nL f') : xnx p l e R s m args below meth c Q D tA A s0 nL (pc, L, st, w) := by
  unfold xlstore at hop
  split at hop
  · rename_i v r
    obtain ⟨L', hs, he⟩ := Option.map_eq_some_iff.mp hop
    cases he
    intro H locs cells slots ls hR hL
    exact lv_lstore_n hx hb hdg rfl hL.2 (by have := (xst2_some hs).1; rw [hL.1] at this; exact this) rfl (fun ls' h' => hk H locs cells slots ls' hR (xlr_set2 hL.1 hs h'))
  · cases hop
theorem xs_iinc (hx : p.tables.exec = Jvm.exec) (hb : c.code = cc) {i : Nat} {k : Int} (hdg : decode cc pc = .ok (.iinc i k, 3)) (hop : xiinc i k pc L st w = some (.inl f')) (hk : xnx p l e R s m args below meth c Q D tA A s0 nL f') : xnx p l e R s m args below meth c Q D tA A s0 nL (pc, L, st, w) := by
  unfold xiinc at hop
  split at hop
  · rename_i v hv
    obtain ⟨L', hs, he⟩ := Option.map_eq_some_iff.mp hop
    cases he
    intro H locs cells slots ls hR hL
    obtain ⟨j, hj⟩ := List.getElem?_of_mem ((xpr_mem (q := (i, .int v))).mpr hv)
    exact lv_iinc hx hb hdg hL.2 hj rfl (by have := (xst_some hs).1; rw [hL.1] at this; exact this) rfl (fun ls' h' => hk H locs cells slots ls' hR (xlr_set hL.1 hs h'))
  · cases hop
theorem xs_iadd (hx : p.tables.exec = Jvm.exec) (hb : c.code = cc)  (hdg : decode cc pc = .ok (.iadd, 1)) (hop : xbin (fun x y => x + y) pc L st w = some (.inl f')) (hk : xnx p l e R s m args below meth c Q D tA A s0 nL f') : xnx p l e R s m args below meth c Q D tA A s0 nL (pc, L, st, w) := by
  unfold xbin at hop
  split at hop
  · rename_i y x r
    cases hop
    intro H locs cells slots ls hR hL
    exact lv_iadd hx hb hdg (hk H locs cells slots ls hR hL)
  · cases hop
theorem xs_isub (hx : p.tables.exec = Jvm.exec) (hb : c.code = cc)  (hdg : decode cc pc = .ok (.isub, 1)) (hop : xbin (fun x y => x - y) pc L st w = some (.inl f')) (hk : xnx p l e R s m args below meth c Q D tA A s0 nL f') : xnx p l e R s m args below meth c Q D tA A s0 nL (pc, L, st, w) := by
  unfold xbin at hop
  split at hop
  · rename_i y x r
    cases hop
    intro H locs cells slots ls hR hL
    exact lv_isub hx hb hdg (hk H locs cells slots ls hR hL)
  · cases hop
theorem xs_imul (hx : p.tables.exec = Jvm.exec) (hb : c.code = cc)  (hdg : decode cc pc = .ok (.imul, 1)) (hop : xbin (fun x y => x * y) pc L st w = some (.inl f')) (hk : xnx p l e R s m args below meth c Q D tA A s0 nL f') : xnx p l e R s m args below meth c Q D tA A s0 nL (pc, L, st, w) := by
  unfold xbin at hop
  split at hop
  · rename_i y x r
    cases hop
    intro H locs cells slots ls hR hL
    exact lv_imul hx hb hdg (hk H locs cells slots ls hR hL)
  · cases hop
theorem xs_iand (hx : p.tables.exec = Jvm.exec) (hb : c.code = cc)  (hdg : decode cc pc = .ok (.iand, 1)) (hop : xbin (fun x y => x &&& y) pc L st w = some (.inl f')) (hk : xnx p l e R s m args below meth c Q D tA A s0 nL f') : xnx p l e R s m args below meth c Q D tA A s0 nL (pc, L, st, w) := by
  unfold xbin at hop
  split at hop
  · rename_i y x r
    cases hop
    intro H locs cells slots ls hR hL
    exact lv_iand hx hb hdg (hk H locs cells slots ls hR hL)
  · cases hop
theorem xs_ior (hx : p.tables.exec = Jvm.exec) (hb : c.code = cc)  (hdg : decode cc pc = .ok (.ior, 1)) (hop : xbin (fun x y => x ||| y) pc L st w = some (.inl f')) (hk : xnx p l e R s m args below meth c Q D tA A s0 nL f') : xnx p l e R s m args below meth c Q D tA A s0 nL (pc, L, st, w) := by
  unfold xbin at hop
  split at hop
  · rename_i y x r
    cases hop
    intro H locs cells slots ls hR hL
    exact lv_ior hx hb hdg (hk H locs cells slots ls hR hL)
  · cases hop
theorem xs_ishl (hx : p.tables.exec = Jvm.exec) (hb : c.code = cc)  (hdg : decode cc pc = .ok (.ishl, 1)) (hop : xbin (fun x y => x <<< (y &&& 31)) pc L st w = some (.inl f')) (hk : xnx p l e R s m args below meth c Q D tA A s0 nL f') : xnx p l e R s m args below meth c Q D tA A s0 nL (pc, L, st, w) := by
  unfold xbin at hop
  split at hop
  · rename_i y x r
    cases hop
    intro H locs cells slots ls hR hL
    exact lv_ishl hx hb hdg (hk H locs cells slots ls hR hL)
  · cases hop
theorem xs_ishr (hx : p.tables.exec = Jvm.exec) (hb : c.code = cc)  (hdg : decode cc pc = .ok (.ishr, 1)) (hop : xbin (fun x y => x >>> (y &&& 31)) pc L st w = some (.inl f')) (hk : xnx p l e R s m args below meth c Q D tA A s0 nL f') : xnx p l e R s m args below meth c Q D tA A s0 nL (pc, L, st, w) := by
  unfold xbin at hop
  split at hop
  · rename_i y x r
    cases hop
    intro H locs cells slots ls hR hL
    exact lv_ishr hx hb hdg (hk H locs cells slots ls hR hL)
  · cases hop
theorem xs_iushr (hx : p.tables.exec = Jvm.exec) (hb : c.code = cc)  (hdg : decode cc pc = .ok (.iushr, 1)) (hop : xbin (fun x y => (x.toUInt32 >>> (y.toUInt32 &&& Int32.toUInt32 31)).toInt32) pc L st w = some (.inl f')) (hk : xnx p l e R s m args below meth c Q D tA A s0 nL f') : xnx p l e R s m args below meth c Q D tA A s0 nL (pc, L, st, w) := by
  unfold xbin at hop
  split at hop
  · rename_i y x r
    cases hop
    intro H locs cells slots ls hR hL
    exact lv_iushr hx hb hdg rfl (hk H locs cells slots ls hR hL)
  · cases hop
theorem xs_idiv (hx : p.tables.exec = Jvm.exec) (hb : c.code = cc)  (hdg : decode cc pc = .ok (.idiv, 1)) (hop : xdiv (fun x y => x / y) pc L st w = some (.inl f')) (hk : xnx p l e R s m args below meth c Q D tA A s0 nL f') : xnx p l e R s m args below meth c Q D tA A s0 nL (pc, L, st, w) := by
  unfold xdiv at hop
  split at hop
  · rename_i y x r
    split at hop
    · cases hop
    · rename_i hy
      cases hop
      intro H locs cells slots ls hR hL
      exact lv_idiv hx hb hdg hy (hk H locs cells slots ls hR hL)
  · cases hop
theorem xs_irem (hx : p.tables.exec = Jvm.exec) (hb : c.code = cc)  (hdg : decode cc pc = .ok (.irem, 1)) (hop : xdiv (fun x y => x - x / y * y) pc L st w = some (.inl f')) (hk : xnx p l e R s m args below meth c Q D tA A s0 nL f') : xnx p l e R s m args below meth c Q D tA A s0 nL (pc, L, st, w) := by
  unfold xdiv at hop
  split at hop
  · rename_i y x r
    split at hop
    · cases hop
    · rename_i hy
      cases hop
      intro H locs cells slots ls hR hL
      exact lv_irem hx hb hdg hy (hk H locs cells slots ls hR hL)
  · cases hop
theorem xs_ladd (hx : p.tables.exec = Jvm.exec) (hb : c.code = cc)  (hdg : decode cc pc = .ok (.ladd, 1)) (hop : xlbin (fun x y => x + y) pc L st w = some (.inl f')) (hk : xnx p l e R s m args below meth c Q D tA A s0 nL f') : xnx p l e R s m args below meth c Q D tA A s0 nL (pc, L, st, w) := by
  unfold xlbin at hop
  split at hop
  · rename_i y x r
    cases hop
    intro H locs cells slots ls hR hL
    exact lv_ladd hx hb hdg (hk H locs cells slots ls hR hL)
  · cases hop
theorem xs_lsub (hx : p.tables.exec = Jvm.exec) (hb : c.code = cc)  (hdg : decode cc pc = .ok (.lsub, 1)) (hop : xlbin (fun x y => x - y) pc L st w = some (.inl f')) (hk : xnx p l e R s m args below meth c Q D tA A s0 nL f') : xnx p l e R s m args below meth c Q D tA A s0 nL (pc, L, st, w) := by
  unfold xlbin at hop
  split at hop
  · rename_i y x r
    cases hop
    intro H locs cells slots ls hR hL
    exact lv_lsub hx hb hdg (hk H locs cells slots ls hR hL)
  · cases hop
theorem xs_lmul (hx : p.tables.exec = Jvm.exec) (hb : c.code = cc)  (hdg : decode cc pc = .ok (.lmul, 1)) (hop : xlbin (fun x y => x * y) pc L st w = some (.inl f')) (hk : xnx p l e R s m args below meth c Q D tA A s0 nL f') : xnx p l e R s m args below meth c Q D tA A s0 nL (pc, L, st, w) := by
  unfold xlbin at hop
  split at hop
  · rename_i y x r
    cases hop
    intro H locs cells slots ls hR hL
    exact lv_lmul hx hb hdg (hk H locs cells slots ls hR hL)
  · cases hop
theorem xs_i2l (hx : p.tables.exec = Jvm.exec) (hb : c.code = cc)  (hdg : decode cc pc = .ok (.i2l, 1)) (hop : xun (fun x => .long x.toInt64) pc L st w = some (.inl f')) (hk : xnx p l e R s m args below meth c Q D tA A s0 nL f') : xnx p l e R s m args below meth c Q D tA A s0 nL (pc, L, st, w) := by
  unfold xun at hop
  split at hop
  · rename_i x r
    cases hop
    intro H locs cells slots ls hR hL
    exact lv_i2l hx hb hdg rfl (hk H locs cells slots ls hR hL)
  · cases hop
theorem xs_i2b (hx : p.tables.exec = Jvm.exec) (hb : c.code = cc)  (hdg : decode cc pc = .ok (.i2b, 1)) (hop : xun (fun x => .int x.toInt8.toInt32) pc L st w = some (.inl f')) (hk : xnx p l e R s m args below meth c Q D tA A s0 nL f') : xnx p l e R s m args below meth c Q D tA A s0 nL (pc, L, st, w) := by
  unfold xun at hop
  split at hop
  · rename_i x r
    cases hop
    intro H locs cells slots ls hR hL
    exact lv_i2b hx hb hdg rfl (hk H locs cells slots ls hR hL)
  · cases hop
theorem xs_i2c (hx : p.tables.exec = Jvm.exec) (hb : c.code = cc)  (hdg : decode cc pc = .ok (.i2c, 1)) (hop : xun (fun x => .int (x.toUInt32 % 65536).toInt32) pc L st w = some (.inl f')) (hk : xnx p l e R s m args below meth c Q D tA A s0 nL f') : xnx p l e R s m args below meth c Q D tA A s0 nL (pc, L, st, w) := by
  unfold xun at hop
  split at hop
  · rename_i x r
    cases hop
    intro H locs cells slots ls hR hL
    exact lv_i2c hx hb hdg rfl (hk H locs cells slots ls hR hL)
  · cases hop
theorem xs_l2i (hx : p.tables.exec = Jvm.exec) (hb : c.code = cc)  (hdg : decode cc pc = .ok (.l2i, 1)) (hop : xl2i pc L st w = some (.inl f')) (hk : xnx p l e R s m args below meth c Q D tA A s0 nL f') : xnx p l e R s m args below meth c Q D tA A s0 nL (pc, L, st, w) := by
  unfold xl2i at hop
  split at hop
  · rename_i x r
    cases hop
    intro H locs cells slots ls hR hL
    exact lv_l2i hx hb hdg rfl (hk H locs cells slots ls hR hL)
  · cases hop
theorem xs_lcmp (hx : p.tables.exec = Jvm.exec) (hb : c.code = cc)  (hdg : decode cc pc = .ok (.lcmp, 1)) (hop : xlcmp pc L st w = some (.inl f')) (hk : xnx p l e R s m args below meth c Q D tA A s0 nL f') : xnx p l e R s m args below meth c Q D tA A s0 nL (pc, L, st, w) := by
  unfold xlcmp at hop
  split at hop
  · rename_i y x r
    cases hop
    intro H locs cells slots ls hR hL
    exact W.lcmp hx hb hdg (hk H locs cells slots ls hR hL)
  · cases hop
theorem xs_dup (hx : p.tables.exec = Jvm.exec) (hb : c.code = cc)  (hdg : decode cc pc = .ok (.dup, 1)) (hop : xdup pc L st w = some (.inl f')) (hk : xnx p l e R s m args below meth c Q D tA A s0 nL f') : xnx p l e R s m args below meth c Q D tA A s0 nL (pc, L, st, w) := by
  unfold xdup at hop
  split at hop
  · rename_i v r
    split at hop
    · rename_i hc
      cases hop
      intro H locs cells slots ls hR hL
      exact lv_dup hx hb hdg hc (hk H locs cells slots ls hR hL)
    · cases hop
  · cases hop
theorem xs_pop (hx : p.tables.exec = Jvm.exec) (hb : c.code = cc)  (hdg : decode cc pc = .ok (.pop, 1)) (hop : xpop pc L st w = some (.inl f')) (hk : xnx p l e R s m args below meth c Q D tA A s0 nL f') : xnx p l e R s m args below meth c Q D tA A s0 nL (pc, L, st, w) := by
  unfold xpop at hop
  split at hop
  · rename_i v r
    split at hop
    · rename_i hc
      cases hop
      intro H locs cells slots ls hR hL
      exact lv_pop hx hb hdg hc (hk H locs cells slots ls hR hL)
    · cases hop
  · cases hop
theorem xs_dup2 (hx : p.tables.exec = Jvm.exec) (hb : c.code = cc)  (hdg : decode cc pc = .ok (.dup2, 1)) (hop : xdup2 pc L st w = some (.inl f')) (hk : xnx p l e R s m args below meth c Q D tA A s0 nL f') : xnx p l e R s m args below meth c Q D tA A s0 nL (pc, L, st, w) := by
  unfold xdup2 at hop
  split at hop
  · rename_i v u r
    split at hop
    · rename_i hc
      cases hop
      intro H locs cells slots ls hR hL
      exact lv_dup2_11 hx hb hdg hc.1 hc.2 (hk H locs cells slots ls hR hL)
    · cases hop
  · cases hop
theorem xgo_some {off : Int} (h : xgo pc off L st w = some (.inl f')) : (pc : Int) + off = ((((pc : Int) + off).toNat : Nat) : Int) ∧ f' = (((pc : Int) + off).toNat, L, st, w) := by
  unfold xgo at h
  split at h
  · rename_i h0
    cases h
    exact ⟨(Int.toNat_of_nonneg h0).symm, rfl⟩
  · cases h
theorem xs_goto (hx : p.tables.exec = Jvm.exec) (hb : c.code = cc) {off : Int} (hdg : decode cc pc = .ok (.goto off, 3)) (hop : xgo pc off L st w = some (.inl f')) (hk : xnx p l e R s m args below meth c Q D tA A s0 nL f') : xnx p l e R s m args below meth c Q D tA A s0 nL (pc, L, st, w) := by
  obtain ⟨ht, rfl⟩ := xgo_some hop
  intro H locs cells slots ls hR hL
  exact lv_goto hx hb hdg ht (hk H locs cells slots ls hR hL)
theorem xs_ifnonnull (hx : p.tables.exec = Jvm.exec) (hb : c.code = cc) {off : Int} (hdg : decode cc pc = .ok (.ifnonnull off, 3)) (hop : xnonnull off pc L st w = some (.inl f')) (hk : xnx p l e R s m args below meth c Q D tA A s0 nL f') : xnx p l e R s m args below meth c Q D tA A s0 nL (pc, L, st, w) := by
  unfold xnonnull at hop
  split at hop
  · rename_i v r
    obtain ⟨ht, rfl⟩ := xgo_some hop
    intro H locs cells slots ls hR hL
    exact lv_ifnonnull hx hb hdg ht (hk H locs cells slots ls hR hL)
  · rename_i r
    cases hop
    intro H locs cells slots ls hR hL
    exact lv_ifnonnullN hx hb hdg (hk H locs cells slots ls hR hL)
  · cases hop
theorem xs_icmp (hx : p.tables.exec = Jvm.exec) (hb : c.code = cc) {cnd : ClassFile.Cond} {off : Int} (hdg : decode cc pc = .ok (.if_icmp cnd off, 3)) (hop : xicmp cnd off pc L st w = some (.inl f')) (hk : xnx p l e R s m args below meth c Q D tA A s0 nL f') : xnx p l e R s m args below meth c Q D tA A s0 nL (pc, L, st, w) := by
  unfold xicmp at hop
  split at hop
  · rename_i y x r
    unfold xbr at hop
    split at hop
    · rename_i h0
      have ht := (Int.toNat_of_nonneg h0).symm
      intro H locs cells slots ls hR hL
      cases cnd
      · refine lv_icmp_eq hx hb hdg ht (fun hc => ?_) (fun hc => ?_)
        · rw [if_pos (by simp [xcnd, hc])] at hop
          cases hop
          exact hk H locs cells slots ls hR hL
        · rw [if_neg (by simp [xcnd, hc])] at hop
          cases hop
          exact hk H locs cells slots ls hR hL
      · refine lv_icmp_ne hx hb hdg ht (fun hc => ?_) (fun hc => ?_)
        · rw [if_pos (by simp [xcnd, hc])] at hop
          cases hop
          exact hk H locs cells slots ls hR hL
        · rw [if_neg (by simp [xcnd, hc])] at hop
          cases hop
          exact hk H locs cells slots ls hR hL
      · refine lv_icmp_lt hx hb hdg ht (fun hc => ?_) (fun hc => ?_)
        · rw [if_pos (by simp [xcnd, hc])] at hop
          cases hop
          exact hk H locs cells slots ls hR hL
        · rw [if_neg (by simp [xcnd, hc])] at hop
          cases hop
          exact hk H locs cells slots ls hR hL
      · refine lv_icmp_ge hx hb hdg ht (fun hc => ?_) (fun hc => ?_)
        · rw [if_pos (by simp [xcnd, hc])] at hop
          cases hop
          exact hk H locs cells slots ls hR hL
        · rw [if_neg (by simp [xcnd, hc])] at hop
          cases hop
          exact hk H locs cells slots ls hR hL
      · refine lv_icmp_gt hx hb hdg ht (fun hc => ?_) (fun hc => ?_)
        · rw [if_pos (by simp [xcnd, hc])] at hop
          cases hop
          exact hk H locs cells slots ls hR hL
        · rw [if_neg (by simp [xcnd, hc])] at hop
          cases hop
          exact hk H locs cells slots ls hR hL
      · refine lv_icmp_le hx hb hdg ht (fun hc => ?_) (fun hc => ?_)
        · rw [if_pos (by simp [xcnd, hc])] at hop
          cases hop
          exact hk H locs cells slots ls hR hL
        · rw [if_neg (by simp [xcnd, hc])] at hop
          cases hop
          exact hk H locs cells slots ls hR hL
    · cases hop
  · cases hop
theorem xs_if (hx : p.tables.exec = Jvm.exec) (hb : c.code = cc) {cnd : ClassFile.Cond} {off : Int} (hdg : decode cc pc = .ok (.ifCond cnd off, 3)) (hop : xif cnd off pc L st w = some (.inl f')) (hk : xnx p l e R s m args below meth c Q D tA A s0 nL f') : xnx p l e R s m args below meth c Q D tA A s0 nL (pc, L, st, w) := by
  unfold xif at hop
  split at hop
  · rename_i x r
    unfold xbr at hop
    split at hop
    · rename_i h0
      have ht := (Int.toNat_of_nonneg h0).symm
      intro H locs cells slots ls hR hL
      cases cnd
      · refine lv_if_eq hx hb hdg ht (fun hc => ?_) (fun hc => ?_)
        · rw [if_pos (by simp [xcnd, hc])] at hop
          cases hop
          exact hk H locs cells slots ls hR hL
        · rw [if_neg (by simp [xcnd, hc])] at hop
          cases hop
          exact hk H locs cells slots ls hR hL
      · refine lv_if_ne hx hb hdg ht (fun hc => ?_) (fun hc => ?_)
        · rw [if_pos (by simp [xcnd, hc])] at hop
          cases hop
          exact hk H locs cells slots ls hR hL
        · rw [if_neg (by simp [xcnd, hc])] at hop
          cases hop
          exact hk H locs cells slots ls hR hL
      · refine lv_if_lt hx hb hdg ht (fun hc => ?_) (fun hc => ?_)
        · rw [if_pos (by simp [xcnd, hc])] at hop
          cases hop
          exact hk H locs cells slots ls hR hL
        · rw [if_neg (by simp [xcnd, hc])] at hop
          cases hop
          exact hk H locs cells slots ls hR hL
      · refine lv_if_ge hx hb hdg ht (fun hc => ?_) (fun hc => ?_)
        · rw [if_pos (by simp [xcnd, hc])] at hop
          cases hop
          exact hk H locs cells slots ls hR hL
        · rw [if_neg (by simp [xcnd, hc])] at hop
          cases hop
          exact hk H locs cells slots ls hR hL
      · refine lv_if_gt hx hb hdg ht (fun hc => ?_) (fun hc => ?_)
        · rw [if_pos (by simp [xcnd, hc])] at hop
          cases hop
          exact hk H locs cells slots ls hR hL
        · rw [if_neg (by simp [xcnd, hc])] at hop
          cases hop
          exact hk H locs cells slots ls hR hL
      · refine lv_if_le hx hb hdg ht (fun hc => ?_) (fun hc => ?_)
        · rw [if_pos (by simp [xcnd, hc])] at hop
          cases hop
          exact hk H locs cells slots ls hR hL
        · rw [if_neg (by simp [xcnd, hc])] at hop
          cases hop
          exact hk H locs cells slots ls hR hL
    · cases hop
  · cases hop
theorem xs_tsw (hx : p.tables.exec = Jvm.exec) (hb : c.code = cc) {df lo hi : Int} {offs : Array Int} {len : Nat} (hdg : decode cc pc = .ok (.tableswitch df lo hi offs, len)) (hop : xtsw df lo hi offs pc L st w = some (.inl f')) (hk : xnx p l e R s m args below meth c Q D tA A s0 nL f') : xnx p l e R s m args below meth c Q D tA A s0 nL (pc, L, st, w) := by
  unfold xtsw at hop
  split at hop
  · rename_i x r
    split at hop
    · rename_i h0
      obtain ⟨ht, rfl⟩ := xgo_some hop
      intro H locs cells slots ls hR hL
      exact lv_tableOut hx hb hdg h0 ht (hk H locs cells slots ls hR hL)
    · rename_i h0
      split at hop
      · rename_i off ho
        obtain ⟨ht, rfl⟩ := xgo_some hop
        intro H locs cells slots ls hR hL
        exact lv_tableIn hx hb hdg (fun z => h0 (Or.inl z)) (fun z => h0 (Or.inr z)) ho ht (hk H locs cells slots ls hR hL)
      · cases hop
  · cases hop
theorem xs_lsw (hx : p.tables.exec = Jvm.exec) (hb : c.code = cc) {df : Int} {ps : Array (Int × Int)} {len : Nat} (hdg : decode cc pc = .ok (.lookupswitch df ps, len)) (hop : xlsw df ps pc L st w = some (.inl f')) (hk : xnx p l e R s m args below meth c Q D tA A s0 nL f') : xnx p l e R s m args below meth c Q D tA A s0 nL (pc, L, st, w) := by
  unfold xlsw at hop
  split at hop
  · rename_i x r
    split at hop
    · rename_i h0
      obtain ⟨ht, rfl⟩ := xgo_some hop
      intro H locs cells slots ls hR hL
      exact lv_lookup hx hb hdg h0 rfl ht (hk H locs cells slots ls hR hL)
    · cases hop
  · cases hop
end XP
