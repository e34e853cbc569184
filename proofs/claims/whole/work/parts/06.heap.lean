/-! ===== the small machine is right: arrays, fields, new cells ===== -/
theorem xP1 {D : va_G} {cl : List vw_C} {q : Nat × va_E} {H : Heap} (h : va_at D cl q H) : va_P D cl [q] H := by
  intro k q' hk
  have hz : k < 1 := (List.getElem?_eq_some_iff.mp hk).1
  rw [show k = 0 by omega] at hk
  cases hk
  exact h
theorem xrep_put {D : va_G} {tA : Nat → ClassId} {A : Nat → Prop} {H0 : Heap} {s0 : Nat} {w : xW} {H H1 : Heap} {locs : List Loc} {cells slots a k : Nat} {e0 e : xE} (h : xrep D tA A H0 s0 w H locs cells slots) (ha : w.1 a = some e0) (he : va_at D xcl (a, xte tA e) H1) (z : H1.size = H.size) (oq : ∀ q : Nat, q ≠ a → H1[q]? = H[q]?) : xrep D tA A H0 s0 (xup w.1 a e, w.2) H1 (locs ++ [⟨a, k⟩]) cells slots := by
  obtain ⟨h1, h2, h3, h4, h5, h6⟩ := h
  have hA := (h1 a e0 ha).2
  refine ⟨fun b e' hb => ?_, by rw [z]; exact h2, h3.put z oq hA, h4, h5, h6⟩
  by_cases hba : b = a
  · subst hba
    have : e = e' := by simpa [xup] using hb
    subst this
    exact ⟨he, hA⟩
  · have hb' : w.1 b = some e' := by simpa [xup, hba] using hb
    exact ⟨(h1 b e' hb').1.kept (oq b hba), (h1 b e' hb').2⟩
theorem xrep_new {D : va_G} {tA : Nat → ClassId} {A : Nat → Prop} {H0 : Heap} {s0 n : Nat} {w : xW} {H H1 : Heap} {locs : List Loc} {cells slots : Nat} {e : xE} (h : xrep D tA A H0 s0 w H locs cells slots) (z : H1.size = H.size + 1) (o1 : ∀ q : Nat, q < H.size → H1[q]? = H[q]?) (he : va_at D xcl (H.size, xte tA e) H1) : xrep D tA A H0 s0 (xup w.1 w.2.1 e, w.2.1 + 1, w.2.2 + n) H1 locs (cells + 1) (slots + n) := by
  obtain ⟨h1, h2, h3, h4, h5, h6⟩ := h
  refine ⟨fun b e' hb => ?_, by show w.2.1 + 1 = _; rw [z, h2], ⟨by rw [z]; exact Nat.le_succ_of_le h3.1, fun q g1 g2 => (o1 q (Nat.lt_of_lt_of_le g1 h3.1)).trans (h3.2.1 q g1 g2), h3.2.2⟩, h4, by show _ = w.2.1 + 1; omega, by show _ = w.2.2 + n; omega⟩
  by_cases hba : b = w.2.1
  · subst hba
    have : e = e' := by simpa [xup] using hb
    subst this
    rw [h2]
    exact ⟨he, h4 _ (by rw [← h2, ← h5]; omega)⟩
  · have hb' : w.1 b = some e' := by simpa [xup, hba] using hb
    exact ⟨(h1 b e' hb').1.kept (o1 b (h1 b e' hb').1.lt), (h1 b e' hb').2⟩
/-- what is never written: the script, the texts, a static of String -/
def xSl : List Nat := xSt.map List.length
def xSb : List (List Int32) := xSt.map (fun l => l.map nI)
def xro (G : xG) (adV : Nat → Nat) (A : Nat → Prop) (s : State) (H : Heap) : Prop :=
  va_X G.2.2.1 G.2.2.2.1 G.2.2.2.2 s H ∧ G.2.2.1 < H.size ∧ ¬ A G.2.2.1 ∧ vk_S 18 xSl xSb G.1 adV A s H ∧ (∀ q ∈ xDt, q.2.2.1 = 1 → vk_R (xon q.1) q.2.1 (xSn.getD q.2.2.2.2.1 "") (G.1 q.2.2.2.2.1) s) ∧ (∀ a i, G.2.1 a = some i → i < 18 ∧ a = G.1 i) ∧ va_Z "java/lang/String" "COMPACT_STRINGS" "Z" (.int 1) A s H ∧ va_Zq "jdk/internal/util/Preconditions" "SIOOBE_FORMATTER" "Ljava/util/function/BiFunction;" A s H
section XH
variable {p : Program} {l : Launch} {e : Env} {R : Room} {s : State} {m : MethodId} {args : Array Value} {below : List Frame} {meth : Method} {c : Code} {Q : State → Prop} {D : va_G} {tA : Nat → ClassId} {A : Nat → Prop} {s0 nL : Nat} {cc : ByteArray} {pc : Nat} {L : xL} {st : List Value} {w : xW} {f' : xF} {G : xG} {adV : Nat → Nat}
theorem xs_iaload (hx : p.tables.exec = Jvm.exec) (hb : c.code = cc) (hK : xK D tA s) (hro : xro G adV A s s.heap) (hdg : decode cc pc = .ok (.iaload, 1)) (hop : xiald G pc L st w = some (.inl f')) (hk : xnx p l e R s m args below meth c Q D tA A s0 nL f') : xnx p l e R s m args below meth c Q D tA A s0 nL (pc, L, st, w) := by
  unfold xiald at hop
  split at hop
  · rename_i i a r
    split at hop
    · rename_i n f ha
      split at hop
      · cases hop
      · rename_i hin
        cases hop
        intro H locs cells slots ls hR hL
        exact va_iald hx hb hK.2.2.1 (xP1 (hR.1 a _ ha).1) 0 0 rfl rfl hin hdg (hk H locs cells slots ls hR hL)
    · cases hop
    · split at hop
      · rename_i ha
        subst ha
        split at hop
        · cases hop
        · rename_i hin
          cases hop
          intro H locs cells slots ls hR hL
          exact va_sld hx hb hro.1 hro.2.1 hro.2.2.1 hR.2.2.1 hin hdg (hk H locs cells slots ls hR hL)
      · cases hop
  · cases hop
theorem xs_baload (hx : p.tables.exec = Jvm.exec) (hb : c.code = cc) (hK : xK D tA s) (hdg : decode cc pc = .ok (.baload, 1)) (hop : xbald pc L st w = some (.inl f')) (hk : xnx p l e R s m args below meth c Q D tA A s0 nL f') : xnx p l e R s m args below meth c Q D tA A s0 nL (pc, L, st, w) := by
  unfold xbald at hop
  split at hop
  · rename_i i a r
    split at hop
    · rename_i n f ha
      split at hop
      · cases hop
      · rename_i hin
        cases hop
        intro H locs cells slots ls hR hL
        exact va_zald hx hb hK.2.2.1 (xP1 (hR.1 a _ ha).1) 0 1 rfl rfl hin hdg (hk H locs cells slots ls hR hL)
    · rename_i n f ha
      split at hop
      · cases hop
      · rename_i hin
        cases hop
        intro H locs cells slots ls hR hL
        exact va_bald hx hb hK.2.2.1 (xP1 (hR.1 a _ ha).1) 0 2 rfl rfl hin hdg (hk H locs cells slots ls hR hL)
    · cases hop
  · cases hop
theorem xs_aald1 (hx : p.tables.exec = Jvm.exec) (hb : c.code = cc) {ty : FieldType} (hty : ty.isReference = true) {cA : ClassId} (hA : ArrOfT s cA ty) {H : Heap} {locs : List Loc} {cells slots n a : Nat} {ls : Array Slot} {f : Nat → Option Nat} {i : Int32} {r : List Value} (ha : H[a]? = some (vp_cell cA (n, .inr (.inr (.inr (.inr f)))))) (hin : ¬ (i < 0 ∨ n ≤ i.toNatClampNeg)) (hdg : decode cc pc = .ok (.aaload, 1)) (kk : W p l e R s m args below meth c H locs cells slots Q (F0 m (pc + 1) ls (va_rf (f i.toNatClampNeg) :: r))) : W p l e R s m args below meth c H locs cells slots Q (F0 m pc ls (.int i :: .ref a :: r)) := by
  have hlt : i.toNatClampNeg < n := Nat.not_le.mp fun q => hin (Or.inr q)
  exact W.aald (v := va_rf (f i.toNatClampNeg)) (ty := ty) hx hb ha (hA n (fun j => va_rf (f j))) hty (fun q => by cases q) (by show ¬ (i < 0 ∨ (arrV _ _ _).slots.size ≤ _); rw [arrV_size]; exact hin) (by show (arrV _ _ _).slots[_]? = _; rw [arrV_read _ _ hlt]) rfl rfl hdg kk
/-- the kinds of arrays of references -/
theorem xarr {t : Nat} (hK : xK D tA s) (h1 : ¬ t < 3) (h2 : ¬ 7 < t) : ∃ ty : FieldType, ty.isReference = true ∧ ArrOfT s (tA t) ty := by
  have hk := hK.2.2.1.2
  have h : t = 3 ∨ t = 4 ∨ t = 5 ∨ t = 6 ∨ t = 7 := by omega
  rcases h with rfl | rfl | rfl | rfl | rfl
  · exact ⟨_, rfl, (hk 3 _ rfl).1⟩
  · exact ⟨_, rfl, (hk 4 _ rfl).1⟩
  · exact ⟨_, rfl, (hk 5 _ rfl).1⟩
  · exact ⟨_, rfl, (hk 6 _ rfl).1⟩
  · exact ⟨_, rfl, (hk 7 _ rfl).1⟩
theorem xarr0 {t : Nat} (hK : xK D tA s) (h2 : ¬ 7 < t) : ∃ ty : FieldType, (xtys tA)[t]? = some (tA t, ty) := by
  have h : t = 0 ∨ t = 1 ∨ t = 2 ∨ t = 3 ∨ t = 4 ∨ t = 5 ∨ t = 6 ∨ t = 7 := by omega
  rcases h with rfl | rfl | rfl | rfl | rfl | rfl | rfl | rfl <;> exact ⟨_, rfl⟩
theorem xs_aaload (hx : p.tables.exec = Jvm.exec) (hb : c.code = cc) (hK : xK D tA s) (hdg : decode cc pc = .ok (.aaload, 1)) (hop : xaald pc L st w = some (.inl f')) (hk : xnx p l e R s m args below meth c Q D tA A s0 nL f') : xnx p l e R s m args below meth c Q D tA A s0 nL (pc, L, st, w) := by
  unfold xaald at hop
  split at hop
  · rename_i i a r
    split at hop
    · rename_i t n f ha
      split at hop
      · cases hop
      · rename_i hin
        cases hop
        intro H locs cells slots ls hR hL
        obtain ⟨ty, h1, h2⟩ := xarr (t := t) hK (fun z => hin (Or.inr (Or.inr (Or.inl z)))) (fun z => hin (Or.inr (Or.inr (Or.inr z))))
        exact xs_aald1 hx hb h1 h2 (hR.1 a _ ha).1 (fun z => hin (z.elim Or.inl (fun z => Or.inr (Or.inl z)))) hdg (hk H locs cells slots ls hR hL)
    · cases hop
  · cases hop
theorem xs_arraylength (hx : p.tables.exec = Jvm.exec) (hb : c.code = cc) (hK : xK D tA s) (hro : xro G adV A s s.heap) (hdg : decode cc pc = .ok (.arraylength, 1)) (hop : xalen G pc L st w = some (.inl f')) (hk : xnx p l e R s m args below meth c Q D tA A s0 nL f') : xnx p l e R s m args below meth c Q D tA A s0 nL (pc, L, st, w) := by
  unfold xalen at hop
  split at hop
  · rename_i a r
    split at hop
    · rename_i t x ha
      split at hop
      · cases hop
      · rename_i h7
        cases hop
        intro H locs cells slots ls hR hL
        obtain ⟨ty, ht⟩ := xarr0 hK h7
        exact va_alen hx hb hK.2.2.1 (xP1 (hR.1 a _ ha).1) 0 t rfl ht rfl hdg (hk H locs cells slots ls hR hL)
    · cases hop
    · split at hop
      · rename_i ha
        subst ha
        cases hop
        intro H locs cells slots ls hR hL
        exact va_slen hx hb hro.1 hro.2.1 hro.2.2.1 hR.2.2.1 hdg (hk H locs cells slots ls hR hL)
      · cases hop
  · cases hop
theorem xs_iastore (hx : p.tables.exec = Jvm.exec) (hb : c.code = cc) (hK : xK D tA s) (hdg : decode cc pc = .ok (.iastore, 1)) (hop : xiast pc L st w = some (.inl f')) (hk : xnx p l e R s m args below meth c Q D tA A s0 nL f') : xnx p l e R s m args below meth c Q D tA A s0 nL (pc, L, st, w) := by
  unfold xiast at hop
  split at hop
  · rename_i x i a r
    split at hop
    · rename_i n f ha
      split at hop
      · cases hop
      · rename_i hin
        cases hop
        intro H locs cells slots ls hR hL
        refine W.iast hx hb (hR.1 a _ ha).1 ((hK.2.2.1.2 0 _ rfl).1 n (fun j => .int (f j))) (fun q => by cases q) (by show ¬ (i < 0 ∨ (arrV _ _ _).slots.size ≤ _); rw [arrV_size]; exact hin) rfl rfl hdg fun H1 e1 z oq => ?_
        refine hk H1 _ cells slots ls (xrep_put hR ha ?_ z oq) hL
        show H1[a]? = some (vp_cell _ _)
        rw [e1]
        show some ((vp_cell (tA 0) (n, .inl f)).setSlot _ _) = _
        rw [vp_cell_i, vp_cell_i, arrV_store]
        congr 2
        funext q
        by_cases hq : q = i.toNatClampNeg
        · subst hq
          simp [updV, upd]
        · simp [updV, upd, hq]
    · cases hop
  · cases hop
theorem xs_bastore (hx : p.tables.exec = Jvm.exec) (hb : c.code = cc) (hK : xK D tA s) (hdg : decode cc pc = .ok (.bastore, 1)) (hop : xbast pc L st w = some (.inl f')) (hk : xnx p l e R s m args below meth c Q D tA A s0 nL f') : xnx p l e R s m args below meth c Q D tA A s0 nL (pc, L, st, w) := by
  unfold xbast at hop
  split at hop
  · rename_i x i a r
    split at hop
    · rename_i n f ha
      split at hop
      · cases hop
      · rename_i hin
        cases hop
        intro H locs cells slots ls hR hL
        refine W.zast hx hb (hR.1 a _ ha).1 ((hK.2.2.1.2 1 _ rfl).1 n (fun j => .int (f j))) (fun q => by cases q) (by show ¬ (i < 0 ∨ (arrV _ _ _).slots.size ≤ _); rw [arrV_size]; exact hin) rfl rfl hdg fun H1 e1 z oq => ?_
        refine hk H1 _ cells slots ls (xrep_put hR ha ?_ z oq) hL
        show H1[a]? = some (vp_cell _ _)
        rw [e1]
        show some ((vp_cell (tA 1) (n, .inl f)).setSlot _ _) = _
        rw [vp_cell_i, vp_cell_i, arrV_store]
        congr 2
        funext q
        by_cases hq : q = i.toNatClampNeg
        · subst hq
          simp [updV, upd, vp_nar]
          try rfl
        · simp [updV, upd, hq]
    · rename_i n f ha
      split at hop
      · cases hop
      · rename_i hin
        cases hop
        intro H locs cells slots ls hR hL
        refine W.bast hx hb (hR.1 a _ ha).1 ((hK.2.2.1.2 2 _ rfl).1 n (fun j => .int (f j))) (fun q => by cases q) (by show ¬ (i < 0 ∨ (arrV _ _ _).slots.size ≤ _); rw [arrV_size]; exact hin) rfl rfl hdg fun H1 e1 z oq => ?_
        refine hk H1 _ cells slots ls (xrep_put hR ha ?_ z oq) hL
        show H1[a]? = some (vp_cell _ _)
        rw [e1]
        show some ((vp_cell (tA 2) (n, .inl f)).setSlot _ _) = _
        rw [vp_cell_i, vp_cell_i, arrV_store]
        congr 2
        funext q
        by_cases hq : q = i.toNatClampNeg
        · subst hq
          simp [updV, upd, vp_nar]
          try rfl
        · simp [updV, upd, hq]
    · cases hop
  · cases hop
/-- a reference laid into an array of references -/
theorem xs_aast1 (hx : p.tables.exec = Jvm.exec) (hb : c.code = cc) {H : Heap} {locs : List Loc} {cells slots n a v t : Nat} {ls : Array Slot} {f : Nat → Option Nat} {i : Int32} {r : List Value} {kA kC : Class} {comp : ClassId} {ty : FieldType} {cv : Cell} (hR : xrep D tA A s.heap s0 w H locs cells slots) (hL : xlr ls nL L) (ha : w.1 a = some (.inl (t, n, .inr (.inr (.inr (.inr f)))))) (hin : ¬ (i < 0 ∨ n ≤ i.toNatClampNeg))
    (h1 : s.vm.classes[tA t]? = some kA) (h2 : kA.kind = .array comp ty) (hty : ty.isReference = true) (h3 : s.vm.classes[comp]? = some kC) (g1 : H[v]? = some cv) (g2 : ∀ q, cv.vm ≠ .statics q) (g3 : cv.cls = comp) (g4 : s.vm.assignable comp comp = true) (hdg : decode cc pc = .ok (.aastore, 1))
    (hk : xnx p l e R s m args below meth c Q D tA A s0 nL (pc + 1, L, r, xup w.1 a (.inl (t, n, .inr (.inr (.inr (.inr (va_up f i.toNatClampNeg (some v))))))), w.2)) : W p l e R s m args below meth c H locs cells slots Q (F0 m pc ls (.ref v :: .int i :: .ref a :: r)) := by
  have hlt : i.toNatClampNeg < n := Nat.not_le.mp fun q => hin (Or.inr q)
  have h0 : ¬ i < 0 := fun q => hin (Or.inl q)
  refine W.aast hx hb (hR.1 a _ ha).1 (fun q h => by cases h) (fun h => by cases h) h1 h2 hty h3 ⟨h0, by show _ < (arrV _ _ _).slots.size; rw [arrV_size]; exact hlt⟩ g1 g2 (by rw [g3]; exact h3) (by rw [g3]; exact g4) rfl rfl hdg fun H1 e1 z oq => ?_
  refine hk H1 _ cells slots ls (xrep_put hR ha ?_ z oq) hL
  show H1[a]? = some (vp_cell _ _)
  rw [e1]
  show some ((vp_cell (tA t) (n, .inr (.inr (.inr (.inr f))))).setSlot _ _) = _
  rw [vp_cell_q, vp_cell_q, arrV_store]
  congr 2
  funext q
  by_cases hq : q = i.toNatClampNeg
  · subst hq
    simp [updV, va_up, va_rf]
  · simp [updV, va_up, hq]
end XH
