/-! ===== worlds only grow; arguments as locals ===== -/
def xle (w w' : xW) : Prop := w.2.1 ≤ w'.2.1 ∧ w.2.2 ≤ w'.2.2
theorem xle.refl (w : xW) : xle w w := ⟨Nat.le_refl _, Nat.le_refl _⟩
theorem xle.trans {a b c : xW} (h : xle a b) (g : xle b c) : xle a c := ⟨Nat.le_trans h.1 g.1, Nat.le_trans h.2 g.2⟩
section XG
variable {G : xG} {mi d pc o idx : Nat} {L : xL} {st : List Value} {w : xW} {f' : xF}
theorem xg_go {off : Int} (h : xgo pc off L st w = some (.inl f')) : xle w f'.2.2.2 := by
  obtain ⟨-, rfl⟩ := xgo_some h
  exact xle.refl _
theorem xg_br {b : Bool} {off : Int} (h : xbr b pc off L st w = some (.inl f')) : xle w f'.2.2.2 := by
  unfold xbr at h
  split at h
  · split at h <;> (cases h; exact xle.refl _)
  · cases h
theorem xg_call {kind id : Nat} (h : xcall G kind id pc L st w = some (.inl f')) : xle w f'.2.2.2 := by
  unfold xcall at h
  split at h
  · unfold xcV at h
    repeat' (split at h)
    all_goals cases h
  split at h
  · unfold xcS at h
    repeat' (split at h)
    all_goals cases h
  split at h
  · unfold xcI at h
    repeat' (split at h)
    all_goals cases h
  split at h
  · unfold xobj at h
    repeat' (split at h)
    all_goals first | (cases h; done) | (cases h; exact xle.refl _)
  split at h
  · unfold xmax at h
    repeat' (split at h)
    all_goals first | (cases h; done) | (cases h; exact xle.refl _)
  split at h
  · unfold xmin at h
    repeat' (split at h)
    all_goals first | (cases h; done) | (cases h; exact xle.refl _)
  split at h
  · unfold xminl at h
    repeat' (split at h)
    all_goals first | (cases h; done) | (cases h; exact xle.refl _)
  split at h
  · unfold xcopy at h
    repeat' (split at h)
    all_goals first | (cases h; done) | (cases h; exact xle.refl _)
  split at h
  · unfold xslen at h
    repeat' (split at h)
    all_goals first | (cases h; done) | (cases h; exact xle.refl _)
  split at h
  · unfold xsat at h
    repeat' (split at h)
    all_goals first | (cases h; done) | (cases h; exact xle.refl _)
  cases h
theorem xn_call {kind id : Nat} {r : Option Value × xW} (h : xcall G kind id pc L st w = some (.inr (.inl r))) : False := by
  unfold xcall at h
  split at h
  · unfold xcV at h
    repeat' (split at h)
    all_goals cases h
  split at h
  · unfold xcS at h
    repeat' (split at h)
    all_goals cases h
  split at h
  · unfold xcI at h
    repeat' (split at h)
    all_goals cases h
  split at h
  · unfold xobj at h
    repeat' (split at h)
    all_goals cases h
  split at h
  · unfold xmax at h
    repeat' (split at h)
    all_goals cases h
  split at h
  · unfold xmin at h
    repeat' (split at h)
    all_goals cases h
  split at h
  · unfold xminl at h
    repeat' (split at h)
    all_goals cases h
  split at h
  · unfold xcopy at h
    repeat' (split at h)
    all_goals cases h
  split at h
  · unfold xslen at h
    repeat' (split at h)
    all_goals cases h
  split at h
  · unfold xsat at h
    repeat' (split at h)
    all_goals cases h
  cases h
theorem xn_inv {op : Nat} {r : Option Value × xW} (h : xinv G op o idx d pc L st w = some (.inr (.inl r))) : False := by
  unfold xinv at h
  split at h
  · split at h
    · cases h
    · split at h
      · exact xn_call h
      · cases h
  · cases h
theorem xg_inv {op : Nat} (h : xinv G op o idx d pc L st w = some (.inl f')) : xle w f'.2.2.2 := by
  unfold xinv at h
  split at h
  · split at h
    · cases h
    · split at h
      · exact xg_call h
      · cases h
  · cases h
set_option maxHeartbeats 4000000 in
theorem xg_op {ins : Instr} (h : xop G mi d ins pc L st w = some (.inl f')) : xle w f'.2.2.2 := by
  cases ins with
  | goto off => exact xg_go h
  | invokevirtual i => exact xg_inv h
  | invokespecial i => exact xg_inv h
  | invokestatic i => exact xg_inv h
  | if_icmp c off =>
    change xicmp c off pc L st w = _ at h
    unfold xicmp at h
    split at h
    · exact xg_br h
    · cases h
  | ifCond c off =>
    change xif c off pc L st w = _ at h
    unfold xif at h
    split at h
    · exact xg_br h
    · cases h
  | ifnonnull off =>
    change xnonnull off pc L st w = _ at h
    unfold xnonnull at h
    split at h
    · exact xg_go h
    · cases h; exact xle.refl _
    · cases h
  | tableswitch df lo hi offs =>
    change xtsw df lo hi offs pc L st w = _ at h
    unfold xtsw at h
    split at h
    · split at h
      · exact xg_go h
      · split at h
        · exact xg_go h
        · cases h
    · cases h
  | lookupswitch df ps =>
    change xlsw df ps pc L st w = _ at h
    unfold xlsw at h
    split at h
    · split at h
      · exact xg_go h
      · cases h
    · cases h
  | istore i =>
    change xistore 2 i pc L st w = _ at h
    unfold xistore at h
    split at h
    · obtain ⟨L', hs, he⟩ := Option.map_eq_some_iff.mp h; cases he; exact xle.refl _
    · cases h
  | istore_n i =>
    change xistore 1 i pc L st w = _ at h
    unfold xistore at h
    split at h
    · obtain ⟨L', hs, he⟩ := Option.map_eq_some_iff.mp h; cases he; exact xle.refl _
    · cases h
  | astore i =>
    change xastore 2 i pc L st w = _ at h
    unfold xastore at h
    split at h
    · obtain ⟨L', hs, he⟩ := Option.map_eq_some_iff.mp h; cases he; exact xle.refl _
    · cases h
  | astore_n i =>
    change xastore 1 i pc L st w = _ at h
    unfold xastore at h
    split at h
    · obtain ⟨L', hs, he⟩ := Option.map_eq_some_iff.mp h; cases he; exact xle.refl _
    · cases h
  | lstore_n i =>
    change xlstore 1 i pc L st w = _ at h
    unfold xlstore at h
    split at h
    · obtain ⟨L', hs, he⟩ := Option.map_eq_some_iff.mp h; cases he; exact xle.refl _
    · cases h
  | iinc i k =>
    change xiinc i k pc L st w = _ at h
    unfold xiinc at h
    split at h
    · obtain ⟨L', hs, he⟩ := Option.map_eq_some_iff.mp h; cases he; exact xle.refl _
    · cases h
  | newarray t =>
    change xnewa t pc L st w = _ at h
    unfold xnewa at h
    repeat' (split at h)
    all_goals first | (cases h; done) | (cases h; exact ⟨Nat.le_succ _, Nat.le_add_right _ _⟩)
  | anewarray i =>
    change xanew (xO mi) i pc L st w = _ at h
    unfold xanew at h
    repeat' (split at h)
    all_goals first | (cases h; done) | (cases h; exact ⟨Nat.le_succ _, Nat.le_add_right _ _⟩)
  | new i =>
    change xnew (xO mi) i pc L st w = _ at h
    unfold xnew at h
    repeat' (split at h)
    all_goals first | (cases h; done) | (cases h; exact ⟨Nat.le_succ _, Nat.le_add_right _ _⟩)
  | multianewarray i dims =>
    change xmulti (xO mi) i dims pc L st w = _ at h
    unfold xmulti at h
    repeat' (split at h)
    all_goals first | (cases h; done) | (cases h; exact ⟨by show _ ≤ w.2.1 + 1 + _; omega, by show _ ≤ w.2.2 + _ + _; omega⟩)
  | _ =>
    first
      | (cases h; done)
      | (simp only [xop, xpush, xiload, xlload, xaload, xbin, xdiv, xlbin, xun, xl2i, xlcmp, xdup, xdup2, xpop, xiald, xbald, xaald, xalen, xiast, xbast, xaast, xgetf, xputf, xldc, xldc2, xiret, xlret, xaret, xvret] at h
         repeat' (split at h)
         all_goals first | (cases h; done) | (cases h; exact xle.refl _))
theorem xg_ret {ins : Instr} {r : Option Value × xW} (h : xop G mi d ins pc L st w = some (.inr (.inl r))) : r.2 = w := by
  cases ins with
  | ireturn =>
    change xiret (xT mi) st w = _ at h
    unfold xiret at h
    repeat' (split at h)
    all_goals first | (cases h; done) | (cases h; rfl)
  | lreturn =>
    change xlret (xT mi) st w = _ at h
    unfold xlret at h
    repeat' (split at h)
    all_goals first | (cases h; done) | (cases h; rfl)
  | areturn =>
    change xaret (xT mi) st w = _ at h
    unfold xaret at h
    repeat' (split at h)
    all_goals first | (cases h; done) | (cases h; rfl)
  | return_ =>
    change xvret (xT mi) st w = _ at h
    unfold xvret at h
    repeat' (split at h)
    all_goals first | (cases h; done) | (cases h; rfl)
  | invokevirtual i => exact (xn_inv h).elim
  | invokespecial i => exact (xn_inv h).elim
  | invokestatic i => exact (xn_inv h).elim
  | istore i =>
    change xistore 2 i pc L st w = _ at h
    unfold xistore at h
    split at h
    · obtain ⟨L', hs, he⟩ := Option.map_eq_some_iff.mp h; cases he
    · cases h
  | istore_n i =>
    change xistore 1 i pc L st w = _ at h
    unfold xistore at h
    split at h
    · obtain ⟨L', hs, he⟩ := Option.map_eq_some_iff.mp h; cases he
    · cases h
  | astore i =>
    change xastore 2 i pc L st w = _ at h
    unfold xastore at h
    split at h
    · obtain ⟨L', hs, he⟩ := Option.map_eq_some_iff.mp h; cases he
    · cases h
  | astore_n i =>
    change xastore 1 i pc L st w = _ at h
    unfold xastore at h
    split at h
    · obtain ⟨L', hs, he⟩ := Option.map_eq_some_iff.mp h; cases he
    · cases h
  | lstore_n i =>
    change xlstore 1 i pc L st w = _ at h
    unfold xlstore at h
    split at h
    · obtain ⟨L', hs, he⟩ := Option.map_eq_some_iff.mp h; cases he
    · cases h
  | iinc i k =>
    change xiinc i k pc L st w = _ at h
    unfold xiinc at h
    split at h
    · obtain ⟨L', hs, he⟩ := Option.map_eq_some_iff.mp h; cases he
    · cases h
  | _ =>
    first
      | (cases h; done)
      | (simp only [xop, xpush, xiload, xlload, xaload, xbin, xdiv, xlbin, xun, xl2i, xlcmp, xdup, xdup2, xpop, xiald, xbald, xaald, xalen, xiast, xbast, xaast, xgetf, xputf, xldc, xldc2, xgo, xbr, xicmp, xif, xnonnull, xtsw, xlsw, xnewa, xanew, xnew, xmulti] at h
         repeat' (split at h)
         all_goals (cases h; done))
end XG
theorem xargs_len (vs : List Value) : (lg_sl vs).length = (xargs vs).length := by
  induction vs with
  | nil => rfl
  | cons v vs ih =>
    show ((if v.category = 2 then [Slot.val v, Slot.second] else [Slot.val v]) ++ lg_sl vs).length = (if v.category = 2 then some v :: none :: xargs vs else some v :: xargs vs).length
    split <;> simp [ih]
theorem xargs_at : ∀ (vs : List Value) (k i : Nat) (v : Value), (xargs vs)[i]? = some (some v) → (k + i, v) ∈ lv_args k vs := by
  intro vs
  induction vs with
  | nil => intro k i v h; simp [xargs] at h
  | cons u vs ih =>
    intro k i v h
    unfold xargs at h
    unfold lv_args
    split at h
    · rename_i hc
      rw [if_pos hc]
      match i, h with
      | 0, h =>
        cases h
        exact List.mem_cons_self
      | 1, h => cases h
      | i + 2, h =>
        have := ih (k + 2) i v h
        rw [show k + 2 + i = k + (i + 2) by omega] at this
        exact List.mem_cons_of_mem _ this
    · rename_i hc
      rw [if_neg hc]
      match i, h with
      | 0, h =>
        cases h
        exact List.mem_cons_self
      | i + 1, h =>
        have := ih (k + 1) i v h
        rw [show k + 1 + i = k + (i + 1) by omega] at this
        exact List.mem_cons_of_mem _ this
theorem xlr_entry {mi : Nat} {as : List Value} (h : (xargs as).length ≤ xM mi) : xlr ((lg_sl as ++ List.replicate (xM mi - (lg_sl as).length) Slot.unset).toArray) (xM mi) (xloc mi as) := by
  have hl := lv_entry as (n := xM mi) (by rw [xargs_len]; exact h)
  refine ⟨by simp [xloc]; omega, hl.1, hl.2.1, fun q hq => ?_⟩
  have hq := xpr_mem.mp hq
  unfold xloc at hq
  by_cases hi : q.1 < (xargs as).length
  · rw [List.getElem?_append_left hi] at hq
    have := xargs_at as 0 q.1 q.2 hq
    rw [Nat.zero_add] at this
    exact hl.2.2 q this
  · rw [List.getElem?_append_right (by omega)] at hq
    have := List.mem_of_getElem? hq
    have := List.eq_of_mem_replicate this
    cases this
