/-! ===== THE SMALL MACHINE IS RIGHT (wip/gen/lay14.py) ===== -/
section XS
variable {p : Program} {l : Launch} {e : Env} {R : Room} {s : State} {m : MethodId} {args : Array Value} {below : List Frame} {meth : Method} {c : Code} {Q : State → Prop} {D : va_G} {tA : Nat → ClassId} {A : Nat → Prop} {s0 : Nat} {pc mi d : Nat} {L : xL} {st : List Value} {w : xW} {f' : xF} {G : xG} {adV : Nat → Nat}
theorem xs_inv {op idx : Nat} (hC : xCtx mi p s m meth c) (hK : xK D tA s) (hro : xro G adV A s s.heap) (hd1 : 8 * d ≤ R.frames) (hd2 : 512 * d ≤ R.locals) (hf1 : f'.2.2.2.2.1 ≤ s.heap.size + R.cells) (hf2 : f'.2.2.2.2.2 ≤ s0 + R.slots) (hdg : decode (xB mi) pc = .ok ((if op = 0 then .invokevirtual idx else if op = 1 then .invokespecial idx else .invokestatic idx), 3)) (hop : xinv G op (xO mi) idx d pc L st w = some (.inl f')) (hk : xnx p l e R s m args below meth c Q D tA A s0 (xM mi) f') : xnx p l e R s m args below meth c Q D tA A s0 (xM mi) (pc, L, st, w) := by
  obtain ⟨hx, hb, hml, hr, hown, hlocks, hnm⟩ := hC
  unfold xinv at hop
  split at hop
  · rename_i q hq
    split at hop
    · cases hop
    · rename_i hd
      have hR1 : 1 ≤ R.frames := by omega
      have hR2 : 64 ≤ R.locals := by omega
      have hR8 : 8 ≤ R.frames := by omega
      have hR9 : 512 ≤ R.locals := by omega
      split at hop
      · rename_i hkind
        obtain ⟨ho, hi, hok⟩ := xCl_some hq
        unfold xCok at hok
        rw [ho, hi] at hok
        unfold xcall at hop
        by_cases h0 : q.2.2.1 = 0
        · rw [if_pos h0] at hop
          unfold xcV at hop
          repeat' (split at hop)
          all_goals cases hop
        rw [if_neg h0] at hop hok
        by_cases h1 : q.2.2.1 = 1
        · rw [if_pos (Or.inl h1)] at hop
          unfold xcS at hop
          repeat' (split at hop)
          all_goals cases hop
        rw [if_neg h1] at hok
        by_cases h2 : q.2.2.1 = 2
        · rw [if_neg (by omega), if_pos (Or.inl h2)] at hop
          unfold xcI at hop
          repeat' (split at hop)
          all_goals cases hop
        rw [if_neg h2] at hok
        by_cases h3 : q.2.2.1 = 3
        · rw [if_neg (by omega), if_pos (Or.inr h3)] at hop
          unfold xcI at hop
          repeat' (split at hop)
          all_goals cases hop
        rw [if_neg h3] at hok
        by_cases h4 : q.2.2.1 = 4
        · rw [if_pos (Or.inr h4)] at hop
          unfold xcS at hop
          repeat' (split at hop)
          all_goals cases hop
        rw [if_neg h4] at hok
        rw [if_neg (by omega), if_neg (by omega)] at hop
        by_cases h5 : q.2.2.1 = 5
        · rw [if_pos h5] at hop hok
          have hop1 : op = 1 := by omega
          subst hop1
          exact xs_obj hx hb hml hK hown hR1 hR2 (hK.w _ (of_decide_eq_true hok) rfl args) hdg hop hk
        rw [if_neg h5] at hop hok
        by_cases h6 : q.2.2.1 = 6
        · rw [if_pos h6] at hop hok
          have hop1 : op = 2 := by omega
          subst hop1
          exact xs_max hx hb hml hK hown hR1 hR2 hf1 hf2 (hK.w _ (of_decide_eq_true hok) rfl args) hdg hop hk
        rw [if_neg h6] at hop hok
        by_cases h7 : q.2.2.1 = 7
        · rw [if_pos h7] at hop hok
          have hop1 : op = 2 := by omega
          subst hop1
          exact xs_min hx hb hml hK hown hR1 hR2 hf1 hf2 (hK.w _ (of_decide_eq_true hok) rfl args) hdg hop hk
        rw [if_neg h7] at hop hok
        by_cases h8 : q.2.2.1 = 8
        · rw [if_pos h8] at hop hok
          have hop1 : op = 2 := by omega
          subst hop1
          exact xs_minl hx hb hml hK hown hR1 hR2 hf1 hf2 (hK.w _ (of_decide_eq_true hok) rfl args) hdg hop hk
        rw [if_neg h8] at hop hok
        by_cases h9 : q.2.2.1 = 9
        · rw [if_pos h9] at hop hok
          have hop1 : op = 2 := by omega
          subst hop1
          exact xs_copy hx hb hml hK hown hR1 hR2 (hK.w _ (of_decide_eq_true hok) rfl args) hdg hop hk
        rw [if_neg h9] at hop hok
        by_cases h10 : q.2.2.1 = 10
        · rw [if_pos h10] at hop hok
          have hop1 : op = 0 := by omega
          subst hop1
          exact xs_slen hx hb hml hK hro hown hR8 hR9 hf1 hf2 (hK.w _ (of_decide_eq_true hok) rfl args) hdg hop hk
        rw [if_neg h10] at hop hok
        by_cases h11 : q.2.2.1 = 11
        · rw [if_pos h11] at hop hok
          have hop1 : op = 0 := by omega
          subst hop1
          exact xs_sat hx hb hml hK hro hown hR8 hR9 hf1 hf2 (hK.w _ (of_decide_eq_true hok) rfl args) hdg hop hk
        rw [if_neg h11] at hop hok
        cases hop
      · cases hop
  · cases hop
theorem xnoret {ins : Instr} (hi : ins = .ireturn ∨ ins = .lreturn ∨ ins = .areturn ∨ ins = .return_) : ¬ xop G mi d ins pc L st w = some (.inl f') := by
  intro h
  rcases hi with rfl | rfl | rfl | rfl
  · change xiret (xT mi) st w = _ at h
    unfold xiret at h
    repeat' (split at h)
    all_goals cases h
  · change xlret (xT mi) st w = _ at h
    unfold xlret at h
    repeat' (split at h)
    all_goals cases h
  · change xaret (xT mi) st w = _ at h
    unfold xaret at h
    repeat' (split at h)
    all_goals cases h
  · change xvret (xT mi) st w = _ at h
    unfold xvret at h
    repeat' (split at h)
    all_goals cases h
/-- one instruction -/
theorem xs_step {ins : Instr} {len : Nat} (hC : xCtx mi p s m meth c) (hK : xK D tA s) (hro : xro G adV A s s.heap) (hd1 : 8 * d ≤ R.frames) (hd2 : 512 * d ≤ R.locals) (hf1 : f'.2.2.2.2.1 ≤ s.heap.size + R.cells) (hf2 : f'.2.2.2.2.2 ≤ s0 + R.slots) (hdg : decode (xB mi) pc = .ok (ins, len)) (hlen : len = xlen ins ∨ xsw ins = true) (hop : xop G mi d ins pc L st w = some (.inl f')) (hk : xnx p l e R s m args below meth c Q D tA A s0 (xM mi) f') : xnx p l e R s m args below meth c Q D tA A s0 (xM mi) (pc, L, st, w) := by
  have hC0 := hC
  obtain ⟨hx, hb, hml, hr, hown, hlocks, hnm⟩ := hC
  cases ins with
  | aconst_null =>
    obtain rfl : len = 1 := by simpa [xlen, xsw] using hlen
    exact xs_aconst_null hx hb hdg hop hk
  | iconst n =>
    obtain rfl : len = 1 := by simpa [xlen, xsw] using hlen
    exact xs_iconst hx hb hdg hop hk
  | lconst n =>
    obtain rfl : len = 1 := by simpa [xlen, xsw] using hlen
    exact xs_lconst hx hb hdg hop hk
  | bipush n =>
    obtain rfl : len = 2 := by simpa [xlen, xsw] using hlen
    exact xs_bipush hx hb hdg hop hk
  | sipush n =>
    obtain rfl : len = 3 := by simpa [xlen, xsw] using hlen
    exact xs_sipush hx hb hdg hop hk
  | iload i =>
    obtain rfl : len = 2 := by simpa [xlen, xsw] using hlen
    exact xs_iload hx hb hdg hop hk
  | iload_n i =>
    obtain rfl : len = 1 := by simpa [xlen, xsw] using hlen
    exact xs_iload_n hx hb hdg hop hk
  | lload i =>
    obtain rfl : len = 2 := by simpa [xlen, xsw] using hlen
    exact xs_lload hx hb hdg hop hk
  | lload_n i =>
    obtain rfl : len = 1 := by simpa [xlen, xsw] using hlen
    exact xs_lload_n hx hb hdg hop hk
  | aload i =>
    obtain rfl : len = 2 := by simpa [xlen, xsw] using hlen
    exact xs_aload hx hb hdg hop hk
  | aload_n i =>
    obtain rfl : len = 1 := by simpa [xlen, xsw] using hlen
    exact xs_aload_n hx hb hdg hop hk
  | istore i =>
    obtain rfl : len = 2 := by simpa [xlen, xsw] using hlen
    exact xs_istore hx hb hdg hop hk
  | istore_n i =>
    obtain rfl : len = 1 := by simpa [xlen, xsw] using hlen
    exact xs_istore_n hx hb hdg hop hk
  | lstore_n i =>
    obtain rfl : len = 1 := by simpa [xlen, xsw] using hlen
    exact xs_lstore_n hx hb hdg hop hk
  | astore i =>
    obtain rfl : len = 2 := by simpa [xlen, xsw] using hlen
    exact xs_astore hx hb hdg hop hk
  | astore_n i =>
    obtain rfl : len = 1 := by simpa [xlen, xsw] using hlen
    exact xs_astore_n hx hb hdg hop hk
  | iinc i k =>
    obtain rfl : len = 3 := by simpa [xlen, xsw] using hlen
    exact xs_iinc hx hb hdg hop hk
  | iadd =>
    obtain rfl : len = 1 := by simpa [xlen, xsw] using hlen
    exact xs_iadd hx hb hdg hop hk
  | isub =>
    obtain rfl : len = 1 := by simpa [xlen, xsw] using hlen
    exact xs_isub hx hb hdg hop hk
  | imul =>
    obtain rfl : len = 1 := by simpa [xlen, xsw] using hlen
    exact xs_imul hx hb hdg hop hk
  | iand =>
    obtain rfl : len = 1 := by simpa [xlen, xsw] using hlen
    exact xs_iand hx hb hdg hop hk
  | ior =>
    obtain rfl : len = 1 := by simpa [xlen, xsw] using hlen
    exact xs_ior hx hb hdg hop hk
  | ishl =>
    obtain rfl : len = 1 := by simpa [xlen, xsw] using hlen
    exact xs_ishl hx hb hdg hop hk
  | ishr =>
    obtain rfl : len = 1 := by simpa [xlen, xsw] using hlen
    exact xs_ishr hx hb hdg hop hk
  | iushr =>
    obtain rfl : len = 1 := by simpa [xlen, xsw] using hlen
    exact xs_iushr hx hb hdg hop hk
  | idiv =>
    obtain rfl : len = 1 := by simpa [xlen, xsw] using hlen
    exact xs_idiv hx hb hdg hop hk
  | irem =>
    obtain rfl : len = 1 := by simpa [xlen, xsw] using hlen
    exact xs_irem hx hb hdg hop hk
  | ladd =>
    obtain rfl : len = 1 := by simpa [xlen, xsw] using hlen
    exact xs_ladd hx hb hdg hop hk
  | lsub =>
    obtain rfl : len = 1 := by simpa [xlen, xsw] using hlen
    exact xs_lsub hx hb hdg hop hk
  | lmul =>
    obtain rfl : len = 1 := by simpa [xlen, xsw] using hlen
    exact xs_lmul hx hb hdg hop hk
  | i2l =>
    obtain rfl : len = 1 := by simpa [xlen, xsw] using hlen
    exact xs_i2l hx hb hdg hop hk
  | i2b =>
    obtain rfl : len = 1 := by simpa [xlen, xsw] using hlen
    exact xs_i2b hx hb hdg hop hk
  | i2c =>
    obtain rfl : len = 1 := by simpa [xlen, xsw] using hlen
    exact xs_i2c hx hb hdg hop hk
  | l2i =>
    obtain rfl : len = 1 := by simpa [xlen, xsw] using hlen
    exact xs_l2i hx hb hdg hop hk
  | lcmp =>
    obtain rfl : len = 1 := by simpa [xlen, xsw] using hlen
    exact xs_lcmp hx hb hdg hop hk
  | dup =>
    obtain rfl : len = 1 := by simpa [xlen, xsw] using hlen
    exact xs_dup hx hb hdg hop hk
  | dup2 =>
    obtain rfl : len = 1 := by simpa [xlen, xsw] using hlen
    exact xs_dup2 hx hb hdg hop hk
  | pop =>
    obtain rfl : len = 1 := by simpa [xlen, xsw] using hlen
    exact xs_pop hx hb hdg hop hk
  | if_icmp cnd off =>
    obtain rfl : len = 3 := by simpa [xlen, xsw] using hlen
    exact xs_icmp hx hb hdg hop hk
  | ifCond cnd off =>
    obtain rfl : len = 3 := by simpa [xlen, xsw] using hlen
    exact xs_if hx hb hdg hop hk
  | goto off =>
    obtain rfl : len = 3 := by simpa [xlen, xsw] using hlen
    exact xs_goto hx hb hdg hop hk
  | ifnonnull off =>
    obtain rfl : len = 3 := by simpa [xlen, xsw] using hlen
    exact xs_ifnonnull hx hb hdg hop hk
  | tableswitch df lo hi offs =>
    exact xs_tsw hx hb hdg hop hk
  | lookupswitch df ps =>
    exact xs_lsw hx hb hdg hop hk
  | iaload =>
    obtain rfl : len = 1 := by simpa [xlen, xsw] using hlen
    exact xs_iaload hx hb hK hro hdg hop hk
  | baload =>
    obtain rfl : len = 1 := by simpa [xlen, xsw] using hlen
    exact xs_baload hx hb hK hdg hop hk
  | aaload =>
    obtain rfl : len = 1 := by simpa [xlen, xsw] using hlen
    exact xs_aaload hx hb hK hdg hop hk
  | arraylength =>
    obtain rfl : len = 1 := by simpa [xlen, xsw] using hlen
    exact xs_arraylength hx hb hK hro hdg hop hk
  | iastore =>
    obtain rfl : len = 1 := by simpa [xlen, xsw] using hlen
    exact xs_iastore hx hb hK hdg hop hk
  | bastore =>
    obtain rfl : len = 1 := by simpa [xlen, xsw] using hlen
    exact xs_bastore hx hb hK hdg hop hk
  | aastore =>
    obtain rfl : len = 1 := by simpa [xlen, xsw] using hlen
    exact xs_aastore hx hb hK hdg hop hk
  | newarray t =>
    obtain rfl : len = 2 := by simpa [xlen, xsw] using hlen
    exact xs_newarray hx hb hK hf1 hf2 hdg hop hk
  | anewarray i =>
    obtain rfl : len = 3 := by simpa [xlen, xsw] using hlen
    exact xs_anewarray hx hb hK hown hf1 hf2 hdg hop hk
  | multianewarray i dims =>
    obtain rfl : len = 4 := by simpa [xlen, xsw] using hlen
    exact xs_multi hx hb hK hown hf1 hf2 hdg hop hk
  | new i =>
    obtain rfl : len = 3 := by simpa [xlen, xsw] using hlen
    exact xs_new hx hb hK hown hf1 hf2 hdg hop hk
  | getfield i =>
    obtain rfl : len = 3 := by simpa [xlen, xsw] using hlen
    exact xs_getfield hx hb hK hown hdg hop hk
  | putfield i =>
    obtain rfl : len = 3 := by simpa [xlen, xsw] using hlen
    exact xs_putfield hx hb hK hown (fun h => hnm (beq_iff_eq.mp h)) hdg hop hk
  | ldc i =>
    obtain rfl : len = 2 := by simpa [xlen, xsw] using hlen
    exact xs_ldc hx hb hK hro hown hdg hop hk
  | ldc2_w i =>
    obtain rfl : len = 3 := by simpa [xlen, xsw] using hlen
    exact xs_ldc2 hx hb hK hown hdg hop hk
  | invokevirtual i =>
    obtain rfl : len = 3 := by simpa [xlen, xsw] using hlen
    exact xs_inv (op := 0) hC0 hK hro hd1 hd2 hf1 hf2 hdg hop hk
  | invokespecial i =>
    obtain rfl : len = 3 := by simpa [xlen, xsw] using hlen
    exact xs_inv (op := 1) hC0 hK hro hd1 hd2 hf1 hf2 hdg hop hk
  | invokestatic i =>
    obtain rfl : len = 3 := by simpa [xlen, xsw] using hlen
    exact xs_inv (op := 2) hC0 hK hro hd1 hd2 hf1 hf2 hdg hop hk
  | ireturn => exact absurd hop (xnoret (by first | exact Or.inl rfl | exact Or.inr (Or.inl rfl) | exact Or.inr (Or.inr (Or.inl rfl)) | exact Or.inr (Or.inr (Or.inr rfl))))
  | lreturn => exact absurd hop (xnoret (by first | exact Or.inl rfl | exact Or.inr (Or.inl rfl) | exact Or.inr (Or.inr (Or.inl rfl)) | exact Or.inr (Or.inr (Or.inr rfl))))
  | areturn => exact absurd hop (xnoret (by first | exact Or.inl rfl | exact Or.inr (Or.inl rfl) | exact Or.inr (Or.inr (Or.inl rfl)) | exact Or.inr (Or.inr (Or.inr rfl))))
  | return_ => exact absurd hop (xnoret (by first | exact Or.inl rfl | exact Or.inr (Or.inl rfl) | exact Or.inr (Or.inr (Or.inl rfl)) | exact Or.inr (Or.inr (Or.inr rfl))))
  | _ => cases hop
end XS
