/-! ===== a run of the small machine is a run of the machine ===== -/
/-- a callee's world -/
def xAw (w : xW) : Nat → Prop := fun q => w.1 q ≠ none ∨ w.2.1 ≤ q
def xPc (G : xG) (adV : Nat → Nat) (D : va_G) (tA : Nat → ClassId) (w : xW) (as : List Value) : Array Value → State → Prop := va_Pc as (fun U => xK D tA U ∧ xro G adV (xAw w) U U.heap ∧ (∀ a e, w.1 a = some e → va_at D xcl (a, xte tA e) U.heap) ∧ w.2.1 = U.heap.size)
theorem xPc_blind {G : xG} {adV : Nat → Nat} {D : va_G} {tA : Nat → ClassId} {w : xW} {as : List Value} : FrameBlind (xPc G adV D tA w as) := by
  intro a U g mk h
  obtain ⟨h0, h1, h2, h3, h4⟩ := h
  exact ⟨h0, xK_same h1 rfl, xro_same h2 rfl rfl, h3, h4⟩
/-- what a run says of a method: a contract -/
def xMet (G : xG) (adV : Nat → Nat) (D : va_G) (tA : Nat → ClassId) (l : Launch) (mi d : Nat) (as : List Value) (w : xW) (v : Option Value) (w' : xW) : Prop :=
  Met l (xY mi) [Jvm.Cond.code (xY mi) (xB mi) (xM mi) (xT mi)] { frames := 8 * d, cells := w'.2.1 - w.2.1, slots := w'.2.2 - w.2.2, locals := 512 * d } (xPc G adV D tA w as) (xQ D tA (xAw w) v w') (w'.2.1 - w.2.1) (w'.2.2 - w.2.2) (xAw w)
section XR
variable {p : Program} {l : Launch} {e : Env} {R : Room} {s : State} {m : MethodId} {args : Array Value} {below : List Frame} {meth : Method} {c : Code} {Q : State → Prop} {D : va_G} {tA : Nat → ClassId} {A : Nat → Prop} {s0 : Nat} {pc mi d : Nat} {L : xL} {st : List Value} {w : xW} {f' : xF} {G : xG} {adV : Nat → Nat}
theorem xs_ret {ins : Instr} {len : Nat} {v : Option Value} {w' : xW} (hC : xCtx mi p s m meth c) (hf1 : w.2.1 ≤ s.heap.size + R.cells) (hf2 : w.2.2 ≤ s0 + R.slots) (hdg : decode (xB mi) pc = .ok (ins, len)) (hlen : len = xlen ins ∨ xsw ins = true) (hop : xop G mi d ins pc L st w = some (.inr (.inl (v, w')))) : xnx p l e R s m args below meth c (MQ below (xQ D tA A v w') args s R.cells R.slots A) D tA A s0 (xM mi) (pc, L, st, w) := by
  obtain ⟨hx, hb, hml, hr, hown, hlocks, hnm⟩ := hC
  cases ins with
  | ireturn =>
    obtain rfl : len = 1 := by simpa [xlen, xsw] using hlen
    exact xs_ireturn hx hb hr hlocks hf1 hf2 hdg hop
  | lreturn =>
    obtain rfl : len = 1 := by simpa [xlen, xsw] using hlen
    exact xs_lreturn hx hb hr hlocks hf1 hf2 hdg hop
  | areturn =>
    obtain rfl : len = 1 := by simpa [xlen, xsw] using hlen
    exact xs_areturn hx hb hr hlocks hf1 hf2 hdg hop
  | return_ =>
    obtain rfl : len = 1 := by simpa [xlen, xsw] using hlen
    exact xs_return hx hb hr hlocks hf1 hf2 hdg hop
  | invokevirtual i => exact (xn_inv hop).elim
  | invokespecial i => exact (xn_inv hop).elim
  | invokestatic i => exact (xn_inv hop).elim
  | istore i =>
    change xistore 2 i pc L st w = _ at hop
    unfold xistore at hop
    split at hop
    · obtain ⟨L', hs, he⟩ := Option.map_eq_some_iff.mp hop; cases he
    · cases hop
  | istore_n i =>
    change xistore 1 i pc L st w = _ at hop
    unfold xistore at hop
    split at hop
    · obtain ⟨L', hs, he⟩ := Option.map_eq_some_iff.mp hop; cases he
    · cases hop
  | astore i =>
    change xastore 2 i pc L st w = _ at hop
    unfold xastore at hop
    split at hop
    · obtain ⟨L', hs, he⟩ := Option.map_eq_some_iff.mp hop; cases he
    · cases hop
  | astore_n i =>
    change xastore 1 i pc L st w = _ at hop
    unfold xastore at hop
    split at hop
    · obtain ⟨L', hs, he⟩ := Option.map_eq_some_iff.mp hop; cases he
    · cases hop
  | lstore_n i =>
    change xlstore 1 i pc L st w = _ at hop
    unfold xlstore at hop
    split at hop
    · obtain ⟨L', hs, he⟩ := Option.map_eq_some_iff.mp hop; cases he
    · cases hop
  | iinc i k =>
    change xiinc i k pc L st w = _ at hop
    unfold xiinc at hop
    split at hop
    · obtain ⟨L', hs, he⟩ := Option.map_eq_some_iff.mp hop; cases he
    · cases hop
  | _ =>
    first
      | (cases hop; done)
      | (simp only [xop, xpush, xiload, xlload, xaload, xbin, xdiv, xlbin, xun, xl2i, xlcmp, xdup, xdup2, xpop, xiald, xbald, xaald, xalen, xiast, xbast, xaast, xgetf, xputf, xldc, xldc2, xgo, xbr, xicmp, xif, xnonnull, xtsw, xlsw, xnewa, xanew, xnew, xmulti] at hop
         repeat' (split at hop)
         all_goals (cases hop; done))
theorem xn_prim {k : Nat} {cq : Nat × List Value × List Value} (hk : 4 < k) : ¬ (if k = 5 then xobj pc L st w else if k = 6 then xmax pc L st w else if k = 7 then xmin pc L st w else if k = 8 then xminl pc L st w else if k = 9 then xcopy pc L st w else if k = 10 then xslen G pc L st w else if k = 11 then xsat G pc L st w else none) = some (.inr (.inr cq)) := by
  intro h
  split at h
  · unfold xobj at h
    repeat' (split at h)
    all_goals cases h
  split at h
  · unfold xmax at h
    repeat' (split at h)
    all_goals cases h
  split at h
  · unfold xmin at h
    repeat' (split at h)
    all_goals cases h
  split at h
  · unfold xminl at h
    repeat' (split at h)
    all_goals cases h
  split at h
  · unfold xcopy at h
    repeat' (split at h)
    all_goals cases h
  split at h
  · unfold xslen at h
    repeat' (split at h)
    all_goals cases h
  split at h
  · unfold xsat at h
    repeat' (split at h)
    all_goals cases h
  cases h
/-- a call of the claim's own methods -/
theorem xs_callm {op idx cm : Nat} {as rest : List Value} {v1 : Option Value} {w1 : xW} (hC : xCtx mi p s m meth c) (hK : xK D tA s) (hro : xro G adV A s s.heap) (hd1 : 8 * d ≤ R.frames) (hd2 : 512 * d ≤ R.locals) (hcm : cm < 123) (hf1 : w1.2.1 ≤ s.heap.size + R.cells) (hf2 : w1.2.2 ≤ s0 + R.slots) (hle : xle w w1) (hdg : decode (xB mi) pc = .ok ((if op = 0 then .invokevirtual idx else if op = 1 then .invokespecial idx else .invokestatic idx), 3)) (hop : xinv G op (xO mi) idx d pc L st w = some (.inr (.inr (cm, as, rest)))) (hM : xMet G adV D tA l cm (d - 1) as w v1 w1) (hk : xnx p l e R s m args below meth c Q D tA A s0 (xM mi) (pc + 3, L, v1.toList ++ rest, w1)) : xnx p l e R s m args below meth c Q D tA A s0 (xM mi) (pc, L, st, w) := by
  obtain ⟨hx, hb, hml, hr, hown, hlocks, hnm⟩ := hC
  intro H locs cells slots ls hR hL
  have hcell : s.heap.size + cells = w.2.1 := hR.2.2.2.2.1
  have hslot : s0 + slots = w.2.2 := hR.2.2.2.2.2
  have hA1 : ∀ q, xAw w q → A q := fun q hq => by
    rcases hq with hq | hq
    · cases hz : w.1 q with
      | none => exact absurd hz hq
      | some e9 => exact (hR.1 q e9 hz).2
    · exact hR.2.2.2.1 q (by omega)
  have hfit : cells + (w1.2.1 - w.2.1) ≤ R.cells ∧ slots + (w1.2.2 - w.2.2) ≤ R.slots := by
    obtain ⟨g1, g2⟩ := hle
    omega
  have hPre : ∀ U : State, U.heap = H → s.WarmedH U.vm → xPc G adV D tA w as as.toArray U := fun U hU hW =>
    ⟨rfl, xK_warm hK hW, xro_call hro hR.2.2.1 hW hU hA1, fun a e9 h9 => by rw [hU]; exact (hR.1 a e9 h9).1, by rw [hU]; exact hR.2.1⟩
  have hafter : ∀ {a : Array Value}, va_Run p l e R s m args below meth c H locs cells slots (w1.2.1 - w.2.1) (w1.2.2 - w.2.2) (F0 m pc ls st) rest (xQ D tA (xAw w) v1 w1 a) (xAw w) → W p l e R s m args below meth c H locs cells slots Q (F0 m pc ls st) := fun hrun =>
    xs_after (w := w) hrun hR hL hA1 (Nat.add_sub_cancel' hle.1) (Nat.add_sub_cancel' hle.2) hk
  have hsize : ls.size = xM mi := hL.2.1
  have hroom : ∀ r : List Value, xcats r ≤ 8 → 2 * (F0 m pc ls st).monitorRoom + (r.map fun v => v.category).sum ≤ 8 := fun r hr => by
    show 2 * 0 + xcats r ≤ 8
    omega
  unfold xinv at hop
  split at hop
  · rename_i q hq
    split at hop
    · cases hop
    · rename_i hd
      split at hop
      · rename_i hkind
        obtain ⟨ho, hi, hok⟩ := xCl_some hq
        unfold xCok at hok
        rw [ho, hi] at hok
        unfold xcall at hop
        have base : ∀ id, id < 123 → (lw_tbl[xP id]? = some (Jvm.Cond.code (xY id) (xB id) (xM id) (xT id)) ∧ lw_tbl[xinL.getD (xO id) 0]? = some (Jvm.Cond.initialized (xY id).cls) ∧ ((xY id).cls ≠ "java/lang/invoke/MethodHandle" ∧ (xY id).cls ≠ "java/lang/invoke/VarHandle") ∧ (∀ sig, parseMethodDescriptor (xY id).desc = some sig → xA id = sig.parameters.length) ∧ 8 * (d - 1) + 1 ≤ R.frames ∧ 8 + (xM id + 11) + 512 * (d - 1) ≤ R.locals) := fun id hid => by
          obtain ⟨m1, m2, m3, m4, m5, m6, m7, m8⟩ := xM_some hid
          refine ⟨m1, m2, ⟨m6, m7⟩, fun sig h => ?_, by omega, by omega⟩
          rw [h] at m4
          exact (Option.some.inj m4).symm
        have hwsC : ∀ id, id < 123 → ∀ w9 ∈ [Jvm.Cond.code (xY id) (xB id) (xM id) (xT id)], ∀ (a' : Array Value) (U : State), s.WarmedH U.vm → w9.before a' U = true := fun id hid w9 hw9 a' U hW => by
          rw [List.mem_singleton.mp hw9]
          exact word_at (args := #[]) hW (Or.inl rfl) (hK.w _ (base id hid).1 rfl #[])
        by_cases h0 : q.2.2.1 = 0
        · rw [if_pos h0] at hop hok
          have hop0 : op = 0 := by omega
          subst hop0
          simp only [Bool.and_eq_true, decide_eq_true_eq] at hok
          unfold xcV at hop
          split at hop
          · rename_i b r hst
            split at hop
            · rename_i ci fs hb9
              split at hop
              · rename_i hc
                cases hop
                obtain ⟨b1, b2, b3, b4, b5, b6⟩ := base _ hcm
                have hstk : st = ((st.take (xA q.2.2.2.1)).reverse).reverse ++ .ref b :: rest := by rw [List.reverse_reverse, ← hst, List.take_append_drop]
                have hlen : (st.take (xA q.2.2.2.1)).reverse.length = xA q.2.2.2.1 := by
                  have : (st.drop (xA q.2.2.2.1)).length = (Value.ref b :: rest).length := by rw [hst]
                  simp only [List.length_drop, List.length_cons] at this
                  rw [List.length_reverse, List.length_take]
                  omega
                have hcls : xcl[ci]? = some ((xcl[ci]?).getD ("", xT0, 0)) := by
                  obtain ⟨r9, hr9, -⟩ := (hR.1 b _ hb9).1
                  have : xcl[ci]? = some r9 := hr9
                  rw [this]
                  rfl
                obtain ⟨r9, hr9, cellB, g1, g2, g3, -⟩ := (hR.1 b _ hb9).1
                have hr9 : xcl[ci]? = some r9 := hr9
                have hcid := (hK.2.2.1.1 ci r9 hr9).2.1
                have hcn : r9.1 = (xY q.2.2.2.1).cls := by
                  rw [(xM_some hcm).2.2.1, ← hc.1]
                  have : ∀ (k : Nat) (r : vw_C), xcl[k]? = some r → r.1 = xon k := by
                    intro k r hk9
                    have hk11 : k < 11 := (List.getElem?_eq_some_iff.mp hk9).1
                    have : (List.range 11).all (fun k => decide ((xcl[k]?).map (fun r => r.1) = some (xon k))) = true := by decide +kernel
                    have := List.all_eq_true.mp this k (List.mem_range.mpr hk11)
                    simp only [decide_eq_true_eq] at this
                    rw [hk9] at this
                    exact Option.some.inj this
                  exact this ci r9 hr9
                refine hafter (va_runV (C := (xY q.2.2.2.1).cls) (cc := xB mi) (nL := xM mi) (Ts := []) (own := xon (xO mi)) (bytes := xB q.2.2.2.1) (maxL := xM q.2.2.2.1) (ret := xT q.2.2.2.1) (n := xA q.2.2.2.1) ⟨hx, hb, hml, hown, fun _ h => by cases h⟩ hM ⟨⟨rfl, rfl, b5, b6, hwsC _ hcm, List.mem_singleton.mpr rfl, hK.w _ b1 rfl args, hK.w _ b2 rfl args, b3, b4, hK.w _ hok.1.1 rfl args⟩, hK.w _ hok.1.2 rfl args, hK.w _ hok.2 rfl args⟩ ⟨xPc_blind, ⟨cellB, g1, by rw [g3]; rfl, by rw [g2, ← hcn]; exact hcid⟩, hPre⟩ rfl hlen hsize hstk (hroom _ hc.2) hdg hfit)
              · cases hop
            · cases hop
          · cases hop
        rw [if_neg h0] at hop hok
        by_cases h1 : q.2.2.1 = 1
        · rw [if_pos (Or.inl h1)] at hop
          rw [if_pos h1] at hok
          have hop0 : op = 2 := by omega
          subst hop0
          simp only [Bool.and_eq_true, decide_eq_true_eq] at hok
          unfold xcS at hop
          split at hop
          · rename_i hc
            cases hop
            obtain ⟨b1, b2, b3, b4, b5, b6⟩ := base _ hcm
            have hstk : st = ((st.take (xA q.2.2.2.1)).reverse).reverse ++ st.drop (xA q.2.2.2.1) := by rw [List.reverse_reverse, List.take_append_drop]
            have hlen : (st.take (xA q.2.2.2.1)).reverse.length = xA q.2.2.2.1 := by
              rw [List.length_reverse, List.length_take]
              omega
            exact hafter (va_runS (cc := xB mi) (nL := xM mi) (Ts := []) (own := xon (xO mi)) (bytes := xB q.2.2.2.1) (maxL := xM q.2.2.2.1) (ret := xT q.2.2.2.1) (n := xA q.2.2.2.1) ⟨hx, hb, hml, hown, fun _ h => by cases h⟩ hM ⟨⟨rfl, rfl, b5, b6, hwsC _ hcm, List.mem_singleton.mpr rfl, hK.w _ b1 rfl args, hK.w _ b2 rfl args, b3, b4, hK.w _ hok.1 rfl args⟩, hK.w _ hok.2 rfl args⟩ ⟨xPc_blind, hPre⟩ rfl hlen hsize hstk (hroom _ hc.2) hdg hfit)
          · cases hop
        rw [if_neg h1] at hok
        by_cases h2 : q.2.2.1 = 2
        · rw [if_neg (by omega), if_pos (Or.inl h2)] at hop
          rw [if_pos h2] at hok
          have hop0 : op = 1 := by omega
          subst hop0
          simp only [Bool.and_eq_true, decide_eq_true_eq] at hok
          unfold xcI at hop
          split at hop
          · rename_i b r hst
            split at hop
            · rename_i hc
              cases hop
              obtain ⟨b1, b2, b3, b4, b5, b6⟩ := base _ hcm
              have hstk : st = ((st.take (xA q.2.2.2.1)).reverse).reverse ++ .ref b :: rest := by rw [List.reverse_reverse, ← hst, List.take_append_drop]
              have hlen : (st.take (xA q.2.2.2.1)).reverse.length = xA q.2.2.2.1 := by
                have : (st.drop (xA q.2.2.2.1)).length = (Value.ref b :: rest).length := by rw [hst]
                simp only [List.length_drop, List.length_cons] at this
                rw [List.length_reverse, List.length_take]
                omega
              have hws1 := hwsC _ hcm
              unfold xMet at hM
              rw [hc.2] at hM hws1 b1
              exact hafter (va_runI (cc := xB mi) (nL := xM mi) (Ts := []) (own := xon (xO mi)) (bytes := xB q.2.2.2.1) (maxL := xM q.2.2.2.1) (n := xA q.2.2.2.1) ⟨hx, hb, hml, hown, fun _ h => by cases h⟩ hM ⟨⟨rfl, rfl, b5, b6, hws1, List.mem_singleton.mpr rfl, hK.w _ b1 rfl args, hK.w _ b2 rfl args, b3, b4, hK.w _ hok.1.1 rfl args⟩, hok.2, hK.w _ hok.1.2 rfl args⟩ ⟨xPc_blind, hPre⟩ rfl hlen hsize hstk (hroom _ hc.1) hdg hfit)
            · cases hop
          · cases hop
        rw [if_neg h2] at hok
        by_cases h3 : q.2.2.1 = 3
        · rw [if_neg (by omega), if_pos (Or.inr h3)] at hop
          rw [if_pos h3] at hok
          have hop0 : op = 1 := by omega
          subst hop0
          simp only [Bool.and_eq_true, decide_eq_true_eq] at hok
          unfold xcI at hop
          split at hop
          · rename_i b r hst
            split at hop
            · rename_i hc
              cases hop
              obtain ⟨b1, b2, b3, b4, b5, b6⟩ := base _ hcm
              have hstk : st = ((st.take (xA q.2.2.2.1)).reverse).reverse ++ .ref b :: rest := by rw [List.reverse_reverse, ← hst, List.take_append_drop]
              have hlen : (st.take (xA q.2.2.2.1)).reverse.length = xA q.2.2.2.1 := by
                have : (st.drop (xA q.2.2.2.1)).length = (Value.ref b :: rest).length := by rw [hst]
                simp only [List.length_drop, List.length_cons] at this
                rw [List.length_reverse, List.length_take]
                omega
              have hws1 := hwsC _ hcm
              unfold xMet at hM
              rw [hc.2] at hM hws1 b1
              exact hafter (va_runIN (cc := xB mi) (nL := xM mi) (Ts := []) (own := xon (xO mi)) (host := "DriftStore") (bytes := xB q.2.2.2.1) (maxL := xM q.2.2.2.1) (n := xA q.2.2.2.1) ⟨hx, hb, hml, hown, fun _ h => by cases h⟩ hM ⟨⟨⟨rfl, rfl, b5, b6, hws1, List.mem_singleton.mpr rfl⟩, hK.w _ b1 rfl args, hK.w _ b2 rfl args, b3, b4, va_Nw.use rfl (hK.n _ hok.1.1 rfl)⟩, hok.2, hK.w _ hok.1.2 rfl args⟩ ⟨xPc_blind, hPre⟩ rfl hlen hsize hstk (hroom _ hc.1) hdg hfit)
            · cases hop
          · cases hop
        rw [if_neg h3] at hok
        by_cases h4 : q.2.2.1 = 4
        · rw [if_pos (Or.inr h4)] at hop
          rw [if_pos h4] at hok
          have hop0 : op = 2 := by omega
          subst hop0
          simp only [Bool.and_eq_true, decide_eq_true_eq] at hok
          unfold xcS at hop
          split at hop
          · rename_i hc
            cases hop
            obtain ⟨b1, b2, b3, b4, b5, b6⟩ := base _ hcm
            have hstk : st = ((st.take (xA q.2.2.2.1)).reverse).reverse ++ st.drop (xA q.2.2.2.1) := by rw [List.reverse_reverse, List.take_append_drop]
            have hlen : (st.take (xA q.2.2.2.1)).reverse.length = xA q.2.2.2.1 := by
              rw [List.length_reverse, List.length_take]
              omega
            exact hafter (va_runSN (cc := xB mi) (nL := xM mi) (Ts := []) (own := xon (xO mi)) (host := "DriftStore") (bytes := xB q.2.2.2.1) (maxL := xM q.2.2.2.1) (ret := xT q.2.2.2.1) (n := xA q.2.2.2.1) ⟨hx, hb, hml, hown, fun _ h => by cases h⟩ hM ⟨⟨⟨rfl, rfl, b5, b6, hwsC _ hcm, List.mem_singleton.mpr rfl⟩, hK.w _ b1 rfl args, hK.w _ b2 rfl args, b3, b4, va_Nw.use rfl (hK.n _ hok.1 rfl)⟩, hK.w _ hok.2 rfl args, trivial⟩ ⟨xPc_blind, hPre⟩ rfl hlen hsize hstk (hroom _ hc.2) hdg hfit)
          · cases hop
        rw [if_neg (by omega), if_neg (by omega)] at hop
        exact absurd hop (xn_prim (by omega))
      · cases hop
  · cases hop
end XR
theorem xg_run {G : xG} : ∀ (n d mi : Nat) (f : xF) (r : Option Value × xW), xrun G n d mi f = some r → xle f.2.2.2 r.2 := by
  intro n
  induction n with
  | zero => intro d mi f r h; cases h
  | succ n ih =>
    intro d mi f r h
    unfold xrun at h
    split at h
    · cases h
    · split at h
      · cases h
      · rename_i hop
        exact xle.trans (xg_op hop) (ih _ _ _ _ h)
      · rename_i hop
        cases h
        rw [xg_ret hop]
        exact xle.refl _
      · rename_i hop
        split at h
        · split at h
          · cases h
          · rename_i r1 h1
            have g1 := ih _ _ _ _ h1
            have g2 := ih _ _ _ _ h
            exact xle.trans g1 g2
        · cases h
theorem xnocall {G : xG} {mi d pc : Nat} {L : xL} {st : List Value} {w : xW} {ins : Instr} {cq : Nat × List Value × List Value} (h : xop G mi d ins pc L st w = some (.inr (.inr cq))) : ∃ op idx, ins = (if op = 0 then Instr.invokevirtual idx else if op = 1 then .invokespecial idx else .invokestatic idx) ∧ xinv G op (xO mi) idx d pc L st w = some (.inr (.inr cq)) := by
  cases ins with
  | invokevirtual i => exact ⟨0, i, rfl, h⟩
  | invokespecial i => exact ⟨1, i, rfl, h⟩
  | invokestatic i => exact ⟨2, i, rfl, h⟩
  | istore i =>
    change xistore 2 i pc L st w = _ at h
    unfold xistore at h
    split at h
    · obtain ⟨L', hs, he⟩ := Option.map_eq_some_iff.mp h; cases he
    · cases h
  | istore_n i =>
    change xistore 1 i pc L st w = _ at h
    unfold xistore at h
    split at h
    · obtain ⟨L', hs, he⟩ := Option.map_eq_some_iff.mp h; cases he
    · cases h
  | astore i =>
    change xastore 2 i pc L st w = _ at h
    unfold xastore at h
    split at h
    · obtain ⟨L', hs, he⟩ := Option.map_eq_some_iff.mp h; cases he
    · cases h
  | astore_n i =>
    change xastore 1 i pc L st w = _ at h
    unfold xastore at h
    split at h
    · obtain ⟨L', hs, he⟩ := Option.map_eq_some_iff.mp h; cases he
    · cases h
  | lstore_n i =>
    change xlstore 1 i pc L st w = _ at h
    unfold xlstore at h
    split at h
    · obtain ⟨L', hs, he⟩ := Option.map_eq_some_iff.mp h; cases he
    · cases h
  | iinc i k =>
    change xiinc i k pc L st w = _ at h
    unfold xiinc at h
    split at h
    · obtain ⟨L', hs, he⟩ := Option.map_eq_some_iff.mp h; cases he
    · cases h
  | _ =>
    first
      | (cases h; done)
      | (simp only [xop, xpush, xiload, xlload, xaload, xbin, xdiv, xlbin, xun, xl2i, xlcmp, xdup, xdup2, xpop, xiald, xbald, xaald, xalen, xiast, xbast, xaast, xgetf, xputf, xldc, xldc2, xgo, xbr, xicmp, xif, xnonnull, xtsw, xlsw, xnewa, xanew, xnew, xmulti, xiret, xlret, xaret, xvret] at h
         repeat' (split at h)
         all_goals (cases h; done))
/-- THE SMALL MACHINE IS RIGHT -/
theorem xsound (G : xG) (adV : Nat → Nat) (D : va_G) (tA : Nat → ClassId) (l : Launch) : ∀ (n d mi : Nat) (f : xF) (v : Option Value) (w' : xW), xrun G n d mi f = some (v, w') →
    ∀ {p : Program} {e : Env} {R : Room} {s : State} {m : MethodId} {args : Array Value} {below : List Frame} {meth : Method} {c : Code} {A : Nat → Prop} {s0 : Nat}, xCtx mi p s m meth c → xK D tA s → xro G adV A s s.heap → 8 * d ≤ R.frames → 512 * d ≤ R.locals → w'.2.1 ≤ s.heap.size + R.cells → w'.2.2 ≤ s0 + R.slots →
    xnx p l e R s m args below meth c (MQ below (xQ D tA A v w') args s R.cells R.slots A) D tA A s0 (xM mi) f := by
  intro n
  induction n with
  | zero => intro d mi f v w' h; cases h
  | succ n ih =>
    intro d mi f v w' h p e R s m args below meth c A s0 hC hK hro hd1 hd2 hf1 hf2
    obtain ⟨pc, L, st, w⟩ := f
    unfold xrun at h
    split at h
    · cases h
    · rename_i ins hins
      obtain ⟨len, hdg, hlen⟩ := xI_dec hins
      split at h
      · cases h
      · rename_i f' hop
        have hle := xg_run _ _ _ _ _ h
        exact xs_step hC hK hro hd1 hd2 (Nat.le_trans hle.1 hf1) (Nat.le_trans hle.2 hf2) hdg hlen hop (ih d mi f' v w' h hC hK hro hd1 hd2 hf1 hf2)
      · rename_i r hop
        cases h
        have hw : w' = w := xg_ret hop
        subst hw
        exact xs_ret hC hf1 hf2 hdg hlen hop
      · rename_i cq hop
        split at h
        · rename_i hcm
          split at h
          · cases h
          · rename_i r h1
            obtain ⟨cm, as, rest⟩ := cq
            obtain ⟨v1, w1⟩ := r
            have hle1 := xg_run _ _ _ _ _ h1
            have hle2 := xg_run _ _ _ _ _ h
            obtain ⟨op, idx, rfl, hop2⟩ := xnocall hop
            obtain rfl : len = 3 := by
              rcases hlen with hlen | hlen
              · rw [hlen]
                split
                · rfl
                · split <;> rfl
              · exfalso
                revert hlen
                split
                · exact fun h => by cases h
                · split
                  · exact fun h => by cases h
                  · exact fun h => by cases h
            refine xs_callm hC hK hro hd1 hd2 hcm.2 (Nat.le_trans hle2.1 hf1) (Nat.le_trans hle2.2 hf2) hle1 hdg hop2 ?_ (ih d mi _ v w' h hC hK hro hd1 hd2 hf1 hf2)
            refine Met.ofW (cc := xB cm) (maxL := xM cm) (ret := xT cm) (xM_some hcm.2).2.2.2.2.1 rfl ?_
            intro p2 e2 s2 m2 args2 below2 meth2 c2 s12 B hml hv
            obtain ⟨rfl, hK2, hro2, hw2, hsz2⟩ := hv
            rw [lg_entry_eq]
            have hC2 : xCtx cm p2 s2 m2 meth2 c2 := ⟨B.exec, B.bytes, hml, B.returns, by rw [← (xM_some hcm.2).2.2.1]; exact findClass_of_methodNamed B.named, B.notSynchronized, fun h => (name_of_methodNamed B.named B.method).1.trans h⟩
            have hz : w.2.1 = s2.heap.size := hsz2
            refine ih (d - 1) cm (0, xloc cm as, [], w) v1 w1 h1 (R := { frames := 8 * (d - 1), cells := w1.2.1 - w.2.1, slots := w1.2.2 - w.2.2, locals := 512 * (d - 1) }) (A := xAw w) (s0 := w.2.2) hC2 hK2 hro2 (Nat.le_refl _) (Nat.le_refl _) (by rw [← hz]; exact Nat.le_of_eq (Nat.add_sub_cancel' hle1.1).symm) (Nat.le_of_eq (Nat.add_sub_cancel' hle1.2).symm) s2.heap [] 0 0 _ ⟨fun a e9 h9 => ⟨hw2 a e9 h9, Or.inl (by rw [h9]; exact fun z => by cases z)⟩, hz, va_S.rf, fun q hq => Or.inr (by rw [hz]; exact hq), hz.symm, rfl⟩ (xlr_entry hcm.1)
        · cases h
