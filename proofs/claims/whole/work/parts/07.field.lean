/-! ===== the small machine is right: fields, new cells, constants ===== -/
/-- what a program has decided of the classes -/
theorem xcl_ok : ∀ (ci : Nat) (r : vw_C), xcl[ci]? = some r → (∀ w ∈ u_ws r.1 r.2.1 r.2.2, w ∈ lw_tbl) ∧ (∀ a, a < r.2.2 → ∀ b, b < r.2.2 → a ≠ b → (r.2.1 a).2.1 ≠ (r.2.1 b).2.1) ∧ (∀ k, k < r.2.2 → parseFieldDescriptor (r.2.1 k).2.2.1 = some (xtyOf ci k)) ∧ (xdef ci).length = r.2.2 ∧ ∀ j, j < r.2.2 → defaultValue (xtyOf ci j) = vp_V (xdef ci) j
  | 0, _, h => by
    cases h
    exact ⟨xin0, xnm0, xtk0, rfl, by decide +kernel⟩
  | 1, _, h => by
    cases h
    exact ⟨xin1, xnm1, xtk1, rfl, by decide +kernel⟩
  | 2, _, h => by
    cases h
    exact ⟨xin2, xnm2, xtk2, rfl, by decide +kernel⟩
  | 3, _, h => by
    cases h
    exact ⟨xin3, xnm3, xtk3, rfl, by decide +kernel⟩
  | 4, _, h => by
    cases h
    exact ⟨xin4, xnm4, xtk4, rfl, by decide +kernel⟩
  | 5, _, h => by
    cases h
    exact ⟨xin5, xnm5, xtk5, rfl, by decide +kernel⟩
  | 6, _, h => by
    cases h
    exact ⟨xin6, xnm6, xtk6, rfl, by decide +kernel⟩
  | 7, _, h => by
    cases h
    exact ⟨xin7, xnm7, xtk7, rfl, by decide +kernel⟩
  | 8, _, h => by
    cases h
    exact ⟨xin8, xnm8, xtk8, rfl, by decide +kernel⟩
  | 9, _, h => by
    cases h
    exact ⟨xin9, xnm9, xtk9, rfl, by decide +kernel⟩
  | 10, _, h => by
    cases h
    exact ⟨xin10, xnm10, xtk10, rfl, by decide +kernel⟩
  | n + 11, _, h => by
    exfalso
    have := (List.getElem?_eq_some_iff.mp h).1
    simp at this
    omega
theorem xlay_good {C : String} {T : u_T} {N : Nat} : ∀ w ∈ u_ws C T N, goodWord w = true := by
  intro w hw
  obtain ⟨k, -, rfl⟩ := List.mem_map.mp hw
  unfold u_lay
  split <;> rfl
def xFok (q : Nat × Nat × Nat × Nat × Nat × Nat) : Bool := match xcl[q.2.2.1]? with
  | some r => decide (q.2.2.2.1 < r.2.2) && decide ((r.2.1 q.2.2.2.1).1 = xon q.2.2.1) && decide (lw_tbl[q.2.2.2.2.2]? = some (if q.2.2.2.2.1 = 0 then Jvm.Cond.fieldLink (xon q.1) q.2.1 (r.2.1 q.2.2.2.1).1 (r.2.1 q.2.2.2.1).2.1 (r.2.1 q.2.2.2.1).2.2.1 else Jvm.Cond.fieldLinkNest (xon q.1) q.2.1 (r.2.1 q.2.2.2.1).1 (r.2.1 q.2.2.2.1).2.1 (r.2.1 q.2.2.2.1).2.2.1 "DriftStore"))
  | none => false
set_option maxRecDepth 100000 in
theorem xFt_ok : xFt.all xFok = true := by decide +kernel
theorem xFl_some {o i : Nat} {q : Nat × Nat × Nat × Nat × Nat × Nat} (h : xFl o i = some q) : q.1 = o ∧ q.2.1 = i ∧ ∃ r, xcl[q.2.2.1]? = some r ∧ q.2.2.2.1 < r.2.2 ∧ (r.2.1 q.2.2.2.1).1 = xon q.2.2.1 ∧ lw_tbl[q.2.2.2.2.2]? = some (if q.2.2.2.2.1 = 0 then Jvm.Cond.fieldLink (xon o) i (r.2.1 q.2.2.2.1).1 (r.2.1 q.2.2.2.1).2.1 (r.2.1 q.2.2.2.1).2.2.1 else Jvm.Cond.fieldLinkNest (xon o) i (r.2.1 q.2.2.2.1).1 (r.2.1 q.2.2.2.1).2.1 (r.2.1 q.2.2.2.1).2.2.1 "DriftStore") := by
  have hm := List.mem_of_find?_eq_some h
  have hp := List.find?_some h
  simp only [Bool.and_eq_true, beq_iff_eq] at hp
  obtain ⟨rfl, rfl⟩ := hp
  have hk := List.all_eq_true.mp xFt_ok q hm
  unfold xFok at hk
  split at hk
  · rename_i r hr
    simp only [Bool.and_eq_true, decide_eq_true_eq] at hk
    exact ⟨rfl, rfl, r, hr, hk.1.1, hk.1.2, hk.2⟩
  · cases hk
section XN
variable {p : Program} {l : Launch} {e : Env} {R : Room} {s : State} {m : MethodId} {args : Array Value} {below : List Frame} {meth : Method} {c : Code} {Q : State → Prop} {D : va_G} {tA : Nat → ClassId} {A : Nat → Prop} {s0 nL : Nat} {cc : ByteArray} {pc : Nat} {L : xL} {st : List Value} {w : xW} {f' : xF} {G : xG} {adV : Nat → Nat} {o : Nat}
theorem xs_aastore (hx : p.tables.exec = Jvm.exec) (hb : c.code = cc) (hK : xK D tA s) (hdg : decode cc pc = .ok (.aastore, 1)) (hop : xaast pc L st w = some (.inl f')) (hk : xnx p l e R s m args below meth c Q D tA A s0 nL f') : xnx p l e R s m args below meth c Q D tA A s0 nL (pc, L, st, w) := by
  unfold xaast at hop
  split at hop
  · rename_i v i a r
    split at hop
    · rename_i t n f ha
      split at hop
      · cases hop
      · rename_i hin
        split at hop
        · rename_i hf
          cases hop
          intro H locs cells slots ls hR hL
          have hKv := hK.2.2.1
          have obj : ∀ (ci : Nat) (r8 : vw_C) (fs : List Value), xcl[ci]? = some r8 → w.1 v = some (.inr (ci, fs)) → (xtys tA)[t]? = some (tA t, .object r8.1) → W p l e R s m args below meth c H locs cells slots Q (F0 m pc ls (.ref v :: .int i :: .ref a :: r)) := by
            intro ci r9 fs hc hv ht
            obtain ⟨r', hr', cellV, g1, g2, g3, -⟩ := (hR.1 v _ hv).1
            have hcls := (hKv.1 ci r9 hc).2
            obtain ⟨kA, comp, k1, k2, k3, -⟩ := (hKv.2 t _ ht).2
            have hcomp : comp = D.1 ci := Option.some.inj (k3.symm.trans hcls.1)
            subst hcomp
            obtain ⟨kC, hkC, -⟩ := hcls.2
            exact xs_aast1 hx hb hR hL ha hin k1 k2 rfl hkC g1 (fun q h => by rw [g3] at h; cases h) g2 (va_asg _ _) hdg hk
          unfold xfit at hf
          split at hf
          · rename_i ci fs hv
            simp only [Bool.or_eq_true, Bool.and_eq_true, beq_iff_eq] at hf
            rcases hf with (⟨rfl, rfl⟩ | ⟨rfl, rfl⟩) | ⟨rfl, rfl⟩
            · exact obj 9 _ fs rfl hv rfl
            · exact obj 6 _ fs rfl hv rfl
            · exact obj 7 _ fs rfl hv rfl
          · rename_i k9 x9 hv
            simp only [Bool.and_eq_true, beq_iff_eq] at hf
            obtain ⟨rfl, rfl⟩ := hf
            obtain ⟨comp, c9, k, h1, h2, h3, h4, h5⟩ := arrayOverA_spec hK.2.2.2.2.2.2.1
            have e6 : s.vm.findClass ("[" ++ (FieldType.array .int).toString) = some (tA 6) := (hKv.2 6 _ rfl).2
            have e0 : s.vm.findClass ("[" ++ FieldType.int.toString) = some (tA 0) := (hKv.2 0 _ rfl).2
            have hc9 : c9 = tA 6 := Option.some.inj (h5.symm.trans e6)
            have hcomp : comp = tA 0 := Option.some.inj (h1.symm.trans e0)
            subst hc9
            subst hcomp
            obtain ⟨-, k0, hk0, -⟩ := (hKv.2 0 _ rfl).1 0 (fun _ => .null)
            have hvc : H[v]? = some (vp_cell (tA 0) x9) := (hR.1 v _ hv).1
            refine xs_aast1 hx hb hR hL ha hin h3 h4 rfl hk0 hvc (fun q h => ?_) ?_ (va_asg _ _) hdg hk
            · unfold vp_cell at h
              split at h <;> cases h
            · unfold vp_cell
              split <;> rfl
          · cases hf
        · cases hop
    · cases hop
  · cases hop
theorem xs_getfield (hx : p.tables.exec = Jvm.exec) (hb : c.code = cc) (hK : xK D tA s) (hown : s.vm.findClass (xon o) = some m.cls) {idx : Nat} (hdg : decode cc pc = .ok (.getfield idx, 3)) (hop : xgetf o idx pc L st w = some (.inl f')) (hk : xnx p l e R s m args below meth c Q D tA A s0 nL f') : xnx p l e R s m args below meth c Q D tA A s0 nL (pc, L, st, w) := by
  unfold xgetf at hop
  split at hop
  · rename_i a r
    split at hop
    · rename_i ci fs ha
      split at hop
      · rename_i q hq
        split at hop
        · rename_i hci
          subst hci
          split at hop
          · rename_i v hv
            cases hop
            intro H locs cells slots ls hR hL
            obtain ⟨-, -, ⟨C, T, N⟩, hr, hlt, -, hw⟩ := xFl_some hq
            obtain ⟨hin, -⟩ := xcl_ok _ _ hr
            have hts : ∀ w ∈ u_ws C T N, w.before args s = true := fun w hw' => hK.1 w (hin w hw') (xlay_good w hw') args
            by_cases hn : q.2.2.2.2.1 = 0
            · rw [if_pos hn] at hw
              exact va_get hx hb hts (fun _ h => h) hown hK.2.2.1 (xP1 (hR.1 a _ ha).1) 0 rfl hr q.2.2.2.1 hlt (hK.w _ hw rfl args) (fun _ h9 => h9) hv hdg (hk H locs cells slots ls hR hL)
            · rw [if_neg hn] at hw
              exact va_getN hx hb hts (fun _ h => h) hown hK.2.2.1 (xP1 (hR.1 a _ ha).1) 0 rfl hr q.2.2.2.1 hlt (va_Nw.use rfl (hK.n _ hw rfl)) (fun _ h9 => h9) hv hdg (hk H locs cells slots ls hR hL)
          · cases hop
        · cases hop
      · cases hop
    · cases hop
  · cases hop
theorem xs_putfield (hx : p.tables.exec = Jvm.exec) (hb : c.code = cc) (hK : xK D tA s) (hown : s.vm.findClass (xon o) = some m.cls) {idx : Nat} {init : Bool} (hin2 : init = true → meth.name = "<init>") (hdg : decode cc pc = .ok (.putfield idx, 3)) (hop : xputf o idx init pc L st w = some (.inl f')) (hk : xnx p l e R s m args below meth c Q D tA A s0 nL f') : xnx p l e R s m args below meth c Q D tA A s0 nL (pc, L, st, w) := by
  unfold xputf at hop
  split at hop
  · rename_i v a r
    split at hop
    · rename_i ci fs ha
      split at hop
      · rename_i q hq
        split at hop
        · rename_i hc
          obtain ⟨rfl, hl, hn, hfit, hfin⟩ := hc
          cases hop
          intro H locs cells slots ls hR hL
          obtain ⟨-, -, ⟨C, T, N⟩, hr, hlt, hdecl, hw⟩ := xFl_some hq
          obtain ⟨hin, hnm, hty, -⟩ := xcl_ok _ _ hr
          have hts : ∀ w ∈ u_ws C T N, w.before args s = true := fun w hw' => hK.1 w (hin w hw') (xlay_good w hw') args
          have hid : ∀ w ∈ u_ws C T N, w ∈ u_ws C T N := fun _ h => h
          have hap := va_apart (own := xon o) hts hid _ hty hnm hK.2.2.1 hr
          have hd := hty _ hlt
          obtain ⟨r9, h1, cell, q1, q2, q3, q4⟩ := (hR.1 a _ ha).1
          have hr9 : r9 = (C, T, N) := Option.some.inj (h1.symm.trans hr)
          subst hr9
          obtain ⟨hS, hfc, kC, hkC, hkind⟩ := hK.2.2.1.1 _ _ hr
          obtain ⟨cf, kf, fi, f, hi, hsl⟩ := hS _ hlt
          have hlay := hts _ (hid _ (u_in_lay hlt))
          have hst := (u_facts hfc hkC (u_lays hts hid hlt) hi).1
          have hend : ∀ H', H'[a]? = some (cell.setSlot (D.2 q.2.2.1 q.2.2.2.1) v) → H'.size = H.size → (∀ b, b ≠ a → H'[b]? = H[b]?) → W p l e R s m args below meth c H' (locs ++ [⟨a, D.2 q.2.2.1 q.2.2.2.1⟩]) cells slots Q (F0 m (pc + 3) ls _) := fun H' e1 e2 e3 =>
            hk H' _ cells slots ls (xrep_put hR ha ⟨_, hr, t_OB.to (V := updV (vp_V fs) q.2.2.2.1 v) ⟨_, e1, q2, q3, t_set q4 hap hlt v⟩ (fun j _ => vp_updV_set hl v j)⟩ e2 e3) hL
          have hff : xfin q.2.2.1 q.2.2.2.1 = (T q.2.2.2.1).2.2.2 := by
            unfold xfin
            rw [hr]
          by_cases hf : (T q.2.2.2.1).2.2.2 = false
          · unfold u_lay at hlay
            rw [if_neg (by rw [hf]; decide)] at hlay
            have h6 := u_store hfc hkC hkind hlay hi hd hn hfit
            by_cases hn : q.2.2.2.2.1 = 0
            · rw [if_pos hn] at hw
              refine W.putK hx hb (f := f) ⟨hown, hK.w _ hw rfl args, ⟨_, _, _, hi⟩, hst⟩ (by rw [q2]; exact h6) q1 q3 (by rw [hsl]; exact k2_hasslot (q4 _ hlt)) rfl rfl hdg fun H' e1 e2 e3 => ?_
              rw [hsl] at e1 ⊢
              exact hend H' e1 e2 e3
            · rw [if_neg hn] at hw
              refine va_WputK hx hb (f := f) hown (va_Nw.use rfl (hK.n _ hw rfl)) hi hst (by rw [q2]; exact h6) q1 q3 (by rw [hsl]; exact k2_hasslot (q4 _ hlt)) rfl rfl hdg fun H' e1 e2 e3 => ?_
              rw [hsl] at e1 ⊢
              exact hend H' e1 e2 e3
          · rcases hfin with h | ⟨hinit, ho, hz⟩
            · exact absurd (hff ▸ h) hf
            · have hft : (T q.2.2.2.1).2.2.2 = true := by simpa using hf
              rw [if_pos hz] at hw
              unfold u_lay at hlay
              rw [if_pos hft] at hlay
              have hcf : m.cls = cf := by
                obtain ⟨_, _, c', _, _, _, -, -, hf', -, -, -, hown2, -⟩ := Cond.laysFinal_spec hlay
                have e1 : c' = cf := by have := hi.symm.trans hf'; simp at this; exact this.1.symm
                rw [show (T q.2.2.2.1).1 = xon o by rw [ho]; exact hdecl] at hown2
                rw [← e1]; exact Option.some.inj (hown.symm.trans hown2)
              have h6 := u_fits hfc hkC hkind (Or.inr hlay) hi hd hn hfit
              refine W.putFinK hx hb hown (hK.w _ hw rfl args) hi hst hcf (hin2 hinit) (by rw [q2]; exact h6) q1 q3 (by rw [hsl]; exact k2_hasslot (q4 _ hlt)) rfl rfl hdg fun H' e1 e2 e3 => ?_
              rw [hsl] at e1 ⊢
              exact hend H' e1 e2 e3
        · cases hop
      · cases hop
    · cases hop
  · cases hop
end XN
