/-! ===== RUNS: rows of the small machine, goal first ===== -/
def xRun (G : xG) (d mi : Nat) (f : xF) (r : Option Value × xW) : Prop := ∃ n, xrun G n d mi f = some r
theorem xrun_up {G : xG} : ∀ (n d mi : Nat) (f : xF) (r : Option Value × xW), xrun G n d mi f = some r → xrun G (n + 1) d mi f = some r := by
  intro n
  induction n with
  | zero => intro d mi f r h; cases h
  | succ n ih =>
    intro d mi f r h
    unfold xrun at h ⊢
    split at h
    · cases h
    · rename_i ins hins
      split at h
      · cases h
      · rename_i f' hop
        exact ih _ _ _ _ h
      · exact h
      · rename_i cq hop
        split at h
        · rename_i hc
          rw [if_pos hc]
          split at h
          · cases h
          · rename_i r1 h1
            rw [ih _ _ _ _ h1]
            exact ih _ _ _ _ h
        · cases h
theorem xrun_le {G : xG} {n k d mi : Nat} {f : xF} {r : Option Value × xW} (h : xrun G n d mi f = some r) (hk : n ≤ k) : xrun G k d mi f = some r := by
  induction hk with
  | refl => exact h
  | step _ ih => exact xrun_up _ _ _ _ _ ih
theorem xjin {j n : Nat} (h : j < n) (hm : n < 2 ^ 31) : ¬ (nI j < 0 ∨ n ≤ j) := fun z => z.elim (nI_pos (by omega)) (by omega)
section XU
variable {G : xG} {d mi pc : Nat} {L : xL} {st r : List Value} {h : xH} {nx sl : Nat} {res : Option Value × xW}
theorem xr_step {ins : Instr} {f f' : xF} (hi : xI mi f.1 = some ins) (hop : xop G mi d ins f.1 f.2.1 f.2.2.1 f.2.2.2 = some (.inl f')) (k : xRun G d mi f' res) : xRun G d mi f res := by
  obtain ⟨n, hn⟩ := k
  refine ⟨n + 1, ?_⟩
  unfold xrun
  rw [hi]
  simp only [hop]
  exact hn
theorem xr_ret {ins : Instr} {f : xF} (hi : xI mi f.1 = some ins) (hop : xop G mi d ins f.1 f.2.1 f.2.2.1 f.2.2.2 = some (.inr (.inl res))) : xRun G d mi f res := by
  refine ⟨1, ?_⟩
  unfold xrun
  rw [hi]
  simp only [hop]
theorem xr_call {ins : Instr} {f : xF} {cm : Nat} {as rest : List Value} {v : Option Value} {w1 : xW} (hi : xI mi f.1 = some ins) (hop : xop G mi d ins f.1 f.2.1 f.2.2.1 f.2.2.2 = some (.inr (.inr (cm, as, rest)))) (hc : (xargs as).length ≤ xM cm ∧ cm < 123) (h1 : xRun G (d - 1) cm (0, xloc cm as, [], f.2.2.2) (v, w1)) (k : xRun G d mi (f.1 + 3, f.2.1, v.toList ++ rest, w1) res) : xRun G d mi f res := by
  obtain ⟨n1, hn1⟩ := h1
  obtain ⟨n2, hn2⟩ := k
  refine ⟨max n1 n2 + 1, ?_⟩
  unfold xrun
  rw [hi]
  simp only [hop]
  rw [if_pos hc, xrun_le hn1 (Nat.le_max_left _ _)]
  exact xrun_le hn2 (Nat.le_max_right _ _)
/-- a straight instruction: what it comes to is computed -/
theorem xr_go {ins : Instr} {f' : xF} (hi : xI mi pc = some ins) (hop : xop G mi d ins pc L st (h, nx, sl) = some (.inl f')) (k : xRun G d mi f' res) : xRun G d mi (pc, L, st, (h, nx, sl)) res := xr_step (f := (pc, L, st, (h, nx, sl))) hi hop k
theorem xr_end {ins : Instr} (hi : xI mi pc = some ins) (hop : xop G mi d ins pc L st (h, nx, sl) = some (.inr (.inl res))) : xRun G d mi (pc, L, st, (h, nx, sl)) res := xr_ret (f := (pc, L, st, (h, nx, sl))) hi hop
/-- branches -/
theorem xr_icmp {c : ClassFile.Cond} {off : Int} {x y : Int32} {t : Nat} (hi : xI mi pc = some (.if_icmp c off)) (ht : (pc : Int) + off = (t : Int)) (kt : xcnd c x y = true → xRun G d mi (t, L, r, (h, nx, sl)) res) (kf : xcnd c x y = false → xRun G d mi (pc + 3, L, r, (h, nx, sl)) res) : xRun G d mi (pc, L, .int y :: .int x :: r, (h, nx, sl)) res := by
  have h0 : 0 ≤ (pc : Int) + off := by omega
  have h1 : ((pc : Int) + off).toNat = t := by omega
  cases hc : xcnd c x y with
  | true => exact xr_go hi (show xbr (xcnd c x y) pc off L r (h, nx, sl) = some (.inl (t, L, r, (h, nx, sl))) by unfold xbr; rw [if_pos h0, if_pos hc, h1]) (kt hc)
  | false => exact xr_go hi (show xbr (xcnd c x y) pc off L r (h, nx, sl) = some (.inl (pc + 3, L, r, (h, nx, sl))) by unfold xbr; rw [if_pos h0, if_neg (by rw [hc]; decide)]) (kf hc)
theorem xr_if {c : ClassFile.Cond} {off : Int} {x : Int32} {t : Nat} (hi : xI mi pc = some (.ifCond c off)) (ht : (pc : Int) + off = (t : Int)) (kt : xcnd c x 0 = true → xRun G d mi (t, L, r, (h, nx, sl)) res) (kf : xcnd c x 0 = false → xRun G d mi (pc + 3, L, r, (h, nx, sl)) res) : xRun G d mi (pc, L, .int x :: r, (h, nx, sl)) res := by
  have h0 : 0 ≤ (pc : Int) + off := by omega
  have h1 : ((pc : Int) + off).toNat = t := by omega
  cases hc : xcnd c x 0 with
  | true => exact xr_go hi (show xbr (xcnd c x 0) pc off L r (h, nx, sl) = some (.inl (t, L, r, (h, nx, sl))) by unfold xbr; rw [if_pos h0, if_pos hc, h1]) (kt hc)
  | false => exact xr_go hi (show xbr (xcnd c x 0) pc off L r (h, nx, sl) = some (.inl (pc + 3, L, r, (h, nx, sl))) by unfold xbr; rw [if_pos h0, if_neg (by rw [hc]; decide)]) (kf hc)
theorem xr_goto {off : Int} {t : Nat} (hi : xI mi pc = some (.goto off)) (ht : (pc : Int) + off = (t : Int)) (k : xRun G d mi (t, L, st, (h, nx, sl)) res) : xRun G d mi (pc, L, st, (h, nx, sl)) res := by
  have h0 : 0 ≤ (pc : Int) + off := by omega
  have h1 : ((pc : Int) + off).toNat = t := by omega
  exact xr_go hi (show xgo pc off L st (h, nx, sl) = some (.inl (t, L, st, (h, nx, sl))) by unfold xgo; rw [if_pos h0, h1]) k
theorem xr_nn {off : Int} {t a : Nat} (hi : xI mi pc = some (.ifnonnull off)) (ht : (pc : Int) + off = (t : Int)) (k : xRun G d mi (t, L, r, (h, nx, sl)) res) : xRun G d mi (pc, L, .ref a :: r, (h, nx, sl)) res := by
  have h0 : 0 ≤ (pc : Int) + off := by omega
  have h1 : ((pc : Int) + off).toNat = t := by omega
  exact xr_go hi (show xgo pc off L r (h, nx, sl) = some (.inl (t, L, r, (h, nx, sl))) by unfold xgo; rw [if_pos h0, h1]) k
/-- fields -/
theorem xr_get {i a ci k : Nat} {fs : List Value} {v : Value} {q : Nat × Nat × Nat × Nat × Nat × Nat} (hi : xI mi pc = some (.getfield i)) (hq : xFl (xO mi) i = some q) (ha : h a = some (.inr (ci, fs))) (hc : ci = q.2.2.1) (hv : fs[q.2.2.2.1]? = some v) (k : xRun G d mi (pc + 3, L, v :: r, (h, nx, sl)) res) : xRun G d mi (pc, L, .ref a :: r, (h, nx, sl)) res := by
  refine xr_go hi ?_ k
  show xgetf (xO mi) i pc L (.ref a :: r) (h, nx, sl) = _
  unfold xgetf
  simp only [ha, hq, if_pos hc, hv]
theorem xr_put {i a ci : Nat} {fs : List Value} {v : Value} {q : Nat × Nat × Nat × Nat × Nat × Nat} (hi : xI mi pc = some (.putfield i)) (hq : xFl (xO mi) i = some q) (ha : h a = some (.inr (ci, fs))) (hc : ci = q.2.2.1 ∧ q.2.2.2.1 < fs.length ∧ narrow (xtyOf ci q.2.2.2.1) v = v ∧ fits (xtyOf ci q.2.2.2.1) v = true ∧ (xfin ci q.2.2.2.1 = false ∨ (((xY mi).name == "<init>") = true ∧ xO mi = ci ∧ q.2.2.2.2.1 = 0))) (k : ∀ h', h' = xup h a (.inr (ci, fs.set q.2.2.2.1 v)) → xRun G d mi (pc + 3, L, r, (h', nx, sl)) res) : xRun G d mi (pc, L, v :: .ref a :: r, (h, nx, sl)) res := by
  refine xr_go hi ?_ (k _ rfl)
  show xputf (xO mi) i _ pc L (v :: .ref a :: r) (h, nx, sl) = _
  unfold xputf
  simp only [ha, hq, if_pos hc]
/-- arrays -/
theorem xr_iald {a n : Nat} {f : Nat → Int32} {i : Int32} {j : Nat} (hi : xI mi pc = some .iaload) (ha : h a = some (.inl (0, n, .inl f))) (hj : i = nI j) (hn : j < n) (hm : n < 2 ^ 31) (k : xRun G d mi (pc + 1, L, .int (f j) :: r, (h, nx, sl)) res) : xRun G d mi (pc, L, .int i :: .ref a :: r, (h, nx, sl)) res := by
  subst hj
  refine xr_go hi ?_ k
  show xiald G pc L (.int (nI j) :: .ref a :: r) (h, nx, sl) = _
  unfold xiald
  simp only [ha, if_neg (xjin hn hm), nI_clamp (show j < 2 ^ 31 by omega)]
theorem xr_bald {a n t : Nat} {f : Nat → Int32} {i : Int32} {j : Nat} (hi : xI mi pc = some .baload) (ht : t = 1 ∨ t = 2) (ha : h a = some (.inl (t, n, .inl f))) (hj : i = nI j) (hn : j < n) (hm : n < 2 ^ 31) (k : xRun G d mi (pc + 1, L, .int (f j) :: r, (h, nx, sl)) res) : xRun G d mi (pc, L, .int i :: .ref a :: r, (h, nx, sl)) res := by
  subst hj
  refine xr_go hi ?_ k
  show xbald pc L (.int (nI j) :: .ref a :: r) (h, nx, sl) = _
  unfold xbald
  rcases ht with rfl | rfl <;> simp only [ha, if_neg (xjin hn hm), nI_clamp (show j < 2 ^ 31 by omega)]
theorem xr_aald {a n t : Nat} {f : Nat → Option Nat} {i : Int32} {j b : Nat} (hi : xI mi pc = some .aaload) (ha : h a = some (.inl (t, n, .inr (.inr (.inr (.inr f)))))) (ht : 3 ≤ t ∧ t ≤ 7) (hj : i = nI j) (hn : j < n) (hm : n < 2 ^ 31) (hb : f j = some b) (k : xRun G d mi (pc + 1, L, .ref b :: r, (h, nx, sl)) res) : xRun G d mi (pc, L, .int i :: .ref a :: r, (h, nx, sl)) res := by
  subst hj
  refine xr_go hi ?_ k
  show xaald pc L (.int (nI j) :: .ref a :: r) (h, nx, sl) = _
  unfold xaald
  have hc : ¬ (nI j < 0 ∨ n ≤ j ∨ t < 3 ∨ 7 < t) := by
    rintro (z | z | z | z)
    · exact nI_pos (by omega) z
    · omega
    · omega
    · omega
  simp only [ha, if_neg hc, nI_clamp (show j < 2 ^ 31 by omega), hb, va_rf]
theorem xr_alen {a t : Nat} {x : vp_A} (hi : xI mi pc = some .arraylength) (ha : h a = some (.inl (t, x))) (ht : t ≤ 7) (k : xRun G d mi (pc + 1, L, .int (nI x.1) :: r, (h, nx, sl)) res) : xRun G d mi (pc, L, .ref a :: r, (h, nx, sl)) res := by
  refine xr_go hi ?_ k
  show xalen G pc L (.ref a :: r) (h, nx, sl) = _
  unfold xalen
  simp only [ha, if_neg (show ¬ 7 < t by omega)]
  rfl
theorem xr_iast {a n : Nat} {f : Nat → Int32} {i x : Int32} {j : Nat} (hi : xI mi pc = some .iastore) (ha : h a = some (.inl (0, n, .inl f))) (hj : i = nI j) (hn : j < n) (hm : n < 2 ^ 31) (k : ∀ h', h' = xup h a (.inl (0, n, .inl (upd f j x))) → xRun G d mi (pc + 1, L, r, (h', nx, sl)) res) : xRun G d mi (pc, L, .int x :: .int i :: .ref a :: r, (h, nx, sl)) res := by
  subst hj
  refine xr_go hi ?_ (k _ rfl)
  show xiast pc L (.int x :: .int (nI j) :: .ref a :: r) (h, nx, sl) = _
  unfold xiast
  simp only [ha, if_neg (xjin hn hm), nI_clamp (show j < 2 ^ 31 by omega)]
theorem xr_zast {a n : Nat} {f : Nat → Int32} {i x : Int32} {j : Nat} (hi : xI mi pc = some .bastore) (ha : h a = some (.inl (1, n, .inl f))) (hj : i = nI j) (hn : j < n) (hm : n < 2 ^ 31) (hx : vp_nar .boolean x = x) (k : ∀ h', h' = xup h a (.inl (1, n, .inl (upd f j x))) → xRun G d mi (pc + 1, L, r, (h', nx, sl)) res) : xRun G d mi (pc, L, .int x :: .int i :: .ref a :: r, (h, nx, sl)) res := by
  subst hj
  refine xr_go hi ?_ (k _ rfl)
  show xbast pc L (.int x :: .int (nI j) :: .ref a :: r) (h, nx, sl) = _
  unfold xbast
  simp only [ha, if_neg (xjin hn hm), nI_clamp (show j < 2 ^ 31 by omega), hx]
theorem xr_bast {a n : Nat} {f : Nat → Int32} {i x : Int32} {j : Nat} (hi : xI mi pc = some .bastore) (ha : h a = some (.inl (2, n, .inl f))) (hj : i = nI j) (hn : j < n) (hm : n < 2 ^ 31) (k : ∀ h', h' = xup h a (.inl (2, n, .inl (upd f j (vp_nar .byte x)))) → xRun G d mi (pc + 1, L, r, (h', nx, sl)) res) : xRun G d mi (pc, L, .int x :: .int i :: .ref a :: r, (h, nx, sl)) res := by
  subst hj
  refine xr_go hi ?_ (k _ rfl)
  show xbast pc L (.int x :: .int (nI j) :: .ref a :: r) (h, nx, sl) = _
  unfold xbast
  simp only [ha, if_neg (xjin hn hm), nI_clamp (show j < 2 ^ 31 by omega)]
/-- a value on the stack is another's name -/
theorem xr_top {x y : Int32} (e : x = y) (k : xRun G d mi (pc, L, .int y :: r, (h, nx, sl)) res) : xRun G d mi (pc, L, .int x :: r, (h, nx, sl)) res := by
  subst e
  exact k
theorem xr_eq {f f' : xF} (e : f = f') (k : xRun G d mi f' res) : xRun G d mi f res := e ▸ k
end XU
theorem xup_s {h : xH} {a : Nat} {e : xE} : xup h a e a = some e := by simp [xup]
theorem xup_n {h : xH} {a b : Nat} {e : xE} (hb : b ≠ a) : xup h a e b = h b := by simp [xup, hb]
theorem xup_same {h : xH} {a : Nat} {e e' : xE} : xup (xup h a e) a e' = xup h a e' := by
  funext q
  unfold xup
  split <;> rfl
theorem xup_comm {h : xH} {a b : Nat} {e e' : xE} (hb : b ≠ a) : xup (xup h a e) b e' = xup (xup h b e') a e := by
  funext q
  unfold xup
  by_cases h1 : q = b
  · subst h1
    simp [hb]
  · by_cases h2 : q = a
    · subst h2
      simp [h1]
    · simp [h1, h2]
