/-! ===== RUNS: rows of the small machine, goal first ===== -/
def xRun (G : xG) (d mi : Nat) (f : xF) (r : Option Value × xW) : Prop := ∃ n, xrun G n d mi f = some r
theorem xrun_up {G : xG} : ∀ (n d mi : Nat) (f : xF) (r : Option Value × xW), xrun G n d mi f = some r → xrun G (n + 1) d mi f = some r := by
  intro n
  induction n with
  | zero => intro d mi f r h; cases h
  | succ n ih =>
    intro d mi f r h
    unfold xrun at h ⊢
    split at h
    · cases h
    · rename_i ins hins
      split at h
      · cases h
      · rename_i f' hop
        exact ih _ _ _ _ h
      · exact h
      · rename_i cq hop
        split at h
        · rename_i hc
          rw [if_pos hc]
          split at h
          · cases h
          · rename_i r1 h1
            rw [ih _ _ _ _ h1]
            exact ih _ _ _ _ h
        · cases h
theorem xrun_le {G : xG} {n k d mi : Nat} {f : xF} {r : Option Value × xW} (h : xrun G n d mi f = some r) (hk : n ≤ k) : xrun G k d mi f = some r := by
  induction hk with
  | refl => exact h
  | step _ ih => exact xrun_up _ _ _ _ _ ih
theorem xjin {j n : Nat} (h : j < n) (hm : n < 2 ^ 31) : ¬ (nI j < 0 ∨ n ≤ j) := fun z => z.elim (nI_pos (by omega)) (by omega)
section XU
variable {G : xG} {d mi pc : Nat} {L : xL} {st r : List Value} {h : xH} {nx sl : Nat} {res : Option Value × xW}
theorem xr_step {ins : Instr} {f f' : xF} (hi : xI mi f.1 = some ins) (hop : xop G mi d ins f.1 f.2.1 f.2.2.1 f.2.2.2 = some (.inl f')) (k : xRun G d mi f' res) : xRun G d mi f res := by
  obtain ⟨n, hn⟩ := k
  refine ⟨n + 1, ?_⟩
  unfold xrun
  rw [hi]
  simp only [hop]
  exact hn
theorem xr_ret {ins : Instr} {f : xF} (hi : xI mi f.1 = some ins) (hop : xop G mi d ins f.1 f.2.1 f.2.2.1 f.2.2.2 = some (.inr (.inl res))) : xRun G d mi f res := by
  refine ⟨1, ?_⟩
  unfold xrun
  rw [hi]
  simp only [hop]
theorem xr_call {ins : Instr} {f : xF} {cm : Nat} {as rest : List Value} {v : Option Value} {w1 : xW} (hi : xI mi f.1 = some ins) (hop : xop G mi d ins f.1 f.2.1 f.2.2.1 f.2.2.2 = some (.inr (.inr (cm, as, rest)))) (hc : (xargs as).length ≤ xM cm ∧ cm < 123) (h1 : xRun G (d - 1) cm (0, xloc cm as, [], f.2.2.2) (v, w1)) (k : xRun G d mi (f.1 + 3, f.2.1, v.toList ++ rest, w1) res) : xRun G d mi f res := by
  obtain ⟨n1, hn1⟩ := h1
  obtain ⟨n2, hn2⟩ := k
  refine ⟨max n1 n2 + 1, ?_⟩
  unfold xrun
  rw [hi]
  simp only [hop]
  rw [if_pos hc, xrun_le hn1 (Nat.le_max_left _ _)]
  exact xrun_le hn2 (Nat.le_max_right _ _)
/-- a straight instruction: what it comes to is computed -/
theorem xr_go {ins : Instr} {f' : xF} (hi : xI mi pc = some ins) (hop : xop G mi d ins pc L st (h, nx, sl) = some (.inl f')) (k : xRun G d mi f' res) : xRun G d mi (pc, L, st, (h, nx, sl)) res := xr_step (f := (pc, L, st, (h, nx, sl))) hi hop k
theorem xr_end {ins : Instr} (hi : xI mi pc = some ins) (hop : xop G mi d ins pc L st (h, nx, sl) = some (.inr (.inl res))) : xRun G d mi (pc, L, st, (h, nx, sl)) res := xr_ret (f := (pc, L, st, (h, nx, sl))) hi hop
/-- branches -/
theorem xr_icmp {c : ClassFile.Cond} {off : Int} {x y : Int32} {t : Nat} (hi : xI mi pc = some (.if_icmp c off)) (ht : (pc : Int) + off = (t : Int)) (kt : xcnd c x y = true → xRun G d mi (t, L, r, (h, nx, sl)) res) (kf : xcnd c x y = false → xRun G d mi (pc + 3, L, r, (h, nx, sl)) res) : xRun G d mi (pc, L, .int y :: .int x :: r, (h, nx, sl)) res := by
  have h0 : 0 ≤ (pc : Int) + off := by omega
  have h1 : ((pc : Int) + off).toNat = t := by omega
  cases hc : xcnd c x y with
  | true => exact xr_go hi (show xbr (xcnd c x y) pc off L r (h, nx, sl) = some (.inl (t, L, r, (h, nx, sl))) by unfold xbr; rw [if_pos h0, if_pos hc, h1]) (kt hc)
  | false => exact xr_go hi (show xbr (xcnd c x y) pc off L r (h, nx, sl) = some (.inl (pc + 3, L, r, (h, nx, sl))) by unfold xbr; rw [if_pos h0, if_neg (by rw [hc]; decide)]) (kf hc)
theorem xr_if {c : ClassFile.Cond} {off : Int} {x : Int32} {t : Nat} (hi : xI mi pc = some (.ifCond c off)) (ht : (pc : Int) + off = (t : Int)) (kt : xcnd c x 0 = true → xRun G d mi (t, L, r, (h, nx, sl)) res) (kf : xcnd c x 0 = false → xRun G d mi (pc + 3, L, r, (h, nx, sl)) res) : xRun G d mi (pc, L, .int x :: r, (h, nx, sl)) res := by
  have h0 : 0 ≤ (pc : Int) + off := by omega
  have h1 : ((pc : Int) + off).toNat = t := by omega
  cases hc : xcnd c x 0 with
  | true => exact xr_go hi (show xbr (xcnd c x 0) pc off L r (h, nx, sl) = some (.inl (t, L, r, (h, nx, sl))) by unfold xbr; rw [if_pos h0, if_pos hc, h1]) (kt hc)
  | false => exact xr_go hi (show xbr (xcnd c x 0) pc off L r (h, nx, sl) = some (.inl (pc + 3, L, r, (h, nx, sl))) by unfold xbr; rw [if_pos h0, if_neg (by rw [hc]; decide)]) (kf hc)
theorem xr_goto {off : Int} {t : Nat} (hi : xI mi pc = some (.goto off)) (ht : (pc : Int) + off = (t : Int)) (k : xRun G d mi (t, L, st, (h, nx, sl)) res) : xRun G d mi (pc, L, st, (h, nx, sl)) res := by
  have h0 : 0 ≤ (pc : Int) + off := by omega
  have h1 : ((pc : Int) + off).toNat = t := by omega
  exact xr_go hi (show xgo pc off L st (h, nx, sl) = some (.inl (t, L, st, (h, nx, sl))) by unfold xgo; rw [if_pos h0, h1]) k
theorem xr_nn {off : Int} {t a : Nat} (hi : xI mi pc = some (.ifnonnull off)) (ht : (pc : Int) + off = (t : Int)) (k : xRun G d mi (t, L, r, (h, nx, sl)) res) : xRun G d mi (pc, L, .ref a :: r, (h, nx, sl)) res := by
  have h0 : 0 ≤ (pc : Int) + off := by omega
  have h1 : ((pc : Int) + off).toNat = t := by omega
  exact xr_go hi (show xgo pc off L r (h, nx, sl) = some (.inl (t, L, r, (h, nx, sl))) by unfold xgo; rw [if_pos h0, h1]) k
/-- fields -/
theorem xr_get {i a ci : Nat} {fs : List Value} {v : Value} {q : Nat × Nat × Nat × Nat × Nat × Nat} (hi : xI mi pc = some (.getfield i)) (hq : xFl (xO mi) i = some q) (ha : h a = some (.inr (ci, fs))) (hc : ci = q.2.2.1) (hv : fs[q.2.2.2.1]? = some v) (k : xRun G d mi (pc + 3, L, v :: r, (h, nx, sl)) res) : xRun G d mi (pc, L, .ref a :: r, (h, nx, sl)) res := by
  refine xr_go hi ?_ k
  show xgetf (xO mi) i pc L (.ref a :: r) (h, nx, sl) = _
  unfold xgetf
  simp only [ha, hq, if_pos hc, hv]
theorem xr_put {i a ci : Nat} {fs : List Value} {v : Value} {q : Nat × Nat × Nat × Nat × Nat × Nat} (hi : xI mi pc = some (.putfield i)) (hq : xFl (xO mi) i = some q) (ha : h a = some (.inr (ci, fs))) (hc : ci = q.2.2.1 ∧ q.2.2.2.1 < fs.length ∧ narrow (xtyOf ci q.2.2.2.1) v = v ∧ fits (xtyOf ci q.2.2.2.1) v = true ∧ (xfin ci q.2.2.2.1 = false ∨ (((xY mi).name == "<init>") = true ∧ xO mi = ci ∧ q.2.2.2.2.1 = 0))) (k : ∀ h', h' = xup h a (.inr (ci, fs.set q.2.2.2.1 v)) → xRun G d mi (pc + 3, L, r, (h', nx, sl)) res) : xRun G d mi (pc, L, v :: .ref a :: r, (h, nx, sl)) res := by
  refine xr_go hi ?_ (k _ rfl)
  show xputf (xO mi) i _ pc L (v :: .ref a :: r) (h, nx, sl) = _
  unfold xputf
  simp only [ha, hq, if_pos hc]
/-- arrays -/
theorem xr_iald {a n : Nat} {f : Nat → Int32} {i : Int32} {j : Nat} (hi : xI mi pc = some .iaload) (ha : h a = some (.inl (0, n, .inl f))) (hj : i = nI j) (hn : j < n) (hm : n < 2 ^ 31) (k : xRun G d mi (pc + 1, L, .int (f j) :: r, (h, nx, sl)) res) : xRun G d mi (pc, L, .int i :: .ref a :: r, (h, nx, sl)) res := by
  subst hj
  refine xr_go hi ?_ k
  show xiald G pc L (.int (nI j) :: .ref a :: r) (h, nx, sl) = _
  unfold xiald
  simp only [ha, if_neg (xjin hn hm), nI_clamp (show j < 2 ^ 31 by omega)]
theorem xr_bald {a n t : Nat} {f : Nat → Int32} {i : Int32} {j : Nat} (hi : xI mi pc = some .baload) (ht : t = 1 ∨ t = 2) (ha : h a = some (.inl (t, n, .inl f))) (hj : i = nI j) (hn : j < n) (hm : n < 2 ^ 31) (k : xRun G d mi (pc + 1, L, .int (f j) :: r, (h, nx, sl)) res) : xRun G d mi (pc, L, .int i :: .ref a :: r, (h, nx, sl)) res := by
  subst hj
  refine xr_go hi ?_ k
  show xbald pc L (.int (nI j) :: .ref a :: r) (h, nx, sl) = _
  unfold xbald
  rcases ht with rfl | rfl <;> simp only [ha, if_neg (xjin hn hm), nI_clamp (show j < 2 ^ 31 by omega)]
theorem xr_aald {a n t : Nat} {f : Nat → Option Nat} {i : Int32} {j b : Nat} (hi : xI mi pc = some .aaload) (ha : h a = some (.inl (t, n, .inr (.inr (.inr (.inr f)))))) (ht : 3 ≤ t ∧ t ≤ 7) (hj : i = nI j) (hn : j < n) (hm : n < 2 ^ 31) (hb : f j = some b) (k : xRun G d mi (pc + 1, L, .ref b :: r, (h, nx, sl)) res) : xRun G d mi (pc, L, .int i :: .ref a :: r, (h, nx, sl)) res := by
  subst hj
  refine xr_go hi ?_ k
  show xaald pc L (.int (nI j) :: .ref a :: r) (h, nx, sl) = _
  unfold xaald
  have hc : ¬ (nI j < 0 ∨ n ≤ j ∨ t < 3 ∨ 7 < t) := by
    rintro (z | z | z | z)
    · exact nI_pos (by omega) z
    · omega
    · omega
    · omega
  simp only [ha, if_neg hc, nI_clamp (show j < 2 ^ 31 by omega), hb, va_rf]
theorem xr_alen {a t : Nat} {x : vp_A} (hi : xI mi pc = some .arraylength) (ha : h a = some (.inl (t, x))) (ht : t ≤ 7) (k : xRun G d mi (pc + 1, L, .int (nI x.1) :: r, (h, nx, sl)) res) : xRun G d mi (pc, L, .ref a :: r, (h, nx, sl)) res := by
  refine xr_go hi ?_ k
  show xalen G pc L (.ref a :: r) (h, nx, sl) = _
  unfold xalen
  simp only [ha, if_neg (show ¬ 7 < t by omega)]
  rfl
theorem xr_iast {a n : Nat} {f : Nat → Int32} {i x : Int32} {j : Nat} (hi : xI mi pc = some .iastore) (ha : h a = some (.inl (0, n, .inl f))) (hj : i = nI j) (hn : j < n) (hm : n < 2 ^ 31) (k : ∀ h', h' = xup h a (.inl (0, n, .inl (upd f j x))) → xRun G d mi (pc + 1, L, r, (h', nx, sl)) res) : xRun G d mi (pc, L, .int x :: .int i :: .ref a :: r, (h, nx, sl)) res := by
  subst hj
  refine xr_go hi ?_ (k _ rfl)
  show xiast pc L (.int x :: .int (nI j) :: .ref a :: r) (h, nx, sl) = _
  unfold xiast
  simp only [ha, if_neg (xjin hn hm), nI_clamp (show j < 2 ^ 31 by omega)]
theorem xr_zast {a n : Nat} {f : Nat → Int32} {i x : Int32} {j : Nat} (hi : xI mi pc = some .bastore) (ha : h a = some (.inl (1, n, .inl f))) (hj : i = nI j) (hn : j < n) (hm : n < 2 ^ 31) (hx : vp_nar .boolean x = x) (k : ∀ h', h' = xup h a (.inl (1, n, .inl (upd f j x))) → xRun G d mi (pc + 1, L, r, (h', nx, sl)) res) : xRun G d mi (pc, L, .int x :: .int i :: .ref a :: r, (h, nx, sl)) res := by
  subst hj
  refine xr_go hi ?_ (k _ rfl)
  show xbast pc L (.int x :: .int (nI j) :: .ref a :: r) (h, nx, sl) = _
  unfold xbast
  simp only [ha, if_neg (xjin hn hm), nI_clamp (show j < 2 ^ 31 by omega), hx]
theorem xr_bast {a n : Nat} {f : Nat → Int32} {i x : Int32} {j : Nat} (hi : xI mi pc = some .bastore) (ha : h a = some (.inl (2, n, .inl f))) (hj : i = nI j) (hn : j < n) (hm : n < 2 ^ 31) (k : ∀ h', h' = xup h a (.inl (2, n, .inl (upd f j (vp_nar .byte x)))) → xRun G d mi (pc + 1, L, r, (h', nx, sl)) res) : xRun G d mi (pc, L, .int x :: .int i :: .ref a :: r, (h, nx, sl)) res := by
  subst hj
  refine xr_go hi ?_ (k _ rfl)
  show xbast pc L (.int x :: .int (nI j) :: .ref a :: r) (h, nx, sl) = _
  unfold xbast
  simp only [ha, if_neg (xjin hn hm), nI_clamp (show j < 2 ^ 31 by omega)]
/-- a value on the stack is another's name -/
theorem xr_top {x y : Int32} (e : x = y) (k : xRun G d mi (pc, L, .int y :: r, (h, nx, sl)) res) : xRun G d mi (pc, L, .int x :: r, (h, nx, sl)) res := by
  subst e
  exact k
theorem xr_eq {f f' : xF} (e : f = f') (k : xRun G d mi f' res) : xRun G d mi f res := e ▸ k
end XU
theorem xup_s {h : xH} {a : Nat} {e : xE} : xup h a e a = some e := by simp [xup]
theorem xup_n {h : xH} {a b : Nat} {e : xE} (hb : b ≠ a) : xup h a e b = h b := by simp [xup, hb]
theorem xup_same {h : xH} {a : Nat} {e e' : xE} : xup (xup h a e) a e' = xup h a e' := by
  funext q
  unfold xup
  split <;> rfl
theorem xup_comm {h : xH} {a b : Nat} {e e' : xE} (hb : b ≠ a) : xup (xup h a e) b e' = xup (xup h b e') a e := by
  funext q
  unfold xup
  by_cases h1 : q = b
  · subst h1
    simp [hb]
  · by_cases h2 : q = a
    · subst h2
      simp [h1]
    · simp [h1, h2]
section XV
variable {G : xG} {d mi pc : Nat} {L : xL} {st r : List Value} {h : xH} {nx sl : Nat} {res : Option Value × xW}
theorem xinv_eq {op o i : Nat} {w : xW} {q : Nat × Nat × Nat × Nat × Nat × Nat × Nat} (hq : xCl o i = some q) (hd : 0 < d) (hk : (op = 0 ∧ (q.2.2.1 = 0 ∨ q.2.2.1 = 10 ∨ q.2.2.1 = 11)) ∨ (op = 1 ∧ (q.2.2.1 = 2 ∨ q.2.2.1 = 3 ∨ q.2.2.1 = 5)) ∨ (op = 2 ∧ (q.2.2.1 = 1 ∨ q.2.2.1 = 4 ∨ q.2.2.1 = 6 ∨ q.2.2.1 = 7 ∨ q.2.2.1 = 8 ∨ q.2.2.1 = 9))) : xinv G op o i d pc L st w = xcall G q.2.2.1 q.2.2.2.1 pc L st w := by
  unfold xinv
  simp only [hq]
  rw [if_neg (show ¬ d = 0 by omega), if_pos hk]
/-- calls of the claim's own methods -/
theorem xr_V {i b ci n cm : Nat} {q : Nat × Nat × Nat × Nat × Nat × Nat × Nat} {fs : List Value} {v : Option Value} {w1 : xW} (hi : xI mi pc = some (.invokevirtual i)) (hq : xCl (xO mi) i = some q) (hk : q.2.2.1 = 0 ∧ q.2.2.2.1 = cm) (hn : xA cm = n) (hdrop : st.drop n = .ref b :: r) (hb : h b = some (.inr (ci, fs))) (hci : ci = xO cm) (hcat : xcats r ≤ 8) (hd : 0 < d) (hc : (xargs (.ref b :: (st.take n).reverse)).length ≤ xM cm ∧ cm < 123) (h1 : xRun G (d - 1) cm (0, xloc cm (.ref b :: (st.take n).reverse), [], (h, nx, sl)) (v, w1)) (k : xRun G d mi (pc + 3, L, v.toList ++ r, w1) res) : xRun G d mi (pc, L, st, (h, nx, sl)) res := by
  obtain ⟨hk0, hk1⟩ := hk
  subst hk1
  subst hn
  refine xr_call (f := (pc, L, st, (h, nx, sl))) hi (as := .ref b :: (st.take (xA q.2.2.2.1)).reverse) (rest := r) ?_ hc h1 k
  show xinv G 0 (xO mi) i d pc L st (h, nx, sl) = _
  rw [xinv_eq (op := 0) hq hd (Or.inl ⟨rfl, Or.inl hk0⟩)]
  unfold xcall xcV
  rw [if_pos hk0]
  simp only [hdrop, hb]
  rw [if_pos ⟨hci, hcat⟩]
theorem xr_S {i n cm : Nat} {q : Nat × Nat × Nat × Nat × Nat × Nat × Nat} {v : Option Value} {w1 : xW} (hi : xI mi pc = some (.invokestatic i)) (hq : xCl (xO mi) i = some q) (hk : (q.2.2.1 = 1 ∨ q.2.2.1 = 4) ∧ q.2.2.2.1 = cm) (hn : xA cm = n) (hlen : n ≤ st.length) (hcat : xcats (st.drop n) ≤ 8) (hd : 0 < d) (hc : (xargs (st.take n).reverse).length ≤ xM cm ∧ cm < 123) (h1 : xRun G (d - 1) cm (0, xloc cm (st.take n).reverse, [], (h, nx, sl)) (v, w1)) (k : xRun G d mi (pc + 3, L, v.toList ++ st.drop n, w1) res) : xRun G d mi (pc, L, st, (h, nx, sl)) res := by
  obtain ⟨hk0, hk1⟩ := hk
  subst hk1
  subst hn
  refine xr_call (f := (pc, L, st, (h, nx, sl))) hi (as := (st.take (xA q.2.2.2.1)).reverse) (rest := st.drop (xA q.2.2.2.1)) ?_ hc h1 k
  show xinv G 2 (xO mi) i d pc L st (h, nx, sl) = _
  rw [xinv_eq (op := 2) hq hd (Or.inr (Or.inr ⟨rfl, hk0.elim Or.inl (fun z => Or.inr (Or.inl z))⟩))]
  unfold xcall xcS
  rw [if_neg (by omega), if_pos hk0, if_pos ⟨hlen, hcat⟩]
theorem xr_I {i b n cm : Nat} {q : Nat × Nat × Nat × Nat × Nat × Nat × Nat} {v : Option Value} {w1 : xW} (hi : xI mi pc = some (.invokespecial i)) (hq : xCl (xO mi) i = some q) (hk : (q.2.2.1 = 2 ∨ q.2.2.1 = 3) ∧ q.2.2.2.1 = cm) (hn : xA cm = n) (hdrop : st.drop n = .ref b :: r) (hT : xT cm = none) (hcat : xcats r ≤ 8) (hd : 0 < d) (hc : (xargs (.ref b :: (st.take n).reverse)).length ≤ xM cm ∧ cm < 123) (h1 : xRun G (d - 1) cm (0, xloc cm (.ref b :: (st.take n).reverse), [], (h, nx, sl)) (v, w1)) (k : xRun G d mi (pc + 3, L, v.toList ++ r, w1) res) : xRun G d mi (pc, L, st, (h, nx, sl)) res := by
  obtain ⟨hk0, hk1⟩ := hk
  subst hk1
  subst hn
  refine xr_call (f := (pc, L, st, (h, nx, sl))) hi (as := .ref b :: (st.take (xA q.2.2.2.1)).reverse) (rest := r) ?_ hc h1 k
  show xinv G 1 (xO mi) i d pc L st (h, nx, sl) = _
  rw [xinv_eq (op := 1) hq hd (Or.inr (Or.inl ⟨rfl, hk0.elim Or.inl (fun z => Or.inr (Or.inl z))⟩))]
  unfold xcall xcI
  rw [if_neg (by omega), if_neg (by omega), if_pos hk0]
  simp only [hdrop]
  rw [if_pos ⟨hcat, hT⟩]
theorem xr_inv {op i : Nat} {ins : Instr} {q : Nat × Nat × Nat × Nat × Nat × Nat × Nat} {f' : xF} (hi : xI mi pc = some ins) (hins : ins = (if op = 0 then .invokevirtual i else if op = 1 then .invokespecial i else .invokestatic i)) (hq : xCl (xO mi) i = some q) (hd : 0 < d) (hk : (op = 0 ∧ (q.2.2.1 = 0 ∨ q.2.2.1 = 10 ∨ q.2.2.1 = 11)) ∨ (op = 1 ∧ (q.2.2.1 = 2 ∨ q.2.2.1 = 3 ∨ q.2.2.1 = 5)) ∨ (op = 2 ∧ (q.2.2.1 = 1 ∨ q.2.2.1 = 4 ∨ q.2.2.1 = 6 ∨ q.2.2.1 = 7 ∨ q.2.2.1 = 8 ∨ q.2.2.1 = 9))) (hop : xcall G q.2.2.1 q.2.2.2.1 pc L st (h, nx, sl) = some (.inl f')) (k : xRun G d mi f' res) : xRun G d mi (pc, L, st, (h, nx, sl)) res := by
  subst hins
  refine xr_go hi ?_ k
  have h9 : xinv G op (xO mi) i d pc L st (h, nx, sl) = some (.inl f') := by
    unfold xinv
    simp only [hq]
    rw [if_neg (show ¬ d = 0 by omega), if_pos hk]
    exact hop
  by_cases h0 : op = 0
  · subst h0
    exact h9
  · rw [if_neg h0]
    by_cases h1 : op = 1
    · subst h1
      exact h9
    · rw [if_neg h1]
      have h2 : op = 2 := by omega
      subst h2
      exact h9
theorem xr_new {i : Nat} {q : Nat × Nat × Nat × Nat × Nat × Nat} {ci : Nat} {fs : List Value} {nn : Nat} (hi : xI mi pc = some (.new i)) (hq : xKl (xO mi) i = some q) (hc : q.2.2.1 = ci) (hf : xdef ci = fs) (hl : fs.length = nn) (k : ∀ h', h' = xup h nx (.inr (ci, fs)) → xRun G d mi (pc + 3, L, .ref nx :: st, (h', nx + 1, sl + nn)) res) : xRun G d mi (pc, L, st, (h, nx, sl)) res := by
  subst hc
  subst hf
  subst hl
  refine xr_go hi ?_ (k _ rfl)
  show xnew (xO mi) i pc L st (h, nx, sl) = _
  unfold xnew
  simp only [hq]
theorem xr_newa {t : ArrayType} {kk n : Nat} {x : Int32} (hi : xI mi pc = some (.newarray t)) (ht : xat t = some kk) (hx : x = nI n) (hn : n ≤ 100000) (k : ∀ h', h' = xup h nx (.inl (kk, n, .inl (fun _ => 0))) → xRun G d mi (pc + 2, L, .ref nx :: r, (h', nx + 1, sl + n)) res) : xRun G d mi (pc, L, .int x :: r, (h, nx, sl)) res := by
  subst hx
  refine xr_go hi ?_ (k _ rfl)
  show xnewa t pc L (.int (nI n) :: r) (h, nx, sl) = _
  unfold xnewa
  have hc : ¬ (nI n < 0 ∨ 100000 < n) := fun z => z.elim (nI_pos (by omega)) (by omega)
  simp only [ht, nI_clamp (show n < 2 ^ 31 by omega), if_neg hc]
theorem xr_anew {i n : Nat} {x : Int32} {q : Nat × Nat × Nat × Nat × Nat} {kk : Nat} (hi : xI mi pc = some (.anewarray i)) (hq : xNl (xO mi) i = some q) (hc : q.2.2.1 = kk) (h7 : kk ≤ 7) (hx : x = nI n) (hn : n ≤ 100000) (k : ∀ h', h' = xup h nx (.inl (kk, n, .inr (.inr (.inr (.inr (fun _ => none)))))) → xRun G d mi (pc + 3, L, .ref nx :: r, (h', nx + 1, sl + n)) res) : xRun G d mi (pc, L, .int x :: r, (h, nx, sl)) res := by
  subst hx
  subst hc
  refine xr_go hi ?_ (k _ rfl)
  show xanew (xO mi) i pc L (.int (nI n) :: r) (h, nx, sl) = _
  unfold xanew
  have hc : ¬ (nI n < 0 ∨ 100000 < n ∨ 7 < q.2.2.1) := fun z => z.elim (nI_pos (by omega)) (by omega)
  simp only [hq, nI_clamp (show n < 2 ^ 31 by omega), if_neg hc]
theorem xr_aast {a n t v : Nat} {f : Nat → Option Nat} {i : Int32} {j : Nat} {ev : xE} (hi : xI mi pc = some .aastore) (ha : h a = some (.inl (t, n, .inr (.inr (.inr (.inr f)))))) (hj : i = nI j) (hn : j < n) (hm : n < 2 ^ 31) (hv : h v = some ev) (hf : xfit t (some ev) = true) (k : ∀ h', h' = xup h a (.inl (t, n, .inr (.inr (.inr (.inr (va_up f j (some v))))))) → xRun G d mi (pc + 1, L, r, (h', nx, sl)) res) : xRun G d mi (pc, L, .ref v :: .int i :: .ref a :: r, (h, nx, sl)) res := by
  subst hj
  refine xr_go hi ?_ (k _ rfl)
  show xaast pc L (.ref v :: .int (nI j) :: .ref a :: r) (h, nx, sl) = _
  unfold xaast
  simp only [ha, if_neg (xjin hn hm), nI_clamp (show j < 2 ^ 31 by omega), hv, hf, if_true]
theorem xr_ldc {i k' : Nat} {q : Nat × Nat × Nat × Int32 × Nat × Nat} (hi : xI mi pc = some (.ldc i)) (hq : xDl (xO mi) i = some q) (hc : q.2.2.1 = 1) (hk : q.2.2.2.2.1 = k') (k : xRun G d mi (pc + 2, L, .ref (G.1 k') :: st, (h, nx, sl)) res) : xRun G d mi (pc, L, st, (h, nx, sl)) res := by
  subst hk
  refine xr_go hi ?_ k
  show xldc G (xO mi) i pc L st (h, nx, sl) = _
  unfold xldc
  simp only [hq]
  rw [if_neg (by omega)]
theorem xr_ldci {i : Nat} {x : Int32} {q : Nat × Nat × Nat × Int32 × Nat × Nat} (hi : xI mi pc = some (.ldc i)) (hq : xDl (xO mi) i = some q) (hc : q.2.2.1 = 0) (hk : q.2.2.2.1 = x) (k : xRun G d mi (pc + 2, L, .int x :: st, (h, nx, sl)) res) : xRun G d mi (pc, L, st, (h, nx, sl)) res := by
  subst hk
  refine xr_go hi ?_ k
  show xldc G (xO mi) i pc L st (h, nx, sl) = _
  unfold xldc
  simp only [hq]
  rw [if_pos hc]
theorem xr_ldc2 {i : Nat} {x : Int64} {q : Nat × Nat × Int64 × Nat} (hi : xI mi pc = some (.ldc2_w i)) (hq : xLl (xO mi) i = some q) (hk : q.2.2.1 = x) (k : xRun G d mi (pc + 3, L, .long x :: st, (h, nx, sl)) res) : xRun G d mi (pc, L, st, (h, nx, sl)) res := by
  subst hk
  refine xr_go hi ?_ k
  show xldc2 (xO mi) i pc L st (h, nx, sl) = _
  unfold xldc2
  simp only [hq]
theorem xr_slen {i a s : Nat} {q : Nat × Nat × Nat × Nat × Nat × Nat × Nat} {n : Nat} (hi : xI mi pc = some (.invokevirtual i)) (hq : xCl (xO mi) i = some q) (hc : q.2.2.1 = 10) (hd : 0 < d) (hs : G.2.1 a = some s) (hcat : xcats r ≤ 8) (hn : (xSt.getD s []).length = n) (k : xRun G d mi (pc + 3, L, .int (nI n) :: r, (h, nx, sl)) res) : xRun G d mi (pc, L, .ref a :: r, (h, nx, sl)) res := by
  subst hn
  refine xr_inv (op := 0) hi rfl hq hd (Or.inl ⟨rfl, Or.inr (Or.inl hc)⟩) ?_ k
  rw [hc]
  show xslen G pc L (.ref a :: r) (h, nx, sl) = _
  unfold xslen
  simp only [hs]
  rw [if_neg (by omega)]
theorem xr_sat {i a s : Nat} {q : Nat × Nat × Nat × Nat × Nat × Nat × Nat} {x : Int32} {j : Nat} (hi : xI mi pc = some (.invokevirtual i)) (hq : xCl (xO mi) i = some q) (hc : q.2.2.1 = 11) (hd : 0 < d) (hs : G.2.1 a = some s) (hcat : xcats r ≤ 8) (hx : x = nI j) (hj : j < (xSt.getD s []).length) (hm : j < 2 ^ 31) (k : xRun G d mi (pc + 3, L, .int (nI ((xSt.getD s []).getD j 0)) :: r, (h, nx, sl)) res) : xRun G d mi (pc, L, .int x :: .ref a :: r, (h, nx, sl)) res := by
  subst hx
  refine xr_inv (op := 0) hi rfl hq hd (Or.inl ⟨rfl, Or.inr (Or.inr hc)⟩) ?_ k
  rw [hc]
  show xsat G pc L (.int (nI j) :: .ref a :: r) (h, nx, sl) = _
  unfold xsat
  have hc : ¬ (8 < xcats r ∨ nI j < 0 ∨ (xSt.getD s []).length ≤ j) := fun z => z.elim (by omega) (fun z => z.elim (nI_pos hm) (by omega))
  simp only [hs, nI_clamp hm, if_neg hc]
theorem xr_max {i : Nat} {q : Nat × Nat × Nat × Nat × Nat × Nat × Nat} {x y z : Int32} (hi : xI mi pc = some (.invokestatic i)) (hq : xCl (xO mi) i = some q) (hc : q.2.2.1 = 6) (hd : 0 < d) (hcat : xcats r ≤ 8) (hz : (if x < y then y else x) = z) (k : xRun G d mi (pc + 3, L, .int z :: r, (h, nx, sl)) res) : xRun G d mi (pc, L, .int y :: .int x :: r, (h, nx, sl)) res := by
  subst hz
  refine xr_inv (op := 2) hi rfl hq hd (Or.inr (Or.inr ⟨rfl, Or.inr (Or.inr (Or.inl hc))⟩)) ?_ k
  rw [hc]
  show xmax pc L (.int y :: .int x :: r) (h, nx, sl) = _
  unfold xmax
  simp only []
  rw [if_pos hcat]
theorem xr_min {i : Nat} {q : Nat × Nat × Nat × Nat × Nat × Nat × Nat} {x y z : Int32} (hi : xI mi pc = some (.invokestatic i)) (hq : xCl (xO mi) i = some q) (hc : q.2.2.1 = 7) (hd : 0 < d) (hcat : xcats r ≤ 8) (hz : (if y < x then y else x) = z) (k : xRun G d mi (pc + 3, L, .int z :: r, (h, nx, sl)) res) : xRun G d mi (pc, L, .int y :: .int x :: r, (h, nx, sl)) res := by
  subst hz
  refine xr_inv (op := 2) hi rfl hq hd (Or.inr (Or.inr ⟨rfl, Or.inr (Or.inr (Or.inr (Or.inl hc)))⟩)) ?_ k
  rw [hc]
  show xmin pc L (.int y :: .int x :: r) (h, nx, sl) = _
  unfold xmin
  simp only []
  rw [if_pos hcat]
theorem xr_minl {i : Nat} {q : Nat × Nat × Nat × Nat × Nat × Nat × Nat} {x y z : Int64} (hi : xI mi pc = some (.invokestatic i)) (hq : xCl (xO mi) i = some q) (hc : q.2.2.1 = 8) (hd : 0 < d) (hcat : xcats r ≤ 8) (hz : (if y < x then y else x) = z) (k : xRun G d mi (pc + 3, L, .long z :: r, (h, nx, sl)) res) : xRun G d mi (pc, L, .long y :: .long x :: r, (h, nx, sl)) res := by
  subst hz
  refine xr_inv (op := 2) hi rfl hq hd (Or.inr (Or.inr ⟨rfl, Or.inr (Or.inr (Or.inr (Or.inr (Or.inl hc))))⟩)) ?_ k
  rw [hc]
  show xminl pc L (.long y :: .long x :: r) (h, nx, sl) = _
  unfold xminl
  simp only []
  rw [if_pos hcat]
theorem xr_obj {i a : Nat} {q : Nat × Nat × Nat × Nat × Nat × Nat × Nat} (hi : xI mi pc = some (.invokespecial i)) (hq : xCl (xO mi) i = some q) (hc : q.2.2.1 = 5) (hd : 0 < d) (hcat : xcats r ≤ 8) (k : xRun G d mi (pc + 3, L, r, (h, nx, sl)) res) : xRun G d mi (pc, L, .ref a :: r, (h, nx, sl)) res := by
  refine xr_inv (op := 1) hi rfl hq hd (Or.inr (Or.inl ⟨rfl, Or.inr (Or.inr hc)⟩)) ?_ k
  rw [hc]
  show xobj pc L (.ref a :: r) (h, nx, sl) = _
  unfold xobj
  simp only []
  rw [if_pos hcat]
theorem xr_copy {i a b : Nat} {q : Nat × Nat × Nat × Nat × Nat × Nat × Nat} {x y z : Int32} {n0 n1 sp dp n : Nat} {f g : Nat → Int32} (hi : xI mi pc = some (.invokestatic i)) (hq : xCl (xO mi) i = some q) (hc : q.2.2.1 = 9) (hd : 0 < d) (hcat : xcats r ≤ 8) (ha : h a = some (.inl (0, n0, .inl f))) (hb : h b = some (.inl (0, n1, .inl g))) (hx : x = nI n) (hy : y = nI dp) (hz : z = nI sp) (h0 : sp + n ≤ n0) (h1 : dp + n ≤ n1) (hm : n0 < 2 ^ 31 ∧ n1 < 2 ^ 31) (k : ∀ h', h' = xup h b (.inl (0, n1, .inl (va_cpy f g sp dp n))) → xRun G d mi (pc + 3, L, r, (h', nx, sl)) res) : xRun G d mi (pc, L, .int x :: .int y :: .ref b :: .int z :: .ref a :: r, (h, nx, sl)) res := by
  subst hx
  subst hy
  subst hz
  refine xr_inv (op := 2) hi rfl hq hd (Or.inr (Or.inr ⟨rfl, Or.inr (Or.inr (Or.inr (Or.inr (Or.inr hc))))⟩)) ?_ (k _ rfl)
  rw [hc]
  show xcopy pc L (.int (nI n) :: .int (nI dp) :: .ref b :: .int (nI sp) :: .ref a :: r) (h, nx, sl) = _
  unfold xcopy
  have hc : ¬ (8 < xcats r ∨ nI sp < 0 ∨ nI dp < 0 ∨ nI n < 0 ∨ n0 < sp + n ∨ n1 < dp + n) := by
    rintro (z | z | z | z | z | z)
    · omega
    · exact nI_pos (by omega) z
    · exact nI_pos (by omega) z
    · exact nI_pos (by omega) z
    · omega
    · omega
  simp only [ha, hb, nI_clamp (show n < 2 ^ 31 by omega), nI_clamp (show dp < 2 ^ 31 by omega), nI_clamp (show sp < 2 ^ 31 by omega), if_neg hc]
end XV
