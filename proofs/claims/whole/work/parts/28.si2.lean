/-! ===== servers: learning, committing, in these words ===== -/
theorem nd_le : ∀ (n : Nat) (l : List Nat), l.Nodup → (∀ x ∈ l, x < n) → l.length ≤ n := by
  intro n
  induction n with
  | zero =>
    intro l _ h
    cases l with
    | nil => simp
    | cons x l => exact absurd (h x List.mem_cons_self) (by omega)
  | succ n ih =>
    intro l hn h
    by_cases hm : n ∈ l
    · have h1 := ih (l.erase n) (hn.erase n) (fun x hx => by
        have := (hn.mem_erase_iff).mp hx
        have := h x this.2
        omega)
      have := List.length_erase_of_mem hm
      omega
    · have := ih l hn (fun x hx => by
        have := h x hx
        have : x ≠ n := fun z => hm (z ▸ hx)
        omega)
      omega
theorem xchg_hi {e : List (Nat × Int32)} {c : Nat → Int32} {k : Nat} (he : ∀ p ∈ e, p.1 < 32) (hk : 32 ≤ k) : xchg e c k = c k := by
  unfold xchg
  induction e generalizing c with
  | nil => rfl
  | cons p e ih =>
    rw [List.foldl_cons, ih (fun q hq => he q (List.mem_cons_of_mem _ hq))]
    unfold upd
    have := he p List.mem_cons_self
    rw [if_neg (by omega)]
theorem xperf_hi {x y : Int32} {c c' : Nat → Int32} {o : Int32} : ∀ (p : List (Nat × Int32)) (s : xS), xperf x y c p s = some (o, c') → ∀ k, 32 ≤ k → c' k = c k := by
  intro p
  induction p with
  | nil => intro s h k hk; cases h; rfl
  | cons q p ih =>
    intro s h k hk
    unfold xperf at h
    split at h
    · split at h
      · split at h
        · rename_i hall
          cases h
          exact xchg_hi (fun q hq => of_decide_eq_true (List.all_eq_true.mp hall q hq)) hk
        · cases h
      · exact ih _ h k hk
    · split at h
      · split at h
        · split at h
          · exact ih _ h k hk
          · cases h
        · exact ih _ h k hk
      · cases h
theorem xpC_hi {p : List (Nat × Int32)} (hp : xOKp p) {x y : Int32} {c : Nat → Int32} {k : Nat} (hk : 32 ≤ k) : xpC p x y c k = c k := xperf_hi p _ (hp.run x y c).1 k hk
theorem va_up_same {f : Nat → Nat} {w x : Nat} (h : f w = x) : va_up f w x = f := by
  funext j
  unfold va_up
  split
  · rename_i hj; rw [hj, h]
  · rfl
section XSI
variable {G : xG} {d : Nat} {h : xH} {nx sl : Nat} {B a tak cmt : Nat} {wad pad psa poa sv sp pl : Nat → Nat} {pg : Nat → List (Nat × Int32)} {cm : Nat → Nat} {clk com fog : Nat} {kno : Nat → Nat}
theorem xTL_len {tl : List Nat} (ht : xTL tak sv sp cm kno com tl) : tl.length ≤ tak := nd_le tak tl (xTL_nodup ht) (fun x hx => ((ht.2 x).mp hx).1)
theorem xTL_lt {tl : List Nat} {w : Nat} (ht : xTL tak sv sp cm kno com tl) (hw : w < tak) (h : w ∉ tl) : tl.length < tak := by
  have := nd_le tak (w :: tl) (List.nodup_cons.mpr ⟨h, xTL_nodup ht⟩) (fun x hx => by
    rcases List.mem_cons.mp hx with rfl | hx
    · exact hw
    · exact ((ht.2 x).mp hx).1)
  simp only [List.length_cons] at this
  omega
theorem xvec_up {vec : Nat → Nat} {w : Nat} (hw : sp w < 2 ^ 31) (h : ∀ j, j < 5 → vec j < 2 ^ 31 ∧ (∀ w, kno w = 1 → sv w = j → sp w ≤ vec j) ∧ (vec j = 0 ∨ ∃ w, kno w = 1 ∧ sv w = j ∧ vec j = sp w)) : ∀ j, j < 5 → va_up vec (sv w) (max (vec (sv w)) (sp w)) j < 2 ^ 31 ∧ (∀ v, va_up kno w 1 v = 1 → sv v = j → sp v ≤ va_up vec (sv w) (max (vec (sv w)) (sp w)) j) ∧ (va_up vec (sv w) (max (vec (sv w)) (sp w)) j = 0 ∨ ∃ v, va_up kno w 1 v = 1 ∧ sv v = j ∧ va_up vec (sv w) (max (vec (sv w)) (sp w)) j = sp v) := by
  intro j hj
  obtain ⟨h1, h2, h3⟩ := h j hj
  have hkw : va_up kno w 1 w = 1 := by simp [va_up]
  have hku : ∀ v, kno v = 1 → va_up kno w 1 v = 1 := fun v hv => by
    unfold va_up
    split
    · rfl
    · exact hv
  by_cases e : j = sv w
  · subst e
    have e1 : va_up vec (sv w) (max (vec (sv w)) (sp w)) (sv w) = max (vec (sv w)) (sp w) := by simp [va_up]
    rw [e1]
    refine ⟨by omega, fun v hv hs => ?_, ?_⟩
    · by_cases hvw : v = w
      · subst hvw
        omega
      · unfold va_up at hv
        rw [if_neg hvw] at hv
        have := h2 v hv hs
        omega
    · by_cases hle : sp w ≤ vec (sv w)
      · rw [Nat.max_eq_left hle]
        rcases h3 with h3 | ⟨v, g1, g2, g3⟩
        · exact Or.inl h3
        · exact Or.inr ⟨v, hku v g1, g2, g3⟩
      · rw [Nat.max_eq_right (by omega)]
        exact Or.inr ⟨w, hkw, rfl, rfl⟩
  · have e1 : va_up vec (sv w) (max (vec (sv w)) (sp w)) j = vec j := by simp [va_up, e]
    rw [e1]
    refine ⟨h1, fun v hv hs => ?_, ?_⟩
    · by_cases hvw : v = w
      · subst hvw
        exact absurd hs.symm e
      · unfold va_up at hv
        rw [if_neg hvw] at hv
        exact h2 v hv hs
    · rcases h3 with h3 | ⟨v, g1, g2, g3⟩
      · exact Or.inl h3
      · exact Or.inr ⟨v, hku v g1, g2, g3⟩
theorem xkno_up {w : Nat} (hw : w < tak) (h1 : ∀ w, kno w = 0 ∨ kno w = 1) (h2 : ∀ w, kno w = 1 → w < tak) : (∀ v, va_up kno w 1 v = 0 ∨ va_up kno w 1 v = 1) ∧ (∀ v, va_up kno w 1 v = 1 → v < tak) := by
  refine ⟨fun v => ?_, fun v hv => ?_⟩
  · unfold va_up
    split
    · exact Or.inr rfl
    · exact h1 v
  · unfold va_up at hv
    split at hv
    · rename_i e; rw [e]; exact hw
    · exact h2 v hv
theorem q_learn {w : Nat} (hH : xHist B tak cmt wad pad psa poa sv sp pl pg cm h) (hU : xHU tak cmt sv sp cm) (hS : xSI B a tak cmt sv sp pg cm clk com fog kno h) (ha : B + 18 ≤ a ∧ a + 6 < B + 53) (hw : w < tak) (hk : kno w = 0) (hd : 1 ≤ d) :
    ∃ h', xRun G d 59 (0, [some (.ref a), some (.int (nI w)), none, none], [], (h, nx, sl)) (none, (h', nx, sl)) ∧ xSI B a tak cmt sv sp pg cm (max clk (sp w)) com fog (va_up kno w 1) h' ∧ xsame a (a + 6) h h' := by
  obtain ⟨don, vec, tl, cc, ce, oc, hV, hT, k1, k2, k3, k4, k5, k6, k7, k8, k9, k10, k11, k12, k13, k14⟩ := hS
  have hspw : sp w < 2 ^ 31 := (hH.2.2.2.2 w hw).2.2.2.2.2.2.2
  have ht5 : tak ≤ 500 := hH.2.2.1
  have hwt : w ∉ tl := fun z => by
    have := ((hT.2 w).mp z).2.1
    omega
  have hwc : w ∉ xcms cm com := fun z => by
    obtain ⟨r, hr, e⟩ := xcms_mem.mp z
    have := k3 r hr
    rw [e] at this
    omega
  have hlt := xTL_lt hT hw hwt
  obtain ⟨h', t, r, g1, g2, g3, g4, g5⟩ := l_learn (G := G) (nx := nx) (sl := sl) hH hV ha hw (by omega) (fun x hx => ((hT.2 x).mp hx).1) k10 k6 (fun j hj => (k8 j hj).1) hd
  refine ⟨h', r, ⟨_, _, _, _, _, _, g1, xTL_ins hU hT hw hk hwc g4 g5 g3, (xkno_up hw k1 k2).1, (xkno_up hw k1 k2).2, fun q hq => ?_, k4, k5, by omega, fun v hv => ?_, xvec_up hspw k8, k9, ?_, ?_, ?_, k13, k14⟩, g2⟩
  · unfold va_up
    split
    · rfl
    · exact k3 q hq
  · by_cases hvw : v = w
    · subst hvw
      omega
    · unfold va_up at hv
      rw [if_neg hvw] at hv
      have := k7 v hv
      omega
  · have : (tl.take t ++ w :: tl.drop t).length = tl.length + 1 := by
      simp only [List.length_append, List.length_cons, List.length_take, List.length_drop]
      omega
    rw [this]
    split <;> omega
  · intro hne
    by_cases htd : t < don
    · rw [if_pos htd] at hne
      exact absurd rfl hne
    · rw [if_neg htd] at hne ⊢
      have e : (tl.take t ++ w :: tl.drop t).take don = tl.take don := by
        rw [List.take_append_of_le_length (by rw [List.length_take]; omega), List.take_take, Nat.min_eq_left (by omega)]
      rw [e]
      exact k11 hne
  · intro p hp
    have e1 : xcms cm com ++ (tl.take t ++ w :: tl.drop t) = (xcms cm com ++ tl.take t) ++ (w :: tl.drop t) := by simp
    have e2 : xcms cm com ++ tl = (xcms cm com ++ tl.take t) ++ tl.drop t := by simp
    have hl : (xcms cm com ++ tl.take t).length = com + t := by
      rw [List.length_append, xcms_len, List.length_take]
      omega
    have hpl : p < com + t ∧ p < com + don := by
      by_cases htd : t < don
      · rw [if_pos htd] at hp
        omega
      · rw [if_neg htd] at hp
        omega
    rw [e1, xoutAt_app (by omega), getD_app_l (by omega)]
    have := k12 p hpl.2
    rw [e2, xoutAt_app (by omega), getD_app_l (by omega)] at this
    exact this
/-- the next commit: what it makes of a server's inner state -/
theorem xnext_inv {w : Nat} {tl tl' : List Nat} {cc ce : Nat → Int32} {oc : Nat → Nat} {don : Nat} (hU : xHU tak cmt sv sp cm) (hwe : w = cm com) (hcm : com < cmt) (hok : xOKp (pg w)) (hT' : xTL tak sv sp cm (va_up kno w 1) (com + 1) tl') (k9 : cc = xruns sv sp pg xz (xcms cm com)) (k12 : ∀ p, p < com + don → oc ((xcms cm com ++ tl).getD p 0) = xoutAt sv sp pg (xcms cm com ++ tl) p) (k13 : ∀ k, 32 ≤ k → cc k = 0 ∧ ce k = 0) (k14 : ∀ w, oc w ≤ 6) :
    xpC (pg w) (nI (sv w)) (nI (sp w)) cc = xruns sv sp pg xz (xcms cm (com + 1)) ∧ (∀ p, p < (com + 1) + 0 → va_up oc w (xpO (pg w) (nI (sv w)) (nI (sp w)) cc) ((xcms cm (com + 1) ++ tl').getD p 0) = xoutAt sv sp pg (xcms cm (com + 1) ++ tl') p) ∧ (∀ k, 32 ≤ k → xpC (pg w) (nI (sv w)) (nI (sp w)) cc k = 0 ∧ ce k = 0) ∧ ∀ v, va_up oc w (xpO (pg w) (nI (sv w)) (nI (sp w)) cc) v ≤ 6 := by
  refine ⟨by rw [xcms_succ, xruns_app, xruns_one, k9, hwe], fun p hp => ?_, fun k hk => ⟨by rw [xpC_hi hok hk]; exact (k13 k hk).1, (k13 k hk).2⟩, fun v => ?_⟩
  · rw [xoutAt_app (by rw [xcms_len]; omega), getD_app_l (by rw [xcms_len]; omega)]
    by_cases hpc : p = com
    · subst hpc
      rw [xcms_getD (by omega)]
      unfold xoutAt va_up
      rw [xcms_getD (by omega), if_pos hwe.symm, xcms_take (by omega), ← k9, hwe]
    · have h1 := k12 p (by omega)
      rw [xoutAt_app (by rw [xcms_len]; omega), getD_app_l (by rw [xcms_len]; omega), xcms_getD (by omega)] at h1
      rw [xcms_getD (by omega)]
      unfold va_up
      rw [if_neg (by rw [hwe]; exact fun z => hpc (hU.2.2 p com (by omega) hcm z)), h1, xcms_succ, xoutAt_app (by rw [xcms_len]; omega)]
  · unfold va_up
    split
    · exact (hok.run _ _ _).2
    · exact k14 v
theorem q_next {bb : List Int32} {ee : List (Nat × Int32)} {tt : Bool} (hH : xHist B tak cmt wad pad psa poa sv sp pl pg cm h) (hU : xHU tak cmt sv sp cm) (hok : ∀ w, w < tak → xOKp (pg w)) (hM : xMS (B + 13) bb ee tt h) (hS : xSI B a tak cmt sv sp pg cm clk com fog kno h) (ha : B + 18 ≤ a ∧ a + 6 < B + 53) (hcm : com < cmt) (hd : 4 ≤ d) :
    ∃ h', xRun G d 62 (0, [some (.ref a), none], [], (h, nx, sl)) (none, (h', nx, sl)) ∧ xSI B a tak cmt sv sp pg cm (max clk (sp (cm com))) (com + 1) fog (va_up kno (cm com) 1) h' ∧ (∃ b e t, xMS (B + 13) b e t h') ∧ xsm B a h h' := by
  obtain ⟨don, vec, tl, cc, ce, oc, hV, hT, k1, k2, k3, k4, k5, k6, k7, k8, k9, k10, k11, k12, k13, k14⟩ := hS
  have hw := hU.2.1 com hcm
  have hspw : sp (cm com) < 2 ^ 31 := (hH.2.2.2.2 _ hw).2.2.2.2.2.2.2
  have ht5 : tak ≤ 500 := hH.2.2.1
  have hwc : cm com ∉ xcms cm com := fun z => by
    obtain ⟨r, hr, e⟩ := xcms_mem.mp z
    have := hU.2.2 r com (by omega) hcm e
    omega
  have hk3 : ∀ r, r < com + 1 → va_up kno (cm com) 1 (cm r) = 1 := fun r hr => by
    unfold va_up
    split
    · rfl
    · rename_i hne
      exact k3 r (by
        have : r ≠ com := fun z => hne (by rw [z])
        omega)
  have hk7 : ∀ v, va_up kno (cm com) 1 v = 1 → sp v ≤ max clk (sp (cm com)) := fun v hv => by
    by_cases hvw : v = cm com
    · subst hvw
      omega
    · unfold va_up at hv
      rw [if_neg hvw] at hv
      have := k7 v hv
      omega
  rcases k1 (cm com) with hk | hk
  · have hwt : cm com ∉ tl := fun z => by
      have := ((hT.2 _).mp z).2.1
      omega
    have hlt := xTL_lt hT hw hwt
    have hT' : xTL tak sv sp cm (va_up kno (cm com) 1) (com + 1) tl := by
      refine ⟨hT.1, fun v => ?_⟩
      rw [hT.2 v, xcms_succ]
      unfold va_up
      constructor
      · rintro ⟨g1, g2, g3⟩
        have hne : v ≠ cm com := fun z => by rw [z] at g2; omega
        exact ⟨g1, by rw [if_neg hne]; exact g2, by simp [g3, hne]⟩
      · rintro ⟨g1, g2, g3⟩
        have hne : v ≠ cm com := fun z => g3 (by simp [z])
        rw [if_neg hne] at g2
        exact ⟨g1, g2, fun z => g3 (List.mem_append_left _ z)⟩
    obtain ⟨h', r, g1, g2, g3⟩ := l_next_new (G := G) (nx := nx) (sl := sl) hH hM hV ha hcm hw (hok _ hw) hk (by omega) hwt (fun x hx => ((hT.2 x).mp hx).1) k10 k6 (fun j hj => (k8 j hj).1) hd
    obtain ⟨n1, n2, n3, n4⟩ := xnext_inv (tl := tl) (don := don) hU rfl hcm (hok _ hw) hT' k9 k12 k13 k14
    exact ⟨h', r, ⟨_, _, _, _, _, _, g1, hT', (xkno_up hw k1 k2).1, (xkno_up hw k1 k2).2, hk3, hcm, by omega, by omega, hk7, xvec_up hspw k8, n1, by omega, fun z => absurd rfl z, n2, n3, n4⟩, g2, g3⟩
  · have hwt : cm com ∈ tl := (hT.2 _).mpr ⟨hw, hk, hwc⟩
    obtain ⟨l1, l2, rfl⟩ := List.append_of_mem hwt
    have hnd := xTL_nodup hT
    have hw1 : cm com ∉ l1 := fun z => (List.nodup_append.mp hnd).2.2 _ z _ List.mem_cons_self rfl
    have hw2 : cm com ∉ l2 := (List.nodup_cons.mp (List.nodup_append.mp hnd).2.1).1
    have hlt := xTL_len hT
    have eku : va_up kno (cm com) 1 = kno := va_up_same hk
    have ecl : max clk (sp (cm com)) = clk := Nat.max_eq_left (k7 _ hk)
    have hT' : xTL tak sv sp cm (va_up kno (cm com) 1) (com + 1) (l1 ++ l2) := by
      rw [eku]
      obtain ⟨p1, p2, p3⟩ := List.pairwise_append.mp hT.1
      refine ⟨List.pairwise_append.mpr ⟨p1, (List.pairwise_cons.mp p2).2, fun x hx y hy => p3 x hx y (List.mem_cons_of_mem _ hy)⟩, fun v => ?_⟩
      have := hT.2 v
      rw [xcms_succ]
      by_cases hv : v = cm com
      · subst hv
        constructor
        · intro hm
          rcases List.mem_append.mp hm with hm | hm
          · exact absurd hm hw1
          · exact absurd hm hw2
        · rintro ⟨-, -, g3⟩
          exact absurd (List.mem_append_right _ (List.mem_singleton.mpr rfl)) g3
      · have e1 : v ∈ l1 ++ cm com :: l2 ↔ v ∈ l1 ++ l2 := by simp [hv]
        rw [← e1, this]
        simp [hv]
    obtain ⟨h', r, g1, g2, g3⟩ := l_next_known (G := G) (nx := nx) (sl := sl) hH hM hV ha hcm hw (hok _ hw) hk (by omega) hw1 (fun x hx => by
      have := ((hT.2 x).mp hx).1
      omega) hd
    obtain ⟨n1, n2, n3, n4⟩ := xnext_inv (tl := l1 ++ cm com :: l2) (don := don) hU rfl hcm (hok _ hw) hT' k9 k12 k13 k14
    refine ⟨h', r, ⟨0, vec, l1 ++ l2, _, ce, _, ?_, hT', (xkno_up hw k1 k2).1, (xkno_up hw k1 k2).2, hk3, hcm, by omega, by omega, hk7, by rw [eku]; exact k8, n1, by omega, fun z => absurd rfl z, n2, n3, n4⟩, g2, g3⟩
    rw [eku, ecl]
    exact g1
end XSI

