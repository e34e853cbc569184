/-! ===== what a server of the class stands for: its clock, how much it knows as committed and has forgotten, what it knows ===== -/
def xcms (cm : Nat → Nat) (com : Nat) : List Nat := (List.range com).map cm
theorem xcms_len {cm : Nat → Nat} {com : Nat} : (xcms cm com).length = com := by simp [xcms]
theorem xcms_succ {cm : Nat → Nat} {com : Nat} : xcms cm (com + 1) = xcms cm com ++ [cm com] := by simp [xcms, List.range_succ]
theorem xcms_getD {cm : Nat → Nat} {com r : Nat} (h : r < com) : (xcms cm com).getD r 0 = cm r := by
  rw [List.getD_eq_getElem?_getD]
  simp [xcms, h]
theorem xcms_mem {cm : Nat → Nat} {com w : Nat} : w ∈ xcms cm com ↔ ∃ r, r < com ∧ cm r = w := by simp [xcms]
theorem xcms_take {cm : Nat → Nat} {com r : Nat} (h : r ≤ com) : (xcms cm com).take r = xcms cm r := by
  unfold xcms
  rw [← List.map_take, List.take_range, Nat.min_eq_left h]
def xz : Nat → Int32 := fun _ => 0
theorem xruns_app {sv sp : Nat → Nat} {pg : Nat → List (Nat × Int32)} {c : Nat → Int32} {l1 l2 : List Nat} : xruns sv sp pg c (l1 ++ l2) = xruns sv sp pg (xruns sv sp pg c l1) l2 := by simp [xruns]
theorem xruns_one {sv sp : Nat → Nat} {pg : Nat → List (Nat × Int32)} {c : Nat → Int32} {w : Nat} : xruns sv sp pg c [w] = xpC (pg w) (nI (sv w)) (nI (sp w)) c := rfl
/-- the outcome of the write at place p of an order -/
def xoutAt (sv sp : Nat → Nat) (pg : Nat → List (Nat × Int32)) (ord : List Nat) (p : Nat) : Nat := xpO (pg (ord.getD p 0)) (nI (sv (ord.getD p 0))) (nI (sp (ord.getD p 0))) (xruns sv sp pg xz (ord.take p))
theorem xoutAt_app {sv sp : Nat → Nat} {pg : Nat → List (Nat × Int32)} {l1 l2 : List Nat} {p : Nat} (h : p < l1.length) : xoutAt sv sp pg (l1 ++ l2) p = xoutAt sv sp pg l1 p := by
  unfold xoutAt
  rw [getD_app_l h, List.take_append_of_le_length (by omega)]
theorem xouts_not {sv sp : Nat → Nat} {pg : Nat → List (Nat × Int32)} : ∀ (l : List Nat) (c : Nat → Int32) (oc : Nat → Nat) (w : Nat), w ∉ l → xouts sv sp pg l c oc w = oc w := by
  intro l
  induction l with
  | nil => intro c oc w _; rfl
  | cons x l ih =>
    intro c oc w hw
    unfold xouts
    rw [ih _ _ _ (fun z => hw (List.mem_cons_of_mem _ z))]
    unfold va_up
    rw [if_neg (show ¬ w = x from fun z => hw (by rw [z]; exact List.mem_cons_self))]
theorem xouts_at {sv sp : Nat → Nat} {pg : Nat → List (Nat × Int32)} : ∀ (l pre : List Nat) (c : Nat → Int32) (oc : Nat → Nat), c = xruns sv sp pg xz pre → (pre ++ l).Nodup → ∀ j, j < l.length → xouts sv sp pg l c oc (l.getD j 0) = xoutAt sv sp pg (pre ++ l) (pre.length + j) := by
  intro l
  induction l with
  | nil => intro pre c oc _ _ j hj; simp at hj
  | cons x l ih =>
    intro pre c oc hc hn j hj
    unfold xouts
    cases j with
    | zero =>
      have hx : x ∉ l := by
        have := (List.nodup_append.mp hn).2.1
        exact (List.nodup_cons.mp this).1
      rw [List.getD_cons_zero, xouts_not _ _ _ _ hx]
      unfold va_up
      rw [if_pos rfl]
      unfold xoutAt
      rw [Nat.add_zero, getD_app_r (Nat.le_refl _), Nat.sub_self, List.getD_cons_zero, List.take_left, hc]
    | succ j =>
      rw [List.getD_cons_succ]
      have := ih (pre ++ [x]) (xpC (pg x) (nI (sv x)) (nI (sp x)) c) (va_up oc x (xpO (pg x) (nI (sv x)) (nI (sp x)) c)) (by rw [xruns_app, xruns_one, hc]) (by simpa using hn) j (by simpa using hj)
      rw [this]
      simp only [List.append_assoc, List.singleton_append, List.length_append, List.length_singleton]
      congr 1
      omega
/-- the tentative writes: sorted, just those that are known and not committed there -/
def xTL (tak : Nat) (sv sp cm kno : Nat → Nat) (com : Nat) (tl : List Nat) : Prop := tl.Pairwise (xlt sv sp) ∧ ∀ w, w ∈ tl ↔ (w < tak ∧ kno w = 1 ∧ w ∉ xcms cm com)
/-- what is so of the writes of a history -/
def xHU (tak cmt : Nat) (sv sp cm : Nat → Nat) : Prop := (∀ w v, w < tak → v < tak → sp w = sp v → sv w = sv v → w = v) ∧ (∀ r, r < cmt → cm r < tak) ∧ ∀ r q, r < cmt → q < cmt → cm r = cm q → r = q
theorem xlt_irr {sv sp : Nat → Nat} {w : Nat} : ¬ xlt sv sp w w := by unfold xlt; omega
theorem xlt_trans {sv sp : Nat → Nat} {u v w : Nat} (h1 : xlt sv sp u v) (h2 : xlt sv sp v w) : xlt sv sp u w := by unfold xlt at *; omega
theorem xlt_tot {tak cmt : Nat} {sv sp cm : Nat → Nat} (hU : xHU tak cmt sv sp cm) {w v : Nat} (h1 : w < tak) (h2 : v < tak) (h3 : w ≠ v) (h4 : ¬ xlt sv sp w v) : xlt sv sp v w := by
  unfold xlt at *
  by_cases e : sp w = sp v
  · by_cases e2 : sv w = sv v
    · exact absurd (hU.1 w v h1 h2 e e2) h3
    · omega
  · omega
theorem xTL_nodup {tak com : Nat} {sv sp cm kno : Nat → Nat} {tl : List Nat} (h : xTL tak sv sp cm kno com tl) : tl.Nodup := List.Pairwise.imp (fun {a b} hab => fun z => xlt_irr (z ▸ hab)) h.1
theorem xcms_nodup {tak cmt com : Nat} {sv sp cm : Nat → Nat} (hU : xHU tak cmt sv sp cm) (hc : com ≤ cmt) : (xcms cm com).Nodup := by
  unfold xcms
  rw [List.Nodup, List.pairwise_map]
  refine List.Pairwise.imp_of_mem (fun {a b} ha hb hab => ?_) (List.nodup_range (n := com))
  have ha := List.mem_range.mp ha
  have hb := List.mem_range.mp hb
  exact fun z => hab (hU.2.2 a b (by omega) (by omega) z)
theorem xord_nodup {tak cmt com : Nat} {sv sp cm kno : Nat → Nat} {tl : List Nat} (hU : xHU tak cmt sv sp cm) (hc : com ≤ cmt) (h : xTL tak sv sp cm kno com tl) : (xcms cm com ++ tl).Nodup := by
  refine List.nodup_append.mpr ⟨xcms_nodup hU hc, xTL_nodup h, fun a ha b hb => fun z => ?_⟩
  exact ((h.2 b).mp hb).2.2 (z ▸ ha)
/-- a new write among the sorted -/
theorem xTL_ins {tak cmt com w t : Nat} {sv sp cm kno : Nat → Nat} {tl : List Nat} (hU : xHU tak cmt sv sp cm) (h : xTL tak sv sp cm kno com tl) (hw : w < tak) (hk : kno w = 0) (hc : w ∉ xcms cm com) (h1 : ∀ x ∈ tl.drop t, xlt sv sp w x) (h2 : ∀ k, t = k + 1 → ¬ xlt sv sp w (tl.getD k 0)) (ht : t ≤ tl.length) : xTL tak sv sp cm (va_up kno w 1) com (tl.take t ++ w :: tl.drop t) := by
  have hwt : w ∉ tl := fun z => by
    have := ((h.2 w).mp z).2.1
    omega
  refine ⟨?_, fun v => ?_⟩
  · have hp : (tl.take t ++ tl.drop t).Pairwise (xlt sv sp) := by rw [List.take_append_drop]; exact h.1
    obtain ⟨p1, p2, p3⟩ := List.pairwise_append.mp hp
    refine List.pairwise_append.mpr ⟨p1, List.pairwise_cons.mpr ⟨h1, p2⟩, fun a ha b hb => ?_⟩
    rcases List.mem_cons.mp hb with rfl | hb
    · cases t with
      | zero => simp at ha
      | succ k =>
        have hk1 : k < tl.length := by omega
        have hx := h2 k rfl
        have hxm := getD_mem hk1
        have hlast : xlt sv sp (tl.getD k 0) b := xlt_tot hU hw ((h.2 _).mp hxm).1 (fun z => hwt (z ▸ hxm)) hx
        obtain ⟨i, hi, rfl⟩ := List.getElem_of_mem ha
        rw [List.length_take] at hi
        rw [List.getElem_take]
        by_cases hik : i = k
        · subst hik
          rw [List.getD_eq_getElem?_getD, List.getElem?_eq_getElem hk1] at hlast
          exact hlast
        · have := (List.pairwise_iff_getElem.mp h.1) i k (by omega) hk1 (by omega)
          rw [List.getD_eq_getElem?_getD, List.getElem?_eq_getElem hk1] at hlast
          exact xlt_trans this hlast
    · exact p3 a ha b hb
  · unfold va_up
    constructor
    · intro hv
      rcases List.mem_append.mp hv with hv | hv
      · have := (h.2 v).mp (List.mem_of_mem_take hv)
        refine ⟨this.1, ?_, this.2.2⟩
        split
        · rfl
        · exact this.2.1
      · rcases List.mem_cons.mp hv with rfl | hv
        · exact ⟨hw, by rw [if_pos rfl], hc⟩
        · have := (h.2 v).mp (List.mem_of_mem_drop hv)
          refine ⟨this.1, ?_, this.2.2⟩
          split
          · rfl
          · exact this.2.1
    · rintro ⟨g1, g2, g3⟩
      by_cases hvw : v = w
      · subst hvw
        exact List.mem_append_right _ List.mem_cons_self
      · rw [if_neg hvw] at g2
        have := (h.2 v).mpr ⟨g1, g2, g3⟩
        rw [← List.take_append_drop t tl] at this
        rcases List.mem_append.mp this with h9 | h9
        · exact List.mem_append_left _ h9
        · exact List.mem_append_right _ (List.mem_cons_of_mem _ h9)
/-- WHAT A SERVER STANDS FOR -/
def xSI (B a tak cmt : Nat) (sv sp : Nat → Nat) (pg : Nat → List (Nat × Int32)) (cm : Nat → Nat) (clk com fog : Nat) (kno : Nat → Nat) (h : xH) : Prop :=
  ∃ (don : Nat) (vec : Nat → Nat) (tl : List Nat) (cc ce : Nat → Int32) (oc : Nat → Nat), xSV B a clk com fog don vec kno tl cc ce oc h ∧ xTL tak sv sp cm kno com tl ∧ (∀ w, kno w = 0 ∨ kno w = 1) ∧ (∀ w, kno w = 1 → w < tak) ∧ (∀ r, r < com → kno (cm r) = 1) ∧ com ≤ cmt ∧ fog ≤ com ∧ clk < 2 ^ 31 ∧ (∀ w, kno w = 1 → sp w ≤ clk) ∧
  (∀ j, j < 5 → vec j < 2 ^ 31 ∧ (∀ w, kno w = 1 → sv w = j → sp w ≤ vec j) ∧ (vec j = 0 ∨ ∃ w, kno w = 1 ∧ sv w = j ∧ vec j = sp w)) ∧
  cc = xruns sv sp pg xz (xcms cm com) ∧ don ≤ tl.length ∧ (don ≠ 0 → ce = xruns sv sp pg xz (xcms cm com ++ tl.take don)) ∧ (∀ p, p < com + don → oc ((xcms cm com ++ tl).getD p 0) = xoutAt sv sp pg (xcms cm com ++ tl) p) ∧ (∀ k, 32 ≤ k → cc k = 0 ∧ ce k = 0) ∧ ∀ w, oc w ≤ 6

