/-! ===== the class as a whole: what it stands for ===== -/
theorem xsorted_eq {sv sp : Nat → Nat} : ∀ (l1 l2 : List Nat), l1.Pairwise (xlt sv sp) → l2.Pairwise (xlt sv sp) → (∀ w, w ∈ l1 ↔ w ∈ l2) → l1 = l2 := by
  intro l1
  induction l1 with
  | nil =>
    intro l2 _ _ h
    cases l2 with
    | nil => rfl
    | cons b l2 => exact absurd ((h b).mpr List.mem_cons_self) (by simp)
  | cons a l1 ih =>
    intro l2 p1 p2 h
    cases l2 with
    | nil => exact absurd ((h a).mp List.mem_cons_self) (by simp)
    | cons b l2 =>
      obtain ⟨a1, a2⟩ := List.pairwise_cons.mp p1
      obtain ⟨b1, b2⟩ := List.pairwise_cons.mp p2
      have hab : a = b := by
        rcases List.mem_cons.mp ((h a).mp List.mem_cons_self) with e | e
        · exact e
        · rcases List.mem_cons.mp ((h b).mpr List.mem_cons_self) with e2 | e2
          · exact e2.symm
          · exact absurd (xlt_trans (a1 b e2) (b1 a e)) xlt_irr
      subst hab
      rw [ih l2 a2 b2 (fun w => ?_)]
      constructor
      · intro hw
        rcases List.mem_cons.mp ((h w).mp (List.mem_cons_of_mem _ hw)) with e | e
        · subst e
          exact absurd (a1 _ hw) xlt_irr
        · exact e
      · intro hw
        rcases List.mem_cons.mp ((h w).mpr (List.mem_cons_of_mem _ hw)) with e | e
        · subst e
          exact absurd (b1 _ hw) xlt_irr
        · exact e
theorem xTL_uniq {tak com : Nat} {sv sp cm kno : Nat → Nat} {t1 t2 : List Nat} (h1 : xTL tak sv sp cm kno com t1) (h2 : xTL tak sv sp cm kno com t2) : t1 = t2 := xsorted_eq t1 t2 h1.1 h2.1 (fun w => (h1.2 w).trans (h2.2 w).symm)
/-- the tentative writes in their order -/
noncomputable def xtl (tak : Nat) (sv sp cm kno : Nat → Nat) (com : Nat) : List Nat := Classical.epsilon (fun l => xTL tak sv sp cm kno com l)
theorem xtl_eq {tak com : Nat} {sv sp cm kno : Nat → Nat} {t : List Nat} (h : xTL tak sv sp cm kno com t) : xtl tak sv sp cm kno com = t := xTL_uniq (Classical.epsilon_spec (p := fun l => xTL tak sv sp cm kno com l) ⟨t, h⟩) h
/-- the whole order that a server knows -/
noncomputable def xLs (tak : Nat) (sv sp cm kno : Nat → Nat) (com : Nat) : List Nat := xord cm com (xtl tak sv sp cm kno com)
theorem xLs_eq {tak com : Nat} {sv sp cm kno : Nat → Nat} {t : List Nat} (h : xTL tak sv sp cm kno com t) : xLs tak sv sp cm kno com = xord cm com t := by unfold xLs; rw [xtl_eq h]
/-- an entry of a version vector: the largest stamp of a server's known writes -/
def xvm (sv sp kno : Nat → Nat) (j : Nat) : Nat → Nat
  | 0 => 0
  | n + 1 => if kno n = 1 ∧ sv n = j then max (xvm sv sp kno j n) (sp n) else xvm sv sp kno j n
theorem xvm_ge {sv sp kno : Nat → Nat} {j : Nat} : ∀ n w, w < n → kno w = 1 → sv w = j → sp w ≤ xvm sv sp kno j n := by
  intro n
  induction n with
  | zero => intro w h; omega
  | succ n ih =>
    intro w hw h1 h2
    unfold xvm
    by_cases e : w = n
    · subst e
      rw [if_pos ⟨h1, h2⟩]
      omega
    · have := ih w (by omega) h1 h2
      split <;> omega
theorem xvm_in {sv sp kno : Nat → Nat} {j : Nat} : ∀ n, xvm sv sp kno j n = 0 ∨ ∃ w, w < n ∧ kno w = 1 ∧ sv w = j ∧ xvm sv sp kno j n = sp w := by
  intro n
  induction n with
  | zero => exact Or.inl rfl
  | succ n ih =>
    unfold xvm
    split
    · rename_i hk
      by_cases hl : xvm sv sp kno j n ≤ sp n
      · exact Or.inr ⟨n, by omega, hk.1, hk.2, Nat.max_eq_right hl⟩
      · rw [Nat.max_eq_left (by omega)]
        rcases ih with h | ⟨w, h1, h2⟩
        · exact Or.inl h
        · exact Or.inr ⟨w, by omega, h2⟩
    · rcases ih with h | ⟨w, h1, h2⟩
      · exact Or.inl h
      · exact Or.inr ⟨w, by omega, h2⟩
theorem xvm_eq {tak v : Nat} {sv sp kno : Nat → Nat} {j : Nat} (hk : ∀ w, kno w = 1 → w < tak) (h1 : ∀ w, kno w = 1 → sv w = j → sp w ≤ v) (h2 : v = 0 ∨ ∃ w, kno w = 1 ∧ sv w = j ∧ v = sp w) : v = xvm sv sp kno j tak := by
  refine Nat.le_antisymm ?_ ?_
  · rcases h2 with h2 | ⟨w, g1, g2, g3⟩
    · omega
    · rw [g3]
      exact xvm_ge tak w (hk w g1) g1 g2
  · rcases xvm_in (sv := sv) (sp := sp) (kno := kno) (j := j) tak with h | ⟨w, g1, g2, g3, g4⟩
    · omega
    · rw [g4]
      exact h1 w g2 g3
/-- a session -/
def xSe (a bit : Nat) (rd wr : Nat → Nat) (h : xH) : Prop := ∃ fr fw, h a = some (.inr (7, [.ref (a + 1), .ref (a + 2), .int (nI bit)])) ∧ h (a + 1) = some (.inl (0, 5, .inl fr)) ∧ h (a + 2) = some (.inl (0, 5, .inl fw)) ∧ bit < 16 ∧ ∀ k, k < 5 → fr k = nI (rd k) ∧ fw k = nI (wr k) ∧ rd k < 2 ^ 31 ∧ wr k < 2 ^ 31
theorem xSe_kept {a bit : Nat} {rd wr : Nat → Nat} {h h' : xH} (hS : xSe a bit rd wr h) (hk : ∀ q, a ≤ q → q ≤ a + 2 → h' q = h q) : xSe a bit rd wr h' := by
  obtain ⟨fr, fw, h1, h2, h3, h4⟩ := hS
  exact ⟨fr, fw, (hk _ (by omega) (by omega)).trans h1, (hk _ (by omega) (by omega)).trans h2, (hk _ (by omega) (by omega)).trans h3, h4⟩
/-- the tape -/
def xTp (B tn : Nat) (tb : Nat → Nat) (h : xH) : Prop := ∃ f, h (B + 1) = some (.inr (1, [.ref (B + 2), .int (nI tn)])) ∧ h (B + 2) = some (.inl (0, 400, .inl f)) ∧ tn ≤ 400 ∧ ∀ j, j < tn → f j = nI (tb j) ∧ tb j < 256
theorem xTp_kept {B tn : Nat} {tb : Nat → Nat} {h h' : xH} (hT : xTp B tn tb h) (h1 : h' (B + 1) = h (B + 1)) (h2 : h' (B + 2) = h (B + 2)) : xTp B tn tb h' := by
  obtain ⟨f, g1, g2, g3⟩ := hT
  exact ⟨f, h1.trans g1, h2.trans g2, g3⟩
/-- the compiler's rows, whatever they hold -/
def xCo (B : Nat) (h : xH) : Prop := ∃ (s a p f z : Int32) (fk fp fn fs fo : Nat → Int32), h (B + 3) = some (.inr (2, [.ref (B + 1), .ref (B + 4), .ref (B + 8), .ref (B + 9), .int s, .int a, .int p, .int f])) ∧ h (B + 4) = some (.inr (3, [.ref (B + 5), .ref (B + 6), .ref (B + 7), .int z])) ∧ h (B + 5) = some (.inl (0, 401, .inl fk)) ∧ h (B + 6) = some (.inl (0, 401, .inl fp)) ∧ h (B + 7) = some (.inl (0, 401, .inl fn)) ∧ h (B + 8) = some (.inl (0, 406, .inl fs)) ∧ h (B + 9) = some (.inl (0, 406, .inl fo))
theorem xCo_kept {B : Nat} {h h' : xH} (hC : xCo B h) (hk : ∀ q, B + 3 ≤ q → q ≤ B + 9 → h' q = h q) : xCo B h' := by
  obtain ⟨s, a, p, f, z, fk, fp, fn, fs, fo, h0, h1, h2, h3, h4, h5, h6⟩ := hC
  exact ⟨s, a, p, f, z, fk, fp, fn, fs, fo, (hk _ (by omega) (by omega)).trans h0, (hk _ (by omega) (by omega)).trans h1, (hk _ (by omega) (by omega)).trans h2, (hk _ (by omega) (by omega)).trans h3, (hk _ (by omega) (by omega)).trans h4, (hk _ (by omega) (by omega)).trans h5, (hk _ (by omega) (by omega)).trans h6⟩
/-- the object itself and its two rows -/
def xTop (B : Nat) (lv : Value) (h : xH) : Prop := h B = some (.inr (0, [.ref (B + 1), .ref (B + 3), .ref (B + 10), .ref (B + 17), .ref (B + 53), lv])) ∧ (∃ sf, h (B + 17) = some (.inl (4, 5, .inr (.inr (.inr (.inr sf))))) ∧ ∀ i, i < 5 → sf i = some (B + 18 + 7 * i)) ∧ ∃ ef, h (B + 53) = some (.inl (5, 8, .inr (.inr (.inr (.inr ef))))) ∧ ∀ j, j < 8 → ef j = some (B + 54 + 3 * j)
theorem xTop_kept {B : Nat} {lv : Value} {h h' : xH} (hT : xTop B lv h) (h1 : h' B = h B) (h2 : h' (B + 17) = h (B + 17)) (h3 : h' (B + 53) = h (B + 53)) : xTop B lv h' := by
  obtain ⟨g1, ⟨sf, g2, g3⟩, ⟨ef, g4, g5⟩⟩ := hT
  exact ⟨h1.trans g1, ⟨sf, h2.trans g2, g3⟩, ⟨ef, h3.trans g4, g5⟩⟩
/-- the latest program -/
def xLat (B nx : Nat) (lv : Value) (lat : Option (List (Nat × Int32))) (h : xH) : Prop := (lat = none ∧ lv = .null) ∨ ∃ p pa sa oa, lat = some p ∧ lv = .ref pa ∧ xProg pa sa oa p h ∧ xOKp p ∧ B + 119 ≤ pa ∧ B + 119 ≤ sa ∧ B + 119 ≤ oa ∧ pa < nx ∧ sa < nx ∧ oa < nx
theorem xLat_kept {B nx nx' : Nat} {lv : Value} {lat : Option (List (Nat × Int32))} {h h' : xH} (hL : xLat B nx lv lat h) (hn : nx ≤ nx') (hk : ∀ q, B + 119 ≤ q → q < nx → (∀ fs, h q ≠ some (.inr (9, fs))) → h' q = h q) : xLat B nx' lv lat h' := by
  rcases hL with hL | ⟨p, pa, sa, oa, e1, e2, ⟨fs, fo, p0, p1, p2, p3⟩, e4, h1, h2, h3, h4, h5, h6⟩
  · exact Or.inl hL
  · refine Or.inr ⟨p, pa, sa, oa, e1, e2, ⟨fs, fo, (hk _ h1 h4 (fun _ z => ?_)).trans p0, (hk _ h2 h5 (fun _ z => ?_)).trans p1, (hk _ h3 h6 (fun _ z => ?_)).trans p2, p3⟩, e4, h1, h2, h3, Nat.lt_of_lt_of_le h4 hn, Nat.lt_of_lt_of_le h5 hn, Nat.lt_of_lt_of_le h6 hn⟩
    · rw [p0] at z; cases z
    · rw [p1] at z; cases z
    · rw [p2] at z; cases z
/-- where the writes lie -/
def xWd (B nx tak : Nat) (wad pad psa poa : Nat → Nat) : Prop := (∀ w, w < tak → B + 119 ≤ wad w ∧ B + 119 ≤ pad w ∧ B + 119 ≤ psa w ∧ B + 119 ≤ poa w ∧ wad w < nx ∧ pad w < nx ∧ psa w < nx ∧ poa w < nx) ∧ ∀ w v, w < tak → v < tak → wad w = wad v → w = v
/-- what is so of writes and servers together -/
def xGI (tak cmt : Nat) (sv pl cm clk com : Nat → Nat) (kno : Nat → Nat → Nat) : Prop := com 0 = cmt ∧ (∀ w, w < tak → kno (sv w) w = 1) ∧ (∀ i, i < 5 → clk i ≤ 1000000000 + tak) ∧ ∀ w, w < tak → (pl w = 0 ∧ w ∉ xcms cm cmt) ∨ (1 ≤ pl w ∧ pl w ≤ cmt ∧ cm (pl w - 1) = w)
/-- WHAT THE CLASS STANDS FOR -/
def xDS (B nx tak cmt : Nat) (sv sp pl cm : Nat → Nat) (pg : Nat → List (Nat × Int32)) (clk com fog : Nat → Nat) (kno : Nat → Nat → Nat) (bit : Nat → Nat) (rd wr : Nat → Nat → Nat) (lat : Option (List (Nat × Int32))) (tn : Nat) (tb : Nat → Nat) (h : xH) : Prop :=
  ∃ (lv : Value) (wad pad psa poa : Nat → Nat), xTop B lv h ∧ xLat B nx lv lat h ∧ xTp B tn tb h ∧ xCo B h ∧ xHist B tak cmt wad pad psa poa sv sp pl pg cm h ∧ xWd B nx tak wad pad psa poa ∧ xHU tak cmt sv sp cm ∧ (∀ w, w < tak → xOKp (pg w)) ∧ (∃ b e t, xMS (B + 13) b e t h) ∧ (∀ i, i < 5 → xSI B (B + 18 + 7 * i) tak cmt sv sp pg cm (clk i) (com i) (fog i) (kno i) h) ∧ (∀ j, j < 8 → xSe (B + 54 + 3 * j) (bit j) (rd j) (wr j) h) ∧ xGI tak cmt sv pl cm clk com kno ∧ B + 119 ≤ nx
theorem xSI_kept {B a tak cmt : Nat} {sv sp : Nat → Nat} {pg : Nat → List (Nat × Int32)} {cm : Nat → Nat} {clk com fog : Nat} {kno : Nat → Nat} {h h' : xH} (hS : xSI B a tak cmt sv sp pg cm clk com fog kno h) (hk : ∀ q, a ≤ q → q ≤ a + 6 → h' q = h q) : xSI B a tak cmt sv sp pg cm clk com fog kno h' := by
  obtain ⟨don, vec, tl, cc, ce, oc, hV, g⟩ := hS
  exact ⟨don, vec, tl, cc, ce, oc, xSV_kept hV hk, g⟩
/-- what the other side does leaves the class as it is -/
theorem xDS_kept {B nx nx' tak cmt : Nat} {sv sp pl cm : Nat → Nat} {pg : Nat → List (Nat × Int32)} {clk com fog : Nat → Nat} {kno : Nat → Nat → Nat} {bit : Nat → Nat} {rd wr : Nat → Nat → Nat} {lat : Option (List (Nat × Int32))} {tn : Nat} {tb : Nat → Nat} {h h' : xH} (hD : xDS B nx tak cmt sv sp pl cm pg clk com fog kno bit rd wr lat tn tb h) (hn : nx ≤ nx') (hk : ∀ q, B ≤ q → (q < B + 78 ∨ B + 119 ≤ q) → q < nx → h' q = h q) : xDS B nx' tak cmt sv sp pl cm pg clk com fog kno bit rd wr lat tn tb h' := by
  obtain ⟨lv, wad, pad, psa, poa, h1, h2, h3, h4, h5, h6, h7, h8, ⟨b, e, t, h9⟩, h10, h11, h12, h13⟩ := hD
  refine ⟨lv, wad, pad, psa, poa, xTop_kept h1 (hk _ (by omega) (by omega) (by omega)) (hk _ (by omega) (by omega) (by omega)) (hk _ (by omega) (by omega) (by omega)), xLat_kept h2 hn (fun q g1 g2 _ => hk q (by omega) (Or.inr g1) g2), xTp_kept h3 (hk _ (by omega) (by omega) (by omega)) (hk _ (by omega) (by omega) (by omega)), xCo_kept h4 (fun q g1 g2 => hk _ (by omega) (by omega) (by omega)), ?_, ?_, h7, h8, ⟨b, e, t, xMS_kept h9 (fun q g1 g2 => hk _ (by omega) (by omega) (by omega))⟩, fun i hi => xSI_kept (h10 i hi) (fun q g1 g2 => hk _ (by omega) (by omega) (by omega)), fun j hj => xSe_kept (h11 j hj) (fun q g1 g2 => hk _ (by omega) (by omega) (by omega)), h12, by omega⟩
  · obtain ⟨⟨wf, g1, g2, g3⟩, g4, g5, g6, g7⟩ := h5
    refine ⟨⟨wf, (hk _ (by omega) (by omega) (by omega)).trans g1, (hk _ (by omega) (by omega) (by omega)).trans g2, g3⟩, (hk _ (by omega) (by omega) (by omega)).trans g4, g5, g6, fun w hw => ?_⟩
    obtain ⟨k1, ⟨fs, fo, p0, p1, p2, p3⟩, k2⟩ := g7 w hw
    obtain ⟨m1, m2, m3, m4, m5, m6, m7, m8⟩ := h6.1 w hw
    exact ⟨(hk _ (by omega) (Or.inr m1) m5).trans k1, ⟨fs, fo, (hk _ (by omega) (Or.inr m2) m6).trans p0, (hk _ (by omega) (Or.inr m3) m7).trans p1, (hk _ (by omega) (Or.inr m4) m8).trans p2, p3⟩, k2⟩
  · refine ⟨fun w hw => ?_, h6.2⟩
    obtain ⟨m1, m2, m3, m4, m5, m6, m7, m8⟩ := h6.1 w hw
    exact ⟨m1, m2, m3, m4, by omega, by omega, by omega, by omega⟩
/-- what is the same of the class's heap for the other side -/
def xoth (B nx : Nat) (h h' : xH) : Prop := ∀ q, (q < B ∨ B + 78 ≤ q) → q < nx → (∀ fs, h q ≠ some (.inr (9, fs))) → h' q = h q
theorem xsm.oth {B a nx : Nat} {h h' : xH} (hs : xsm B a h h') (ha : B + 18 ≤ a ∧ a + 6 < B + 53) : xoth B nx h h' := fun q h1 _ _ => hs q (by omega) (by omega)
theorem xsame.oth {B a b nx : Nat} {h h' : xH} (hs : xsame a b h h') (ha : B ≤ a ∧ b < B + 78) : xoth B nx h h' := fun q h1 _ _ => hs q (by omega)
theorem xoth.refl {B nx : Nat} {h : xH} : xoth B nx h h := fun _ _ _ _ => rfl

