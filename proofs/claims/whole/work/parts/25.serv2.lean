/-! ===== servers, their tentative writes as lists ===== -/
def xSV (B a clk com fog don : Nat) (vec kno : Nat → Nat) (tl : List Nat) (cc ce : Nat → Int32) (oc : Nat → Nat) (h : xH) : Prop := ∃ tN, xSrv B a ((clk, com, fog, tl.length, don), vec, kno, tN, cc, ce, oc) h ∧ ∀ j, j < tl.length → tN j = tl.getD j 0
theorem xSV_kept {B a clk com fog don : Nat} {vec kno : Nat → Nat} {tl : List Nat} {cc ce : Nat → Int32} {oc : Nat → Nat} {h h' : xH} (hS : xSV B a clk com fog don vec kno tl cc ce oc h) (hk : ∀ q, a ≤ q → q ≤ a + 6 → h' q = h q) : xSV B a clk com fog don vec kno tl cc ce oc h' := by
  obtain ⟨tN, h1, h2⟩ := hS
  exact ⟨tN, xSrv_kept h1 hk, h2⟩
theorem getD_mem {l : List Nat} {j : Nat} (h : j < l.length) : l.getD j 0 ∈ l := by
  rw [List.getD_eq_getElem?_getD, List.getElem?_eq_getElem h]
  exact List.getElem_mem h
theorem getD_app_l {l1 l2 : List Nat} {j : Nat} (h : j < l1.length) : (l1 ++ l2).getD j 0 = l1.getD j 0 := by
  rw [List.getD_eq_getElem?_getD, List.getD_eq_getElem?_getD, List.getElem?_append_left h]
theorem getD_app_r {l1 l2 : List Nat} {j : Nat} (h : l1.length ≤ j) : (l1 ++ l2).getD j 0 = l2.getD (j - l1.length) 0 := by
  rw [List.getD_eq_getElem?_getD, List.getD_eq_getElem?_getD, List.getElem?_append_right h]
theorem getD_take {l : List Nat} {t j : Nat} (h : j < t) : (l.take t).getD j 0 = l.getD j 0 := by
  rw [List.getD_eq_getElem?_getD, List.getD_eq_getElem?_getD, List.getElem?_take_of_lt h]
theorem getD_drop {l : List Nat} {t j : Nat} : (l.drop t).getD j 0 = l.getD (t + j) 0 := by
  rw [List.getD_eq_getElem?_getD, List.getD_eq_getElem?_getD, List.getElem?_drop]
section XSERV2
variable {G : xG} {d : Nat} {h : xH} {nx sl : Nat} {B a tak cmt : Nat} {wad pad psa poa sv sp pl : Nat → Nat} {pg : Nat → List (Nat × Int32)} {cm : Nat → Nat} {clk com fog don : Nat} {vec kno oc : Nat → Nat} {tl : List Nat} {cc ce : Nat → Int32}
theorem l_learn {w : Nat} (hH : xHist B tak cmt wad pad psa poa sv sp pl pg cm h) (hS : xSV B a clk com fog don vec kno tl cc ce oc h) (ha : B + 18 ≤ a ∧ a + 6 < B + 53) (hw : w < tak) (htl : tl.length < 500) (htk : ∀ x ∈ tl, x < tak) (hdn : don ≤ tl.length) (hcl : clk < 2 ^ 31) (hvl : ∀ j, j < 5 → vec j < 2 ^ 31) (hd : 1 ≤ d) :
    ∃ h' t, xRun G d 59 (0, [some (.ref a), some (.int (nI w)), none, none], [], (h, nx, sl)) (none, (h', nx, sl)) ∧ xSV B a (max clk (sp w)) com fog (if t < don then 0 else don) (va_up vec (sv w) (max (vec (sv w)) (sp w))) (va_up kno w 1) (tl.take t ++ w :: tl.drop t) cc ce oc h' ∧ xsame a (a + 6) h h' ∧ t ≤ tl.length ∧ (∀ x ∈ tl.drop t, xlt sv sp w x) ∧ (∀ k, t = k + 1 → ¬ xlt sv sp w (tl.getD k 0)) := by
  obtain ⟨tN, h1, h2⟩ := hS
  obtain ⟨h', t, r, g1, g2, g3, g4, g5⟩ := s_learn (G := G) (nx := nx) (sl := sl) hH h1 ha hw htl (fun j hj => by rw [h2 j hj]; exact htk _ (getD_mem hj)) hdn hcl hvl hd
  have hlen : (tl.take t ++ w :: tl.drop t).length = tl.length + 1 := by
    simp only [List.length_append, List.length_cons, List.length_take, List.length_drop]
    omega
  refine ⟨h', t, r, ⟨xinF tN tl.length t w, by rw [hlen]; exact g1, fun j hj => ?_⟩, g2, g3, fun x hx => ?_, fun k hk => ?_⟩
  · rw [hlen] at hj
    unfold xinF va_up xshF
    have htl2 : (tl.take t).length = t := by rw [List.length_take]; omega
    by_cases h3 : j = t
    · subst h3
      rw [if_pos rfl, getD_app_r (by omega), htl2, Nat.sub_self]
      rfl
    · rw [if_neg h3]
      by_cases h4 : t < j
      · rw [if_pos (by omega), getD_app_r (by omega), htl2, show j - t = (j - t - 1) + 1 by omega, List.getD_cons_succ, getD_drop, h2 _ (by omega)]
        congr 1
        omega
      · rw [if_neg (by omega), getD_app_l (by omega), getD_take (by omega)]
        exact h2 j (by omega)
  · obtain ⟨i, hi, rfl⟩ := List.getElem_of_mem hx
    rw [List.getElem_drop]
    rw [List.length_drop] at hi
    have := g4 (t + i) (by omega) (by omega)
    rw [h2 _ (by omega), List.getD_eq_getElem?_getD, List.getElem?_eq_getElem (by omega)] at this
    exact this
  · have := g5 k hk
    rw [h2 k (by omega)] at this
    exact this
theorem xcpyN {f g : Nat → Nat} {s t n : Nat} : va_cpy (fun j => nI (f j)) (fun j => nI (g j)) s t n = fun j => nI (va_cpy f g s t n j) := by
  funext j
  unfold va_cpy
  split <;> rfl
theorem s_remove_loop {S : xSv} {w : Nat} {l1 l2 : List Nat} {res : Option Value × xW} (hS : xSrv B a S h) (hten : S.1.2.2.2.1 = (l1 ++ w :: l2).length) (hlen : (l1 ++ w :: l2).length ≤ 500) (htN : ∀ j, j < (l1 ++ w :: l2).length → S.2.2.2.1 j = (l1 ++ w :: l2).getD j 0) (hw : w ∉ l1) (hb : ∀ x ∈ l1 ++ w :: l2, x < 500) : ∀ n i, i + n = l1.length → xRun G d 63 (26, [some (.ref a), some (.int (nI w)), some (.int (nI l1.length))], [], (h, nx, sl)) res → xRun G d 63 (2, [some (.ref a), some (.int (nI w)), some (.int (nI i))], [], (h, nx, sl)) res := by
  obtain ⟨s0, s1, s2, s3, s4, s5, s6⟩ := hS
  unfold xSvF at s0
  have hL : (l1 ++ w :: l2).length = l1.length + l2.length + 1 := by simp; omega
  intro n
  induction n with
  | zero =>
    intro i hi hres
    have hil : i = l1.length := by omega
    subst hil
    have hv : S.2.2.2.1 l1.length = w := by
      rw [htN _ (by omega), getD_app_r (Nat.le_refl _), Nat.sub_self]
      rfl
    refine xr_go i63_2 rfl ?_
    refine xr_go i63_3 rfl ?_
    refine xr_get i63_4 xf63_41 (by assumption) rfl rfl ?_
    refine xr_icmp_geF i63_7 (t := 26) (by decide) (nI_ge (by omega) (by omega)) ?_
    refine xr_go i63_10 rfl ?_
    refine xr_get i63_11 xf63_19 (by assumption) rfl rfl ?_
    refine xr_go i63_14 rfl ?_
    refine xr_iald i63_15 (by assumption) rfl (by omega) (by omega) ?_
    refine xr_go i63_16 rfl ?_
    refine xr_icmp_eqT i63_17 (t := 26) (by decide) (by rw [hv]) ?_
    exact hres
  | succ n ih =>
    intro i hi hres
    have hil : i < l1.length := by omega
    have hv : S.2.2.2.1 i = l1.getD i 0 := by rw [htN _ (by omega), getD_app_l hil]
    have hm := getD_mem hil
    have hx := hb _ (List.mem_append_left (w :: l2) hm)
    have hwb := hb w (by simp)
    refine xr_go i63_2 rfl ?_
    refine xr_go i63_3 rfl ?_
    refine xr_get i63_4 xf63_41 (by assumption) rfl rfl ?_
    refine xr_icmp_geF i63_7 (t := 26) (by decide) (nI_ge (by omega) (by omega)) ?_
    refine xr_go i63_10 rfl ?_
    refine xr_get i63_11 xf63_19 (by assumption) rfl rfl ?_
    refine xr_go i63_14 rfl ?_
    refine xr_iald i63_15 (by assumption) rfl (by omega) (by omega) ?_
    refine xr_go i63_16 rfl ?_
    refine xr_icmp_eqF i63_17 (t := 26) (by decide) (by rw [hv, nI_eq (by omega) (by omega)]; exact fun z => hw (z ▸ hm)) ?_
    refine xr_inc1 i63_20 rfl rfl ?_
    refine xr_goto i63_23 (t := 2) (by decide) ?_
    exact ih (i + 1) (by omega) hres
theorem l_remove {w : Nat} {l1 l2 : List Nat} (hS : xSV B a clk com fog don vec kno (l1 ++ w :: l2) cc ce oc h) (hlen : (l1 ++ w :: l2).length ≤ 500) (hw : w ∉ l1) (hb : ∀ x ∈ l1 ++ w :: l2, x < 500) (hd : 1 ≤ d) :
    ∃ h', xRun G d 63 (0, [some (.ref a), some (.int (nI w)), none], [], (h, nx, sl)) (none, (h', nx, sl)) ∧ xSV B a clk com fog don vec kno (l1 ++ l2) cc ce oc h' ∧ xsame a (a + 6) h h' := by
  obtain ⟨tN, hS1, htN⟩ := hS
  have hS0 := hS1
  obtain ⟨s0, s1, s2, s3, s4, s5, s6⟩ := hS1
  unfold xSvF at s0
  dsimp only at s0 s1 s2 s3 s4 s5 s6
  have hL : (l1 ++ w :: l2).length = l1.length + l2.length + 1 := by simp; omega
  have hL2 : (l1 ++ l2).length = l1.length + l2.length := by simp
  let g1 : xH := xup h a (.inr (6, xSvF B a (clk, com, fog, (l1 ++ l2).length, don)))
  let g2 : xH := xup g1 (a + 3) (.inl (0, 500, .inl (fun j => nI (va_cpy tN tN (l1.length + 1) l1.length l2.length j))))
  refine ⟨g2, ?_, ⟨va_cpy tN tN (l1.length + 1) l1.length l2.length, ⟨?_, ?_, ?_, xup_s, ?_, ?_, ?_⟩, fun j hj => ?_⟩, (xsame.up (c := a) (by omega) (rfl : g1 = _)).trans (xsame.up (c := a + 3) (by omega) (rfl : g2 = _))⟩
  · refine xr_go i63_0 rfl ?_
    refine xr_go i63_1 rfl ?_
    refine s_remove_loop (S := ((clk, com, fog, (l1 ++ w :: l2).length, don), vec, kno, tN, cc, ce, oc)) hS0 rfl hlen htN hw hb l1.length 0 (by omega) ?_
    refine xr_go i63_26 rfl ?_
    refine xr_go i63_27 rfl ?_
    refine xr_get i63_28 xf63_41 (by assumption) rfl rfl ?_
    refine xr_icmp_geF i63_31 (t := 65) (by decide) (nI_ge (by omega) (by omega)) ?_
    refine xr_go i63_34 rfl ?_
    refine xr_go i63_35 rfl ?_
    refine xr_get i63_36 xf63_41 (by assumption) rfl rfl ?_
    refine xr_go i63_39 rfl ?_
    refine xr_go i63_40 rfl ?_
    refine xr_put i63_41 xf63_41 (by assumption) ⟨rfl, Nat.le_of_ble_eq_true rfl, rfl, rfl, Or.inl rfl⟩ (fun f1 ef1 => ?_)
    have ef1' : f1 = g1 := by
      rw [ef1]
      show xup h a (.inr (6, [.ref (B + 10), .ref (B + 13), .ref (a + 1), .ref (a + 2), .ref (a + 3), .ref (a + 4), .ref (a + 5), .ref (a + 6), .int (nI clk), .int (nI com), .int (nI fog), .int (nI (l1 ++ w :: l2).length - 1), .int (nI don)])) = _
      rw [hL, nI_pred, ← hL2]
      rfl
    have k0 : f1 a = some (.inr (6, [.ref (B + 10), .ref (B + 13), .ref (a + 1), .ref (a + 2), .ref (a + 3), .ref (a + 4), .ref (a + 5), .ref (a + 6), .int (nI clk), .int (nI com), .int (nI fog), .int (nI (l1 ++ l2).length), .int (nI don)])) := by rw [ef1']; exact xup_s
    have k3 : f1 (a + 3) = some (.inl (0, 500, .inl (fun j => nI (tN j)))) := by rw [ef1, xup_n (by omega)]; exact s3
    refine xr_go i63_44 rfl ?_
    refine xr_get i63_45 xf63_19 (by assumption) rfl rfl ?_
    refine xr_go i63_48 rfl ?_
    refine xr_go i63_49 rfl ?_
    refine xr_go i63_50 rfl ?_
    refine xr_go i63_51 rfl ?_
    refine xr_get i63_52 xf63_19 (by assumption) rfl rfl ?_
    refine xr_go i63_55 rfl ?_
    refine xr_go i63_56 rfl ?_
    refine xr_get i63_57 xf63_41 (by assumption) rfl rfl ?_
    refine xr_go i63_60 rfl ?_
    refine xr_go i63_61 rfl ?_
    refine xr_copy i63_62 xc63_104 rfl (by omega) (Nat.le_of_ble_eq_true rfl) k3 k3 (n := l2.length) (dp := l1.length) (sp := l1.length + 1) (by show nI (l1 ++ l2).length - nI l1.length = _; rw [hL2, pk_sub (by omega)]; congr 1; omega) rfl (nI_1 _) (by omega) (by omega) (by omega) (fun f2 ef2 => ?_)
    have ef2' : f2 = g2 := by
      rw [ef2, ef1', xcpyN]
    rw [ef2']
    exact xr_end i63_65 rfl
  · show xup g1 (a + 3) _ a = _
    rw [xup_n (by omega)]
    exact xup_s
  · show xup g1 (a + 3) _ (a + 1) = _
    rw [xup_n (by omega)]
    show xup h a _ (a + 1) = _
    rw [xup_n (by omega)]
    exact s1
  · show xup g1 (a + 3) _ (a + 2) = _
    rw [xup_n (by omega)]
    show xup h a _ (a + 2) = _
    rw [xup_n (by omega)]
    exact s2
  · show xup g1 (a + 3) _ (a + 4) = _
    rw [xup_n (by omega)]
    show xup h a _ (a + 4) = _
    rw [xup_n (by omega)]
    exact s4
  · show xup g1 (a + 3) _ (a + 5) = _
    rw [xup_n (by omega)]
    show xup h a _ (a + 5) = _
    rw [xup_n (by omega)]
    exact s5
  · show xup g1 (a + 3) _ (a + 6) = _
    rw [xup_n (by omega)]
    show xup h a _ (a + 6) = _
    rw [xup_n (by omega)]
    exact s6
  · rw [hL2] at hj
    unfold va_cpy
    by_cases hj1 : j < l1.length
    · rw [if_neg (by omega), getD_app_l hj1, htN _ (by omega), getD_app_l hj1]
    · rw [if_pos (by omega), getD_app_r (by omega), htN _ (by omega), getD_app_r (by omega), show l1.length + 1 + (j - l1.length) - l1.length = (j - l1.length) + 1 by omega, List.getD_cons_succ]
/-- a program that comes to an end whatever it is done on -/
def xOKp (p : List (Nat × Int32)) : Prop := ∀ (x y : Int32) (c : Nat → Int32), ∃ (o : Nat) (c' : Nat → Int32), o ≤ 6 ∧ xperf x y c p ([], [], true) = some (nI o, c')
def xpO (p : List (Nat × Int32)) (x y : Int32) (c : Nat → Int32) : Nat := match xperf x y c p ([], [], true) with
  | some q => q.1.toNatClampNeg
  | none => 0
def xpC (p : List (Nat × Int32)) (x y : Int32) (c : Nat → Int32) : Nat → Int32 := match xperf x y c p ([], [], true) with
  | some q => q.2
  | none => c
theorem xOKp.run {p : List (Nat × Int32)} (h : xOKp p) (x y : Int32) (c : Nat → Int32) : xperf x y c p ([], [], true) = some (nI (xpO p x y c), xpC p x y c) ∧ xpO p x y c ≤ 6 := by
  obtain ⟨o, c', h1, h2⟩ := h x y c
  have e1 : xpO p x y c = o := by
    unfold xpO
    rw [h2]
    exact nI_clamp (by omega)
  have e2 : xpC p x y c = c' := by
    unfold xpC
    rw [h2]
  rw [e1, e2]
  exact ⟨h2, h1⟩
/-- a server of the class does a write on cells of its own (at ca: 4 the committed, 5 the others) -/
theorem l_perf {w ca : Nat} {c : Nat → Int32} {bb : List Int32} {ee : List (Nat × Int32)} {tt : Bool} (hH : xHist B tak cmt wad pad psa poa sv sp pl pg cm h) (hM : xMS (B + 13) bb ee tt h) (hw : w < tak) (hok : xOKp (pg w)) (hca : B + 18 ≤ ca ∧ ca < B + 78) (hc : h ca = some (.inl (0, 32, .inl c))) (hd : 3 ≤ d) :
    ∃ h', xRun G d 50 (0, [some (.ref (B + 13)), some (.ref (wad w)), some (.ref ca), none, none, none], [], (h, nx, sl)) (some (.int (nI (xpO (pg w) (nI (sv w)) (nI (sp w)) c))), (h', nx, sl)) ∧ h' ca = some (.inl (0, 32, .inl (xpC (pg w) (nI (sv w)) (nI (sp w)) c))) ∧ (∃ b e t, xMS (B + 13) b e t h') ∧ ∀ q, q ≠ ca → (q < B + 13 ∨ B + 16 < q) → h' q = h q := by
  obtain ⟨-, -, -, -, w7⟩ := hH
  obtain ⟨q1, q2, q3, q4, q5, q6, q7, q8⟩ := w7 w hw
  exact s_perform hd hM q1 q2 hc (fun q hq => by omega) (by omega) (hok.run _ _ _).1
end XSERV2

