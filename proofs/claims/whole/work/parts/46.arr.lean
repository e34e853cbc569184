/-! ===== the model: the order of a server ===== -/
def xshI (f : Nat → Int32) (ten t : Nat) : Nat → Int32 := fun j => if t < j ∧ j ≤ ten then f (j - 1) else f j
def xkw (kno : Nat → Nat) (i : Nat) : Nat → Nat := fun v => if v < i then kno v else 0
/-- a row that begins with a list -/
def xrow (f : Nat → Int32) (l : List Nat) : Prop := ∀ j, j < l.length → f j = nI (l.getD j 0)
theorem xrow_snoc {f : Nat → Int32} {l : List Nat} {w : Nat} (h : xrow f l) : xrow (upd f l.length (nI w)) (l ++ [w]) := by
  intro j hj
  rw [List.length_append, List.length_singleton] at hj
  unfold upd
  by_cases e : j = l.length
  · rw [if_pos e, e, getD_app_r (Nat.le_refl _), Nat.sub_self]
    rfl
  · rw [if_neg e, getD_app_l (by omega)]
    exact h j (by omega)
theorem xrow_ins {f : Nat → Int32} {l : List Nat} {w t : Nat} (h : xrow f l) (ht : t ≤ l.length) : xrow (upd (xshI f l.length t) t (nI w)) (l.take t ++ w :: l.drop t) := by
  intro j hj
  have hl : (l.take t).length = t := by rw [List.length_take]; omega
  rw [List.length_append, hl, List.length_cons, List.length_drop] at hj
  unfold upd xshI
  by_cases e : j = t
  · rw [if_pos e, e, getD_app_r (by omega), hl, Nat.sub_self]
    rfl
  · rw [if_neg e]
    by_cases hlt : j < t
    · rw [if_neg (by omega), getD_app_l (by omega), h j (by omega)]
      congr 1
      rw [List.getD_eq_getElem?_getD, List.getD_eq_getElem?_getD, List.getElem?_take_of_lt hlt]
    · rw [if_pos (by omega), h (j - 1) (by omega), getD_app_r (by omega), hl, show j - t = (j - 1 - t) + 1 by omega, List.getD_cons_succ]
      congr 1
      rw [List.getD_eq_getElem?_getD, List.getD_eq_getElem?_getD, List.getElem?_drop]
      congr 2
      omega
section XARR
variable {G : xG} {d : Nat} {nx sl M tak cmt : Nat} {sv sp pl cm clk com fog : Nat → Nat} {kno : Nat → Nat → Nat} {bit : Nat → Nat} {rd wr : Nat → Nat → Nat} {tn rk at_ sz kd fr to_ ft pt mn pc : Int32} {lt : Value} {nu : Int64}
theorem m_arr1 {s : Nat} (hs : s < 5) (hP : xPI tak cmt sv sp pl cm clk com fog kno bit rd wr) {br : Nat → Int32} (hbr : ∀ r, r < cmt → br (r + 1) = nI (cm r)) : ∀ (n r : Nat) (f : Nat → Int32) (h : xH), r + n = com s → h M = some (.inr (10, xMf M tn (nI tak) rk lt at_ sz kd fr to_ ft pt nu mn pc (nI r))) → h (M + 14) = some (.inl (0, 5, .inl (fun i => nI (com i)))) → h (M + 5) = some (.inl (0, 501, .inl br)) → h (M + 40) = some (.inl (0, 500, .inl f)) → xrow f (xcms cm r) →
    ∃ h' f', h' M = some (.inr (10, xMf M tn (nI tak) rk lt at_ sz kd fr to_ ft pt nu mn pc (nI (com s)))) ∧ h' (M + 40) = some (.inl (0, 500, .inl f')) ∧ xrow f' (xcms cm (com s)) ∧ (∀ q, q ≠ M → q ≠ M + 40 → h' q = h q) ∧ ∀ res, xRun G d 104 (48, [some (.ref M), some (.int (nI s)), some (.int (nI (com s + 1))), none], [], (h', nx, sl)) res → xRun G d 104 (7, [some (.ref M), some (.int (nI s)), some (.int (nI (r + 1))), none], [], (h, nx, sl)) res := by
  obtain ⟨p1, p2, p3, p4, p5, p6, p7⟩ := hP
  have hc := (p6 s hs).2.2.2.1
  intro n
  induction n with
  | zero =>
    intro r f h hr hO h14 h5 hf hrow
    have : r = com s := by omega
    subst this
    refine ⟨h, f, hO, hf, hrow, fun _ _ _ => rfl, fun res k => ?_⟩
    refine xr_go i104_7 rfl ?_
    refine xr_go i104_8 rfl ?_
    refine xr_get i104_9 xf104_39 (by assumption) rfl rfl ?_
    refine xr_go i104_12 rfl ?_
    refine xr_iald i104_13 (by assumption) rfl (by omega) (by omega) ?_
    refine xr_icmp_gtT i104_14 (t := 48) (by decide) (nI_lt (by omega) (by omega)) ?_
    exact k
  | succ n ih =>
    intro r f h hr hO h14 h5 hf hrow
    have hrl : (xcms cm r).length = r := xcms_len
    obtain ⟨k1, ek1⟩ : ∃ z : xH, z = xup h (M + 40) (.inl (0, 500, .inl (upd f r (nI (cm r))))) := ⟨_, rfl⟩
    have k1n : ∀ q, q ≠ M + 40 → k1 q = h q := fun q hq => by rw [ek1]; exact xup_n hq
    have k1M := (k1n M (by omega)).trans hO
    obtain ⟨k2, ek2⟩ : ∃ z : xH, z = xup k1 M (.inr (10, xMf M tn (nI tak) rk lt at_ sz kd fr to_ ft pt nu mn pc (nI (r + 1)))) := ⟨_, rfl⟩
    have k2n : ∀ q, q ≠ M → k2 q = k1 q := fun q hq => by rw [ek2]; exact xup_n hq
    obtain ⟨h', f', i1, i2, i3, i4, i5⟩ := ih (r + 1) (upd f r (nI (cm r))) k2 (by omega) (by rw [ek2]; exact xup_s) ((k2n _ (by omega)).trans ((k1n _ (by omega)).trans h14)) ((k2n _ (by omega)).trans ((k1n _ (by omega)).trans h5)) ((k2n _ (by omega)).trans (by rw [ek1]; exact xup_s)) (by
      have := xrow_snoc (w := cm r) hrow
      rw [hrl] at this
      rw [xcms_succ]
      exact this)
    refine ⟨h', f', i1, i2, i3, fun q a1 a2 => (i4 q a1 a2).trans ((k2n q a1).trans (k1n q a2)), fun res k => ?_⟩
    refine xr_go i104_7 rfl ?_
    refine xr_go i104_8 rfl ?_
    refine xr_get i104_9 xf104_39 (by assumption) rfl rfl ?_
    refine xr_go i104_12 rfl ?_
    refine xr_iald i104_13 (by assumption) rfl (by omega) (by omega) ?_
    refine xr_icmp_gtF i104_14 (t := 48) (by decide) (nI_nlt (by omega) (by omega)) ?_
    refine xr_go i104_17 rfl ?_
    refine xr_get i104_18 xf104_70 (by assumption) rfl rfl ?_
    refine xr_go i104_21 rfl ?_
    refine xr_get i104_22 xf104_236 (by assumption) rfl rfl ?_
    refine xr_go i104_25 rfl ?_
    refine xr_get i104_26 xf104_23 (by assumption) rfl rfl ?_
    refine xr_go i104_29 rfl ?_
    refine xr_iald i104_30 (by assumption) rfl (by omega) (by omega) ?_
    rw [hbr r (by omega)]
    refine xr_iast i104_31 (by assumption) rfl (by omega) (by omega) (fun z1 ez1 => ?_)
    obtain rfl : z1 = k1 := ez1.trans ek1.symm
    refine xr_go i104_32 rfl ?_
    refine xr_go i104_33 rfl ?_
    refine xr_get i104_34 xf104_236 (by assumption) rfl rfl ?_
    refine xr_go i104_37 rfl ?_
    refine xr_go i104_38 rfl ?_
    refine xr_top (show _ = nI (r + 1) from nI_add r 1) ?_
    refine xr_put i104_39 xf104_236 (by assumption) ⟨rfl, Nat.le_of_ble_eq_true rfl, rfl, rfl, Or.inl rfl⟩ (fun z2 ez2 => ?_)
    obtain rfl : z2 = k2 := ez2.trans ek2.symm
    refine xr_inc1 i104_42 rfl rfl ?_
    refine xr_goto i104_45 (t := 7) (by decide) ?_
    exact i5 res k
theorem m_arr2 {s w : Nat} {L : List Nat} {f : Nat → Int32} {h : xH} (hs : s < 5) (hw : w < tak) (hP : xPI tak cmt sv sp pl cm clk com fog kno bit rd wr) (hO : h M = some (.inr (10, xMf M tn (nI tak) rk lt at_ sz kd fr to_ ft pt nu mn pc (nI L.length)))) (hm : xMd M cmt sv sp pl cm clk com fog kno bit rd wr h) (hf : h (M + 40) = some (.inl (0, 500, .inl f))) (hrow : xrow f L) (hL : ∀ x ∈ L, x < tak) (hll : L.length < 500) (hd : 1 ≤ d) : ∀ (t : Nat) (g : xH), com s ≤ t → t ≤ L.length → (∀ j, t ≤ j → j < L.length → xlt sv sp w (L.getD j 0)) → g = xup h (M + 40) (.inl (0, 500, .inl (xshI f L.length t))) →
    ∃ t', com s ≤ t' ∧ t' ≤ L.length ∧ (∀ j, t' ≤ j → j < L.length → xlt sv sp w (L.getD j 0)) ∧ (∀ k, t' = k + 1 → com s < t' → ¬ xlt sv sp w (L.getD k 0)) ∧ ∀ res, xRun G d 104 (132, [some (.ref M), some (.int (nI s)), some (.int (nI w)), some (.int (nI t'))], [], (xup h (M + 40) (.inl (0, 500, .inl (xshI f L.length t'))), nx, sl)) res → xRun G d 104 (86, [some (.ref M), some (.int (nI s)), some (.int (nI w)), some (.int (nI t))], [], (g, nx, sl)) res := by
  have hPI := hP
  obtain ⟨p1, p2, p3, p4, p5, p6, p7⟩ := hP
  intro t
  induction t with
  | zero =>
    intro g h1 h2 h3 hg
    subst hg
    have gM : (xup h (M + 40) (.inl (0, 500, .inl (xshI f L.length 0))) : xH) M = _ := (xup_n (by omega)).trans hO
    have g14 : (xup h (M + 40) (.inl (0, 500, .inl (xshI f L.length 0))) : xH) (M + 14) = _ := (xup_n (by omega)).trans hm.2.2.2.2.2.2.2.1
    refine ⟨0, h1, h2, h3, fun k e => by omega, fun res k => ?_⟩
    refine xr_go i104_86 rfl ?_
    refine xr_go i104_87 rfl ?_
    refine xr_get i104_88 xf104_39 (by assumption) rfl rfl ?_
    refine xr_go i104_91 rfl ?_
    refine xr_iald i104_92 (by assumption) rfl (by omega) (by omega) ?_
    refine xr_icmp_leT i104_93 (t := 132) (by decide) (nI_le (by omega) (by omega)) ?_
    exact k
  | succ t ih =>
    intro g h1 h2 h3 hg
    subst hg
    generalize hgg : (xup h (M + 40) (.inl (0, 500, .inl (xshI f L.length (t + 1)))) : xH) = g
    have gn : ∀ q, q ≠ M + 40 → g q = h q := fun q hq => by rw [← hgg]; exact xup_n hq
    have gM := (gn M (by omega)).trans hO
    have gm := xMd_kept hm (h' := g) (fun q a1 a2 a3 => gn q (by omega))
    have g14 := gm.2.2.2.2.2.2.2.1
    have g40 : g (M + 40) = some (.inl (0, 500, .inl (xshI f L.length (t + 1)))) := by rw [← hgg]; exact xup_s
    have c500 : com s ≤ 500 := by
      have := (p6 s hs).2.2.2.1
      omega
    by_cases hct : com s = t + 1
    · refine ⟨t + 1, h1, h2, h3, fun k e e2 => by omega, fun res k => ?_⟩
      rw [hgg] at k
      refine xr_go i104_86 rfl ?_
      refine xr_go i104_87 rfl ?_
      refine xr_get i104_88 xf104_39 (by assumption) rfl rfl ?_
      refine xr_go i104_91 rfl ?_
      refine xr_iald i104_92 (by assumption) rfl (by omega) (by omega) ?_
      refine xr_icmp_leT i104_93 (t := 132) (by decide) (nI_le (by omega) (by omega)) ?_
      exact k
    · have hx : xshI f L.length (t + 1) t = nI (L.getD t 0) := by
        unfold xshI
        rw [if_neg (by omega)]
        exact hrow t (by omega)
      have hLt : L.getD t 0 < tak := hL _ (getD_mem (by omega))
      have rb := m_isBefore (G := G) (d := d - 1) (nx := nx) (sl := sl) (w := w) (v := L.getD t 0) gM gm hPI hw hLt
      by_cases hlt : xlt sv sp w (L.getD t 0)
      · obtain ⟨t', i1, i2, i3, i4, i5⟩ := ih (xup h (M + 40) (.inl (0, 500, .inl (xshI f L.length t)))) (by omega) (by omega) (fun j a1 a2 => by
          by_cases e : j = t
          · rw [e]; exact hlt
          · exact h3 j (by omega) a2) rfl
        refine ⟨t', i1, i2, i3, i4, fun res k => ?_⟩
        have e2 : xup g (M + 40) (.inl (0, 500, .inl (upd (xshI f L.length (t + 1)) (t + 1) (nI (L.getD t 0))))) = xup h (M + 40) (.inl (0, 500, .inl (xshI f L.length t))) := by
          rw [← hgg, xup_same]
          congr 5
          funext j
          unfold upd xshI
          by_cases e : j = t + 1
          · rw [if_pos e, e, if_pos (by omega), Nat.add_sub_cancel]
            exact (hrow t (by omega)).symm
          · rw [if_neg e]
            by_cases e3 : t + 1 < j ∧ j ≤ L.length
            · rw [if_pos e3, if_pos (by omega)]
            · rw [if_neg e3, if_neg (by omega)]
        refine xr_go i104_86 rfl ?_
        refine xr_go i104_87 rfl ?_
        refine xr_get i104_88 xf104_39 (by assumption) rfl rfl ?_
        refine xr_go i104_91 rfl ?_
        refine xr_iald i104_92 (by assumption) rfl (by omega) (by omega) ?_
        refine xr_icmp_leF i104_93 (t := 132) (by decide) (nI_ge (by omega) (by omega)) ?_
        refine xr_go i104_96 rfl ?_
        refine xr_go i104_97 rfl ?_
        refine xr_go i104_98 rfl ?_
        refine xr_get i104_99 xf104_70 (by assumption) rfl rfl ?_
        refine xr_go i104_102 rfl ?_
        refine xr_go i104_103 rfl ?_
        refine xr_go i104_104 rfl ?_
        refine xr_iald i104_105 (by assumption) (pk_sub (a := t + 1) (b := 1) (by omega)) (by omega) (by omega) ?_
        rw [show t + 1 - 1 = t by omega, hx]
        refine xr_V i104_106 xc104_246 ⟨rfl, rfl⟩ xa_106 rfl (by assumption) rfl (Nat.le_of_ble_eq_true rfl) (by omega) ⟨Nat.le_of_ble_eq_true rfl, Nat.le_of_ble_eq_true rfl⟩ (rb) ?_
        refine xr_if_eqF i104_109 (t := 132) (by decide) (by rw [decide_eq_true (show sp w < sp (L.getD t 0) ∨ (sp w = sp (L.getD t 0) ∧ sv w < sv (L.getD t 0)) from hlt)]; decide) ?_
        refine xr_go i104_112 rfl ?_
        refine xr_get i104_113 xf104_70 (by assumption) rfl rfl ?_
        refine xr_go i104_116 rfl ?_
        refine xr_go i104_117 rfl ?_
        refine xr_get i104_118 xf104_70 (by assumption) rfl rfl ?_
        refine xr_go i104_121 rfl ?_
        refine xr_go i104_122 rfl ?_
        refine xr_go i104_123 rfl ?_
        refine xr_iald i104_124 (by assumption) (pk_sub (a := t + 1) (b := 1) (by omega)) (by omega) (by omega) ?_
        rw [show t + 1 - 1 = t by omega, hx]
        refine xr_iast i104_125 (by assumption) rfl (by omega) (by omega) (fun z ez => ?_)
        rw [ez, e2]
        refine xr_dec1 i104_126 rfl rfl ?_
        refine xr_goto i104_129 (t := 86) (by decide) ?_
        exact i5 res k
      · refine ⟨t + 1, h1, h2, h3, fun k e _ => by
          have : k = t := by omega
          rw [this]; exact hlt, fun res k => ?_⟩
        rw [hgg] at k
        refine xr_go i104_86 rfl ?_
        refine xr_go i104_87 rfl ?_
        refine xr_get i104_88 xf104_39 (by assumption) rfl rfl ?_
        refine xr_go i104_91 rfl ?_
        refine xr_iald i104_92 (by assumption) rfl (by omega) (by omega) ?_
        refine xr_icmp_leF i104_93 (t := 132) (by decide) (nI_ge (by omega) (by omega)) ?_
        refine xr_go i104_96 rfl ?_
        refine xr_go i104_97 rfl ?_
        refine xr_go i104_98 rfl ?_
        refine xr_get i104_99 xf104_70 (by assumption) rfl rfl ?_
        refine xr_go i104_102 rfl ?_
        refine xr_go i104_103 rfl ?_
        refine xr_go i104_104 rfl ?_
        refine xr_iald i104_105 (by assumption) (pk_sub (a := t + 1) (b := 1) (by omega)) (by omega) (by omega) ?_
        rw [show t + 1 - 1 = t by omega, hx]
        refine xr_V i104_106 xc104_246 ⟨rfl, rfl⟩ xa_106 rfl (by assumption) rfl (Nat.le_of_ble_eq_true rfl) (by omega) ⟨Nat.le_of_ble_eq_true rfl, Nat.le_of_ble_eq_true rfl⟩ (rb) ?_
        refine xr_if_eqT i104_109 (t := 132) (by decide) (by rw [decide_eq_false (show ¬ (sp w < sp (L.getD t 0) ∨ (sp w = sp (L.getD t 0) ∧ sv w < sv (L.getD t 0))) from hlt)]; decide) ?_
        exact k
set_option maxHeartbeats 4000000 in
theorem m_arr3 {s : Nat} (hs : s < 5) (hP : xPI tak cmt sv sp pl cm clk com fog kno bit rd wr) (hd : 1 ≤ d) : ∀ (n w : Nat) (tl : List Nat) (f : Nat → Int32) (h : xH) (L3 : Option Value), w + n = tak → xTL tak sv sp cm (xkw (kno s) w) (com s) tl → h M = some (.inr (10, xMf M tn (nI tak) rk lt at_ sz kd fr to_ ft pt nu mn pc (nI (com s + tl.length)))) → xMd M cmt sv sp pl cm clk com fog kno bit rd wr h → h (M + 40) = some (.inl (0, 500, .inl f)) → xrow f (xord cm (com s) tl) →
    ∃ h' f', xRun G d 104 (50, [some (.ref M), some (.int (nI s)), some (.int (nI w)), L3], [], (h, nx, sl)) (none, (h', nx, sl)) ∧ h' M = some (.inr (10, xMf M tn (nI tak) rk lt at_ sz kd fr to_ ft pt nu mn pc (nI (xLs tak sv sp cm (kno s) (com s)).length))) ∧ h' (M + 40) = some (.inl (0, 500, .inl f')) ∧ xrow f' (xLs tak sv sp cm (kno s) (com s)) ∧ ∀ q, q ≠ M → q ≠ M + 40 → h' q = h q := by
  have hPI := hP
  obtain ⟨p1, p2, p3, p4, p5, p6, p7⟩ := hP
  obtain ⟨a1, a2, a3, a4, a5, a6, a7, a8⟩ := p6 s hs
  intro n
  induction n with
  | zero =>
    intro w tl f h L3 hwn hT hO hm hf hrow
    have : w = tak := by omega
    subst this
    have ek : xkw (kno s) w = kno s := by
      funext v
      unfold xkw
      split
      · rfl
      · rcases a1 v with e | e
        · exact e.symm
        · exact absurd (a2 v e) (by omega)
    rw [ek] at hT
    have eL := xLs_eq hT
    refine ⟨h, f, ?_, ?_, hf, by rw [eL]; exact hrow, fun _ _ _ => rfl⟩
    · refine xr_go i104_50 rfl ?_
      refine xr_go i104_51 rfl ?_
      refine xr_get i104_52 xf104_239 (by assumption) rfl rfl ?_
      refine xr_icmp_geT i104_55 (t := 155) (by decide) (nI_le (by omega) (by omega)) ?_
      exact xr_end i104_155 rfl
    · rw [eL]
      unfold xord
      rw [List.length_append, xcms_len]
      exact hO
  | succ n ih =>
    intro w tl f h L3 hwn hT hO hm hf hrow
    have hw : w < tak := by omega
    have hk5 := hm.2.2.2.2.1
    obtain ⟨fk, hk7, hk8⟩ := hk5
    have hks := hk8 s hs
    have hkr := hm.2.2.2.2.2.1 s hs
    have skip : xTL tak sv sp cm (xkw (kno s) (w + 1)) (com s) tl → (∀ res, xRun G d 104 (149, [some (.ref M), some (.int (nI s)), some (.int (nI w)), L3], [], (h, nx, sl)) res → xRun G d 104 (50, [some (.ref M), some (.int (nI s)), some (.int (nI w)), L3], [], (h, nx, sl)) res) → ∃ h' f', xRun G d 104 (50, [some (.ref M), some (.int (nI s)), some (.int (nI w)), L3], [], (h, nx, sl)) (none, (h', nx, sl)) ∧ h' M = some (.inr (10, xMf M tn (nI tak) rk lt at_ sz kd fr to_ ft pt nu mn pc (nI (xLs tak sv sp cm (kno s) (com s)).length))) ∧ h' (M + 40) = some (.inl (0, 500, .inl f')) ∧ xrow f' (xLs tak sv sp cm (kno s) (com s)) ∧ ∀ q, q ≠ M → q ≠ M + 40 → h' q = h q := by
      intro hT' run
      obtain ⟨h', f', r, i⟩ := ih (w + 1) tl f h L3 (by omega) hT' hO hm hf hrow
      refine ⟨h', f', run _ ?_, i⟩
      refine xr_inc1 i104_149 rfl rfl ?_
      refine xr_goto i104_152 (t := 50) (by decide) ?_
      exact r
    rcases a1 w with hk | hk
    · refine skip ?_ (fun res k => ?_)
      · have : xkw (kno s) (w + 1) = xkw (kno s) w := by
          funext v
          unfold xkw
          by_cases e : v = w
          · rw [e, if_pos (by omega), if_neg (by omega)]
            exact hk
          · by_cases e2 : v < w
            · rw [if_pos (by omega), if_pos e2]
            · rw [if_neg (by omega), if_neg e2]
        rw [this]
        exact hT
      · refine xr_go i104_50 rfl ?_
        refine xr_go i104_51 rfl ?_
        refine xr_get i104_52 xf104_239 (by assumption) rfl rfl ?_
        refine xr_icmp_geF i104_55 (t := 155) (by decide) (nI_ge (by omega) (by omega)) ?_
        refine xr_go i104_58 rfl ?_
        refine xr_get i104_59 xf104_33 (by assumption) rfl rfl ?_
        refine xr_go i104_62 rfl ?_
        refine xr_aald i104_63 (by assumption) (by decide) rfl (by omega) (by omega) (by assumption) ?_
        refine xr_go i104_64 rfl ?_
        refine xr_zald i104_65 (by assumption) rfl (by omega) (by omega) ?_
        refine xr_if_eqT i104_66 (t := 149) (by decide) (by rw [hk]; decide) ?_
        exact k
    · have rc := m_isCommitted (G := G) (d := d - 1) (nx := nx) (sl := sl) (s := s) (w := w) hO hm hPI hs hw
      by_cases hcm : w ∈ xcms cm (com s)
      · rw [decide_eq_true hcm] at rc
        refine skip ?_ (fun res k => ?_)
        · refine ⟨hT.1, fun v => ?_⟩
          rw [hT.2 v]
          unfold xkw
          constructor
          · rintro ⟨g1, g2, g3⟩
            refine ⟨g1, ?_, g3⟩
            split at g2
            · rw [if_pos (by omega)]
              exact g2
            · omega
          · rintro ⟨g1, g2, g3⟩
            refine ⟨g1, ?_, g3⟩
            have hne : v ≠ w := fun z => g3 (z ▸ hcm)
            split at g2
            · rw [if_pos (by omega)]
              exact g2
            · omega
        · refine xr_go i104_50 rfl ?_
          refine xr_go i104_51 rfl ?_
          refine xr_get i104_52 xf104_239 (by assumption) rfl rfl ?_
          refine xr_icmp_geF i104_55 (t := 155) (by decide) (nI_ge (by omega) (by omega)) ?_
          refine xr_go i104_58 rfl ?_
          refine xr_get i104_59 xf104_33 (by assumption) rfl rfl ?_
          refine xr_go i104_62 rfl ?_
          refine xr_aald i104_63 (by assumption) (by decide) rfl (by omega) (by omega) (by assumption) ?_
          refine xr_go i104_64 rfl ?_
          refine xr_zald i104_65 (by assumption) rfl (by omega) (by omega) ?_
          refine xr_if_eqF i104_66 (t := 149) (by decide) (by rw [hk]; decide) ?_
          refine xr_go i104_69 rfl ?_
          refine xr_go i104_70 rfl ?_
          refine xr_go i104_71 rfl ?_
          refine xr_V i104_72 xc104_242 ⟨rfl, rfl⟩ xa_105 rfl (by assumption) rfl (Nat.le_of_ble_eq_true rfl) (by omega) ⟨Nat.le_of_ble_eq_true rfl, Nat.le_of_ble_eq_true rfl⟩ (rc) ?_
          refine xr_if_eqF i104_75 (t := 81) (by decide) (by decide) ?_
          refine xr_goto i104_78 (t := 149) (by decide) ?_
          exact k
      · rw [decide_eq_false hcm] at rc
        have hordl : (xord cm (com s) tl).length = com s + tl.length := by
          unfold xord
          rw [List.length_append, xcms_len]
        have hwt : w ∉ tl := fun z => by
          have := ((hT.2 w).mp z).2.1
          unfold xkw at this
          rw [if_neg (by omega)] at this
          omega
        have hlen : com s + tl.length < tak := by
          have := nd_le tak (w :: xord cm (com s) tl) (List.nodup_cons.mpr ⟨fun z => by
            rcases List.mem_append.mp z with z | z
            · exact hcm z
            · exact hwt z, xord_nodup p4 a4 hT⟩) (fun x hx => by
            rcases List.mem_cons.mp hx with rfl | hx
            · exact hw
            · rcases List.mem_append.mp hx with hx | hx
              · obtain ⟨r, hr, e⟩ := xcms_mem.mp hx
                exact e ▸ p4.2.1 r (by omega)
              · exact ((hT.2 x).mp hx).1)
          rw [List.length_cons, hordl] at this
          omega
        have hLb : ∀ x ∈ xord cm (com s) tl, x < tak := fun x hx => by
          rcases List.mem_append.mp hx with hx | hx
          · obtain ⟨r, hr, e⟩ := xcms_mem.mp hx
            exact e ▸ p4.2.1 r (by omega)
          · exact ((hT.2 x).mp hx).1
        rw [← hordl] at hO
        have esh : h = xup h (M + 40) (.inl (0, 500, .inl (xshI f (xord cm (com s) tl).length (xord cm (com s) tl).length))) := by
          funext q
          by_cases e : q = M + 40
          · rw [e, xup_s, hf]
            congr 5
            funext j
            unfold xshI
            rw [if_neg (by omega)]
          · exact (xup_n e).symm
        obtain ⟨t, b1, b2, b3, b4, b5⟩ := m_arr2 (G := G) (d := d) (nx := nx) (sl := sl) (L := xord cm (com s) tl) hs hw hPI hO hm hf hrow hLb (by omega) hd (xord cm (com s) tl).length h (by omega) (Nat.le_refl _) (fun j h1 h2 => by omega) esh
        obtain ⟨k1, ek1⟩ : ∃ z : xH, z = xup h (M + 40) (.inl (0, 500, .inl (xshI f (xord cm (com s) tl).length t))) := ⟨_, rfl⟩
        rw [← ek1] at b5
        have k1n : ∀ q, q ≠ M + 40 → k1 q = h q := fun q hq => by rw [ek1]; exact xup_n hq
        have k1M := (k1n M (by omega)).trans hO
        have k1g : k1 (M + 40) = some (.inl (0, 500, .inl (xshI f (xord cm (com s) tl).length t))) := by rw [ek1]; exact xup_s
        obtain ⟨k2, ek2⟩ : ∃ z : xH, z = xup k1 (M + 40) (.inl (0, 500, .inl (upd (xshI f (xord cm (com s) tl).length t) t (nI w)))) := ⟨_, rfl⟩
        have k2n : ∀ q, q ≠ M + 40 → k2 q = h q := fun q hq => by rw [ek2, xup_n hq]; exact k1n q hq
        have k2M := (k2n M (by omega)).trans hO
        obtain ⟨k3, ek3⟩ : ∃ z : xH, z = xup k2 M (.inr (10, xMf M tn (nI tak) rk lt at_ sz kd fr to_ ft pt nu mn pc (nI ((xord cm (com s) tl).length + 1)))) := ⟨_, rfl⟩
        have k3n : ∀ q, q ≠ M → k3 q = k2 q := fun q hq => by rw [ek3]; exact xup_n hq
        have eins : (xord cm (com s) tl).take t ++ w :: (xord cm (com s) tl).drop t = xord cm (com s) (tl.take (t - com s) ++ w :: tl.drop (t - com s)) := by
          unfold xord
          rw [List.take_append, List.drop_append, xcms_len, List.take_of_length_le (by rw [xcms_len]; omega), List.drop_of_length_le (l := xcms cm (com s)) (by rw [xcms_len]; omega), List.nil_append, List.append_assoc]
        have hT2 : xTL tak sv sp cm (xkw (kno s) (w + 1)) (com s) (tl.take (t - com s) ++ w :: tl.drop (t - com s)) := by
          have ekw : va_up (xkw (kno s) w) w 1 = xkw (kno s) (w + 1) := by
            funext v
            unfold va_up xkw
            by_cases e : v = w
            · rw [if_pos e, if_pos (by omega), e, hk]
            · rw [if_neg e]
              by_cases e2 : v < w
              · rw [if_pos e2, if_pos (by omega)]
              · rw [if_neg e2, if_neg (by omega)]
          rw [← ekw]
          refine xTL_ins p4 hT hw (by unfold xkw; rw [if_neg (by omega)]) hcm (fun x hx => ?_) (fun k e => ?_) (by omega)
          · obtain ⟨i, hi, rfl⟩ := List.getElem_of_mem hx
            rw [List.length_drop] at hi
            have := b3 (t + i) (by omega) (by omega)
            unfold xord at this
            rw [getD_app_r (by rw [xcms_len]; omega), xcms_len, List.getD_eq_getElem?_getD, List.getElem?_eq_getElem (by omega)] at this
            rw [List.getElem_drop]
            have e2 : t - com s + i = t + i - com s := by omega
            simp only [e2]
            exact this
          · have := b4 (com s + k) (by omega) (by omega)
            unfold xord at this
            rw [getD_app_r (by rw [xcms_len]; omega), xcms_len, show com s + k - com s = k by omega] at this
            exact this
        have hl2 : (tl.take (t - com s) ++ w :: tl.drop (t - com s)).length = tl.length + 1 := by
          rw [List.length_append, List.length_cons, List.length_take, List.length_drop]
          omega
        obtain ⟨h', f', r, i1, i2, i3, i4⟩ := ih (w + 1) _ (upd (xshI f (xord cm (com s) tl).length t) t (nI w)) k3 (some (.int (nI t))) (by omega) hT2 (by rw [hl2, ek3, show com s + (tl.length + 1) = (xord cm (com s) tl).length + 1 by omega]; exact xup_s) (xMd_kept hm (fun q z1 z2 z3 => (k3n q (by omega)).trans (k2n q (by omega)))) ((k3n _ (by omega)).trans (by rw [ek2]; exact xup_s)) (by rw [← eins]; exact xrow_ins hrow b2)
        refine ⟨h', f', ?_, i1, i2, i3, fun q z1 z2 => (i4 q z1 z2).trans ((k3n q z1).trans (k2n q z2))⟩
        refine xr_go i104_50 rfl ?_
        refine xr_go i104_51 rfl ?_
        refine xr_get i104_52 xf104_239 (by assumption) rfl rfl ?_
        refine xr_icmp_geF i104_55 (t := 155) (by decide) (nI_ge (by omega) (by omega)) ?_
        refine xr_go i104_58 rfl ?_
        refine xr_get i104_59 xf104_33 (by assumption) rfl rfl ?_
        refine xr_go i104_62 rfl ?_
        refine xr_aald i104_63 (by assumption) (by decide) rfl (by omega) (by omega) (by assumption) ?_
        refine xr_go i104_64 rfl ?_
        refine xr_zald i104_65 (by assumption) rfl (by omega) (by omega) ?_
        refine xr_if_eqF i104_66 (t := 149) (by decide) (by rw [hk]; decide) ?_
        refine xr_go i104_69 rfl ?_
        refine xr_go i104_70 rfl ?_
        refine xr_go i104_71 rfl ?_
        refine xr_V i104_72 xc104_242 ⟨rfl, rfl⟩ xa_105 rfl (by assumption) rfl (Nat.le_of_ble_eq_true rfl) (by omega) ⟨Nat.le_of_ble_eq_true rfl, Nat.le_of_ble_eq_true rfl⟩ (rc) ?_
        refine xr_if_eqT i104_75 (t := 81) (by decide) (by decide) ?_
        refine xr_go i104_81 rfl ?_
        refine xr_get i104_82 xf104_236 (by assumption) rfl rfl ?_
        refine xr_go i104_85 rfl ?_
        refine b5 _ ?_
        refine xr_go i104_132 rfl ?_
        refine xr_get i104_133 xf104_70 (by assumption) rfl rfl ?_
        refine xr_go i104_136 rfl ?_
        refine xr_go i104_137 rfl ?_
        refine xr_iast i104_138 (by assumption) rfl (by omega) (by omega) (fun z2 ez2 => ?_)
        obtain rfl : z2 = k2 := ez2.trans ek2.symm
        refine xr_go i104_139 rfl ?_
        refine xr_go i104_140 rfl ?_
        refine xr_get i104_141 xf104_236 (by assumption) rfl rfl ?_
        refine xr_go i104_144 rfl ?_
        refine xr_go i104_145 rfl ?_
        refine xr_top (show _ = nI ((xord cm (com s) tl).length + 1) from nI_add _ 1) ?_
        refine xr_put i104_146 xf104_236 (by assumption) ⟨rfl, Nat.le_of_ble_eq_true rfl, rfl, rfl, Or.inl rfl⟩ (fun z3 ez3 => ?_)
        obtain rfl : z3 = k3 := ez3.trans ek3.symm
        refine xr_inc1 i104_149 rfl rfl ?_
        refine xr_goto i104_152 (t := 50) (by decide) ?_
        exact r
theorem m_arrange {s : Nat} {h : xH} {od : Int32} {f : Nat → Int32} (hs : s < 5) (hP : xPI tak cmt sv sp pl cm clk com fog kno bit rd wr) (hd : 1 ≤ d) (hO : h M = some (.inr (10, xMf M tn (nI tak) rk lt at_ sz kd fr to_ ft pt nu mn pc od))) (hm : xMd M cmt sv sp pl cm clk com fog kno bit rd wr h) (hf : h (M + 40) = some (.inl (0, 500, .inl f))) :
    ∃ h' f', xRun G d 104 (0, [some (.ref M), some (.int (nI s)), none, none], [], (h, nx, sl)) (none, (h', nx, sl)) ∧ h' M = some (.inr (10, xMf M tn (nI tak) rk lt at_ sz kd fr to_ ft pt nu mn pc (nI (xLs tak sv sp cm (kno s) (com s)).length))) ∧ h' (M + 40) = some (.inl (0, 500, .inl f')) ∧ xrow f' (xLs tak sv sp cm (kno s) (com s)) ∧ ∀ q, q ≠ M → q ≠ M + 40 → h' q = h q := by
  obtain ⟨br, hb1, hb2⟩ := hm.2.2.2.1
  have h14 := hm.2.2.2.2.2.2.2.1
  obtain ⟨k1, ek1⟩ : ∃ z : xH, z = xup h M (.inr (10, xMf M tn (nI tak) rk lt at_ sz kd fr to_ ft pt nu mn pc (nI 0))) := ⟨_, rfl⟩
  have k1n : ∀ q, q ≠ M → k1 q = h q := fun q hq => by rw [ek1]; exact xup_n hq
  obtain ⟨k2, f2, j1, j2, j3, j4, j5⟩ := m_arr1 (G := G) (d := d) (nx := nx) (sl := sl) (M := M) hs hP hb2 (com s) 0 f k1 (by omega) (by rw [ek1]; exact xup_s) ((k1n _ (by omega)).trans h14) ((k1n _ (by omega)).trans hb1) ((k1n _ (by omega)).trans hf) (fun j hj => by rw [xcms_len] at hj; omega)
  have hT0 : xTL tak sv sp cm (xkw (kno s) 0) (com s) [] := ⟨List.Pairwise.nil, fun w => ⟨fun z => by simp at z, fun z => by
    have := z.2.1
    unfold xkw at this
    rw [if_neg (by omega)] at this
    omega⟩⟩
  obtain ⟨h', f', r, i1, i2, i3, i4⟩ := m_arr3 (G := G) (d := d) (nx := nx) (sl := sl) hs hP hd tak 0 [] f2 k2 none (by omega) hT0 j1 (xMd_kept hm (fun q z1 z2 z3 => (j4 q (by omega) (by omega)).trans (k1n q (by omega)))) j2 (by
    show xrow f2 (xcms cm (com s) ++ [])
    rw [List.append_nil]
    exact j3)
  refine ⟨h', f', ?_, i1, i2, i3, fun q z1 z2 => (i4 q z1 z2).trans ((j4 q z1 z2).trans (k1n q z1))⟩
  refine xr_go i104_0 rfl ?_
  refine xr_go i104_1 rfl ?_
  refine xr_put i104_2 xf104_236 (by assumption) ⟨rfl, Nat.le_of_ble_eq_true rfl, rfl, rfl, Or.inl rfl⟩ (fun z1 ez1 => ?_)
  obtain rfl : z1 = k1 := ez1.trans ek1.symm
  refine xr_go i104_5 rfl ?_
  refine xr_go i104_6 rfl ?_
  refine j5 _ ?_
  refine xr_go i104_48 rfl ?_
  refine xr_go i104_49 rfl ?_
  exact r
end XARR

