/-! ===== the model: committing, meeting ===== -/
theorem vu_vu {α : Type} {f : Nat → α} {i : Nat} {x y : α} : va_up (va_up f i x) i y = va_up f i y := by
  funext j
  unfold va_up
  split
  · rfl
  · rfl
section XMMEET
variable {G : xG} {d : Nat} {h h' : xH} {sl : Nat} {M nx nx' tak cmt : Nat} {sv sp pl cm : Nat → Nat} {pg : Nat → List (Nat × Int32)} {clk com fog : Nat → Nat} {kno : Nat → Nat → Nat} {bit : Nat → Nat} {rd wr : Nat → Nat → Nat} {lat : Option (List (Nat × Int32))} {tn : Nat} {tb : Nat → Nat}
theorem m_commit_loop {lt : Value} {at_ sz kd fr to_ ft pt mn pc tnI : Int32} {nu : Int64} {f : Nat → Int32} {L : List Nat} (n : Nat) (hn : n < 2 ^ 31) (hL5 : L.length ≤ 500) (hf : xrow f L) (hLt : ∀ x ∈ L, x < 500) : ∀ (l pre rest : List Nat) (i cmt : Nat) (cm pl : Nat → Nat) (h : xH), L = pre ++ (l ++ rest) → (rest = [] ∨ i + l.length = n) → i + l.length ≤ n → cmt = pre.length → h M = some (.inr (10, xMf M tnI (nI tak) (nI cmt) lt at_ sz kd fr to_ ft pt nu mn pc (nI L.length))) → xMd M cmt sv sp pl cm clk com fog kno bit rd wr h → h (M + 40) = some (.inl (0, 500, .inl f)) →
    ∃ h', h' M = some (.inr (10, xMf M tnI (nI tak) (nI (cmt + l.length)) lt at_ sz kd fr to_ ft pt nu mn pc (nI L.length))) ∧ xMd M (cmt + l.length) sv sp (xcom l cmt cm pl).2 (xcom l cmt cm pl).1 clk com fog kno bit rd wr h' ∧ (∀ q, q ≠ M → q ≠ M + 4 → q ≠ M + 5 → h' q = h q) ∧ ∀ res, xRun G d 111 (82, [some (.ref M), some (.int (nI n)), some (.int (nI (i + l.length))), some (.int (nI (pre.length + l.length)))], [], (h', nx, sl)) res → xRun G d 111 (20, [some (.ref M), some (.int (nI n)), some (.int (nI i)), some (.int (nI pre.length))], [], (h, nx, sl)) res := by
  intro l
  induction l with
  | nil =>
    intro pre rest i cmt cm pl h hL hor hin hcp hO hm h40
    refine ⟨h, hO, hm, fun _ _ _ _ => rfl, fun res r => ?_⟩
    simp only [List.length_nil, Nat.add_zero] at r hor hin
    have hLl : L.length = pre.length + rest.length := by
      rw [hL, List.length_append, List.nil_append]
    refine xr_go i111_20 rfl ?_
    refine xr_go i111_21 rfl ?_
    refine xr_get i111_22 xf111_236 (by assumption) rfl rfl ?_
    by_cases e : rest = []
    · rw [e] at hLl
      simp at hLl
      refine xr_icmp_geT i111_25 (t := 82) (by decide) (by rw [hLl]; exact Int32.le_refl _) ?_
      exact r
    · have hne : 0 < rest.length := List.length_pos_iff.mpr e
      refine xr_icmp_geF i111_25 (t := 82) (by decide) (nI_ge (by omega) (by omega)) ?_
      refine xr_go i111_28 rfl ?_
      refine xr_go i111_29 rfl ?_
      refine xr_icmp_geT i111_30 (t := 82) (by decide) (nI_le (by have := hor.resolve_left e; omega) (by omega)) ?_
      exact r
  | cons w l ih =>
    intro pre rest i cmt cm pl h hL hor hin hcp hO hm h40
    simp only [List.length_cons] at hor hin
    have hLl : L.length = pre.length + (l.length + 1 + rest.length) := by
      rw [hL, List.length_append, List.length_append, List.length_cons]
    have hLw : L.getD pre.length 0 = w := by
      rw [hL, getD_app_r (Nat.le_refl _), Nat.sub_self]
      rfl
    have hfk : f pre.length = nI w := by rw [hf _ (by omega), hLw]
    have hw5 : w < 500 := hLt w (by rw [hL]; simp)
    obtain ⟨k1, ek1⟩ : ∃ z : xH, z = xup h M (.inr (10, xMf M tnI (nI tak) (nI (cmt + 1)) lt at_ sz kd fr to_ ft pt nu mn pc (nI L.length))) := ⟨_, rfl⟩
    have k1n : ∀ q, q ≠ M → k1 q = h q := fun q hq => by rw [ek1]; exact xup_n hq
    have k1M : k1 M = some (.inr (10, xMf M tnI (nI tak) (nI (cmt + 1)) lt at_ sz kd fr to_ ft pt nu mn pc (nI L.length))) := by rw [ek1]; exact xup_s
    have m1 := xMd_kept hm (h' := k1) (fun q a1 a2 a3 => k1n q (by omega))
    have k14 := m1.2.2.1
    have k140 := (k1n (M + 40) (by omega)).trans h40
    obtain ⟨k2, ek2⟩ : ∃ z : xH, z = xup k1 (M + 4) (.inl (0, 500, .inl (fun i => nI (va_up pl w (cmt + 1) i)))) := ⟨_, rfl⟩
    have k2n : ∀ q, q ≠ M + 4 → k2 q = k1 q := fun q hq => by rw [ek2]; exact xup_n hq
    have k2M := (k2n M (by omega)).trans k1M
    have m2 := xMd_pl (h' := k2) (pl' := va_up pl w (cmt + 1)) m1 (fun q a1 a2 a3 a4 => k2n q a4) (by rw [ek2]; exact xup_s)
    have k240 := (k2n (M + 40) (by omega)).trans k140
    obtain ⟨f5, k25, k25'⟩ := m2.2.2.2.1
    obtain ⟨k3, ek3⟩ : ∃ z : xH, z = xup k2 (M + 5) (.inl (0, 501, .inl (upd f5 (cmt + 1) (nI w)))) := ⟨_, rfl⟩
    have k3n : ∀ q, q ≠ M + 5 → k3 q = k2 q := fun q hq => by rw [ek3]; exact xup_n hq
    have m3 := xMd_cm (h' := k3) (cmt' := cmt + 1) (cm' := va_up cm cmt w) m2 (fun q a1 a2 a3 a4 => k3n q a4) ⟨_, by rw [ek3]; exact xup_s, fun r hr => by
      unfold upd
      by_cases e : r = cmt
      · rw [if_pos (by omega), e, vu_at]
      · rw [if_neg (by omega), vu_ne e]
        exact k25' r (by omega)⟩
    obtain ⟨h', i1, i2, i3, i4⟩ := ih (pre ++ [w]) rest (i + 1) (cmt + 1) (va_up cm cmt w) (va_up pl w (cmt + 1)) k3 (by rw [hL]; simp) (hor.imp id (fun z => by omega)) (by omega) (by rw [hcp]; simp) ((k3n M (by omega)).trans k2M) m3 ((k3n _ (by omega)).trans k240)
    have hl1 : (pre ++ [w]).length = pre.length + 1 := by simp
    rw [show cmt + 1 + l.length = cmt + (l.length + 1) by omega] at i1 i2
    refine ⟨h', i1, i2, fun q a1 a2 a3 => (i3 q a1 a2 a3).trans ((k3n q a3).trans ((k2n q a2).trans (k1n q a1))), fun res r => ?_⟩
    simp only [List.length_cons] at r
    have rr := i4 res (by rw [hl1, show i + 1 + l.length = i + (l.length + 1) by omega, show pre.length + 1 + l.length = pre.length + (l.length + 1) by omega]; exact r)
    rw [hl1] at rr
    refine xr_go i111_20 rfl ?_
    refine xr_go i111_21 rfl ?_
    refine xr_get i111_22 xf111_236 (by assumption) rfl rfl ?_
    refine xr_icmp_geF i111_25 (t := 82) (by decide) (nI_ge (by omega) (by omega)) ?_
    refine xr_go i111_28 rfl ?_
    refine xr_go i111_29 rfl ?_
    refine xr_icmp_geF i111_30 (t := 82) (by decide) (nI_ge (by omega) (by omega)) ?_
    refine xr_go i111_33 rfl ?_
    refine xr_go i111_34 rfl ?_
    refine xr_get i111_35 xf111_285 (by assumption) rfl rfl ?_
    refine xr_go i111_38 rfl ?_
    refine xr_go i111_39 rfl ?_
    refine xr_top (show _ = nI (cmt + 1) from nI_add cmt 1) ?_
    refine xr_put i111_40 xf111_285 (by assumption) ⟨rfl, Nat.le_of_ble_eq_true rfl, rfl, rfl, Or.inl rfl⟩ (fun z1 ez1 => ?_)
    obtain rfl : z1 = k1 := ez1.trans ek1.symm
    refine xr_go i111_43 rfl ?_
    refine xr_get i111_44 xf111_20 (by assumption) rfl rfl ?_
    refine xr_go i111_47 rfl ?_
    refine xr_get i111_48 xf111_70 (by assumption) rfl rfl ?_
    refine xr_go i111_51 rfl ?_
    refine xr_iald i111_52 (by assumption) rfl (by omega) (by omega) ?_
    refine xr_go i111_53 rfl ?_
    refine xr_get i111_54 xf111_285 (by assumption) rfl rfl ?_
    rw [hfk]
    refine xr_iast i111_57 (by assumption) rfl (by omega) (by omega) (fun z2 ez2 => ?_)
    obtain rfl : z2 = k2 := ez2.trans (by rw [ek2, xupdN])
    refine xr_go i111_58 rfl ?_
    refine xr_get i111_59 xf111_23 (by assumption) rfl rfl ?_
    refine xr_go i111_62 rfl ?_
    refine xr_get i111_63 xf111_285 (by assumption) rfl rfl ?_
    refine xr_go i111_66 rfl ?_
    refine xr_get i111_67 xf111_70 (by assumption) rfl rfl ?_
    refine xr_go i111_70 rfl ?_
    refine xr_iald i111_71 (by assumption) rfl (by omega) (by omega) ?_
    rw [hfk]
    refine xr_iast i111_72 (by assumption) rfl (by omega) (by omega) (fun z3 ez3 => ?_)
    obtain rfl : z3 = k3 := ez3.trans ek3.symm
    refine xr_inc1 i111_73 rfl rfl ?_
    refine xr_inc1 i111_76 rfl rfl ?_
    refine xr_goto i111_79 (t := 20) (by decide) ?_
    exact rr
theorem M_commit (hM : xMod M nx tak cmt sv sp pl cm pg clk com fog kno bit rd wr lat tn tb h) (hP : xPI tak cmt sv sp pl cm clk com fog kno bit rd wr) (x : Int32) (hd : 2 ≤ d) :
    (x < 0 → xRun G d 111 (0, [some (.ref M), some (.int x), none, none], [], (h, nx, sl)) (some (.int (-1)), (h, nx, sl))) ∧ ∀ n, x = nI n → n < 2 ^ 31 → ∃ h', xRun G d 111 (0, [some (.ref M), some (.int x), none, none], [], (h, nx, sl)) (some (.int (nI (vCom tak sv sp cm com kno n).length)), (h', nx, sl)) ∧ xMod M nx tak (cmt + (vCom tak sv sp cm com kno n).length) sv sp (xcom (vCom tak sv sp cm com kno n) cmt cm pl).2 (xcom (vCom tak sv sp cm com kno n) cmt cm pl).1 pg clk (va_up com 0 (cmt + (vCom tak sv sp cm com kno n).length)) fog kno bit rd wr lat tn tb h' ∧ xmo M nx h h' := by
  constructor
  · intro hx
    refine xr_go i111_0 rfl ?_
    refine xr_if_geF i111_1 (t := 6) (by decide) (Int32.not_le.mpr hx) ?_
    refine xr_go i111_4 rfl ?_
    exact xr_iret i111_5 xt_111 rfl
  · rintro n rfl hn
    obtain ⟨lt, at_, sz, kd, fr, to_, ft, pt, nu, mn, pc, od, hO, ⟨ft1, t1, t2⟩, hm, hr, hw, hl, hnx⟩ := hM
    obtain ⟨r35, r36, r37, r38, r39, ⟨fo, r40⟩⟩ := id hr
    obtain ⟨k1, f1, r1, i1, i2, i3, i4⟩ := m_arrange (G := G) (d := d - 1) (nx := nx) (sl := sl) (s := 0) (by omega) hP (by omega) hO hm r40
    have hT := (hP.2.2.2.2.2.1 0 (by omega)).2.2.2.2.2.2.2
    have hc0 : com 0 = cmt := hP.2.2.2.2.1.1
    have hll := xLs_len (s := 0) hP (by omega)
    have ht5 := hP.1
    have m1 := xMd_kept hm (h' := k1) (fun q a1 a2 a3 => i4 q (by omega) (by omega))
    have k114 := m1.2.2.2.2.2.2.2.1
    have eL : xLs tak sv sp cm (kno 0) (com 0) = xcms cm (com 0) ++ ((vCom tak sv sp cm com kno n) ++ (xtl tak sv sp cm (kno 0) (com 0)).drop n) := by
      rw [xLs_eq hT]
      unfold vCom xord
      rw [List.take_append_drop]
    have hLt : ∀ x ∈ xLs tak sv sp cm (kno 0) (com 0), x < 500 := fun x hx => by
      have := ((xLs_mem hP (by omega) x).mp hx).1
      omega
    have hvl : (vCom tak sv sp cm com kno n).length = min n (xtl tak sv sp cm (kno 0) (com 0)).length := by
      unfold vCom
      rw [List.length_take]
    obtain ⟨k2, j1, j2, j3, j4⟩ := m_commit_loop (G := G) (d := d) (nx := nx) (sl := sl) n hn (by omega) i3 hLt (vCom tak sv sp cm com kno n) (xcms cm (com 0)) ((xtl tak sv sp cm (kno 0) (com 0)).drop n) 0 cmt cm pl k1 eL (by
      by_cases e : n ≤ (xtl tak sv sp cm (kno 0) (com 0)).length
      · right
        omega
      · left
        exact List.drop_eq_nil_of_le (by omega)) (by omega) (by rw [xcms_len, hc0]) i1 m1 i2
    generalize vCom tak sv sp cm com kno n = l at *
    have k214 := j2.2.2.2.2.2.2.2.1
    obtain ⟨k3, ek3⟩ : ∃ z : xH, z = xup k2 (M + 14) (.inl (0, 5, .inl (fun i => nI (va_up com 0 (cmt + l.length) i)))) := ⟨_, rfl⟩
    have k3n : ∀ q, q ≠ M + 14 → k3 q = k2 q := fun q hq => by rw [ek3]; exact xup_n hq
    have m3 := xMd_com (h' := k3) (com' := va_up com 0 (cmt + l.length)) j2 (fun q a1 a2 a3 a4 => k3n q a4) (by rw [ek3]; exact xup_s)
    have o3 : ∀ q, q ≠ M → (q < M + 2 ∨ M + 34 < q ∨ q = M + 6) → q ≠ M + 40 → k3 q = h q := fun q a1 a2 a3 => (k3n q (by omega)).trans ((j3 q a1 (by omega) (by omega)).trans (i4 q a1 a3))
    have k3M := (k3n M (by omega)).trans j1
    refine ⟨k3, ?_, ⟨lt, at_, sz, kd, fr, to_, ft, pt, nu, mn, pc, _, k3M, ⟨ft1, (o3 _ (by omega) (by omega) (by omega)).trans t1, t2⟩, m3, ?_, xMw_kept hw (o3 _ (by omega) (by omega) (by omega)) (Nat.le_refl _) (fun q a1 a2 a3 => o3 q (by omega) (by omega) (by omega)), xMl_kept hl (Nat.le_refl _) (fun q a1 a2 a3 => o3 q (by omega) (by omega) (by omega)), hnx⟩, fun q a1 a2 => o3 q (by omega) (by omega) (by omega)⟩
    · have k1M := i1
      refine xr_go i111_0 rfl ?_
      refine xr_if_geT i111_1 (t := 6) (by decide) (nI_pos' hn) ?_
      refine xr_go i111_6 rfl ?_
      refine xr_go i111_7 rfl ?_
      refine xr_V i111_8 xc111_249 ⟨rfl, rfl⟩ xa_104 rfl (by assumption) rfl (Nat.le_of_ble_eq_true rfl) (by omega) ⟨Nat.le_of_ble_eq_true rfl, Nat.le_of_ble_eq_true rfl⟩ (r1) ?_
      refine xr_go i111_11 rfl ?_
      refine xr_go i111_12 rfl ?_
      refine xr_go i111_13 rfl ?_
      refine xr_get i111_14 xf111_39 (by assumption) rfl rfl ?_
      refine xr_go i111_17 rfl ?_
      refine xr_iald i111_18 k114 (j := 0) rfl (by omega) (by omega) ?_
      rw [show nI (com 0) = nI (xcms cm (com 0)).length by rw [xcms_len]]
      refine xr_go i111_19 rfl ?_
      refine j4 _ ?_
      rw [Nat.zero_add]
      refine xr_go i111_82 rfl ?_
      refine xr_get i111_83 xf111_39 (by assumption) rfl rfl ?_
      refine xr_go i111_86 rfl ?_
      refine xr_go i111_87 rfl ?_
      refine xr_iald i111_88 k214 (j := 0) rfl (by omega) (by omega) ?_
      refine xr_go i111_89 rfl ?_
      refine xr_go i111_90 rfl ?_
      refine xr_top (show _ = nI (cmt + l.length) from (nI_add (com 0) l.length).trans (by rw [hc0])) ?_
      refine xr_iast i111_91 k214 (j := 0) rfl (by omega) (by omega) (fun z3 ez3 => ?_)
      obtain rfl : z3 = k3 := ez3.trans (by rw [ek3, xupdN])
      refine xr_go i111_92 rfl ?_
      exact xr_iret i111_93 xt_111 rfl
    · obtain ⟨f, e⟩ := r35
      obtain ⟨f', e', z'⟩ := r36
      obtain ⟨f2, e2⟩ := r37
      obtain ⟨f3, e3⟩ := r38
      obtain ⟨f4, e4⟩ := r39
      exact ⟨⟨f, (o3 _ (by omega) (by omega) (by omega)).trans e⟩, ⟨f', (o3 _ (by omega) (by omega) (by omega)).trans e', z'⟩, ⟨f2, (o3 _ (by omega) (by omega) (by omega)).trans e2⟩, ⟨f3, (o3 _ (by omega) (by omega) (by omega)).trans e3⟩, ⟨f4, (o3 _ (by omega) (by omega) (by omega)).trans e4⟩, ⟨f1, (k3n _ (by omega)).trans ((j3 _ (by omega) (by omega) (by omega)).trans i2)⟩⟩
end XMMEET

