/-! ===== the model as a whole; looking ===== -/
theorem xr_stk {G : xG} {d mi pc : Nat} {L : xL} {st st' : List Value} {w : xW} {res : Option Value × xW} (e : st = st') (k : xRun G d mi (pc, L, st', w) res) : xRun G d mi (pc, L, st, w) res := e ▸ k
def xsb (b : Nat) : Int32 := if b < 128 then nI b else nI b - 256
def xMt (M tn : Nat) (tb : Nat → Nat) (h : xH) : Prop := ∃ f, h (M + 1) = some (.inl (2, 400, .inl f)) ∧ ∀ j, j < tn → f j = xsb (tb j)
def xMw (M nx tak : Nat) (pg : Nat → List (Nat × Int32)) (h : xH) : Prop := ∃ f, h (M + 6) = some (.inl (6, 500, .inr (.inr (.inr (.inr f))))) ∧ ∀ w, w < tak → ∃ a, f w = some a ∧ M + 41 ≤ a ∧ a < nx ∧ xMcd a (pg w) h
def xMl (M nx : Nat) (lt : Value) (lat : Option (List (Nat × Int32))) (h : xH) : Prop := (lat = none ∧ lt = .null) ∨ ∃ p a, lat = some p ∧ lt = .ref a ∧ M + 41 ≤ a ∧ a < nx ∧ xMcd a p h
/-- WHAT THE MODEL STANDS FOR -/
def xMod (M nx tak cmt : Nat) (sv sp pl cm : Nat → Nat) (pg : Nat → List (Nat × Int32)) (clk com fog : Nat → Nat) (kno : Nat → Nat → Nat) (bit : Nat → Nat) (rd wr : Nat → Nat → Nat) (lat : Option (List (Nat × Int32))) (tn : Nat) (tb : Nat → Nat) (h : xH) : Prop :=
  ∃ (lt : Value) (at_ sz kd fr to_ ft pt : Int32) (nu : Int64) (mn pc od : Int32), h M = some (.inr (10, xMf M (nI tn) (nI tak) (nI cmt) lt at_ sz kd fr to_ ft pt nu mn pc od)) ∧ xMt M tn tb h ∧ xMd M cmt sv sp pl cm clk com fog kno bit rd wr h ∧ xMr M h ∧ xMw M nx tak pg h ∧ xMl M nx lt lat h ∧ M + 41 ≤ nx
theorem xMcd_kept {a : Nat} {p : List (Nat × Int32)} {h h' : xH} (hc : xMcd a p h) (e : h' a = h a) : xMcd a p h' := by
  obtain ⟨R, len, f, h1, h2, h3, h4, h5⟩ := hc
  exact ⟨R, len, f, h1, h2, h3, e.trans h4, h5⟩
theorem xMcd_arr {a : Nat} {p : List (Nat × Int32)} {h : xH} (hc : xMcd a p h) : ∀ fs, h a ≠ some (.inr (9, fs)) := by
  obtain ⟨R, len, f, h1, h2, h3, h4, h5⟩ := hc
  intro fs z
  rw [h4] at z
  cases z
theorem xMw_kept {M nx nx' tak : Nat} {pg : Nat → List (Nat × Int32)} {h h' : xH} (hw : xMw M nx tak pg h) (h6 : h' (M + 6) = h (M + 6)) (hn : nx ≤ nx') (hk : ∀ q, M + 41 ≤ q → q < nx → (∀ fs, h q ≠ some (.inr (9, fs))) → h' q = h q) : xMw M nx' tak pg h' := by
  obtain ⟨f, h1, h2⟩ := hw
  refine ⟨f, h6.trans h1, fun w hw => ?_⟩
  obtain ⟨a, g1, g2, g3, g4⟩ := h2 w hw
  exact ⟨a, g1, g2, by omega, xMcd_kept g4 (hk a g2 g3 (xMcd_arr g4))⟩
theorem xMl_kept {M nx nx' : Nat} {lt : Value} {lat : Option (List (Nat × Int32))} {h h' : xH} (hl : xMl M nx lt lat h) (hn : nx ≤ nx') (hk : ∀ q, M + 41 ≤ q → q < nx → (∀ fs, h q ≠ some (.inr (9, fs))) → h' q = h q) : xMl M nx' lt lat h' := by
  rcases hl with hl | ⟨p, a, g0, g1, g2, g3, g4⟩
  · exact Or.inl hl
  · exact Or.inr ⟨p, a, g0, g1, g2, Nat.lt_of_lt_of_le g3 hn, xMcd_kept g4 (hk a g2 g3 (xMcd_arr g4))⟩
/-- what the model changes of the heap for the other side -/
def xmo (M nx : Nat) (h h' : xH) : Prop := ∀ q, (q < M ∨ M + 41 ≤ q) → q < nx → h' q = h q
theorem xmo.refl {M nx : Nat} {h : xH} : xmo M nx h h := fun _ _ _ => rfl
theorem xmo.trans {M nx : Nat} {h h1 h2 : xH} (a : xmo M nx h h1) (b : xmo M nx h1 h2) : xmo M nx h h2 := fun q g1 g2 => (b q g1 g2).trans (a q g1 g2)
section XMLOOK
variable {G : xG} {d : Nat} {h h' : xH} {sl : Nat} {M nx nx' tak cmt : Nat} {sv sp pl cm : Nat → Nat} {pg : Nat → List (Nat × Int32)} {clk com fog : Nat → Nat} {kno : Nat → Nat → Nat} {bit : Nat → Nat} {rd wr : Nat → Nat → Nat} {lat : Option (List (Nat × Int32))} {tn : Nat} {tb : Nat → Nat}
/-- what the class does leaves the model as it is -/
theorem xMod_kept (hM : xMod M nx tak cmt sv sp pl cm pg clk com fog kno bit rd wr lat tn tb h) (hn : nx ≤ nx') (hk : ∀ q, M ≤ q → q < nx → (∀ fs, h q ≠ some (.inr (9, fs))) → h' q = h q) : xMod M nx' tak cmt sv sp pl cm pg clk com fog kno bit rd wr lat tn tb h' := by
  obtain ⟨lt, at_, sz, kd, fr, to_, ft, pt, nu, mn, pc, od, h1, ⟨ft1, t1, t2⟩, h3, h4, h5, h6, h7⟩ := hM
  have hne : ∀ q e, h q = some e → (∀ z, e ≠ .inr (9, z)) → ∀ fs, h q ≠ some (.inr (9, fs)) := fun q e e1 e2 fs z => by
    rw [e1] at z
    exact e2 fs (Option.some.inj z)
  have hM : h' M = h M := hk M (Nat.le_refl _) (by omega) (hne _ _ h1 (fun z e => by cases e))
  have arr : ∀ q k n x, M ≤ q → q < nx → h q = some (.inl (k, n, x)) → h' q = h q := fun q k n x a1 a2 a3 => hk q a1 a2 (hne _ _ a3 (fun z e => by cases e))
  refine ⟨lt, at_, sz, kd, fr, to_, ft, pt, nu, mn, pc, od, hM.trans h1, ⟨ft1, (arr _ _ _ _ (by omega) (by omega) t1).trans t1, t2⟩, ?_, ?_, xMw_kept h5 ?_ hn (fun q a1 a2 a3 => hk q (by omega) a2 a3), xMl_kept h6 hn (fun q a1 a2 a3 => hk q (by omega) a2 a3), by omega⟩
  · obtain ⟨h1, h2, h3, ⟨f4, h4, h4'⟩, ⟨f5, h5, h5'⟩, h6, h7, h8, h9, h10, ⟨f11, h11, h11'⟩, h12, ⟨f13, h13, h13'⟩, h14⟩ := h3
    refine ⟨(arr _ _ _ _ (by omega) (by omega) h1).trans h1, (arr _ _ _ _ (by omega) (by omega) h2).trans h2, (arr _ _ _ _ (by omega) (by omega) h3).trans h3, ⟨f4, (arr _ _ _ _ (by omega) (by omega) h4).trans h4, h4'⟩, ⟨f5, (arr _ _ _ _ (by omega) (by omega) h5).trans h5, h5'⟩, fun i hi => (arr _ _ _ _ (by omega) (by omega) (h6 i hi)).trans (h6 i hi), (arr _ _ _ _ (by omega) (by omega) h7).trans h7, (arr _ _ _ _ (by omega) (by omega) h8).trans h8, (arr _ _ _ _ (by omega) (by omega) h9).trans h9, (arr _ _ _ _ (by omega) (by omega) h10).trans h10, ⟨f11, (arr _ _ _ _ (by omega) (by omega) h11).trans h11, h11'⟩, fun j hj => ?_, ⟨f13, (arr _ _ _ _ (by omega) (by omega) h13).trans h13, h13'⟩, fun j hj => ?_⟩
    · obtain ⟨f, g1, g2⟩ := h12 j hj
      exact ⟨f, (arr _ _ _ _ (by omega) (by omega) g1).trans g1, g2⟩
    · obtain ⟨f, g1, g2⟩ := h14 j hj
      exact ⟨f, (arr _ _ _ _ (by omega) (by omega) g1).trans g1, g2⟩
  · obtain ⟨⟨f1, h1⟩, ⟨f2, h2, z2⟩, ⟨f3, h3⟩, ⟨f4, h4⟩, ⟨f5, h5⟩, ⟨f6, h6⟩⟩ := h4
    exact ⟨⟨f1, (arr _ _ _ _ (by omega) (by omega) h1).trans h1⟩, ⟨f2, (arr _ _ _ _ (by omega) (by omega) h2).trans h2, z2⟩, ⟨f3, (arr _ _ _ _ (by omega) (by omega) h3).trans h3⟩, ⟨f4, (arr _ _ _ _ (by omega) (by omega) h4).trans h4⟩, ⟨f5, (arr _ _ _ _ (by omega) (by omega) h5).trans h5⟩, ⟨f6, (arr _ _ _ _ (by omega) (by omega) h6).trans h6⟩⟩
  · obtain ⟨f, g1, g2⟩ := h5
    exact arr _ _ _ _ (by omega) (by omega) g1
theorem M_writes (hM : xMod M nx tak cmt sv sp pl cm pg clk com fog kno bit rd wr lat tn tb h) : xRun G d 120 (0, [some (.ref M)], [], (h, nx, sl)) (some (.int (nI tak)), (h, nx, sl)) := by
  obtain ⟨lt, at_, sz, kd, fr, to_, ft, pt, nu, mn, pc, od, hO, -⟩ := hM
  refine xr_go i120_0 rfl ?_
  refine xr_get i120_1 xf120_239 (by assumption) rfl rfl ?_
  exact xr_iret i120_4 xt_120 rfl
/-- how many writes are known -/
def xkc (kno : Nat → Nat) : Nat → Nat
  | 0 => 0
  | n + 1 => xkc kno n + (if kno n = 1 then 1 else 0)
theorem xkc_len {kno : Nat → Nat} : ∀ (n : Nat) (l : List Nat), l.Nodup → (∀ w, w ∈ l ↔ (w < n ∧ kno w = 1)) → l.length = xkc kno n := by
  intro n
  induction n with
  | zero =>
    intro l _ h
    cases l with
    | nil => rfl
    | cons x l => exact absurd ((h x).mp List.mem_cons_self).1 (by omega)
  | succ n ih =>
    intro l hn h
    unfold xkc
    by_cases hk : kno n = 1
    · rw [if_pos hk]
      have hm : n ∈ l := (h n).mpr ⟨by omega, hk⟩
      have := ih (l.erase n) (hn.erase n) (fun w => by
        rw [hn.mem_erase_iff, h w]
        constructor
        · rintro ⟨a1, a2, a3⟩
          exact ⟨by omega, a3⟩
        · rintro ⟨a1, a2⟩
          exact ⟨by omega, by omega, a2⟩)
      have e := List.length_erase_of_mem hm
      have : 1 ≤ l.length := List.length_pos_of_mem hm
      omega
    · rw [if_neg hk, Nat.add_zero]
      exact ih l hn (fun w => by
        rw [h w]
        constructor
        · rintro ⟨a1, a2⟩
          have : w ≠ n := fun z => hk (z ▸ a2)
          exact ⟨by omega, a2⟩
        · rintro ⟨a1, a2⟩
          exact ⟨by omega, a2⟩)
theorem xLs_mem {s : Nat} (hP : xPI tak cmt sv sp pl cm clk com fog kno bit rd wr) (hs : s < 5) : ∀ w, w ∈ xLs tak sv sp cm (kno s) (com s) ↔ (w < tak ∧ kno s w = 1) := by
  obtain ⟨a1, a2, a3, a4, a5, a6, a7, a8⟩ := hP.2.2.2.2.2.1 s hs
  intro w
  rw [xLs_eq a8]
  constructor
  · intro h
    rcases List.mem_append.mp h with h | h
    · obtain ⟨r, hr, e⟩ := xcms_mem.mp h
      have := a3 r hr
      rw [e] at this
      exact ⟨a2 w this, this⟩
    · have := (a8.2 w).mp h
      exact ⟨this.1, this.2.1⟩
  · rintro ⟨h1, h2⟩
    exact xord_mem a8 h1 h2
theorem xLs_nodup {s : Nat} (hP : xPI tak cmt sv sp pl cm clk com fog kno bit rd wr) (hs : s < 5) : (xLs tak sv sp cm (kno s) (com s)).Nodup := by
  obtain ⟨a1, a2, a3, a4, a5, a6, a7, a8⟩ := hP.2.2.2.2.2.1 s hs
  rw [xLs_eq a8]
  exact xord_nodup hP.2.2.2.1 a4 a8
theorem xLs_len {s : Nat} (hP : xPI tak cmt sv sp pl cm clk com fog kno bit rd wr) (hs : s < 5) : (xLs tak sv sp cm (kno s) (com s)).length ≤ tak := nd_le tak _ (xLs_nodup hP hs) (fun x hx => ((xLs_mem hP hs x).mp hx).1)
theorem m_count_loop {s : Nat} {y : Int32} (hs : s < 5) (hM : xMod M nx tak cmt sv sp pl cm pg clk com fog kno bit rd wr lat tn tb h) (hP : xPI tak cmt sv sp pl cm clk com fog kno bit rd wr) : ∀ n i, i + n = tak → xRun G d 119 (67, [some (.ref M), some (.int (nI s)), some (.int y), some (.int (nI (xkc (kno s) i))), some (.int (nI i))], [], (h, nx, sl)) (some (.int (nI (xkc (kno s) tak))), (h, nx, sl)) := by
  obtain ⟨lt, at_, sz, kd, fr, to_, ft, pt, nu, mn, pc, od, hO, -, hm, -⟩ := hM
  obtain ⟨fk, hk7, hk8⟩ := hm.2.2.2.2.1
  have hks := hk8 s hs
  have hkr := hm.2.2.2.2.2.1 s hs
  have ht := hP.1
  intro n
  induction n with
  | zero =>
    intro i hi
    have : i = tak := by omega
    subst this
    refine xr_go i119_67 rfl ?_
    refine xr_go i119_69 rfl ?_
    refine xr_get i119_70 xf119_239 (by assumption) rfl rfl ?_
    refine xr_icmp_geT i119_73 (t := 97) (by decide) (nI_le (by omega) (by omega)) ?_
    refine xr_go i119_97 rfl ?_
    exact xr_iret i119_98 xt_119 rfl
  | succ n ih =>
    intro i hi
    refine xr_go i119_67 rfl ?_
    refine xr_go i119_69 rfl ?_
    refine xr_get i119_70 xf119_239 (by assumption) rfl rfl ?_
    refine xr_icmp_geF i119_73 (t := 97) (by decide) (nI_ge (by omega) (by omega)) ?_
    refine xr_go i119_76 rfl ?_
    refine xr_get i119_77 xf119_33 (by assumption) rfl rfl ?_
    refine xr_go i119_80 rfl ?_
    refine xr_aald i119_81 (by assumption) (by decide) rfl (by omega) (by omega) (by assumption) ?_
    refine xr_go i119_82 rfl ?_
    refine xr_zald i119_84 (by assumption) rfl (by omega) (by omega) ?_
    rcases (hP.2.2.2.2.2.1 s hs).1 i with e | e
    · refine xr_if_eqT i119_85 (t := 91) (by decide) (by rw [e]; decide) ?_
      have ex : xkc (kno s) (i + 1) = xkc (kno s) i := by
        show xkc (kno s) i + (if kno s i = 1 then 1 else 0) = _
        rw [if_neg (by omega), Nat.add_zero]
      rw [← ex]
      refine xr_inc1 i119_91 rfl rfl ?_
      refine xr_goto i119_94 (t := 67) (by decide) ?_
      exact ih (i + 1) (by omega)
    · refine xr_if_eqF i119_85 (t := 91) (by decide) (by rw [e]; decide) ?_
      have ex : xkc (kno s) (i + 1) = xkc (kno s) i + 1 := by
        show xkc (kno s) i + (if kno s i = 1 then 1 else 0) = _
        rw [if_pos e]
      have := ih (i + 1) (by omega)
      rw [ex] at this
      refine xr_inc1 i119_88 rfl rfl ?_
      refine xr_inc1 i119_91 rfl rfl ?_
      refine xr_goto i119_94 (t := 67) (by decide) ?_
      exact this
theorem M_count (hM : xMod M nx tak cmt sv sp pl cm pg clk com fog kno bit rd wr lat tn tb h) (hP : xPI tak cmt sv sp pl cm clk com fog kno bit rd wr) (x y : Int32) (hd : 1 ≤ d) : xRun G d 119 (0, [some (.ref M), some (.int x), some (.int y), none, none], [], (h, nx, sl)) (some (.int (aCount tak sv sp cm clk com fog kno x y)), (h, nx, sl)) := by
  have hM0 := hM
  obtain ⟨lt, at_, sz, kd, fr, to_, ft, pt, nu, mn, pc, od, hO, -, hm, -⟩ := hM
  have h13 := hm.2.2.2.2.2.2.1
  have h14 := hm.2.2.2.2.2.2.2.1
  have h15 := hm.2.2.2.2.2.2.2.2.1
  unfold aCount
  have tail : xRun G d 119 (24, [some (.ref M), some (.int x), some (.int y), none, none], [], (h, nx, sl)) (some (.int (-1)), (h, nx, sl)) := by
    refine xr_go i119_24 rfl ?_
    exact xr_iret i119_25 xt_119 rfl
  by_cases hx : xrng 5 x = true
  · rw [if_pos hx]
    obtain ⟨s, hs, rfl⟩ := xrng_of (by omega) hx
    rw [aN_nI (by omega)]
    refine xr_go i119_0 rfl ?_
    refine xr_go i119_1 rfl ?_
    refine xr_go i119_2 rfl ?_
    refine xr_ldc2 i119_3 xl119_266 rfl ?_
    refine xr_S i119_6 xc119_77 ⟨by first | exact Or.inl rfl | exact Or.inr rfl, rfl⟩ xa_82 (Nat.le_of_ble_eq_true rfl) (Nat.le_of_ble_eq_true rfl) (by omega) ⟨Nat.le_of_ble_eq_true rfl, Nat.le_of_ble_eq_true rfl⟩ ((s_in (x := nI s) 5 rfl (by omega))) ?_
    refine xr_if_eqF i119_9 (t := 24) (by decide) (xbi_1 hx) ?_
    refine xr_go i119_12 rfl ?_
    refine xr_go i119_13 rfl ?_
    refine xr_go i119_14 rfl ?_
    refine xr_ldc2 i119_15 xl119_298 rfl ?_
    refine xr_S i119_18 xc119_77 ⟨by first | exact Or.inl rfl | exact Or.inr rfl, rfl⟩ xa_82 (Nat.le_of_ble_eq_true rfl) (Nat.le_of_ble_eq_true rfl) (by omega) ⟨Nat.le_of_ble_eq_true rfl, Nat.le_of_ble_eq_true rfl⟩ ((s_in (x := y) 4 rfl (by omega))) ?_
    by_cases hy : xrng 4 y = true
    · refine xr_if_neT i119_21 (t := 26) (by decide) (xbi_1 hy) ?_
      obtain ⟨k, hk, rfl⟩ := xrng_of (by omega) hy
      match k, hk with
      | 0, _ =>
        rw [if_pos (show nI 0 = 0 by decide), xkc_len tak _ (xLs_nodup hP hs) (xLs_mem hP hs)]
        refine xr_go i119_26 rfl ?_
        refine xr_go i119_27 rfl ?_
        refine xr_icmp_neT i119_28 (t := 38) (by decide) (by decide) ?_
        refine xr_go i119_38 rfl ?_
        refine xr_go i119_39 rfl ?_
        refine xr_icmp_neT i119_40 (t := 50) (by decide) (by decide) ?_
        refine xr_go i119_50 rfl ?_
        refine xr_go i119_51 rfl ?_
        refine xr_icmp_neT i119_52 (t := 62) (by decide) (by decide) ?_
        refine xr_go i119_62 rfl ?_
        refine xr_go i119_63 rfl ?_
        refine xr_go i119_64 rfl ?_
        refine xr_go i119_65 rfl ?_
        exact m_count_loop hs hM0 hP tak 0 (by omega)
      | 1, _ =>
        rw [if_neg (show ¬ nI 1 = 0 by decide), if_pos (show nI 1 = 1 by decide)]
        refine xr_go i119_26 rfl ?_
        refine xr_go i119_27 rfl ?_
        refine xr_icmp_neF i119_28 (t := 38) (by decide) rfl ?_
        refine xr_go i119_31 rfl ?_
        refine xr_get i119_32 xf119_39 (by assumption) rfl rfl ?_
        refine xr_go i119_35 rfl ?_
        refine xr_iald i119_36 (by assumption) rfl (by omega) (by omega) ?_
        exact xr_iret i119_37 xt_119 rfl
      | 2, _ =>
        rw [if_neg (show ¬ nI 2 = 0 by decide), if_neg (show ¬ nI 2 = 1 by decide), if_pos (show nI 2 = 2 by decide)]
        refine xr_go i119_26 rfl ?_
        refine xr_go i119_27 rfl ?_
        refine xr_icmp_neT i119_28 (t := 38) (by decide) (by decide) ?_
        refine xr_go i119_38 rfl ?_
        refine xr_go i119_39 rfl ?_
        refine xr_icmp_neF i119_40 (t := 50) (by decide) rfl ?_
        refine xr_go i119_43 rfl ?_
        refine xr_get i119_44 xf119_42 (by assumption) rfl rfl ?_
        refine xr_go i119_47 rfl ?_
        refine xr_iald i119_48 (by assumption) rfl (by omega) (by omega) ?_
        exact xr_iret i119_49 xt_119 rfl
      | 3, _ =>
        rw [if_neg (show ¬ nI 3 = 0 by decide), if_neg (show ¬ nI 3 = 1 by decide), if_neg (show ¬ nI 3 = 2 by decide), if_pos (show nI 3 = 3 by decide)]
        refine xr_go i119_26 rfl ?_
        refine xr_go i119_27 rfl ?_
        refine xr_icmp_neT i119_28 (t := 38) (by decide) (by decide) ?_
        refine xr_go i119_38 rfl ?_
        refine xr_go i119_39 rfl ?_
        refine xr_icmp_neT i119_40 (t := 50) (by decide) (by decide) ?_
        refine xr_go i119_50 rfl ?_
        refine xr_go i119_51 rfl ?_
        refine xr_icmp_neF i119_52 (t := 62) (by decide) rfl ?_
        refine xr_go i119_55 rfl ?_
        refine xr_get i119_56 xf119_36 (by assumption) rfl rfl ?_
        refine xr_go i119_59 rfl ?_
        refine xr_iald i119_60 (by assumption) rfl (by omega) (by omega) ?_
        exact xr_iret i119_61 xt_119 rfl
    · refine xr_if_neF i119_21 (t := 26) (by decide) (by rw [Bool.not_eq_true] at hy; rw [hy]; decide) ?_
      rw [if_neg (fun z => hy (by rw [z]; decide)), if_neg (fun z => hy (by rw [z]; decide)), if_neg (fun z => hy (by rw [z]; decide)), if_neg (fun z => hy (by rw [z]; decide))]
      exact tail
  · rw [if_neg hx]
    refine xr_go i119_0 rfl ?_
    refine xr_go i119_1 rfl ?_
    refine xr_go i119_2 rfl ?_
    refine xr_ldc2 i119_3 xl119_266 rfl ?_
    refine xr_S i119_6 xc119_77 ⟨by first | exact Or.inl rfl | exact Or.inr rfl, rfl⟩ xa_82 (Nat.le_of_ble_eq_true rfl) (Nat.le_of_ble_eq_true rfl) (by omega) ⟨Nat.le_of_ble_eq_true rfl, Nat.le_of_ble_eq_true rfl⟩ ((s_in (x := x) 5 rfl (by omega))) ?_
    refine xr_if_eqT i119_9 (t := 24) (by decide) (xbi_f (by simpa using hx)) ?_
    exact tail
theorem M_stamp (hM : xMod M nx tak cmt sv sp pl cm pg clk com fog kno bit rd wr lat tn tb h) (hP : xPI tak cmt sv sp pl cm clk com fog kno bit rd wr) (x y z : Int32) (hd : 2 ≤ d) : xRun G d 118 (0, [some (.ref M), some (.int x), some (.int y), some (.int z)], [], (h, nx, sl)) (some (.int (aStamp tak sv sp kno rd wr x y z)), (h, nx, sl)) := by
  obtain ⟨lt, at_, sz, kd, fr, to_, ft, pt, nu, mn, pc, od, hO, -, hm, -⟩ := hM
  obtain ⟨f17, h17, h17'⟩ := hm.2.2.2.2.2.2.2.2.2.2.1
  have h18 := hm.2.2.2.2.2.2.2.2.2.2.2.1
  obtain ⟨f26, h26, h26'⟩ := hm.2.2.2.2.2.2.2.2.2.2.2.2.1
  have h27 := hm.2.2.2.2.2.2.2.2.2.2.2.2.2
  unfold aStamp
  have tail : xRun G d 118 (46, [some (.ref M), some (.int x), some (.int y), some (.int z)], [], (h, nx, sl)) (some (.int (-1)), (h, nx, sl)) := by
    refine xr_go i118_46 rfl ?_
    exact xr_iret i118_47 xt_118 rfl
  refine xr_go i118_0 rfl ?_
  refine xr_go i118_1 rfl ?_
  refine xr_go i118_2 rfl ?_
  refine xr_ldc2 i118_3 xl118_296 rfl ?_
  refine xr_S i118_6 xc118_77 ⟨by first | exact Or.inl rfl | exact Or.inr rfl, rfl⟩ xa_82 (Nat.le_of_ble_eq_true rfl) (Nat.le_of_ble_eq_true rfl) (by omega) ⟨Nat.le_of_ble_eq_true rfl, Nat.le_of_ble_eq_true rfl⟩ ((s_in (x := x) 3 rfl (by omega))) ?_
  refine xr_stk (st' := [.int (xbi (xrng 3 x))]) rfl ?_
  by_cases hx : xrng 3 x = true
  · refine xr_if_eqF i118_9 (t := 46) (by decide) (xbi_1 hx) ?_
    refine xr_go i118_12 rfl ?_
    refine xr_go i118_13 rfl ?_
    refine xr_go i118_14 rfl ?_
    refine xr_ldc2 i118_15 xl118_266 rfl ?_
    refine xr_S i118_18 xc118_77 ⟨by first | exact Or.inl rfl | exact Or.inr rfl, rfl⟩ xa_82 (Nat.le_of_ble_eq_true rfl) (Nat.le_of_ble_eq_true rfl) (by omega) ⟨Nat.le_of_ble_eq_true rfl, Nat.le_of_ble_eq_true rfl⟩ ((s_in (x := z) 5 rfl (by omega))) ?_
    refine xr_stk (st' := [.int (xbi (xrng 5 z))]) rfl ?_
    by_cases hz : xrng 5 z = true
    · refine xr_if_eqF i118_21 (t := 46) (by decide) (xbi_1 hz) ?_
      rw [if_pos hz]
      obtain ⟨j, hj, rfl⟩ := xrng_of (by omega) hz
      obtain ⟨k, hk, rfl⟩ := xrng_of (by omega) hx
      rw [aN_nI (by omega)]
      match k, hk with
      | 0, _ =>
        refine xr_go i118_24 rfl ?_
        refine xr_go i118_25 rfl ?_
        refine xr_go i118_26 rfl ?_
        refine xr_go i118_27 rfl ?_
        refine xr_if_neF i118_28 (t := 37) (by decide) rfl ?_
        refine xr_ldc2 i118_31 xl118_266 rfl ?_
        refine xr_goto i118_34 (t := 40) (by decide) ?_
        refine xr_S i118_40 xc118_77 ⟨by first | exact Or.inl rfl | exact Or.inr rfl, rfl⟩ xa_82 (Nat.le_of_ble_eq_true rfl) (Nat.le_of_ble_eq_true rfl) (by omega) ⟨Nat.le_of_ble_eq_true rfl, Nat.le_of_ble_eq_true rfl⟩ ((s_in (x := y) 5 rfl (by omega))) ?_
        refine xr_stk (st' := [.int (xbi (xrng 5 y))]) rfl ?_
        by_cases hy : xrng 5 y = true
        · refine xr_if_neT i118_43 (t := 48) (by decide) (xbi_1 hy) ?_
          rw [if_pos ⟨rfl, hy⟩]
          obtain ⟨s, hs, rfl⟩ := xrng_of (by omega) hy
          rw [aN_nI (by omega)]
          refine xr_go i118_48 rfl ?_
          refine xr_if_neF i118_49 (t := 61) (by decide) rfl ?_
          refine xr_go i118_52 rfl ?_
          refine xr_go i118_53 rfl ?_
          refine xr_go i118_54 rfl ?_
          refine xr_V i118_55 xc118_263 ⟨rfl, rfl⟩ xa_100 rfl (by assumption) rfl (Nat.le_of_ble_eq_true rfl) (by omega) ⟨Nat.le_of_ble_eq_true rfl, Nat.le_of_ble_eq_true rfl⟩ ((m_vector (s := s) (j := j) hO hm hP hs hj (by omega))) ?_
          refine xr_goto i118_58 (t := 85) (by decide) ?_
          exact xr_iret i118_85 xt_118 rfl
        · refine xr_if_neF i118_43 (t := 48) (by decide) (by rw [Bool.not_eq_true] at hy; rw [hy]; decide) ?_
          rw [if_neg (fun e => hy e.2), if_neg (fun e => absurd e.1 (by decide)), if_neg (fun e => absurd e.1 (by decide))]
          exact tail
      | 1, _ =>
        rw [if_neg (fun e => absurd e.1 (by decide))]
        refine xr_go i118_24 rfl ?_
        refine xr_go i118_25 rfl ?_
        refine xr_go i118_26 rfl ?_
        refine xr_go i118_27 rfl ?_
        refine xr_if_neT i118_28 (t := 37) (by decide) (by decide) ?_
        refine xr_ldc2 i118_37 xl118_268 rfl ?_
        refine xr_S i118_40 xc118_77 ⟨by first | exact Or.inl rfl | exact Or.inr rfl, rfl⟩ xa_82 (Nat.le_of_ble_eq_true rfl) (Nat.le_of_ble_eq_true rfl) (by omega) ⟨Nat.le_of_ble_eq_true rfl, Nat.le_of_ble_eq_true rfl⟩ ((s_in (x := y) 8 rfl (by omega))) ?_
        refine xr_stk (st' := [.int (xbi (xrng 8 y))]) rfl ?_
        by_cases hy : xrng 8 y = true
        · refine xr_if_neT i118_43 (t := 48) (by decide) (xbi_1 hy) ?_
          rw [if_pos ⟨rfl, hy⟩]
          obtain ⟨s, hs, rfl⟩ := xrng_of (by omega) hy
          rw [aN_nI (by omega)]
          have r1 := h17' s hs
          obtain ⟨f, r2, r3⟩ := h18 s hs
          rw [← r3 j hj]
          refine xr_go i118_48 rfl ?_
          refine xr_if_neT i118_49 (t := 61) (by decide) (by decide) ?_
          refine xr_go i118_61 rfl ?_
          refine xr_go i118_62 rfl ?_
          refine xr_icmp_neF i118_63 (t := 77) (by decide) rfl ?_
          refine xr_go i118_66 rfl ?_
          refine xr_get i118_67 xf118_49 (by assumption) rfl rfl ?_
          refine xr_go i118_70 rfl ?_
          refine xr_aald i118_71 (by assumption) (by decide) rfl (by omega) (by omega) (by assumption) ?_
          refine xr_go i118_72 rfl ?_
          refine xr_iald i118_73 (by assumption) rfl (by omega) (by omega) ?_
          refine xr_goto i118_74 (t := 85) (by decide) ?_
          exact xr_iret i118_85 xt_118 rfl
        · refine xr_if_neF i118_43 (t := 48) (by decide) (by rw [Bool.not_eq_true] at hy; rw [hy]; decide) ?_
          rw [if_neg (fun e => hy e.2), if_neg (fun e => absurd e.1 (by decide))]
          exact tail
      | 2, _ =>
        rw [if_neg (fun e => absurd e.1 (by decide)), if_neg (fun e => absurd e.1 (by decide))]
        refine xr_go i118_24 rfl ?_
        refine xr_go i118_25 rfl ?_
        refine xr_go i118_26 rfl ?_
        refine xr_go i118_27 rfl ?_
        refine xr_if_neT i118_28 (t := 37) (by decide) (by decide) ?_
        refine xr_ldc2 i118_37 xl118_268 rfl ?_
        refine xr_S i118_40 xc118_77 ⟨by first | exact Or.inl rfl | exact Or.inr rfl, rfl⟩ xa_82 (Nat.le_of_ble_eq_true rfl) (Nat.le_of_ble_eq_true rfl) (by omega) ⟨Nat.le_of_ble_eq_true rfl, Nat.le_of_ble_eq_true rfl⟩ ((s_in (x := y) 8 rfl (by omega))) ?_
        refine xr_stk (st' := [.int (xbi (xrng 8 y))]) rfl ?_
        by_cases hy : xrng 8 y = true
        · refine xr_if_neT i118_43 (t := 48) (by decide) (xbi_1 hy) ?_
          rw [if_pos ⟨rfl, hy⟩]
          obtain ⟨s, hs, rfl⟩ := xrng_of (by omega) hy
          rw [aN_nI (by omega)]
          have r1 := h26' s hs
          obtain ⟨f, r2, r3⟩ := h27 s hs
          rw [← r3 j hj]
          refine xr_go i118_48 rfl ?_
          refine xr_if_neT i118_49 (t := 61) (by decide) (by decide) ?_
          refine xr_go i118_61 rfl ?_
          refine xr_go i118_62 rfl ?_
          refine xr_icmp_neT i118_63 (t := 77) (by decide) (by decide) ?_
          refine xr_go i118_77 rfl ?_
          refine xr_get i118_78 xf118_52 (by assumption) rfl rfl ?_
          refine xr_go i118_81 rfl ?_
          refine xr_aald i118_82 (by assumption) (by decide) rfl (by omega) (by omega) (by assumption) ?_
          refine xr_go i118_83 rfl ?_
          refine xr_iald i118_84 (by assumption) rfl (by omega) (by omega) ?_
          exact xr_iret i118_85 xt_118 rfl
        · refine xr_if_neF i118_43 (t := 48) (by decide) (by rw [Bool.not_eq_true] at hy; rw [hy]; decide) ?_
          rw [if_neg (fun e => hy e.2)]
          exact tail
    · refine xr_if_eqT i118_21 (t := 46) (by decide) (xbi_f (by simpa using hz)) ?_
      rw [if_neg hz]
      exact tail
  · refine xr_if_eqT i118_9 (t := 46) (by decide) (xbi_f (by simpa using hx)) ?_
    have e : (if xrng 5 z = true then (if x = 0 ∧ xrng 5 y = true then nI (xvm sv sp (kno (aN y)) (aN z) tak) else if x = 1 ∧ xrng 8 y = true then nI (rd (aN y) (aN z)) else if x = 2 ∧ xrng 8 y = true then nI (wr (aN y) (aN z)) else -1) else -1) = -1 := by
      split
      · rw [if_neg (fun z => hx (by rw [z.1]; decide)), if_neg (fun z => hx (by rw [z.1]; decide)), if_neg (fun z => hx (by rw [z.1]; decide))]
      · rfl
    rw [e]
    exact tail
theorem M_look (hM : xMod M nx tak cmt sv sp pl cm pg clk com fog kno bit rd wr lat tn tb h) (hP : xPI tak cmt sv sp pl cm clk com fog kno bit rd wr) (x y : Int32) (hd : 1 ≤ d) : xRun G d 117 (0, [some (.ref M), some (.int x), some (.int y)], [], (h, nx, sl)) (some (.int (aLook tak sv sp pl x y)), (h, nx, sl)) := by
  obtain ⟨lt, at_, sz, kd, fr, to_, ft, pt, nu, mn, pc, od, hO, -, ⟨h2, h3, h4, -⟩, -⟩ := hM
  have ht := hP.1
  unfold aLook
  refine xr_go i117_0 rfl ?_
  refine xr_go i117_1 rfl ?_
  refine xr_go i117_2 rfl ?_
  refine xr_ldc2 i117_3 xl117_296 rfl ?_
  refine xr_S i117_6 xc117_77 ⟨by first | exact Or.inl rfl | exact Or.inr rfl, rfl⟩ xa_82 (Nat.le_of_ble_eq_true rfl) (Nat.le_of_ble_eq_true rfl) (by omega) ⟨Nat.le_of_ble_eq_true rfl, Nat.le_of_ble_eq_true rfl⟩ ((s_in (x := y) 3 rfl (by omega))) ?_
  by_cases hy : xrng 3 y = true
  · refine xr_if_neT i117_9 (t := 14) (by decide) (xbi_1 hy) ?_
    rw [if_pos hy]
    obtain ⟨k, hk, rfl⟩ := xrng_of (by omega) hy
    refine xr_go i117_14 rfl ?_
    refine xr_go i117_15 rfl ?_
    refine xr_go i117_16 rfl ?_
    refine xr_go i117_17 rfl ?_
    refine xr_get i117_18 xf117_239 (by assumption) rfl rfl ?_
    refine xr_go i117_21 rfl ?_
    refine xr_go i117_22 rfl ?_
    refine xr_go i117_23 rfl ?_
    refine xr_S i117_24 xc117_77 ⟨by first | exact Or.inl rfl | exact Or.inr rfl, rfl⟩ xa_82 (Nat.le_of_ble_eq_true rfl) (Nat.le_of_ble_eq_true rfl) (by omega) ⟨Nat.le_of_ble_eq_true rfl, Nat.le_of_ble_eq_true rfl⟩ ((s_in (x := x) tak (in_z (by omega)) (by omega))) ?_
    by_cases hx : xrng tak x = true
    · refine xr_if_neT i117_27 (t := 33) (by decide) (xbi_1 hx) ?_
      rw [if_pos hx]
      obtain ⟨w, hw, rfl⟩ := xrng_of (by omega) hx
      rw [aN_nI (by omega)]
      match k, hk with
      | 0, _ =>
        rw [if_pos (show nI 0 = 0 by decide)]
        refine xr_go i117_33 rfl ?_
        refine xr_if_neF i117_34 (t := 46) (by decide) rfl ?_
        refine xr_go i117_37 rfl ?_
        refine xr_get i117_38 xf117_13 (by assumption) rfl rfl ?_
        refine xr_go i117_41 rfl ?_
        refine xr_iald i117_42 (by assumption) rfl (by omega) (by omega) ?_
        refine xr_goto i117_43 (t := 66) (by decide) ?_
        exact xr_iret i117_66 xt_117 rfl
      | 1, _ =>
        rw [if_neg (show ¬ nI 1 = 0 by decide), if_pos (show nI 1 = 1 by decide)]
        refine xr_go i117_33 rfl ?_
        refine xr_if_neT i117_34 (t := 46) (by decide) (by decide) ?_
        refine xr_go i117_46 rfl ?_
        refine xr_go i117_47 rfl ?_
        refine xr_icmp_neF i117_48 (t := 60) (by decide) rfl ?_
        refine xr_go i117_51 rfl ?_
        refine xr_get i117_52 xf117_17 (by assumption) rfl rfl ?_
        refine xr_go i117_55 rfl ?_
        refine xr_iald i117_56 (by assumption) rfl (by omega) (by omega) ?_
        refine xr_goto i117_57 (t := 66) (by decide) ?_
        exact xr_iret i117_66 xt_117 rfl
      | 2, _ =>
        rw [if_neg (show ¬ nI 2 = 0 by decide), if_neg (show ¬ nI 2 = 1 by decide)]
        refine xr_go i117_33 rfl ?_
        refine xr_if_neT i117_34 (t := 46) (by decide) (by decide) ?_
        refine xr_go i117_46 rfl ?_
        refine xr_go i117_47 rfl ?_
        refine xr_icmp_neT i117_48 (t := 60) (by decide) (by decide) ?_
        refine xr_go i117_60 rfl ?_
        refine xr_get i117_61 xf117_20 (by assumption) rfl rfl ?_
        refine xr_go i117_64 rfl ?_
        refine xr_iald i117_65 (by assumption) rfl (by omega) (by omega) ?_
        exact xr_iret i117_66 xt_117 rfl
    · refine xr_if_neF i117_27 (t := 33) (by decide) (by rw [Bool.not_eq_true] at hx; rw [hx]; decide) ?_
      rw [if_neg hx]
      refine xr_go i117_30 rfl ?_
      exact xr_iret i117_32 xt_117 rfl
  · refine xr_if_neF i117_9 (t := 14) (by decide) (by rw [Bool.not_eq_true] at hy; rw [hy]; decide) ?_
    rw [if_neg hy]
    refine xr_go i117_12 rfl ?_
    exact xr_iret i117_13 xt_117 rfl
end XMLOOK

