/-! ===== the class: meeting ===== -/
theorem xadv_le {sp cm : Nat → Nat} {K : Nat} : ∀ (n clk com : Nat) (kno : Nat → Nat), (∀ r, com ≤ r → r < com + n → sp (cm r) ≤ K) → clk ≤ K → (xadv sp cm n clk com kno).1 ≤ K := by
  intro n
  induction n with
  | zero => intro clk com kno _ h; exact h
  | succ n ih =>
    intro clk com kno hr h
    have := hr com (by omega) (by omega)
    exact ih _ _ _ (fun r h1 h2 => hr r (by omega) (by omega)) (by omega)
theorem xadv_k {sp cm : Nat → Nat} {w : Nat} : ∀ (n clk com : Nat) (kno : Nat → Nat), kno w = 1 → (xadv sp cm n clk com kno).2 w = 1 := by
  intro n
  induction n with
  | zero => intro clk com kno h; exact h
  | succ n ih =>
    intro clk com kno h
    refine ih _ _ _ ?_
    unfold va_up
    split
    · rfl
    · exact h
theorem xbring_le {sp : Nat → Nat} {K : Nat} : ∀ (l : List Nat) (n clk : Nat) (kno : Nat → Nat), (∀ w ∈ l, sp w ≤ K) → clk ≤ K → (xbring sp l n clk kno).2.1 ≤ K := by
  intro l
  induction l with
  | nil => intro n clk kno _ h; exact h
  | cons x l ih =>
    intro n clk kno hr h
    cases n with
    | zero => exact h
    | succ n =>
      have hx := hr x List.mem_cons_self
      have ht := fun w hw => hr w (List.mem_cons_of_mem _ hw)
      unfold xbring
      split
      · exact ih _ _ _ ht (by omega)
      · exact ih _ _ _ ht h
theorem xbring_k {sp : Nat → Nat} {w : Nat} : ∀ (l : List Nat) (n clk : Nat) (kno : Nat → Nat), kno w = 1 → (xbring sp l n clk kno).2.2 w = 1 := by
  intro l
  induction l with
  | nil => intro n clk kno h; exact h
  | cons x l ih =>
    intro n clk kno h
    cases n with
    | zero => exact h
    | succ n =>
      unfold xbring
      split
      · refine ih _ _ _ ?_
        unfold va_up
        split
        · rfl
        · exact h
      · exact ih _ _ _ h
theorem xbring_n {sp : Nat → Nat} : ∀ (l : List Nat) (n clk : Nat) (kno : Nat → Nat), (xbring sp l n clk kno).1 ≤ n := by
  intro l
  induction l with
  | nil => intro n clk kno; exact Nat.zero_le _
  | cons x l ih =>
    intro n clk kno
    cases n with
    | zero => exact Nat.le_refl _
    | succ n =>
      unfold xbring
      split
      · have := ih n (max clk (sp x)) (va_up kno x 1)
        dsimp only
        omega
      · exact ih _ _ _
/-- what a meeting makes of the taker: items brought, clock, committed, forgotten, known -/
def xMeet (sp cm : Nat → Nat) (tlf : List Nat) (n clkT comT fogT : Nat) (knoT : Nat → Nat) (comF fogF : Nat) : Nat × Nat × Nat × Nat × (Nat → Nat) :=
  let c1 := if 0 < n ∧ comT < fogF then 1 else 0
  let com1 := if 0 < n ∧ comT < fogF then fogF else comT
  let fog1 := if 0 < n ∧ comT < fogF then fogF else fogT
  let s1 := xadv sp cm (com1 - comT) clkT comT knoT
  let m := min (n - c1) (comF - com1)
  let s2 := xadv sp cm m s1.1 com1 s1.2
  let b := xbring sp tlf (n - c1 - m) s2.1 s2.2
  (c1 + m + b.1, b.2.1, com1 + m, fog1, b.2.2)
noncomputable def vMeet (tak : Nat) (sv sp cm clk com fog : Nat → Nat) (kno : Nat → Nat → Nat) (f t n : Nat) : Nat × Nat × Nat × Nat × (Nat → Nat) := xMeet sp cm (xtl tak sv sp cm (kno f) (com f)) n (clk t) (com t) (fog t) (kno t) (com f) (fog f)
def pMeet (x y z : Int32) : Prop := xrng 5 x = true ∧ xrng 5 y = true ∧ ¬ x = y ∧ ¬ z < 0
section XMEET
variable {G : xG} {d : Nat} {h h' : xH} {sl : Nat} {B nx tak cmt : Nat} {sv sp pl cm : Nat → Nat} {pg : Nat → List (Nat × Int32)} {clk com fog : Nat → Nat} {kno : Nat → Nat → Nat} {bit : Nat → Nat} {rd wr : Nat → Nat → Nat} {lat : Option (List (Nat × Int32))} {tn : Nat} {tb : Nat → Nat} {wad pad psa poa : Nat → Nat}
theorem xDS_sp (hD : xDS B nx tak cmt sv sp pl cm pg clk com fog kno bit rd wr lat tn tb h) : ∀ w, w < tak → sp w ≤ 1000000000 + tak := by
  obtain ⟨lv, wad, pad, psa, poa, h1, h2, h3, h4, h5, h6, h7, h8, h9, h10, h11, h12, h13⟩ := hD
  intro w hw
  have hs := (h5.2.2.2.2 w hw).2.2.2.2.2.2.1
  obtain ⟨_, _, _, _, _, _, -, -, -, -, -, -, -, -, k7, -⟩ := h10 (sv w) hs
  have := k7 w (h12.2.1 w hw)
  have := h12.2.2.1 (sv w) hs
  omega
theorem q_meet_tail {a a2 l n clkT comT fogT clkF comF fogF : Nat} {knoT knoF : Nat → Nat} {L0 L1 L2 : Option Value} (hH : xHist B tak cmt wad pad psa poa sv sp pl pg cm h) (hU : xHU tak cmt sv sp cm) (hok : ∀ w, w < tak → xOKp (pg w)) (hM : ∃ b e t, xMS (B + 13) b e t h) (hS : xSI B a tak cmt sv sp pg cm clkT comT fogT knoT h) (hS2 : xSI B a2 tak cmt sv sp pg cm clkF comF fogF knoF h) (ha : B + 18 ≤ a ∧ a + 6 < B + 53) (hb : B + 18 ≤ a2 ∧ a2 + 6 < B + 53) (ha2 : a2 + 6 < a ∨ a + 6 < a2) (hl : l ≤ n) (hn : n < 2 ^ 31) (hd : 6 ≤ d) :
    ∃ h', xRun G d 11 (75, [L0, L1, L2, some (.int (nI n)), some (.ref a2), some (.ref a), some (.int (nI l))], [], (h, nx, sl)) (some (.int (nI (n - l + min l (comF - comT) + (xbring sp (xtl tak sv sp cm knoF comF) (l - min l (comF - comT)) (xadv sp cm (min l (comF - comT)) clkT comT knoT).1 (xadv sp cm (min l (comF - comT)) clkT comT knoT).2).1))), (h', nx, sl)) ∧ xSI B a tak cmt sv sp pg cm (xbring sp (xtl tak sv sp cm knoF comF) (l - min l (comF - comT)) (xadv sp cm (min l (comF - comT)) clkT comT knoT).1 (xadv sp cm (min l (comF - comT)) clkT comT knoT).2).2.1 (comT + min l (comF - comT)) fogT (xbring sp (xtl tak sv sp cm knoF comF) (l - min l (comF - comT)) (xadv sp cm (min l (comF - comT)) clkT comT knoT).1 (xadv sp cm (min l (comF - comT)) clkT comT knoT).2).2.2 h' ∧ (∃ b e t, xMS (B + 13) b e t h') ∧ xsm B a h h' := by
  obtain ⟨h1, r1, hS1, hM1, sm1⟩ := q_commits (G := G) (d := d - 1) (nx := nx) (sl := sl) (l := l) hH hU hok hM hS hS2 ha (by omega) (by omega)
  have hH1 := xHist_kept hH (h' := h1) (fun q hq => sm1 q (by omega) (by omega))
  have hS21 := xSI_kept hS2 (h' := h1) (fun q g1 g2 => sm1 q (by omega) (by omega))
  have hml : min l (comF - comT) ≤ l := Nat.min_le_left _ _
  generalize min l (comF - comT) = m at *
  obtain ⟨h2, tl2, hT2, r2, hS3, sm2⟩ := q_tentative (G := G) (d := d - 1) (nx := nx) (sl := sl) (l := l - m) hH1 hU hS1 hS21 ha ha2 (by omega) (by omega)
  rw [← xtl_eq hT2] at r2 hS3
  have hbn := xbring_n (sp := sp) (xtl tak sv sp cm knoF comF) (l - m) (xadv sp cm m clkT comT knoT).1 (xadv sp cm m clkT comT knoT).2
  obtain ⟨b, e, t, hM1⟩ := hM1
  refine ⟨h2, ?_, hS3, ⟨b, e, t, xMS_kept hM1 (fun q g1 g2 => sm2 q (by omega))⟩, sm1.trans sm2.sm⟩
  have s0 : ∃ x, h a = some (.inr (6, x)) := by
    obtain ⟨_, _, _, _, _, _, ⟨_, hs, -⟩, -⟩ := hS
    exact ⟨_, hs.1⟩
  obtain ⟨x0, s0⟩ := s0
  have s1 : ∃ x, h1 a = some (.inr (6, x)) := by
    obtain ⟨_, _, _, _, _, _, ⟨_, hs, -⟩, -⟩ := hS1
    exact ⟨_, hs.1⟩
  obtain ⟨x1, s1⟩ := s1
  generalize (xbring sp (xtl tak sv sp cm knoF comF) (l - m) (xadv sp cm m clkT comT knoT).1 (xadv sp cm m clkT comT knoT).2).1 = bb at r2 hbn ⊢
  refine xr_go i11_75 rfl ?_
  refine xr_go i11_77 rfl ?_
  refine xr_go i11_79 rfl ?_
  refine xr_go i11_81 rfl ?_
  refine xr_V i11_83 xc11_159 ⟨rfl, rfl⟩ xa_65 rfl (by assumption) rfl (Nat.le_of_ble_eq_true rfl) (by omega) ⟨Nat.le_of_ble_eq_true rfl, Nat.le_of_ble_eq_true rfl⟩ (r1) ?_
  refine xr_go i11_86 rfl ?_
  refine xr_top (show _ = nI (l - m) from pk_sub hml) ?_
  refine xr_go i11_87 rfl ?_
  refine xr_go i11_89 rfl ?_
  refine xr_go i11_91 rfl ?_
  refine xr_go i11_93 rfl ?_
  refine xr_go i11_95 rfl ?_
  refine xr_V i11_97 xc11_163 ⟨rfl, rfl⟩ xa_66 rfl (by assumption) rfl (Nat.le_of_ble_eq_true rfl) (by omega) ⟨Nat.le_of_ble_eq_true rfl, Nat.le_of_ble_eq_true rfl⟩ (r2) ?_
  refine xr_go i11_100 rfl ?_
  refine xr_top (show _ = nI (l - m - bb) from pk_sub hbn) ?_
  refine xr_go i11_101 rfl ?_
  refine xr_go i11_103 rfl ?_
  refine xr_go i11_104 rfl ?_
  refine xr_go i11_106 rfl ?_
  refine xr_top (show _ = nI (n - l + m + bb) from (pk_sub (show l - m - bb ≤ n by omega)).trans (congrArg nI (by omega))) ?_
  exact xr_iret i11_107 xt_11 rfl
theorem D_meet (hD : xDS B nx tak cmt sv sp pl cm pg clk com fog kno bit rd wr lat tn tb h) (x y z : Int32) (hd : 7 ≤ d) :
    (¬ pMeet x y z → xRun G d 11 (0, [some (.ref B), some (.int x), some (.int y), some (.int z), none, none, none], [], (h, nx, sl)) (some (.int (-1)), (h, nx, sl))) ∧ ∀ f t n, pMeet x y z → x = nI f → y = nI t → z = nI n → f < 5 → t < 5 → n < 2 ^ 31 → ∃ h', xRun G d 11 (0, [some (.ref B), some (.int x), some (.int y), some (.int z), none, none, none], [], (h, nx, sl)) (some (.int (nI (vMeet tak sv sp cm clk com fog kno f t n).1)), (h', nx, sl)) ∧ xDS B nx tak cmt sv sp pl cm pg (va_up clk t (vMeet tak sv sp cm clk com fog kno f t n).2.1) (va_up com t (vMeet tak sv sp cm clk com fog kno f t n).2.2.1) (va_up fog t (vMeet tak sv sp cm clk com fog kno f t n).2.2.2.1) (va_up kno t (vMeet tak sv sp cm clk com fog kno f t n).2.2.2.2) bit rd wr lat tn tb h' ∧ xoth B nx h h' := by
  have hD0 := hD
  obtain ⟨lv, wad, pad, psa, poa, ⟨t1, ⟨sf, t2, t3⟩, ⟨ef, t4, t5⟩⟩, h2, h3, h4, h5, h6, h7, h8, h9, h10, h11, h12, h13⟩ := hD
  constructor
  · intro hp
    have tail : xRun G d 11 (23, [some (.ref B), some (.int x), some (.int y), some (.int z), none, none, none], [], (h, nx, sl)) (some (.int (-1)), (h, nx, sl)) := by
      refine xr_go i11_23 rfl ?_
      exact xr_iret i11_24 xt_11 rfl
    refine xr_go i11_0 rfl ?_
    refine xr_S i11_1 xc11_71 ⟨by first | exact Or.inl rfl | exact Or.inr rfl, rfl⟩ xa_6 (Nat.le_of_ble_eq_true rfl) (Nat.le_of_ble_eq_true rfl) (by omega) ⟨Nat.le_of_ble_eq_true rfl, Nat.le_of_ble_eq_true rfl⟩ (s_isServer x) ?_
    by_cases hx : xrng 5 x = true
    · refine xr_if_eqF i11_4 (t := 23) (by decide) (xbi_1 hx) ?_
      refine xr_go i11_7 rfl ?_
      refine xr_S i11_8 xc11_71 ⟨by first | exact Or.inl rfl | exact Or.inr rfl, rfl⟩ xa_6 (Nat.le_of_ble_eq_true rfl) (Nat.le_of_ble_eq_true rfl) (by omega) ⟨Nat.le_of_ble_eq_true rfl, Nat.le_of_ble_eq_true rfl⟩ (s_isServer y) ?_
      by_cases hy : xrng 5 y = true
      · refine xr_if_eqF i11_11 (t := 23) (by decide) (xbi_1 hy) ?_
        refine xr_go i11_14 rfl ?_
        refine xr_go i11_15 rfl ?_
        by_cases hxy : x = y
        · refine xr_icmp_eqT i11_16 (t := 23) (by decide) hxy ?_
          exact tail
        · refine xr_icmp_eqF i11_16 (t := 23) (by decide) hxy ?_
          refine xr_go i11_19 rfl ?_
          refine xr_if_geF i11_20 (t := 25) (by decide) (fun e => hp ⟨hx, hy, hxy, Int32.not_lt.mpr e⟩) ?_
          exact tail
      · refine xr_if_eqT i11_11 (t := 23) (by decide) (xbi_f (by simpa using hy)) ?_
        exact tail
    · refine xr_if_eqT i11_4 (t := 23) (by decide) (xbi_f (by simpa using hx)) ?_
      exact tail
  · rintro f t n ⟨hx, hy, hxy, hz⟩ rfl rfl rfl hf ht hn
    have hft : f ≠ t := fun e => hxy (by rw [e])
    have u1 := t3 f hf
    have u2 := t3 t ht
    have hSt := h10 t ht
    have hSf := h10 f hf
    have zf : ∃ x9, h (B + 18 + 7 * f) = some (.inr (6, x9)) ∧ x9[10]? = some (Value.int (nI (fog f))) := by
      obtain ⟨_, _, _, _, _, _, ⟨_, hs, -⟩, -⟩ := hSf
      exact ⟨_, hs.1, rfl⟩
    have zt : ∃ x9, h (B + 18 + 7 * t) = some (.inr (6, x9)) ∧ x9[9]? = some (Value.int (nI (com t))) := by
      obtain ⟨_, _, _, _, _, _, ⟨_, hs, -⟩, -⟩ := hSt
      exact ⟨_, hs.1, rfl⟩
    obtain ⟨xf, zf1, zf2⟩ := zf
    obtain ⟨xt, zt1, zt2⟩ := zt
    have hc500 : cmt ≤ 500 := by
      have := h5.2.2.1
      have := h5.2.2.2.1
      omega
    have bf : com f ≤ cmt ∧ fog f ≤ com f := by
      obtain ⟨_, _, _, _, _, _, -, -, -, -, -, k4, k5, -⟩ := hSf
      exact ⟨k4, k5⟩
    have bt : com t ≤ cmt ∧ fog t ≤ com t := by
      obtain ⟨_, _, _, _, _, _, -, -, -, -, -, k4, k5, -⟩ := hSt
      exact ⟨k4, k5⟩
    have hK := xDS_sp hD0
    /- the state of the taker behind the forgotten item, and the run up to the rest -/
    have stage : ∃ h1 l com1 fog1, l ≤ n ∧ n - l = (if 0 < n ∧ com t < fog f then 1 else 0) ∧ com1 = (if 0 < n ∧ com t < fog f then fog f else com t) ∧ fog1 = (if 0 < n ∧ com t < fog f then fog f else fog t) ∧ xSI B (B + 18 + 7 * t) tak cmt sv sp pg cm (xadv sp cm (com1 - com t) (clk t) (com t) (kno t)).1 com1 fog1 (xadv sp cm (com1 - com t) (clk t) (com t) (kno t)).2 h1 ∧ (∃ b e t, xMS (B + 13) b e t h1) ∧ xsm B (B + 18 + 7 * t) h h1 ∧ ∀ res, xRun G d 11 (75, [some (.ref B), some (.int (nI f)), some (.int (nI t)), some (.int (nI n)), some (.ref (B + 18 + 7 * f)), some (.ref (B + 18 + 7 * t)), some (.int (nI l))], [], (h1, nx, sl)) res → xRun G d 11 (0, [some (.ref B), some (.int (nI f)), some (.int (nI t)), some (.int (nI n)), none, none, none], [], (h, nx, sl)) res := by
      by_cases hc : 0 < n ∧ com t < fog f
      · obtain ⟨h1, r1, hS1, hM1, sm1⟩ := q_forgotten (G := G) (d := d - 1) (nx := nx) (sl := sl) (m := fog f) h5 h7 h8 h9 hSt (by omega) (by omega) (by omega) (by omega)
        obtain ⟨n', rfl⟩ : ∃ n', n = n' + 1 := ⟨n - 1, by omega⟩
        refine ⟨h1, n', fog f, fog f, by omega, by rw [if_pos hc]; omega, by rw [if_pos hc], by rw [if_pos hc], hS1, hM1, sm1, fun res hres => ?_⟩
        refine xr_go i11_0 rfl ?_
        refine xr_S i11_1 xc11_71 ⟨by first | exact Or.inl rfl | exact Or.inr rfl, rfl⟩ xa_6 (Nat.le_of_ble_eq_true rfl) (Nat.le_of_ble_eq_true rfl) (by omega) ⟨Nat.le_of_ble_eq_true rfl, Nat.le_of_ble_eq_true rfl⟩ (s_isServer (nI f)) ?_
        refine xr_if_eqF i11_4 (t := 23) (by decide) (xbi_1 hx) ?_
        refine xr_go i11_7 rfl ?_
        refine xr_S i11_8 xc11_71 ⟨by first | exact Or.inl rfl | exact Or.inr rfl, rfl⟩ xa_6 (Nat.le_of_ble_eq_true rfl) (Nat.le_of_ble_eq_true rfl) (by omega) ⟨Nat.le_of_ble_eq_true rfl, Nat.le_of_ble_eq_true rfl⟩ (s_isServer (nI t)) ?_
        refine xr_if_eqF i11_11 (t := 23) (by decide) (xbi_1 hy) ?_
        refine xr_go i11_14 rfl ?_
        refine xr_go i11_15 rfl ?_
        refine xr_icmp_eqF i11_16 (t := 23) (by decide) hxy ?_
        refine xr_go i11_19 rfl ?_
        refine xr_if_geT i11_20 (t := 25) (by decide) (nI_pos' hn) ?_
        refine xr_go i11_25 rfl ?_
        refine xr_get i11_26 xf11_37 (by assumption) rfl rfl ?_
        refine xr_go i11_29 rfl ?_
        refine xr_aald i11_30 (by assumption) (by decide) rfl (by omega) (by omega) (by assumption) ?_
        refine xr_go i11_31 rfl ?_
        refine xr_go i11_33 rfl ?_
        refine xr_get i11_34 xf11_37 (by assumption) rfl rfl ?_
        refine xr_go i11_37 rfl ?_
        refine xr_aald i11_38 (by assumption) (by decide) rfl (by omega) (by omega) (by assumption) ?_
        refine xr_go i11_39 rfl ?_
        refine xr_go i11_41 rfl ?_
        refine xr_go i11_42 rfl ?_
        refine xr_go i11_44 rfl ?_
        refine xr_if_leF i11_46 (t := 75) (by decide) (show ¬ nI (n' + 1) ≤ nI 0 from nI_ge (by omega) hn) ?_
        refine xr_go i11_49 rfl ?_
        refine xr_get i11_51 xf11_150 zf1 rfl zf2 ?_
        refine xr_go i11_54 rfl ?_
        refine xr_get i11_56 xf11_153 zt1 rfl zt2 ?_
        refine xr_icmp_leF i11_59 (t := 75) (by decide) (nI_ge hc.2 (by omega)) ?_
        refine xr_go i11_62 rfl ?_
        refine xr_go i11_64 rfl ?_
        refine xr_get i11_66 xf11_150 zf1 rfl zf2 ?_
        refine xr_V i11_69 xc11_156 ⟨rfl, rfl⟩ xa_64 rfl (by assumption) rfl (Nat.le_of_ble_eq_true rfl) (by omega) ⟨Nat.le_of_ble_eq_true rfl, Nat.le_of_ble_eq_true rfl⟩ (r1) ?_
        refine xr_dec1 i11_72 rfl rfl ?_
        exact hres
      · refine ⟨h, n, com t, fog t, by omega, by rw [if_neg hc]; omega, by rw [if_neg hc], by rw [if_neg hc], ?_, h9, fun q _ _ => rfl, fun res hres => ?_⟩
        · rw [Nat.sub_self]
          exact hSt
        · refine xr_go i11_0 rfl ?_
          refine xr_S i11_1 xc11_71 ⟨by first | exact Or.inl rfl | exact Or.inr rfl, rfl⟩ xa_6 (Nat.le_of_ble_eq_true rfl) (Nat.le_of_ble_eq_true rfl) (by omega) ⟨Nat.le_of_ble_eq_true rfl, Nat.le_of_ble_eq_true rfl⟩ (s_isServer (nI f)) ?_
          refine xr_if_eqF i11_4 (t := 23) (by decide) (xbi_1 hx) ?_
          refine xr_go i11_7 rfl ?_
          refine xr_S i11_8 xc11_71 ⟨by first | exact Or.inl rfl | exact Or.inr rfl, rfl⟩ xa_6 (Nat.le_of_ble_eq_true rfl) (Nat.le_of_ble_eq_true rfl) (by omega) ⟨Nat.le_of_ble_eq_true rfl, Nat.le_of_ble_eq_true rfl⟩ (s_isServer (nI t)) ?_
          refine xr_if_eqF i11_11 (t := 23) (by decide) (xbi_1 hy) ?_
          refine xr_go i11_14 rfl ?_
          refine xr_go i11_15 rfl ?_
          refine xr_icmp_eqF i11_16 (t := 23) (by decide) hxy ?_
          refine xr_go i11_19 rfl ?_
          refine xr_if_geT i11_20 (t := 25) (by decide) (nI_pos' hn) ?_
          refine xr_go i11_25 rfl ?_
          refine xr_get i11_26 xf11_37 (by assumption) rfl rfl ?_
          refine xr_go i11_29 rfl ?_
          refine xr_aald i11_30 (by assumption) (by decide) rfl (by omega) (by omega) (by assumption) ?_
          refine xr_go i11_31 rfl ?_
          refine xr_go i11_33 rfl ?_
          refine xr_get i11_34 xf11_37 (by assumption) rfl rfl ?_
          refine xr_go i11_37 rfl ?_
          refine xr_aald i11_38 (by assumption) (by decide) rfl (by omega) (by omega) (by assumption) ?_
          refine xr_go i11_39 rfl ?_
          refine xr_go i11_41 rfl ?_
          refine xr_go i11_42 rfl ?_
          refine xr_go i11_44 rfl ?_
          by_cases hn0 : n = 0
          · refine xr_if_leT i11_46 (t := 75) (by decide) (by rw [hn0]; decide) ?_
            exact hres
          · refine xr_if_leF i11_46 (t := 75) (by decide) (show ¬ nI n ≤ nI 0 from nI_ge (by omega) hn) ?_
            refine xr_go i11_49 rfl ?_
            refine xr_get i11_51 xf11_150 zf1 rfl zf2 ?_
            refine xr_go i11_54 rfl ?_
            refine xr_get i11_56 xf11_153 zt1 rfl zt2 ?_
            refine xr_icmp_leT i11_59 (t := 75) (by decide) (nI_le (by omega) (by omega)) ?_
            exact hres
    obtain ⟨h1, l, com1, fog1, hl, hl1, hc1, hf1, hS1, hM1, sm1, run⟩ := stage
    have hH1 := xHist_kept h5 (h' := h1) (fun q hq => sm1 q (by omega) (by omega))
    have hSf1 := xSI_kept hSf (h' := h1) (fun q g1 g2 => sm1 q (by omega) (by omega))
    obtain ⟨h', r, hS', hM', sm'⟩ := q_meet_tail (G := G) (d := d) (nx := nx) (sl := sl) (L0 := some (.ref B)) (L1 := some (.int (nI f))) (L2 := some (.int (nI t))) hH1 h7 h8 hM1 hS1 hSf1 (by omega) (by omega) (by omega) hl hn (by omega)
    have hln : n - (if 0 < n ∧ com t < fog f then 1 else 0) = l := by omega
    have e : vMeet tak sv sp cm clk com fog kno f t n = (n - l + min l (com f - com1) + (xbring sp (xtl tak sv sp cm (kno f) (com f)) (l - min l (com f - com1)) (xadv sp cm (min l (com f - com1)) (xadv sp cm (com1 - com t) (clk t) (com t) (kno t)).1 com1 (xadv sp cm (com1 - com t) (clk t) (com t) (kno t)).2).1 (xadv sp cm (min l (com f - com1)) (xadv sp cm (com1 - com t) (clk t) (com t) (kno t)).1 com1 (xadv sp cm (com1 - com t) (clk t) (com t) (kno t)).2).2).1, (xbring sp (xtl tak sv sp cm (kno f) (com f)) (l - min l (com f - com1)) (xadv sp cm (min l (com f - com1)) (xadv sp cm (com1 - com t) (clk t) (com t) (kno t)).1 com1 (xadv sp cm (com1 - com t) (clk t) (com t) (kno t)).2).1 (xadv sp cm (min l (com f - com1)) (xadv sp cm (com1 - com t) (clk t) (com t) (kno t)).1 com1 (xadv sp cm (com1 - com t) (clk t) (com t) (kno t)).2).2).2.1, com1 + min l (com f - com1), fog1, (xbring sp (xtl tak sv sp cm (kno f) (com f)) (l - min l (com f - com1)) (xadv sp cm (min l (com f - com1)) (xadv sp cm (com1 - com t) (clk t) (com t) (kno t)).1 com1 (xadv sp cm (com1 - com t) (clk t) (com t) (kno t)).2).1 (xadv sp cm (min l (com f - com1)) (xadv sp cm (com1 - com t) (clk t) (com t) (kno t)).1 com1 (xadv sp cm (com1 - com t) (clk t) (com t) (kno t)).2).2).2.2) := by
      unfold vMeet xMeet
      dsimp only
      rw [hln, ← hc1, ← hf1, ← hl1]
    rw [e]
    have hcom1 : com t ≤ com1 ∧ com1 ≤ cmt := by
      rw [hc1]
      split <;> omega
    refine ⟨h', run _ r, xDS_srv hD0 ht (sm1.trans sm') hM' hS' ?_, (sm1.trans sm').oth (by omega)⟩
    obtain ⟨g1, g2, g3, g4⟩ := h12
    refine ⟨?_, fun w hw => ?_, fun i hi => ?_, g4⟩
    · by_cases ht0 : t = 0
      · subst ht0
        rw [vu_at]
        show com1 + min l (com f - com1) = cmt
        omega
      · rw [vu_ne (fun e => ht0 e.symm)]
        exact g1
    · by_cases hst : sv w = t
      · rw [hst, vu_at]
        refine xbring_k _ _ _ _ (xadv_k _ _ _ _ (xadv_k _ _ _ _ ?_))
        rw [← hst]
        exact g2 w hw
      · rw [vu_ne hst]
        exact g2 w hw
    · by_cases hit : i = t
      · subst hit
        rw [vu_at]
        refine xbring_le _ _ _ _ (fun w hw => ?_) (xadv_le _ _ _ _ (fun r q1 q2 => hK _ (h7.2.1 r (by omega))) (xadv_le _ _ _ _ (fun r q1 q2 => hK _ (h7.2.1 r (by omega))) (g3 _ ht)))
        have hTf : xTL tak sv sp cm (kno f) (com f) (xtl tak sv sp cm (kno f) (com f)) := by
          obtain ⟨_, _, tl, _, _, _, -, hT, -⟩ := hSf
          rw [xtl_eq hT]
          exact hT
        exact hK w ((hTf.2 w).mp hw).1
      · rw [vu_ne hit]
        exact g3 i hi
end XMEET

