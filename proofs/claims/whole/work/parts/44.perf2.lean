/-! ===== the model: doing a write ===== -/
def msg (k : Nat) : Int32 := if k = 10 then 61 else if k = 11 then 35 else if k = 12 then 60 else 62
def mcmp (q : Nat × List (Nat × Int32) × List (Nat × Int32)) : List Int32 := msg q.1 :: (mE q.2.1 ++ mE q.2.2)
def meff (e : Nat × List (Nat × Int32)) : List Int32 := nI e.1 :: mE e.2
def mrule (r : xRu) : List Int32 := (if r.1 = [] then -1 else nI r.1.length) :: (r.1.flatMap mcmp ++ nI r.2.length :: r.2.flatMap meff)
/-- the code of a program -/
def xMcd (a : Nat) (pg : List (Nat × Int32)) (h : xH) : Prop := ∃ (R : List xRu) (len : Nat) (f : Nat → Int32), pg = xrs 1 R ∧ R.length ≤ 6 ∧ (∀ r ∈ R, xWr r) ∧ h a = some (.inl (0, len, .inl f)) ∧ len ≤ 1600 ∧ 7 ≤ len ∧ f 0 = nI R.length ∧ ∀ k, k < R.length → ∃ st, f (k + 1) = nI st ∧ st + (mrule (R.getD k ([], []))).length ≤ len ∧ xseg f st (mrule (R.getD k ([], [])))
section XPERF2
variable {G : xG} {d : Nat} {nx sl M w a len : Nat} {sv sp : Nat → Nat} {tn tk rk at_ sz kd fr to_ ft pt mn od : Int32} {lt : Value} {nu : Int64} {f c : Nat → Int32} {wf : Nat → Option Nat}
set_option maxHeartbeats 8000000 in
theorem m_holds_loop (hw : w < 500) (hln : len ≤ 1600) (hd : 1 ≤ d) (hwf : wf w = some a) (haM : M + 41 ≤ a) (n : Nat) (hn : n < 2000) : ∀ (cs : List (Nat × List (Nat × Int32) × List (Nat × Int32))) (i p : Nat) (g : Nat → Int32) (h : xH) (L5 L6 L7 L8 : Option Value), i + cs.length = n → h M = some (.inr (10, xMf M tn tk rk lt at_ sz kd fr to_ ft pt nu mn (nI p) od)) → h (M + 6) = some (.inl (6, 500, .inr (.inr (.inr (.inr wf))))) → h a = some (.inl (0, len, .inl f)) → h (M + 36) = some (.inl (0, 32, .inl c)) → h (M + 2) = some (.inl (0, 500, .inl (fun w => nI (sv w)))) → h (M + 3) = some (.inl (0, 500, .inl (fun w => nI (sp w)))) → h (M + 37) = some (.inl (0, 160, .inl g)) → (∀ q ∈ cs, xWc q) → xseg f p (cs.flatMap mcmp) → p + (cs.flatMap mcmp).length ≤ len →
    ∃ h' g' p', xRun G d 108 (27, [some (.ref M), some (.int (nI w)), some (.ref a), some (.int (nI n)), some (.int (nI i)), L5, L6, L7, L8], [], (h, nx, sl)) (some (.int (xbi (cs.all (xch (nI (sv w)) (nI (sp w)) c)))), (h', nx, sl)) ∧ h' M = some (.inr (10, xMf M tn tk rk lt at_ sz kd fr to_ ft pt nu mn (nI p') od)) ∧ h' (M + 37) = some (.inl (0, 160, .inl g')) ∧ (cs.all (xch (nI (sv w)) (nI (sp w)) c) = true → p' = p + (cs.flatMap mcmp).length) ∧ ∀ q, q ≠ M → q ≠ M + 37 → h' q = h q := by
  intro cs
  induction cs with
  | nil =>
    intro i p g h L5 L6 L7 L8 hi hO hwh ha hc hsv hsp hg hW hseg hle
    refine ⟨h, g, p, ?_, hO, hg, fun _ => rfl, fun _ _ _ => rfl⟩
    simp only [List.length_nil, Nat.add_zero] at hi
    refine xr_go i108_27 rfl ?_
    refine xr_go i108_29 rfl ?_
    refine xr_icmp_geT i108_30 (t := 158) (by decide) (nI_le (by omega) (by omega)) ?_
    refine xr_go i108_158 rfl ?_
    exact xr_iret i108_159 xt_108 rfl
  | cons q cs ih =>
    intro i p g h L5 L6 L7 L8 hi hO hwh ha hc hsv hsp hg hW hseg hle
    simp only [List.length_cons] at hi
    rw [List.flatMap_cons] at hseg hle
    obtain ⟨sg1, sg2⟩ := xseg_app hseg
    rw [List.length_append] at hle
    obtain ⟨s0, sg3⟩ := xseg_cons sg1
    obtain ⟨sg4, sg5⟩ := xseg_app sg3
    have hml : (mcmp q).length = 1 + (mE q.2.1).length + (mE q.2.2).length := by
      unfold mcmp
      rw [List.length_cons, List.length_append]
      omega
    obtain ⟨hq1, hq2, hq3, hq4⟩ := hW q List.mem_cons_self
    obtain ⟨k1, ek1⟩ : ∃ z : xH, z = xup h M (.inr (10, xMf M tn tk rk lt at_ sz kd fr to_ ft pt nu mn (nI (p + 1)) od)) := ⟨_, rfl⟩
    have k1M : k1 M = some (.inr (10, xMf M tn tk rk lt at_ sz kd fr to_ ft pt nu mn (nI (p + 1)) od)) := by rw [ek1]; exact xup_s
    have k1n : ∀ q, q ≠ M → k1 q = h q := fun q hq => by rw [ek1]; exact xup_n hq
    obtain ⟨k2, g2, r2, k2M, k2g, k2n⟩ := m_value (G := G) (d := d - 1) (nx := nx) (sl := sl) (sv := sv) (sp := sp) (c := c) hw hln k1M ((k1n _ (by omega)).trans hwh) hwf ((k1n _ (by omega)).trans ha) haM ((k1n _ (by omega)).trans hc) ((k1n _ (by omega)).trans hsv) ((k1n _ (by omega)).trans hsp) ((k1n _ (by omega)).trans hg) hq3 sg4 (by omega)
    have o2 : ∀ q, q ≠ M → q ≠ M + 37 → k2 q = h q := fun q a1 a2 => (k2n q a1 a2).trans (k1n q a1)
    obtain ⟨k3, g3, r3, k3M, k3g, k3n⟩ := m_value (G := G) (d := d - 1) (nx := nx) (sl := sl) (sv := sv) (sp := sp) (c := c) hw hln k2M ((o2 _ (by omega) (by omega)).trans hwh) hwf ((o2 _ (by omega) (by omega)).trans ha) haM ((o2 _ (by omega) (by omega)).trans hc) ((o2 _ (by omega) (by omega)).trans hsv) ((o2 _ (by omega) (by omega)).trans hsp) k2g hq4 sg5 (by omega)
    have o3 : ∀ q, q ≠ M → q ≠ M + 37 → k3 q = h q := fun q a1 a2 => (k3n q a1 a2).trans (o2 q a1 a2)
    have pre : ∀ res, xRun G d 108 (65, [some (.ref M), some (.int (nI w)), some (.ref a), some (.int (nI n)), some (.int (nI i)), some (.int (msg q.1)), some (.int (xval q.2.1 (nI (sv w)) (nI (sp w)) c)), some (.int (xval q.2.2 (nI (sv w)) (nI (sp w)) c)), L8], [], (k3, nx, sl)) res → xRun G d 108 (27, [some (.ref M), some (.int (nI w)), some (.ref a), some (.int (nI n)), some (.int (nI i)), L5, L6, L7, L8], [], (h, nx, sl)) res := by
      intro res k
      refine xr_go i108_27 rfl ?_
      refine xr_go i108_29 rfl ?_
      refine xr_icmp_geF i108_30 (t := 158) (by decide) (nI_ge (by omega) (by omega)) ?_
      refine xr_go i108_33 rfl ?_
      refine xr_go i108_34 rfl ?_
      refine xr_get i108_35 xf108_226 (by assumption) rfl rfl ?_
      refine xr_iald i108_38 (by assumption) rfl (by omega) (by omega) ?_
      rw [s0]
      refine xr_go i108_39 rfl ?_
      refine xr_go i108_41 rfl ?_
      refine xr_go i108_42 rfl ?_
      refine xr_get i108_43 xf108_226 (by assumption) rfl rfl ?_
      refine xr_go i108_46 rfl ?_
      refine xr_go i108_47 rfl ?_
      refine xr_top (show _ = nI (p + 1) from nI_add p 1) ?_
      refine xr_put i108_48 xf108_226 (by assumption) ⟨rfl, Nat.le_of_ble_eq_true rfl, rfl, rfl, Or.inl rfl⟩ (fun z ez => ?_)
      obtain rfl : z = k1 := ez.trans ek1.symm
      refine xr_go i108_51 rfl ?_
      refine xr_go i108_52 rfl ?_
      refine xr_V i108_53 xc108_229 ⟨rfl, rfl⟩ xa_109 rfl (by assumption) rfl (Nat.le_of_ble_eq_true rfl) (by omega) ⟨Nat.le_of_ble_eq_true rfl, Nat.le_of_ble_eq_true rfl⟩ (r2) ?_
      refine xr_go i108_56 rfl ?_
      refine xr_go i108_58 rfl ?_
      refine xr_go i108_59 rfl ?_
      refine xr_V i108_60 xc108_229 ⟨rfl, rfl⟩ xa_109 rfl (by assumption) rfl (Nat.le_of_ble_eq_true rfl) (by omega) ⟨Nat.le_of_ble_eq_true rfl, Nat.le_of_ble_eq_true rfl⟩ (r3) ?_
      refine xr_go i108_63 rfl ?_
      exact k
    have mid : ∀ res, xRun G d 108 (143, [some (.ref M), some (.int (nI w)), some (.ref a), some (.int (nI n)), some (.int (nI i)), some (.int (msg q.1)), some (.int (xval q.2.1 (nI (sv w)) (nI (sp w)) c)), some (.int (xval q.2.2 (nI (sv w)) (nI (sp w)) c)), L8], [.int (xbi (xch (nI (sv w)) (nI (sp w)) c q))], (k3, nx, sl)) res → xRun G d 108 (27, [some (.ref M), some (.int (nI w)), some (.ref a), some (.int (nI n)), some (.int (nI i)), L5, L6, L7, L8], [], (h, nx, sl)) res := by
      intro res k
      refine pre res ?_
      unfold xch xcmpv at k
      have hq : q.1 = 10 ∨ q.1 = 11 ∨ q.1 = 12 ∨ q.1 = 13 := by omega
      generalize xval q.2.1 (nI (sv w)) (nI (sp w)) c = X at k ⊢
      generalize xval q.2.2 (nI (sv w)) (nI (sp w)) c = Y at k ⊢
      rcases hq with e | e | e | e
      · rw [e] at k ⊢
        refine xr_go i108_65 rfl ?_
        refine xr_go i108_67 rfl ?_
        refine xr_icmp_neF i108_69 (t := 87) (by decide) rfl ?_
        refine xr_go i108_72 rfl ?_
        refine xr_go i108_74 rfl ?_
        refine xr_icmp_ne i108_76 (t := 83) (by decide) (fun hc2 => ?_) (fun hc2 => ?_)
        · simp only [if_true, decide_eq_false hc2] at k
          refine xr_go i108_83 rfl ?_
          refine xr_goto i108_84 (t := 143) (by decide) ?_
          exact k
        · simp only [if_true, decide_eq_true hc2] at k
          refine xr_go i108_79 rfl ?_
          refine xr_goto i108_80 (t := 143) (by decide) ?_
          exact k
      · rw [e] at k ⊢
        refine xr_go i108_65 rfl ?_
        refine xr_go i108_67 rfl ?_
        refine xr_icmp_neT i108_69 (t := 87) (by decide) (by decide) ?_
        refine xr_go i108_87 rfl ?_
        refine xr_go i108_89 rfl ?_
        refine xr_icmp_neF i108_91 (t := 109) (by decide) rfl ?_
        refine xr_go i108_94 rfl ?_
        refine xr_go i108_96 rfl ?_
        refine xr_icmp_eq i108_98 (t := 105) (by decide) (fun hc2 => ?_) (fun hc2 => ?_)
        · simp only [show ¬ (11 : Nat) = 10 by omega, if_false, if_true, decide_eq_false (p := ¬ X = Y) (fun z => z hc2)] at k
          refine xr_go i108_105 rfl ?_
          refine xr_goto i108_106 (t := 143) (by decide) ?_
          exact k
        · simp only [show ¬ (11 : Nat) = 10 by omega, if_false, if_true, decide_eq_true (p := ¬ X = Y) hc2] at k
          refine xr_go i108_101 rfl ?_
          refine xr_goto i108_102 (t := 143) (by decide) ?_
          exact k
      · rw [e] at k ⊢
        refine xr_go i108_65 rfl ?_
        refine xr_go i108_67 rfl ?_
        refine xr_icmp_neT i108_69 (t := 87) (by decide) (by decide) ?_
        refine xr_go i108_87 rfl ?_
        refine xr_go i108_89 rfl ?_
        refine xr_icmp_neT i108_91 (t := 109) (by decide) (by decide) ?_
        refine xr_go i108_109 rfl ?_
        refine xr_go i108_111 rfl ?_
        refine xr_icmp_neF i108_113 (t := 131) (by decide) rfl ?_
        refine xr_go i108_116 rfl ?_
        refine xr_go i108_118 rfl ?_
        refine xr_icmp_ge i108_120 (t := 127) (by decide) (fun hc2 => ?_) (fun hc2 => ?_)
        · simp only [show ¬ (12 : Nat) = 10 by omega, show ¬ (12 : Nat) = 11 by omega, if_false, if_true, decide_eq_false (p := X < Y) (Int32.not_lt.mpr hc2)] at k
          refine xr_go i108_127 rfl ?_
          refine xr_goto i108_128 (t := 143) (by decide) ?_
          exact k
        · simp only [show ¬ (12 : Nat) = 10 by omega, show ¬ (12 : Nat) = 11 by omega, if_false, if_true, decide_eq_true (p := X < Y) (Int32.not_le.mp hc2)] at k
          refine xr_go i108_123 rfl ?_
          refine xr_goto i108_124 (t := 143) (by decide) ?_
          exact k
      · rw [e] at k ⊢
        refine xr_go i108_65 rfl ?_
        refine xr_go i108_67 rfl ?_
        refine xr_icmp_neT i108_69 (t := 87) (by decide) (by decide) ?_
        refine xr_go i108_87 rfl ?_
        refine xr_go i108_89 rfl ?_
        refine xr_icmp_neT i108_91 (t := 109) (by decide) (by decide) ?_
        refine xr_go i108_109 rfl ?_
        refine xr_go i108_111 rfl ?_
        refine xr_icmp_neT i108_113 (t := 131) (by decide) (by decide) ?_
        refine xr_go i108_131 rfl ?_
        refine xr_go i108_133 rfl ?_
        refine xr_icmp_le i108_135 (t := 142) (by decide) (fun hc2 => ?_) (fun hc2 => ?_)
        · simp only [show ¬ (13 : Nat) = 10 by omega, show ¬ (13 : Nat) = 11 by omega, show ¬ (13 : Nat) = 12 by omega, if_false, decide_eq_false (p := Y < X) (Int32.not_lt.mpr hc2)] at k
          refine xr_go i108_142 rfl ?_
          exact k
        · simp only [show ¬ (13 : Nat) = 10 by omega, show ¬ (13 : Nat) = 11 by omega, show ¬ (13 : Nat) = 12 by omega, if_false, decide_eq_true (p := Y < X) (Int32.not_le.mp hc2)] at k
          refine xr_go i108_138 rfl ?_
          refine xr_goto i108_139 (t := 143) (by decide) ?_
          exact k
    rw [List.all_cons]
    cases hch : xch (nI (sv w)) (nI (sp w)) c q with
    | false =>
      rw [hch] at mid
      rw [Bool.false_and]
      refine ⟨k3, g3, p + 1 + (mE q.2.1).length + (mE q.2.2).length, mid _ ?_, k3M, k3g, fun z => (Bool.false_ne_true z).elim, o3⟩
      refine xr_go i108_143 rfl ?_
      refine xr_go i108_145 rfl ?_
      refine xr_if_neF i108_147 (t := 152) (by decide) (by decide) ?_
      refine xr_go i108_150 rfl ?_
      exact xr_iret i108_151 xt_108 rfl
    | true =>
      rw [hch] at mid
      rw [Bool.true_and]
      obtain ⟨h', g', p', r, i1, i2, i3, i4⟩ := ih (i + 1) _ g3 k3 (some (.int (msg q.1))) (some (.int (xval q.2.1 (nI (sv w)) (nI (sp w)) c))) (some (.int (xval q.2.2 (nI (sv w)) (nI (sp w)) c))) (some (.int (xbi true))) (by omega) k3M ((o3 _ (by omega) (by omega)).trans hwh) ((o3 _ (by omega) (by omega)).trans ha) ((o3 _ (by omega) (by omega)).trans hc) ((o3 _ (by omega) (by omega)).trans hsv) ((o3 _ (by omega) (by omega)).trans hsp) k3g (fun z hz => hW z (List.mem_cons_of_mem _ hz)) (by rw [show p + 1 + (mE q.2.1).length + (mE q.2.2).length = p + (mcmp q).length by omega]; exact sg2) (by omega)
      refine ⟨h', g', p', mid _ ?_, i1, i2, fun z => ?_, fun q a1 a2 => (i4 q a1 a2).trans (o3 q a1 a2)⟩
      · refine xr_go i108_143 rfl ?_
        refine xr_go i108_145 rfl ?_
        refine xr_if_neT i108_147 (t := 152) (by decide) (by decide) ?_
        refine xr_inc1 i108_152 rfl rfl ?_
        refine xr_goto i108_155 (t := 27) (by decide) ?_
        exact r
      · rw [i3 z, List.flatMap_cons, List.length_append]
        omega
theorem m_holds {cs : List (Nat × List (Nat × Int32) × List (Nat × Int32))} {p : Nat} {g : Nat → Int32} {h : xH} {rest : List Int32} (hw : w < 500) (hln : len ≤ 1600) (hd : 1 ≤ d) (hO : h M = some (.inr (10, xMf M tn tk rk lt at_ sz kd fr to_ ft pt nu mn (nI p) od))) (hwh : h (M + 6) = some (.inl (6, 500, .inr (.inr (.inr (.inr wf)))))) (hwf : wf w = some a) (ha : h a = some (.inl (0, len, .inl f))) (haM : M + 41 ≤ a) (hc : h (M + 36) = some (.inl (0, 32, .inl c))) (hsv : h (M + 2) = some (.inl (0, 500, .inl (fun w => nI (sv w))))) (hsp : h (M + 3) = some (.inl (0, 500, .inl (fun w => nI (sp w))))) (hg : h (M + 37) = some (.inl (0, 160, .inl g))) (hW : ∀ q ∈ cs, xWc q) (hseg : xseg f p ((if cs = [] then -1 else nI cs.length) :: (cs.flatMap mcmp ++ rest))) (hle : p + 1 + (cs.flatMap mcmp).length ≤ len) (hcl : cs.length < 2000) :
    ∃ h' g' p', xRun G d 108 (0, [some (.ref M), some (.int (nI w)), none, none, none, none, none, none, none], [], (h, nx, sl)) (some (.int (xbi (cs.all (xch (nI (sv w)) (nI (sp w)) c)))), (h', nx, sl)) ∧ h' M = some (.inr (10, xMf M tn tk rk lt at_ sz kd fr to_ ft pt nu mn (nI p') od)) ∧ h' (M + 37) = some (.inl (0, 160, .inl g')) ∧ (cs.all (xch (nI (sv w)) (nI (sp w)) c) = true → p' = p + 1 + (cs.flatMap mcmp).length) ∧ ∀ q, q ≠ M → q ≠ M + 37 → h' q = h q := by
  obtain ⟨s0, sg⟩ := xseg_cons hseg
  obtain ⟨k1, ek1⟩ : ∃ z : xH, z = xup h M (.inr (10, xMf M tn tk rk lt at_ sz kd fr to_ ft pt nu mn (nI (p + 1)) od)) := ⟨_, rfl⟩
  have k1M : k1 M = some (.inr (10, xMf M tn tk rk lt at_ sz kd fr to_ ft pt nu mn (nI (p + 1)) od)) := by rw [ek1]; exact xup_s
  have k1n : ∀ q, q ≠ M → k1 q = h q := fun q hq => by rw [ek1]; exact xup_n hq
  have pre : ∀ (cnt : Int32) (res : Option Value × xW), f p = cnt → xRun G d 108 (27, [some (.ref M), some (.int (nI w)), some (.ref a), some (.int cnt), some (.int (nI 0)), none, none, none, none], [], (k1, nx, sl)) res → xRun G d 108 (0, [some (.ref M), some (.int (nI w)), none, none, none, none, none, none, none], [], (h, nx, sl)) res := by
    intro cnt res e k
    refine xr_go i108_0 rfl ?_
    refine xr_get i108_1 xf108_27 (by assumption) rfl rfl ?_
    refine xr_go i108_4 rfl ?_
    refine xr_aald i108_5 (by assumption) (by decide) rfl (by omega) (by omega) (by assumption) ?_
    refine xr_go i108_6 rfl ?_
    refine xr_go i108_7 rfl ?_
    refine xr_go i108_8 rfl ?_
    refine xr_get i108_9 xf108_226 (by assumption) rfl rfl ?_
    refine xr_iald i108_12 (by assumption) rfl (by omega) (by omega) ?_
    rw [e]
    refine xr_go i108_13 rfl ?_
    refine xr_go i108_14 rfl ?_
    refine xr_go i108_15 rfl ?_
    refine xr_get i108_16 xf108_226 (by assumption) rfl rfl ?_
    refine xr_go i108_19 rfl ?_
    refine xr_go i108_20 rfl ?_
    refine xr_top (show _ = nI (p + 1) from nI_add p 1) ?_
    refine xr_put i108_21 xf108_226 (by assumption) ⟨rfl, Nat.le_of_ble_eq_true rfl, rfl, rfl, Or.inl rfl⟩ (fun z ez => ?_)
    obtain rfl : z = k1 := ez.trans ek1.symm
    refine xr_go i108_24 rfl ?_
    refine xr_go i108_25 rfl ?_
    exact k
  by_cases hcs : cs = []
  · subst hcs
    rw [if_pos rfl] at s0
    refine ⟨k1, g, p + 1, pre _ _ s0 ?_, k1M, (k1n _ (by omega)).trans hg, fun _ => rfl, fun q a1 a2 => k1n q a1⟩
    refine xr_go i108_27 rfl ?_
    refine xr_go i108_29 rfl ?_
    refine xr_icmp_geT i108_30 (t := 158) (by decide) (by decide) ?_
    refine xr_go i108_158 rfl ?_
    exact xr_iret i108_159 xt_108 rfl
  · rw [if_neg hcs] at s0
    obtain ⟨h', g', p', r, i1, i2, i3, i4⟩ := m_holds_loop (G := G) (d := d) (nx := nx) (sl := sl) (sv := sv) (sp := sp) (c := c) hw hln hd hwf haM cs.length hcl cs 0 (p + 1) g k1 none none none none (by omega) k1M ((k1n _ (by omega)).trans hwh) ((k1n _ (by omega)).trans ha) ((k1n _ (by omega)).trans hc) ((k1n _ (by omega)).trans hsv) ((k1n _ (by omega)).trans hsp) ((k1n _ (by omega)).trans hg) hW (xseg_app sg).1 hle
    exact ⟨h', g', p', pre _ _ s0 r, i1, i2, i3, fun q a1 a2 => (i4 q a1 a2).trans (k1n q a1)⟩
end XPERF2

