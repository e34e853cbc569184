/-! ===== the model: meeting, as a whole ===== -/
theorem xbring_0 {sp : Nat → Nat} {l : List Nat} {c : Nat} {K : Nat → Nat} : xbring sp l 0 c K = (0, c, K) := by cases l <;> rfl
section XMMEET3
variable {G : xG} {d : Nat} {h h' : xH} {sl : Nat} {M nx nx' tak cmt : Nat} {sv sp pl cm : Nat → Nat} {pg : Nat → List (Nat × Int32)} {clk com fog : Nat → Nat} {kno : Nat → Nat → Nat} {bit : Nat → Nat} {rd wr : Nat → Nat → Nat} {lat : Option (List (Nat × Int32))} {tn : Nat} {tb : Nat → Nat}
theorem m_meet_exit {tn rk at_ sz kd fr to_ ft pt mn pc od tk : Int32} {lt : Value} {nu : Int64} {n : Nat} {L1 L2 L6 : Option Value} {k : Int32} (hn : n < 2 ^ 31) (hO : h M = some (.inr (10, xMf M tn tk rk lt at_ sz kd fr to_ ft pt nu mn pc od))) : xRun G d 112 (131, [some (.ref M), L1, L2, some (.int (nI n)), some (.int (nI n)), some (.int k), L6], [], (h, nx, sl)) (some (.int (nI n)), (h, nx, sl)) := by
  refine xr_go i112_131 rfl ?_
  refine xr_go i112_133 rfl ?_
  refine xr_get i112_134 xf112_236 (by assumption) rfl rfl ?_
  have tail : xRun G d 112 (242, [some (.ref M), L1, L2, some (.int (nI n)), some (.int (nI n)), some (.int k), L6], [], (h, nx, sl)) (some (.int (nI n)), (h, nx, sl)) := by
    refine xr_go i112_242 rfl ?_
    exact xr_iret i112_244 xt_112 rfl
  refine xr_icmp_ge i112_137 (t := 242) (by decide) (fun hc => ?_) (fun hc => ?_)
  · exact tail
  · refine xr_go i112_140 rfl ?_
    refine xr_go i112_142 rfl ?_
    refine xr_icmp_geT i112_143 (t := 242) (by decide) (nI_le (by omega) hn) ?_
    exact tail
theorem m_meet_mid {tn rk at_ sz kd fr to_ ft pt mn pc tk : Int32} {lt : Value} {nu : Int64} {f t : Nat} {fo : Nat → Int32} {tl : List Nat} (hf : f < 5) (ht : t < 5) (hL5 : com f + tl.length ≤ 500) (hrow : xrow fo (xord cm (com f) tl)) (hLs : ∀ w ∈ xord cm (com f) tl, w < 500 ∧ sp w < 2 ^ 31) (hcf : com f ≤ cmt) (hc5 : cmt ≤ 500) (hpl : ∀ r, r < cmt → pl (cm r) = r + 1) {n : Nat} (hn : n < 2 ^ 31) (hft : f ≠ t) (hd : 2 ≤ d) : ∀ (j k x done c : Nat) (K : Nat → Nat) (h : xH) (L6 : Option Value), k + j = com f → k ≤ x → x ≤ cmt → done ≤ n → done ≤ k + 1 → c < 2 ^ 31 → (∀ w, K w = 0 ∨ K w = 1) → (∀ w, K w = 1 → sp w ≤ c) → h M = some (.inr (10, xMf M tn tk rk lt at_ sz kd fr to_ ft pt nu mn pc (nI (com f + tl.length)))) → h (M + 40) = some (.inl (0, 500, .inl fo)) → xMd M cmt sv sp pl cm (va_up clk t c) (va_up com t x) fog (va_up kno t K) bit rd wr h →
    ∃ h', xRun G d 112 (131, [some (.ref M), some (.int (nI f)), some (.int (nI t)), some (.int (nI n)), some (.int (nI done)), some (.int (nI k)), L6], [], (h, nx, sl)) (some (.int (nI (done + min (n - done) (com f - x) + (xbring sp tl (n - done - min (n - done) (com f - x)) (xadv sp cm (min (n - done) (com f - x)) c x K).1 (xadv sp cm (min (n - done) (com f - x)) c x K).2).1))), (h', nx, sl)) ∧ xMd M cmt sv sp pl cm (va_up clk t (xbring sp tl (n - done - min (n - done) (com f - x)) (xadv sp cm (min (n - done) (com f - x)) c x K).1 (xadv sp cm (min (n - done) (com f - x)) c x K).2).2.1) (va_up com t (x + min (n - done) (com f - x))) fog (va_up kno t (xbring sp tl (n - done - min (n - done) (com f - x)) (xadv sp cm (min (n - done) (com f - x)) c x K).1 (xadv sp cm (min (n - done) (com f - x)) c x K).2).2.2) bit rd wr h' ∧ ∀ q, q ≠ M + 8 + t → q ≠ M + 13 → q ≠ M + 14 → h' q = h q := by
  have hol : (xord cm (com f) tl).length = com f + tl.length := by
    unfold xord
    rw [List.length_append, xcms_len]
  intro j
  induction j with
  | zero =>
    intro k x done c K h L6 hk hkx hxc hdn hdk hc hK hKc hO h40 hm
    have ek : k = com f := by omega
    subst ek
    rw [show com f - x = 0 by omega, Nat.min_zero]
    show ∃ h', xRun G d 112 _ (some (.int (nI (done + 0 + (xbring sp tl (n - done) c K).1))), (h', nx, sl)) ∧ xMd M cmt sv sp pl cm (va_up clk t (xbring sp tl (n - done) c K).2.1) (va_up com t x) fog (va_up kno t (xbring sp tl (n - done) c K).2.2) bit rd wr h' ∧ ∀ q, q ≠ M + 8 + t → q ≠ M + 13 → q ≠ M + 14 → h' q = h q
    rw [Nat.add_zero]
    rw [← hol] at hO
    obtain ⟨h', r, i1, i2⟩ := m_meet_tent (G := G) (d := d) (nx := nx) (sl := sl) (L := xord cm (com f) tl) (x := x) hf ht (by omega) hrow hLs (by omega) hn hft hd tl (com f) done c K h L6 (by
      unfold xord
      rw [List.drop_append_of_le_length (by rw [xcms_len]; omega), List.drop_of_length_le (by rw [xcms_len]; omega), List.nil_append]) (by omega) (Nat.le_refl _) hdn (by omega) hc hK hO h40 hm
    exact ⟨h', r, i1, fun q a1 a2 _ => i2 q a1 a2⟩
  | succ j ih =>
    intro k x done c K h L6 hk hkx hxc hdn hdk hc hK hKc hO h40 hm
    by_cases hnd : n - done = 0
    · have e : done = n := by omega
      subst e
      rw [Nat.sub_self, Nat.zero_min, Nat.sub_zero]
      show ∃ h', xRun G d 112 _ (some (.int (nI (done + 0 + (xbring sp tl 0 c K).1))), (h', nx, sl)) ∧ xMd M cmt sv sp pl cm (va_up clk t (xbring sp tl 0 c K).2.1) (va_up com t x) fog (va_up kno t (xbring sp tl 0 c K).2.2) bit rd wr h' ∧ ∀ q, q ≠ M + 8 + t → q ≠ M + 13 → q ≠ M + 14 → h' q = h q
      rw [xbring_0]
      exact ⟨h, m_meet_exit hn hO, hm, fun _ _ _ _ => rfl⟩
    · have hLw : (xord cm (com f) tl).getD k 0 = cm k := by
        unfold xord
        rw [getD_app_l (by rw [xcms_len]; omega), xcms_getD (by omega)]
      have hfk : fo k = nI (cm k) := by rw [hrow k (by omega), hLw]
      have hb := hLs (cm k) (hLw ▸ getD_mem (by omega))
      have hplk := hpl k (by omega)
      have h14 := hm.2.2.2.2.2.2.2.1
      obtain ⟨f7, h7, h7'⟩ := hm.2.2.2.2.1
      have h7t := h7' t ht
      have h8t := hm.2.2.2.2.2.1 t ht
      have rc := m_isCommitted2 (G := G) (d := d - 1) (nx := nx) (sl := sl) (s := t) (w := cm k) hO hm ht hb.1 (by omega) (by rw [vu_at]; omega)
      rw [hplk, vu_at] at rc
      have pre : ∀ res, xRun G d 112 (173, [some (.ref M), some (.int (nI f)), some (.int (nI t)), some (.int (nI n)), some (.int (nI done)), some (.int (nI k)), some (.int (nI (cm k)))], [.int (xbi (decide (1 ≤ k + 1 ∧ k + 1 ≤ x)))], (h, nx, sl)) res → xRun G d 112 (131, [some (.ref M), some (.int (nI f)), some (.int (nI t)), some (.int (nI n)), some (.int (nI done)), some (.int (nI k)), L6], [], (h, nx, sl)) res := by
        intro res r
        refine xr_go i112_131 rfl ?_
        refine xr_go i112_133 rfl ?_
        refine xr_get i112_134 xf112_236 (by assumption) rfl rfl ?_
        refine xr_icmp_geF i112_137 (t := 242) (by decide) (nI_ge (by omega) (by omega)) ?_
        refine xr_go i112_140 rfl ?_
        refine xr_go i112_142 rfl ?_
        refine xr_icmp_geF i112_143 (t := 242) (by decide) (nI_ge (by omega) (by omega)) ?_
        refine xr_go i112_146 rfl ?_
        refine xr_get i112_147 xf112_70 (by assumption) rfl rfl ?_
        refine xr_go i112_150 rfl ?_
        refine xr_iald i112_152 (by assumption) rfl (by omega) (by omega) ?_
        rw [hfk]
        refine xr_go i112_153 rfl ?_
        refine xr_go i112_155 rfl ?_
        refine xr_go i112_157 rfl ?_
        refine xr_get i112_158 xf112_39 (by assumption) rfl rfl ?_
        refine xr_go i112_161 rfl ?_
        refine xr_iald i112_162 (by assumption) rfl (by omega) (by omega) ?_
        rw [vu_ne hft]
        refine xr_icmp_geF i112_163 (t := 214) (by decide) (nI_ge (by omega) (by omega)) ?_
        refine xr_go i112_166 rfl ?_
        refine xr_go i112_167 rfl ?_
        refine xr_go i112_168 rfl ?_
        refine xr_V i112_170 xc112_242 ⟨rfl, rfl⟩ xa_105 rfl (by assumption) rfl (Nat.le_of_ble_eq_true rfl) (by omega) ⟨Nat.le_of_ble_eq_true rfl, Nat.le_of_ble_eq_true rfl⟩ (rc) ?_
        exact r
      by_cases hlt : k < x
      · obtain ⟨h', r, i⟩ := ih (k + 1) x done c K h (some (.int (nI (cm k)))) (by omega) (by omega) hxc hdn (by omega) hc hK hKc hO h40 hm
        refine ⟨h', pre _ ?_, i⟩
        rw [decide_eq_true (show 1 ≤ k + 1 ∧ k + 1 ≤ x by omega)]
        refine xr_if_eqF i112_173 (t := 179) (by decide) (by decide) ?_
        refine xr_goto i112_176 (t := 236) (by decide) ?_
        refine xr_inc1 i112_236 rfl rfl ?_
        refine xr_goto i112_239 (t := 131) (by decide) ?_
        exact r
      · have e : k = x := by omega
        subst e
        rw [decide_eq_false (show ¬ (1 ≤ k + 1 ∧ k + 1 ≤ k) by omega)] at pre
        have em : min (n - done) (com f - k) = min (n - (done + 1)) (com f - (k + 1)) + 1 := by omega
        have exa : xadv sp cm (min (n - done) (com f - k)) c k K = xadv sp cm (min (n - (done + 1)) (com f - (k + 1))) (max c (sp (cm k))) (k + 1) (va_up K (cm k) 1) := by
          rw [em]
          rfl
        rw [exa, show n - done - min (n - done) (com f - k) = n - (done + 1) - min (n - (done + 1)) (com f - (k + 1)) by omega, show k + min (n - done) (com f - k) = k + 1 + min (n - (done + 1)) (com f - (k + 1)) by omega, show done + min (n - done) (com f - k) = done + 1 + min (n - (done + 1)) (com f - (k + 1)) by omega]
        /- it is learned, if it was not known -/
        have stage : ∃ h1, h1 M = some (.inr (10, xMf M tn tk rk lt at_ sz kd fr to_ ft pt nu mn pc (nI (com f + tl.length)))) ∧ h1 (M + 40) = some (.inl (0, 500, .inl fo)) ∧ xMd M cmt sv sp pl cm (va_up clk t (max c (sp (cm k)))) (va_up com t k) fog (va_up kno t (va_up K (cm k) 1)) bit rd wr h1 ∧ (∀ q, q ≠ M + 8 + t → q ≠ M + 13 → h1 q = h q) ∧ ∀ res, xRun G d 112 (198, [some (.ref M), some (.int (nI f)), some (.int (nI t)), some (.int (nI n)), some (.int (nI done)), some (.int (nI k)), some (.int (nI (cm k)))], [], (h1, nx, sl)) res → xRun G d 112 (131, [some (.ref M), some (.int (nI f)), some (.int (nI t)), some (.int (nI n)), some (.int (nI done)), some (.int (nI k)), L6], [], (h, nx, sl)) res := by
          rcases hK (cm k) with hk0 | hk1
          · obtain ⟨k1, r1, m1, k1n⟩ := m_learn (G := G) (d := d - 1) (nx := nx) (sl := sl) (s := t) (w := cm k) hO hm ht hb.1 hb.2 (by rw [vu_at]; exact hc) (by omega)
            rw [vu_vu, vu_vu, vu_at, vu_at] at m1
            refine ⟨k1, (k1n M (by omega) (by omega)).trans hO, (k1n _ (by omega) (by omega)).trans h40, m1, k1n, fun res r => pre _ ?_⟩
            refine xr_if_eqT i112_173 (t := 179) (by decide) (by decide) ?_
            refine xr_go i112_179 rfl ?_
            refine xr_get i112_180 xf112_33 (by assumption) rfl rfl ?_
            refine xr_go i112_183 rfl ?_
            refine xr_aald i112_184 (by assumption) (by decide) rfl (by omega) (by omega) (by assumption) ?_
            refine xr_go i112_185 rfl ?_
            refine xr_zald i112_187 (by assumption) rfl (by omega) (by omega) ?_
            rw [vu_at]
            refine xr_if_neF i112_188 (t := 198) (by decide) (by rw [hk0]; decide) ?_
            refine xr_go i112_191 rfl ?_
            refine xr_go i112_192 rfl ?_
            refine xr_go i112_193 rfl ?_
            refine xr_V i112_195 xc112_288 ⟨rfl, rfl⟩ xa_113 rfl (by assumption) rfl (Nat.le_of_ble_eq_true rfl) (by omega) ⟨Nat.le_of_ble_eq_true rfl, Nat.le_of_ble_eq_true rfl⟩ (r1) ?_
            exact r
          · refine ⟨h, hO, h40, by rw [Nat.max_eq_left (hKc _ hk1), vu_id' hk1]; exact hm, fun _ _ _ => rfl, fun res r => pre _ ?_⟩
            refine xr_if_eqT i112_173 (t := 179) (by decide) (by decide) ?_
            refine xr_go i112_179 rfl ?_
            refine xr_get i112_180 xf112_33 (by assumption) rfl rfl ?_
            refine xr_go i112_183 rfl ?_
            refine xr_aald i112_184 (by assumption) (by decide) rfl (by omega) (by omega) (by assumption) ?_
            refine xr_go i112_185 rfl ?_
            refine xr_zald i112_187 (by assumption) rfl (by omega) (by omega) ?_
            rw [vu_at]
            refine xr_if_neT i112_188 (t := 198) (by decide) (by rw [hk1]; decide) ?_
            exact r
        obtain ⟨h1, h1M, h140, m1, h1n, run⟩ := stage
        have h114 := m1.2.2.2.2.2.2.2.1
        obtain ⟨k2, ek2⟩ : ∃ z : xH, z = xup h1 (M + 14) (.inl (0, 5, .inl (fun i => nI (va_up (va_up com t k) t (k + 1) i)))) := ⟨_, rfl⟩
        have k2n : ∀ q, q ≠ M + 14 → k2 q = h1 q := fun q hq => by rw [ek2]; exact xup_n hq
        have m2 := xMd_com (h' := k2) (com' := va_up (va_up com t k) t (k + 1)) m1 (fun q a1 a2 a3 a4 => k2n q a4) (by rw [ek2]; exact xup_s)
        rw [vu_vu] at m2
        obtain ⟨h', r, i1, i2⟩ := ih (k + 1) (k + 1) (done + 1) (max c (sp (cm k))) (va_up K (cm k) 1) k2 (some (.int (nI (cm k)))) (by omega) (Nat.le_refl _) (by omega) (by omega) (by omega) (by omega) (fun v => by
          unfold va_up
          split
          · exact Or.inr rfl
          · exact hK v) (fun v hv => by
          by_cases e : v = cm k
          · rw [e]
            omega
          · rw [vu_ne e] at hv
            have := hKc v hv
            omega) ((k2n M (by omega)).trans h1M) ((k2n _ (by omega)).trans h140) m2
        refine ⟨h', run _ ?_, i1, fun q a1 a2 a3 => (i2 q a1 a2 a3).trans ((k2n q a3).trans (h1n q a1 a2))⟩
        refine xr_go i112_198 rfl ?_
        refine xr_get i112_199 xf112_39 (by assumption) rfl rfl ?_
        refine xr_go i112_202 rfl ?_
        refine xr_go i112_203 rfl ?_
        refine xr_iald i112_204 (by assumption) rfl (by omega) (by omega) ?_
        rw [vu_at]
        refine xr_go i112_205 rfl ?_
        refine xr_go i112_206 rfl ?_
        refine xr_top (show _ = nI (k + 1) from nI_add k 1) ?_
        refine xr_iast i112_207 (by assumption) rfl (by omega) (by omega) (fun z2 ez2 => ?_)
        obtain rfl : z2 = k2 := ez2.trans (by rw [ek2, xupdN])
        refine xr_inc1 i112_208 rfl rfl ?_
        refine xr_goto i112_211 (t := 236) (by decide) ?_
        refine xr_inc1 i112_236 rfl rfl ?_
        refine xr_goto i112_239 (t := 131) (by decide) ?_
        exact r
end XMMEET3

