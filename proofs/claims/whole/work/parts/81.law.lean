/-! ===== the law: its loop (wip/gen/lay81.py) ===== -/
theorem xr_sald {G : xG} {d mi pc : Nat} {L : xL} {r : List Value} {h : xH} {nx sl j : Nat} {i : Int32} {res : Option Value × xW} (hi : xI mi pc = some .iaload) (ha : h G.2.2.1 = none) (hj : i = nI j) (hn : j < G.2.2.2.1) (hm : G.2.2.2.1 < 2 ^ 31) (k : xRun G d mi (pc + 1, L, .int (G.2.2.2.2 j) :: r, (h, nx, sl)) res) : xRun G d mi (pc, L, .int i :: .ref G.2.2.1 :: r, (h, nx, sl)) res := by
  subst hj
  refine xr_go hi ?_ k
  show xiald G pc L (.int (nI j) :: .ref G.2.2.1 :: r) (h, nx, sl) = _
  unfold xiald
  simp only [ha, if_pos, if_neg (xjin hn hm), nI_clamp (show j < 2 ^ 31 by omega)]
theorem xr_salen {G : xG} {d mi pc : Nat} {L : xL} {r : List Value} {h : xH} {nx sl : Nat} {res : Option Value × xW} (hi : xI mi pc = some .arraylength) (ha : h G.2.2.1 = none) (k : xRun G d mi (pc + 1, L, .int (nI G.2.2.2.1) :: r, (h, nx, sl)) res) : xRun G d mi (pc, L, .ref G.2.2.1 :: r, (h, nx, sl)) res := by
  refine xr_go hi ?_ k
  show xalen G pc L (.ref G.2.2.1 :: r) (h, nx, sl) = _
  unfold xalen
  simp only [ha, if_pos]
  rfl
theorem and15 (x : Int32) : ∃ k, k < 16 ∧ x &&& 15 = nI k := by
  refine ⟨(x &&& 15).toBitVec.toNat, ?_, ?_⟩
  · have e : (x &&& 15).toBitVec = x.toBitVec &&& 15#32 := rfl
    rw [e, BitVec.toNat_and]
    exact Nat.lt_of_le_of_lt Nat.and_le_right (by decide)
  · apply Int32.toBitVec_inj.mp
    show (x &&& 15).toBitVec = BitVec.ofNat 32 (x &&& 15).toBitVec.toNat
    rw [BitVec.ofNat_toNat, BitVec.setWidth_eq]
theorem nI_6 (j : Nat) : nI j + Int32.ofInt 6 = nI (j + 6) := nI_add j 6
theorem xr_inc6 {G : xG} {d mi pc : Nat} {L L' : xL} {st : List Value} {h : xH} {nx sl i j : Nat} {res : Option Value × xW} (hi : xI mi pc = some (.iinc i 6)) (hl : L[i]? = some (some (.int (nI j)))) (hs : xst L i (.int (nI (j + 6))) = some L') (k : xRun G d mi (pc + 3, L', st, (h, nx, sl)) res) : xRun G d mi (pc, L, st, (h, nx, sl)) res := by
  refine xr_go hi ?_ k
  show xiinc i 6 pc L st (h, nx, sl) = _
  unfold xiinc
  simp only [hl]
  rw [show nI j + Int32.ofInt 6 = nI (j + 6) from nI_6 j, hs]
  rfl
theorem lcmp_self (v : Int64) : lg_cmp v v = 0 := by first | exact (lg_cmp_eq v v).mpr rfl | (unfold lg_cmp; simp)
theorem xt_123 : xT 123 = (some .boolean) := rfl
section XLAW
variable {G : xG} {d B : Nat} {h : xH} {nx sl i : Nat}
set_option maxHeartbeats 2000000 in
theorem l_0 (hb : xBoth B nx h) (hA : h G.2.2.1 = none) (hAB : G.2.2.1 < B) (hi : i + 6 ≤ G.2.2.2.1) (hm : G.2.2.2.1 ≤ 3072) (hd : 41 ≤ d) : ∃ h2 nx2 sl2, (∀ res, xRun G d 123 (730, [some (.ref G.2.2.1), some (.ref B), some (.ref (B + 78)), some (.int (nI i))], [], (h2, nx2, sl2)) res → xRun G d 123 (112, [some (.ref G.2.2.1), some (.ref B), some (.ref (B + 78)), some (.int (nI i))], [], (h, nx, sl)) res) ∧ xBoth B nx2 h2 ∧ nx2 ≤ nx + 4 ∧ sl2 ≤ sl + 3000 ∧ h2 G.2.2.1 = none := by
  obtain ⟨v, h1, nx1, sl1, h2, nx2, sl2, r1, o1, r2, b2, n1, n2, fr⟩ := J_feed (G := G) (d := d - 1) (nx := nx) (sl := sl) hb (G.2.2.2.2 (i + 1)) (G.2.2.2.2 (i + 2)) (G.2.2.2.2 (i + 3)) (G.2.2.2.2 (i + 4)) (G.2.2.2.2 (i + 5)) (by omega)
  obtain ⟨e1, e2⟩ := fr _ hAB hA
  have hB1 : ∃ fs, h B = some (.inr (0, fs)) := by
    obtain ⟨_, _, _, _, _, _, _, _, _, _, _, _, _, _, _, _, _, hD, -⟩ := hb
    exact (xDS_obj hD).1
  obtain ⟨fs, hB1⟩ := hB1
  obtain ⟨fs1, o1⟩ := o1
  refine ⟨h2, nx2, sl2, fun res r => ?_, b2, n1, n2, e2⟩
  refine xr_go i123_112 rfl ?_
  refine xr_go i123_113 rfl ?_
  refine xr_go i123_114 rfl ?_
  refine xr_go i123_115 rfl ?_
  refine xr_go i123_116 rfl ?_
  refine xr_sald i123_117 hA (nI_add i 1) (by omega) (by omega) ?_
  refine xr_go i123_118 rfl ?_
  refine xr_go i123_119 rfl ?_
  refine xr_go i123_120 rfl ?_
  refine xr_go i123_121 rfl ?_
  refine xr_sald i123_122 hA (nI_add i 2) (by omega) (by omega) ?_
  refine xr_go i123_123 rfl ?_
  refine xr_go i123_124 rfl ?_
  refine xr_go i123_125 rfl ?_
  refine xr_go i123_126 rfl ?_
  refine xr_sald i123_127 hA (nI_add i 3) (by omega) (by omega) ?_
  refine xr_go i123_128 rfl ?_
  refine xr_go i123_129 rfl ?_
  refine xr_go i123_130 rfl ?_
  refine xr_go i123_131 rfl ?_
  refine xr_sald i123_132 hA (nI_add i 4) (by omega) (by omega) ?_
  refine xr_go i123_133 rfl ?_
  refine xr_go i123_134 rfl ?_
  refine xr_go i123_135 rfl ?_
  refine xr_go i123_136 rfl ?_
  refine xr_sald i123_137 hA (nI_add i 5) (by omega) (by omega) ?_
  refine xr_V i123_138 xc123_13 ⟨rfl, rfl⟩ xa_1 rfl (by assumption) rfl (Nat.le_of_ble_eq_true rfl) (by omega) ⟨Nat.le_of_ble_eq_true rfl, Nat.le_of_ble_eq_true rfl⟩ (r1) ?_
  refine xr_stk (st' := [.int v]) rfl ?_
  refine xr_go i123_141 rfl ?_
  refine xr_go i123_142 rfl ?_
  refine xr_go i123_143 rfl ?_
  refine xr_go i123_144 rfl ?_
  refine xr_go i123_145 rfl ?_
  refine xr_sald i123_146 e1 (nI_add i 1) (by omega) (by omega) ?_
  refine xr_go i123_147 rfl ?_
  refine xr_go i123_148 rfl ?_
  refine xr_go i123_149 rfl ?_
  refine xr_go i123_150 rfl ?_
  refine xr_sald i123_151 e1 (nI_add i 2) (by omega) (by omega) ?_
  refine xr_go i123_152 rfl ?_
  refine xr_go i123_153 rfl ?_
  refine xr_go i123_154 rfl ?_
  refine xr_go i123_155 rfl ?_
  refine xr_sald i123_156 e1 (nI_add i 3) (by omega) (by omega) ?_
  refine xr_go i123_157 rfl ?_
  refine xr_go i123_158 rfl ?_
  refine xr_go i123_159 rfl ?_
  refine xr_go i123_160 rfl ?_
  refine xr_sald i123_161 e1 (nI_add i 4) (by omega) (by omega) ?_
  refine xr_go i123_162 rfl ?_
  refine xr_go i123_163 rfl ?_
  refine xr_go i123_164 rfl ?_
  refine xr_go i123_165 rfl ?_
  refine xr_sald i123_166 e1 (nI_add i 5) (by omega) (by omega) ?_
  refine xr_V i123_167 xc123_17 ⟨rfl, rfl⟩ xa_80 rfl (by assumption) rfl (Nat.le_of_ble_eq_true rfl) (by omega) ⟨Nat.le_of_ble_eq_true rfl, Nat.le_of_ble_eq_true rfl⟩ (r2) ?_
  refine xr_stk (st' := [.int v, .int v]) rfl ?_
  refine xr_icmp_eqT i123_170 (t := 730) (by decide) rfl ?_
  exact r
set_option maxHeartbeats 2000000 in
theorem l_1 (hb : xBoth B nx h) (hA : h G.2.2.1 = none) (hAB : G.2.2.1 < B) (hi : i + 6 ≤ G.2.2.2.1) (hm : G.2.2.2.1 ≤ 3072) (hd : 41 ≤ d) : ∃ h2 nx2 sl2, (∀ res, xRun G d 123 (730, [some (.ref G.2.2.1), some (.ref B), some (.ref (B + 78)), some (.int (nI i))], [], (h2, nx2, sl2)) res → xRun G d 123 (175, [some (.ref G.2.2.1), some (.ref B), some (.ref (B + 78)), some (.int (nI i))], [], (h, nx, sl)) res) ∧ xBoth B nx2 h2 ∧ nx2 ≤ nx + 4 ∧ sl2 ≤ sl + 3000 ∧ h2 G.2.2.1 = none := by
  obtain ⟨v, h1, nx1, sl1, h2, nx2, sl2, r1, o1, r2, b2, n1, n2, fr⟩ := J_end (G := G) (d := d - 1) (nx := nx) (sl := sl) hb (G.2.2.2.2 (i + 1)) (by omega)
  obtain ⟨e1, e2⟩ := fr _ hAB hA
  have hB1 : ∃ fs, h B = some (.inr (0, fs)) := by
    obtain ⟨_, _, _, _, _, _, _, _, _, _, _, _, _, _, _, _, _, hD, -⟩ := hb
    exact (xDS_obj hD).1
  obtain ⟨fs, hB1⟩ := hB1
  obtain ⟨fs1, o1⟩ := o1
  refine ⟨h2, nx2, sl2, fun res r => ?_, b2, n1, n2, e2⟩
  refine xr_go i123_175 rfl ?_
  refine xr_go i123_176 rfl ?_
  refine xr_go i123_177 rfl ?_
  refine xr_go i123_178 rfl ?_
  refine xr_go i123_179 rfl ?_
  refine xr_sald i123_180 hA (nI_add i 1) (by omega) (by omega) ?_
  refine xr_V i123_181 xc123_18 ⟨rfl, rfl⟩ xa_2 rfl (by assumption) rfl (Nat.le_of_ble_eq_true rfl) (by omega) ⟨Nat.le_of_ble_eq_true rfl, Nat.le_of_ble_eq_true rfl⟩ (r1) ?_
  refine xr_stk (st' := [.int v]) rfl ?_
  refine xr_go i123_184 rfl ?_
  refine xr_go i123_185 rfl ?_
  refine xr_go i123_186 rfl ?_
  refine xr_go i123_187 rfl ?_
  refine xr_go i123_188 rfl ?_
  refine xr_sald i123_189 e1 (nI_add i 1) (by omega) (by omega) ?_
  refine xr_V i123_190 xc123_22 ⟨rfl, rfl⟩ xa_81 rfl (by assumption) rfl (Nat.le_of_ble_eq_true rfl) (by omega) ⟨Nat.le_of_ble_eq_true rfl, Nat.le_of_ble_eq_true rfl⟩ (r2) ?_
  refine xr_stk (st' := [.int v, .int v]) rfl ?_
  refine xr_icmp_eqT i123_193 (t := 730) (by decide) rfl ?_
  exact r
set_option maxHeartbeats 2000000 in
theorem l_2 (hG : xGok G) (hb : xBoth B nx h) (hA : h G.2.2.1 = none) (hAB : G.2.2.1 < B) (hi : i + 6 ≤ G.2.2.2.1) (hm : G.2.2.2.1 ≤ 3072) (hd : 41 ≤ d) : ∃ h2 nx2 sl2, (∀ res, xRun G d 123 (730, [some (.ref G.2.2.1), some (.ref B), some (.ref (B + 78)), some (.int (nI i))], [], (h2, nx2, sl2)) res → xRun G d 123 (198, [some (.ref G.2.2.1), some (.ref B), some (.ref (B + 78)), some (.int (nI i))], [], (h, nx, sl)) res) ∧ xBoth B nx2 h2 ∧ nx2 ≤ nx + 4 ∧ sl2 ≤ sl + 3000 ∧ h2 G.2.2.1 = none := by
  obtain ⟨v, h1, nx1, sl1, h2, nx2, sl2, r1, o1, r2, b2, n1, n2, fr⟩ := J_prog (G := G) (d := d - 1) (nx := nx) (sl := sl) hG hb  (by omega)
  obtain ⟨e1, e2⟩ := fr _ hAB hA
  have hB1 : ∃ fs, h B = some (.inr (0, fs)) := by
    obtain ⟨_, _, _, _, _, _, _, _, _, _, _, _, _, _, _, _, _, hD, -⟩ := hb
    exact (xDS_obj hD).1
  obtain ⟨fs, hB1⟩ := hB1
  obtain ⟨fs1, o1⟩ := o1
  refine ⟨h2, nx2, sl2, fun res r => ?_, b2, n1, n2, e2⟩
  refine xr_go i123_198 rfl ?_
  refine xr_V i123_199 xc123_23 ⟨rfl, rfl⟩ xa_3 rfl (by assumption) rfl (Nat.le_of_ble_eq_true rfl) (by omega) ⟨Nat.le_of_ble_eq_true rfl, Nat.le_of_ble_eq_true rfl⟩ (r1) ?_
  refine xr_stk (st' := [.int v]) rfl ?_
  refine xr_go i123_202 rfl ?_
  refine xr_V i123_203 xc123_27 ⟨rfl, rfl⟩ xa_83 rfl (by assumption) rfl (Nat.le_of_ble_eq_true rfl) (by omega) ⟨Nat.le_of_ble_eq_true rfl, Nat.le_of_ble_eq_true rfl⟩ (r2) ?_
  refine xr_stk (st' := [.int v, .int v]) rfl ?_
  refine xr_icmp_eqT i123_206 (t := 730) (by decide) rfl ?_
  exact r
set_option maxHeartbeats 2000000 in
theorem l_3 (hb : xBoth B nx h) (hA : h G.2.2.1 = none) (hAB : G.2.2.1 < B) (hi : i + 6 ≤ G.2.2.2.1) (hm : G.2.2.2.1 ≤ 3072) (hd : 41 ≤ d) : ∃ h2 nx2 sl2, (∀ res, xRun G d 123 (730, [some (.ref G.2.2.1), some (.ref B), some (.ref (B + 78)), some (.int (nI i))], [], (h2, nx2, sl2)) res → xRun G d 123 (211, [some (.ref G.2.2.1), some (.ref B), some (.ref (B + 78)), some (.int (nI i))], [], (h, nx, sl)) res) ∧ xBoth B nx2 h2 ∧ nx2 ≤ nx + 4 ∧ sl2 ≤ sl + 3000 ∧ h2 G.2.2.1 = none := by
  obtain ⟨v, h1, nx1, sl1, h2, nx2, sl2, r1, o1, r2, b2, n1, n2, fr⟩ := J_write (G := G) (d := d - 1) (nx := nx) (sl := sl) hb (G.2.2.2.2 (i + 1)) (G.2.2.2.2 (i + 2)) (G.2.2.2.2 (i + 3)) (by omega)
  obtain ⟨e1, e2⟩ := fr _ hAB hA
  have hB1 : ∃ fs, h B = some (.inr (0, fs)) := by
    obtain ⟨_, _, _, _, _, _, _, _, _, _, _, _, _, _, _, _, _, hD, -⟩ := hb
    exact (xDS_obj hD).1
  obtain ⟨fs, hB1⟩ := hB1
  obtain ⟨fs1, o1⟩ := o1
  refine ⟨h2, nx2, sl2, fun res r => ?_, b2, n1, n2, e2⟩
  refine xr_go i123_211 rfl ?_
  refine xr_go i123_212 rfl ?_
  refine xr_go i123_213 rfl ?_
  refine xr_go i123_214 rfl ?_
  refine xr_go i123_215 rfl ?_
  refine xr_sald i123_216 hA (nI_add i 1) (by omega) (by omega) ?_
  refine xr_go i123_217 rfl ?_
  refine xr_go i123_218 rfl ?_
  refine xr_go i123_219 rfl ?_
  refine xr_go i123_220 rfl ?_
  refine xr_sald i123_221 hA (nI_add i 2) (by omega) (by omega) ?_
  refine xr_go i123_222 rfl ?_
  refine xr_go i123_223 rfl ?_
  refine xr_go i123_224 rfl ?_
  refine xr_go i123_225 rfl ?_
  refine xr_sald i123_226 hA (nI_add i 3) (by omega) (by omega) ?_
  refine xr_V i123_227 xc123_28 ⟨rfl, rfl⟩ xa_5 rfl (by assumption) rfl (Nat.le_of_ble_eq_true rfl) (by omega) ⟨Nat.le_of_ble_eq_true rfl, Nat.le_of_ble_eq_true rfl⟩ (r1) ?_
  refine xr_stk (st' := [.int v]) rfl ?_
  refine xr_go i123_230 rfl ?_
  refine xr_go i123_231 rfl ?_
  refine xr_go i123_232 rfl ?_
  refine xr_go i123_233 rfl ?_
  refine xr_go i123_234 rfl ?_
  refine xr_sald i123_235 e1 (nI_add i 1) (by omega) (by omega) ?_
  refine xr_go i123_236 rfl ?_
  refine xr_go i123_237 rfl ?_
  refine xr_go i123_238 rfl ?_
  refine xr_go i123_239 rfl ?_
  refine xr_sald i123_240 e1 (nI_add i 2) (by omega) (by omega) ?_
  refine xr_go i123_241 rfl ?_
  refine xr_go i123_242 rfl ?_
  refine xr_go i123_243 rfl ?_
  refine xr_go i123_244 rfl ?_
  refine xr_sald i123_245 e1 (nI_add i 3) (by omega) (by omega) ?_
  refine xr_V i123_246 xc123_32 ⟨rfl, rfl⟩ xa_98 rfl (by assumption) rfl (Nat.le_of_ble_eq_true rfl) (by omega) ⟨Nat.le_of_ble_eq_true rfl, Nat.le_of_ble_eq_true rfl⟩ (r2) ?_
  refine xr_stk (st' := [.int v, .int v]) rfl ?_
  refine xr_icmp_eqT i123_249 (t := 730) (by decide) rfl ?_
  exact r
set_option maxHeartbeats 2000000 in
theorem l_4 (hb : xBoth B nx h) (hA : h G.2.2.1 = none) (hAB : G.2.2.1 < B) (hi : i + 6 ≤ G.2.2.2.1) (hm : G.2.2.2.1 ≤ 3072) (hd : 41 ≤ d) : ∃ h2 nx2 sl2, (∀ res, xRun G d 123 (730, [some (.ref G.2.2.1), some (.ref B), some (.ref (B + 78)), some (.int (nI i))], [], (h2, nx2, sl2)) res → xRun G d 123 (254, [some (.ref G.2.2.1), some (.ref B), some (.ref (B + 78)), some (.int (nI i))], [], (h, nx, sl)) res) ∧ xBoth B nx2 h2 ∧ nx2 ≤ nx + 4 ∧ sl2 ≤ sl + 3000 ∧ h2 G.2.2.1 = none := by
  by_cases hz : G.2.2.2.2 (i + 4) = 0
  · obtain ⟨v, h1, nx1, sl1, h2, nx2, sl2, r1, o1, r2, b2, n1, n2, fr⟩ := J_read (G := G) (d := d - 1) (nx := nx) (sl := sl) hb (G.2.2.2.2 (i + 1)) (G.2.2.2.2 (i + 2)) (G.2.2.2.2 (i + 3)) (0 : Int32) (by omega)
    obtain ⟨e1, e2⟩ := fr _ hAB hA
    have hB1 : ∃ fs, h B = some (.inr (0, fs)) := by
      obtain ⟨_, _, _, _, _, _, _, _, _, _, _, _, _, _, _, _, _, hD, -⟩ := hb
      exact (xDS_obj hD).1
    obtain ⟨fs, hB1⟩ := hB1
    obtain ⟨fs1, o1⟩ := o1
    refine ⟨h2, nx2, sl2, fun res r => ?_, b2, n1, n2, e2⟩
    refine xr_go i123_254 rfl ?_
    refine xr_go i123_255 rfl ?_
    refine xr_go i123_256 rfl ?_
    refine xr_go i123_257 rfl ?_
    refine xr_go i123_258 rfl ?_
    refine xr_sald i123_259 hA (nI_add i 1) (by omega) (by omega) ?_
    refine xr_go i123_260 rfl ?_
    refine xr_go i123_261 rfl ?_
    refine xr_go i123_262 rfl ?_
    refine xr_go i123_263 rfl ?_
    refine xr_sald i123_264 hA (nI_add i 2) (by omega) (by omega) ?_
    refine xr_go i123_265 rfl ?_
    refine xr_go i123_266 rfl ?_
    refine xr_go i123_267 rfl ?_
    refine xr_go i123_268 rfl ?_
    refine xr_sald i123_269 hA (nI_add i 3) (by omega) (by omega) ?_
    refine xr_go i123_270 rfl ?_
    refine xr_go i123_271 rfl ?_
    refine xr_go i123_272 rfl ?_
    refine xr_go i123_273 rfl ?_
    refine xr_sald i123_274 hA (nI_add i 4) (by omega) (by omega) ?_
    refine xr_if_eqT i123_275 (t := 282) (by decide) hz ?_
    refine xr_go i123_282 rfl ?_
    refine xr_V i123_283 xc123_33 ⟨rfl, rfl⟩ xa_8 rfl (by assumption) rfl (Nat.le_of_ble_eq_true rfl) (by omega) ⟨Nat.le_of_ble_eq_true rfl, Nat.le_of_ble_eq_true rfl⟩ (r1) ?_
    refine xr_stk (st' := [.long v]) rfl ?_
    refine xr_go i123_286 rfl ?_
    refine xr_go i123_287 rfl ?_
    refine xr_go i123_288 rfl ?_
    refine xr_go i123_289 rfl ?_
    refine xr_go i123_290 rfl ?_
    refine xr_sald i123_291 e1 (nI_add i 1) (by omega) (by omega) ?_
    refine xr_go i123_292 rfl ?_
    refine xr_go i123_293 rfl ?_
    refine xr_go i123_294 rfl ?_
    refine xr_go i123_295 rfl ?_
    refine xr_sald i123_296 e1 (nI_add i 2) (by omega) (by omega) ?_
    refine xr_go i123_297 rfl ?_
    refine xr_go i123_298 rfl ?_
    refine xr_go i123_299 rfl ?_
    refine xr_go i123_300 rfl ?_
    refine xr_sald i123_301 e1 (nI_add i 3) (by omega) (by omega) ?_
    refine xr_go i123_302 rfl ?_
    refine xr_go i123_303 rfl ?_
    refine xr_go i123_304 rfl ?_
    refine xr_go i123_305 rfl ?_
    refine xr_sald i123_306 e1 (nI_add i 4) (by omega) (by omega) ?_
    refine xr_if_eqT i123_307 (t := 314) (by decide) hz ?_
    refine xr_go i123_314 rfl ?_
    refine xr_V i123_315 xc123_37 ⟨rfl, rfl⟩ xa_101 rfl (by assumption) rfl (Nat.le_of_ble_eq_true rfl) (by omega) ⟨Nat.le_of_ble_eq_true rfl, Nat.le_of_ble_eq_true rfl⟩ (r2) ?_
    refine xr_stk (st' := [.long v, .long v]) rfl ?_
    refine xr_go i123_318 rfl ?_
    refine xr_if_eqT i123_319 (t := 730) (by decide) (lcmp_self v) ?_
    exact r
  · obtain ⟨v, h1, nx1, sl1, h2, nx2, sl2, r1, o1, r2, b2, n1, n2, fr⟩ := J_read (G := G) (d := d - 1) (nx := nx) (sl := sl) hb (G.2.2.2.2 (i + 1)) (G.2.2.2.2 (i + 2)) (G.2.2.2.2 (i + 3)) (1 : Int32) (by omega)
    obtain ⟨e1, e2⟩ := fr _ hAB hA
    have hB1 : ∃ fs, h B = some (.inr (0, fs)) := by
      obtain ⟨_, _, _, _, _, _, _, _, _, _, _, _, _, _, _, _, _, hD, -⟩ := hb
      exact (xDS_obj hD).1
    obtain ⟨fs, hB1⟩ := hB1
    obtain ⟨fs1, o1⟩ := o1
    refine ⟨h2, nx2, sl2, fun res r => ?_, b2, n1, n2, e2⟩
    refine xr_go i123_254 rfl ?_
    refine xr_go i123_255 rfl ?_
    refine xr_go i123_256 rfl ?_
    refine xr_go i123_257 rfl ?_
    refine xr_go i123_258 rfl ?_
    refine xr_sald i123_259 hA (nI_add i 1) (by omega) (by omega) ?_
    refine xr_go i123_260 rfl ?_
    refine xr_go i123_261 rfl ?_
    refine xr_go i123_262 rfl ?_
    refine xr_go i123_263 rfl ?_
    refine xr_sald i123_264 hA (nI_add i 2) (by omega) (by omega) ?_
    refine xr_go i123_265 rfl ?_
    refine xr_go i123_266 rfl ?_
    refine xr_go i123_267 rfl ?_
    refine xr_go i123_268 rfl ?_
    refine xr_sald i123_269 hA (nI_add i 3) (by omega) (by omega) ?_
    refine xr_go i123_270 rfl ?_
    refine xr_go i123_271 rfl ?_
    refine xr_go i123_272 rfl ?_
    refine xr_go i123_273 rfl ?_
    refine xr_sald i123_274 hA (nI_add i 4) (by omega) (by omega) ?_
    refine xr_if_eqF i123_275 (t := 282) (by decide) hz ?_
    refine xr_go i123_278 rfl ?_
    refine xr_goto i123_279 (t := 283) (by decide) ?_
    refine xr_V i123_283 xc123_33 ⟨rfl, rfl⟩ xa_8 rfl (by assumption) rfl (Nat.le_of_ble_eq_true rfl) (by omega) ⟨Nat.le_of_ble_eq_true rfl, Nat.le_of_ble_eq_true rfl⟩ (r1) ?_
    refine xr_stk (st' := [.long v]) rfl ?_
    refine xr_go i123_286 rfl ?_
    refine xr_go i123_287 rfl ?_
    refine xr_go i123_288 rfl ?_
    refine xr_go i123_289 rfl ?_
    refine xr_go i123_290 rfl ?_
    refine xr_sald i123_291 e1 (nI_add i 1) (by omega) (by omega) ?_
    refine xr_go i123_292 rfl ?_
    refine xr_go i123_293 rfl ?_
    refine xr_go i123_294 rfl ?_
    refine xr_go i123_295 rfl ?_
    refine xr_sald i123_296 e1 (nI_add i 2) (by omega) (by omega) ?_
    refine xr_go i123_297 rfl ?_
    refine xr_go i123_298 rfl ?_
    refine xr_go i123_299 rfl ?_
    refine xr_go i123_300 rfl ?_
    refine xr_sald i123_301 e1 (nI_add i 3) (by omega) (by omega) ?_
    refine xr_go i123_302 rfl ?_
    refine xr_go i123_303 rfl ?_
    refine xr_go i123_304 rfl ?_
    refine xr_go i123_305 rfl ?_
    refine xr_sald i123_306 e1 (nI_add i 4) (by omega) (by omega) ?_
    refine xr_if_eqF i123_307 (t := 314) (by decide) hz ?_
    refine xr_go i123_310 rfl ?_
    refine xr_goto i123_311 (t := 315) (by decide) ?_
    refine xr_V i123_315 xc123_37 ⟨rfl, rfl⟩ xa_101 rfl (by assumption) rfl (Nat.le_of_ble_eq_true rfl) (by omega) ⟨Nat.le_of_ble_eq_true rfl, Nat.le_of_ble_eq_true rfl⟩ (r2) ?_
    refine xr_stk (st' := [.long v, .long v]) rfl ?_
    refine xr_go i123_318 rfl ?_
    refine xr_if_eqT i123_319 (t := 730) (by decide) (lcmp_self v) ?_
    exact r
set_option maxHeartbeats 2000000 in
theorem l_5 (hb : xBoth B nx h) (hA : h G.2.2.1 = none) (hAB : G.2.2.1 < B) (hi : i + 6 ≤ G.2.2.2.1) (hm : G.2.2.2.1 ≤ 3072) (hd : 41 ≤ d) : ∃ h2 nx2 sl2, (∀ res, xRun G d 123 (730, [some (.ref G.2.2.1), some (.ref B), some (.ref (B + 78)), some (.int (nI i))], [], (h2, nx2, sl2)) res → xRun G d 123 (324, [some (.ref G.2.2.1), some (.ref B), some (.ref (B + 78)), some (.int (nI i))], [], (h, nx, sl)) res) ∧ xBoth B nx2 h2 ∧ nx2 ≤ nx + 4 ∧ sl2 ≤ sl + 3000 ∧ h2 G.2.2.1 = none := by
  by_cases hz : G.2.2.2.2 (i + 3) = 0
  · obtain ⟨v, h1, nx1, sl1, h2, nx2, sl2, r1, o1, r2, b2, n1, n2, fr⟩ := J_assure (G := G) (d := d - 1) (nx := nx) (sl := sl) hb (G.2.2.2.2 (i + 1)) (G.2.2.2.2 (i + 2)) (0 : Int32) (by omega)
    obtain ⟨e1, e2⟩ := fr _ hAB hA
    have hB1 : ∃ fs, h B = some (.inr (0, fs)) := by
      obtain ⟨_, _, _, _, _, _, _, _, _, _, _, _, _, _, _, _, _, hD, -⟩ := hb
      exact (xDS_obj hD).1
    obtain ⟨fs, hB1⟩ := hB1
    obtain ⟨fs1, o1⟩ := o1
    refine ⟨h2, nx2, sl2, fun res r => ?_, b2, n1, n2, e2⟩
    refine xr_go i123_324 rfl ?_
    refine xr_go i123_325 rfl ?_
    refine xr_go i123_326 rfl ?_
    refine xr_go i123_327 rfl ?_
    refine xr_go i123_328 rfl ?_
    refine xr_sald i123_329 hA (nI_add i 1) (by omega) (by omega) ?_
    refine xr_go i123_330 rfl ?_
    refine xr_go i123_331 rfl ?_
    refine xr_go i123_332 rfl ?_
    refine xr_go i123_333 rfl ?_
    refine xr_sald i123_334 hA (nI_add i 2) (by omega) (by omega) ?_
    refine xr_go i123_335 rfl ?_
    refine xr_go i123_336 rfl ?_
    refine xr_go i123_337 rfl ?_
    refine xr_go i123_338 rfl ?_
    refine xr_sald i123_339 hA (nI_add i 3) (by omega) (by omega) ?_
    refine xr_if_eqT i123_340 (t := 347) (by decide) hz ?_
    refine xr_go i123_347 rfl ?_
    refine xr_V i123_348 xc123_38 ⟨rfl, rfl⟩ xa_9 rfl (by assumption) rfl (Nat.le_of_ble_eq_true rfl) (by omega) ⟨Nat.le_of_ble_eq_true rfl, Nat.le_of_ble_eq_true rfl⟩ (r1) ?_
    refine xr_stk (st' := [.int v]) rfl ?_
    refine xr_go i123_351 rfl ?_
    refine xr_go i123_352 rfl ?_
    refine xr_go i123_353 rfl ?_
    refine xr_go i123_354 rfl ?_
    refine xr_go i123_355 rfl ?_
    refine xr_sald i123_356 e1 (nI_add i 1) (by omega) (by omega) ?_
    refine xr_go i123_357 rfl ?_
    refine xr_go i123_358 rfl ?_
    refine xr_go i123_359 rfl ?_
    refine xr_go i123_360 rfl ?_
    refine xr_sald i123_361 e1 (nI_add i 2) (by omega) (by omega) ?_
    refine xr_go i123_362 rfl ?_
    refine xr_go i123_363 rfl ?_
    refine xr_go i123_364 rfl ?_
    refine xr_go i123_365 rfl ?_
    refine xr_sald i123_366 e1 (nI_add i 3) (by omega) (by omega) ?_
    refine xr_if_eqT i123_367 (t := 374) (by decide) hz ?_
    refine xr_go i123_374 rfl ?_
    refine xr_V i123_375 xc123_42 ⟨rfl, rfl⟩ xa_110 rfl (by assumption) rfl (Nat.le_of_ble_eq_true rfl) (by omega) ⟨Nat.le_of_ble_eq_true rfl, Nat.le_of_ble_eq_true rfl⟩ (r2) ?_
    refine xr_stk (st' := [.int v, .int v]) rfl ?_
    refine xr_icmp_eqT i123_378 (t := 730) (by decide) rfl ?_
    exact r
  · obtain ⟨v, h1, nx1, sl1, h2, nx2, sl2, r1, o1, r2, b2, n1, n2, fr⟩ := J_assure (G := G) (d := d - 1) (nx := nx) (sl := sl) hb (G.2.2.2.2 (i + 1)) (G.2.2.2.2 (i + 2)) (1 : Int32) (by omega)
    obtain ⟨e1, e2⟩ := fr _ hAB hA
    have hB1 : ∃ fs, h B = some (.inr (0, fs)) := by
      obtain ⟨_, _, _, _, _, _, _, _, _, _, _, _, _, _, _, _, _, hD, -⟩ := hb
      exact (xDS_obj hD).1
    obtain ⟨fs, hB1⟩ := hB1
    obtain ⟨fs1, o1⟩ := o1
    refine ⟨h2, nx2, sl2, fun res r => ?_, b2, n1, n2, e2⟩
    refine xr_go i123_324 rfl ?_
    refine xr_go i123_325 rfl ?_
    refine xr_go i123_326 rfl ?_
    refine xr_go i123_327 rfl ?_
    refine xr_go i123_328 rfl ?_
    refine xr_sald i123_329 hA (nI_add i 1) (by omega) (by omega) ?_
    refine xr_go i123_330 rfl ?_
    refine xr_go i123_331 rfl ?_
    refine xr_go i123_332 rfl ?_
    refine xr_go i123_333 rfl ?_
    refine xr_sald i123_334 hA (nI_add i 2) (by omega) (by omega) ?_
    refine xr_go i123_335 rfl ?_
    refine xr_go i123_336 rfl ?_
    refine xr_go i123_337 rfl ?_
    refine xr_go i123_338 rfl ?_
    refine xr_sald i123_339 hA (nI_add i 3) (by omega) (by omega) ?_
    refine xr_if_eqF i123_340 (t := 347) (by decide) hz ?_
    refine xr_go i123_343 rfl ?_
    refine xr_goto i123_344 (t := 348) (by decide) ?_
    refine xr_V i123_348 xc123_38 ⟨rfl, rfl⟩ xa_9 rfl (by assumption) rfl (Nat.le_of_ble_eq_true rfl) (by omega) ⟨Nat.le_of_ble_eq_true rfl, Nat.le_of_ble_eq_true rfl⟩ (r1) ?_
    refine xr_stk (st' := [.int v]) rfl ?_
    refine xr_go i123_351 rfl ?_
    refine xr_go i123_352 rfl ?_
    refine xr_go i123_353 rfl ?_
    refine xr_go i123_354 rfl ?_
    refine xr_go i123_355 rfl ?_
    refine xr_sald i123_356 e1 (nI_add i 1) (by omega) (by omega) ?_
    refine xr_go i123_357 rfl ?_
    refine xr_go i123_358 rfl ?_
    refine xr_go i123_359 rfl ?_
    refine xr_go i123_360 rfl ?_
    refine xr_sald i123_361 e1 (nI_add i 2) (by omega) (by omega) ?_
    refine xr_go i123_362 rfl ?_
    refine xr_go i123_363 rfl ?_
    refine xr_go i123_364 rfl ?_
    refine xr_go i123_365 rfl ?_
    refine xr_sald i123_366 e1 (nI_add i 3) (by omega) (by omega) ?_
    refine xr_if_eqF i123_367 (t := 374) (by decide) hz ?_
    refine xr_go i123_370 rfl ?_
    refine xr_goto i123_371 (t := 375) (by decide) ?_
    refine xr_V i123_375 xc123_42 ⟨rfl, rfl⟩ xa_110 rfl (by assumption) rfl (Nat.le_of_ble_eq_true rfl) (by omega) ⟨Nat.le_of_ble_eq_true rfl, Nat.le_of_ble_eq_true rfl⟩ (r2) ?_
    refine xr_stk (st' := [.int v, .int v]) rfl ?_
    refine xr_icmp_eqT i123_378 (t := 730) (by decide) rfl ?_
    exact r
set_option maxHeartbeats 2000000 in
theorem l_6 (hb : xBoth B nx h) (hA : h G.2.2.1 = none) (hAB : G.2.2.1 < B) (hi : i + 6 ≤ G.2.2.2.1) (hm : G.2.2.2.1 ≤ 3072) (hd : 41 ≤ d) : ∃ h2 nx2 sl2, (∀ res, xRun G d 123 (730, [some (.ref G.2.2.1), some (.ref B), some (.ref (B + 78)), some (.int (nI i))], [], (h2, nx2, sl2)) res → xRun G d 123 (383, [some (.ref G.2.2.1), some (.ref B), some (.ref (B + 78)), some (.int (nI i))], [], (h, nx, sl)) res) ∧ xBoth B nx2 h2 ∧ nx2 ≤ nx + 4 ∧ sl2 ≤ sl + 3000 ∧ h2 G.2.2.1 = none := by
  obtain ⟨v, h1, nx1, sl1, h2, nx2, sl2, r1, o1, r2, b2, n1, n2, fr⟩ := J_commit (G := G) (d := d - 1) (nx := nx) (sl := sl) hb (G.2.2.2.2 (i + 1)) (by omega)
  obtain ⟨e1, e2⟩ := fr _ hAB hA
  have hB1 : ∃ fs, h B = some (.inr (0, fs)) := by
    obtain ⟨_, _, _, _, _, _, _, _, _, _, _, _, _, _, _, _, _, hD, -⟩ := hb
    exact (xDS_obj hD).1
  obtain ⟨fs, hB1⟩ := hB1
  obtain ⟨fs1, o1⟩ := o1
  refine ⟨h2, nx2, sl2, fun res r => ?_, b2, n1, n2, e2⟩
  refine xr_go i123_383 rfl ?_
  refine xr_go i123_384 rfl ?_
  refine xr_go i123_385 rfl ?_
  refine xr_go i123_386 rfl ?_
  refine xr_go i123_387 rfl ?_
  refine xr_sald i123_388 hA (nI_add i 1) (by omega) (by omega) ?_
  refine xr_V i123_389 xc123_43 ⟨rfl, rfl⟩ xa_10 rfl (by assumption) rfl (Nat.le_of_ble_eq_true rfl) (by omega) ⟨Nat.le_of_ble_eq_true rfl, Nat.le_of_ble_eq_true rfl⟩ (r1) ?_
  refine xr_stk (st' := [.int v]) rfl ?_
  refine xr_go i123_392 rfl ?_
  refine xr_go i123_393 rfl ?_
  refine xr_go i123_394 rfl ?_
  refine xr_go i123_395 rfl ?_
  refine xr_go i123_396 rfl ?_
  refine xr_sald i123_397 e1 (nI_add i 1) (by omega) (by omega) ?_
  refine xr_V i123_398 xc123_46 ⟨rfl, rfl⟩ xa_111 rfl (by assumption) rfl (Nat.le_of_ble_eq_true rfl) (by omega) ⟨Nat.le_of_ble_eq_true rfl, Nat.le_of_ble_eq_true rfl⟩ (r2) ?_
  refine xr_stk (st' := [.int v, .int v]) rfl ?_
  refine xr_icmp_eqT i123_401 (t := 730) (by decide) rfl ?_
  exact r
set_option maxHeartbeats 2000000 in
theorem l_7 (hb : xBoth B nx h) (hA : h G.2.2.1 = none) (hAB : G.2.2.1 < B) (hi : i + 6 ≤ G.2.2.2.1) (hm : G.2.2.2.1 ≤ 3072) (hd : 41 ≤ d) : ∃ h2 nx2 sl2, (∀ res, xRun G d 123 (730, [some (.ref G.2.2.1), some (.ref B), some (.ref (B + 78)), some (.int (nI i))], [], (h2, nx2, sl2)) res → xRun G d 123 (406, [some (.ref G.2.2.1), some (.ref B), some (.ref (B + 78)), some (.int (nI i))], [], (h, nx, sl)) res) ∧ xBoth B nx2 h2 ∧ nx2 ≤ nx + 4 ∧ sl2 ≤ sl + 3000 ∧ h2 G.2.2.1 = none := by
  obtain ⟨v, h1, nx1, sl1, h2, nx2, sl2, r1, o1, r2, b2, n1, n2, fr⟩ := J_meet (G := G) (d := d - 1) (nx := nx) (sl := sl) hb (G.2.2.2.2 (i + 1)) (G.2.2.2.2 (i + 2)) (G.2.2.2.2 (i + 3)) (by omega)
  obtain ⟨e1, e2⟩ := fr _ hAB hA
  have hB1 : ∃ fs, h B = some (.inr (0, fs)) := by
    obtain ⟨_, _, _, _, _, _, _, _, _, _, _, _, _, _, _, _, _, hD, -⟩ := hb
    exact (xDS_obj hD).1
  obtain ⟨fs, hB1⟩ := hB1
  obtain ⟨fs1, o1⟩ := o1
  refine ⟨h2, nx2, sl2, fun res r => ?_, b2, n1, n2, e2⟩
  refine xr_go i123_406 rfl ?_
  refine xr_go i123_407 rfl ?_
  refine xr_go i123_408 rfl ?_
  refine xr_go i123_409 rfl ?_
  refine xr_go i123_410 rfl ?_
  refine xr_sald i123_411 hA (nI_add i 1) (by omega) (by omega) ?_
  refine xr_go i123_412 rfl ?_
  refine xr_go i123_413 rfl ?_
  refine xr_go i123_414 rfl ?_
  refine xr_go i123_415 rfl ?_
  refine xr_sald i123_416 hA (nI_add i 2) (by omega) (by omega) ?_
  refine xr_go i123_417 rfl ?_
  refine xr_go i123_418 rfl ?_
  refine xr_go i123_419 rfl ?_
  refine xr_go i123_420 rfl ?_
  refine xr_sald i123_421 hA (nI_add i 3) (by omega) (by omega) ?_
  refine xr_V i123_422 xc123_47 ⟨rfl, rfl⟩ xa_11 rfl (by assumption) rfl (Nat.le_of_ble_eq_true rfl) (by omega) ⟨Nat.le_of_ble_eq_true rfl, Nat.le_of_ble_eq_true rfl⟩ (r1) ?_
  refine xr_stk (st' := [.int v]) rfl ?_
  refine xr_go i123_425 rfl ?_
  refine xr_go i123_426 rfl ?_
  refine xr_go i123_427 rfl ?_
  refine xr_go i123_428 rfl ?_
  refine xr_go i123_429 rfl ?_
  refine xr_sald i123_430 e1 (nI_add i 1) (by omega) (by omega) ?_
  refine xr_go i123_431 rfl ?_
  refine xr_go i123_432 rfl ?_
  refine xr_go i123_433 rfl ?_
  refine xr_go i123_434 rfl ?_
  refine xr_sald i123_435 e1 (nI_add i 2) (by omega) (by omega) ?_
  refine xr_go i123_436 rfl ?_
  refine xr_go i123_437 rfl ?_
  refine xr_go i123_438 rfl ?_
  refine xr_go i123_439 rfl ?_
  refine xr_sald i123_440 e1 (nI_add i 3) (by omega) (by omega) ?_
  refine xr_V i123_441 xc123_50 ⟨rfl, rfl⟩ xa_112 rfl (by assumption) rfl (Nat.le_of_ble_eq_true rfl) (by omega) ⟨Nat.le_of_ble_eq_true rfl, Nat.le_of_ble_eq_true rfl⟩ (r2) ?_
  refine xr_stk (st' := [.int v, .int v]) rfl ?_
  refine xr_icmp_eqT i123_444 (t := 730) (by decide) rfl ?_
  exact r
set_option maxHeartbeats 2000000 in
theorem l_8 (hb : xBoth B nx h) (hA : h G.2.2.1 = none) (hAB : G.2.2.1 < B) (hi : i + 6 ≤ G.2.2.2.1) (hm : G.2.2.2.1 ≤ 3072) (hd : 41 ≤ d) : ∃ h2 nx2 sl2, (∀ res, xRun G d 123 (730, [some (.ref G.2.2.1), some (.ref B), some (.ref (B + 78)), some (.int (nI i))], [], (h2, nx2, sl2)) res → xRun G d 123 (449, [some (.ref G.2.2.1), some (.ref B), some (.ref (B + 78)), some (.int (nI i))], [], (h, nx, sl)) res) ∧ xBoth B nx2 h2 ∧ nx2 ≤ nx + 4 ∧ sl2 ≤ sl + 3000 ∧ h2 G.2.2.1 = none := by
  obtain ⟨v, h1, nx1, sl1, h2, nx2, sl2, r1, o1, r2, b2, n1, n2, fr⟩ := J_forget (G := G) (d := d - 1) (nx := nx) (sl := sl) hb (G.2.2.2.2 (i + 1)) (G.2.2.2.2 (i + 2)) (by omega)
  obtain ⟨e1, e2⟩ := fr _ hAB hA
  have hB1 : ∃ fs, h B = some (.inr (0, fs)) := by
    obtain ⟨_, _, _, _, _, _, _, _, _, _, _, _, _, _, _, _, _, hD, -⟩ := hb
    exact (xDS_obj hD).1
  obtain ⟨fs, hB1⟩ := hB1
  obtain ⟨fs1, o1⟩ := o1
  refine ⟨h2, nx2, sl2, fun res r => ?_, b2, n1, n2, e2⟩
  refine xr_go i123_449 rfl ?_
  refine xr_go i123_450 rfl ?_
  refine xr_go i123_451 rfl ?_
  refine xr_go i123_452 rfl ?_
  refine xr_go i123_453 rfl ?_
  refine xr_sald i123_454 hA (nI_add i 1) (by omega) (by omega) ?_
  refine xr_go i123_455 rfl ?_
  refine xr_go i123_456 rfl ?_
  refine xr_go i123_457 rfl ?_
  refine xr_go i123_458 rfl ?_
  refine xr_sald i123_459 hA (nI_add i 2) (by omega) (by omega) ?_
  refine xr_V i123_460 xc123_51 ⟨rfl, rfl⟩ xa_12 rfl (by assumption) rfl (Nat.le_of_ble_eq_true rfl) (by omega) ⟨Nat.le_of_ble_eq_true rfl, Nat.le_of_ble_eq_true rfl⟩ (r1) ?_
  refine xr_stk (st' := [.int v]) rfl ?_
  refine xr_go i123_463 rfl ?_
  refine xr_go i123_464 rfl ?_
  refine xr_go i123_465 rfl ?_
  refine xr_go i123_466 rfl ?_
  refine xr_go i123_467 rfl ?_
  refine xr_sald i123_468 e1 (nI_add i 1) (by omega) (by omega) ?_
  refine xr_go i123_469 rfl ?_
  refine xr_go i123_470 rfl ?_
  refine xr_go i123_471 rfl ?_
  refine xr_go i123_472 rfl ?_
  refine xr_sald i123_473 e1 (nI_add i 2) (by omega) (by omega) ?_
  refine xr_V i123_474 xc123_55 ⟨rfl, rfl⟩ xa_114 rfl (by assumption) rfl (Nat.le_of_ble_eq_true rfl) (by omega) ⟨Nat.le_of_ble_eq_true rfl, Nat.le_of_ble_eq_true rfl⟩ (r2) ?_
  refine xr_stk (st' := [.int v, .int v]) rfl ?_
  refine xr_icmp_eqT i123_477 (t := 730) (by decide) rfl ?_
  exact r
set_option maxHeartbeats 2000000 in
theorem l_9 (hb : xBoth B nx h) (hA : h G.2.2.1 = none) (hAB : G.2.2.1 < B) (hi : i + 6 ≤ G.2.2.2.1) (hm : G.2.2.2.1 ≤ 3072) (hd : 41 ≤ d) : ∃ h2 nx2 sl2, (∀ res, xRun G d 123 (730, [some (.ref G.2.2.1), some (.ref B), some (.ref (B + 78)), some (.int (nI i))], [], (h2, nx2, sl2)) res → xRun G d 123 (482, [some (.ref G.2.2.1), some (.ref B), some (.ref (B + 78)), some (.int (nI i))], [], (h, nx, sl)) res) ∧ xBoth B nx2 h2 ∧ nx2 ≤ nx + 4 ∧ sl2 ≤ sl + 3000 ∧ h2 G.2.2.1 = none := by
  by_cases hz : G.2.2.2.2 (i + 3) = 0
  · obtain ⟨v, h1, nx1, sl1, h2, nx2, sl2, r1, o1, r2, b2, n1, n2, fr⟩ := J_cell (G := G) (d := d - 1) (nx := nx) (sl := sl) hb (G.2.2.2.2 (i + 1)) (G.2.2.2.2 (i + 2)) (0 : Int32) (by omega)
    obtain ⟨e1, e2⟩ := fr _ hAB hA
    have hB1 : ∃ fs, h B = some (.inr (0, fs)) := by
      obtain ⟨_, _, _, _, _, _, _, _, _, _, _, _, _, _, _, _, _, hD, -⟩ := hb
      exact (xDS_obj hD).1
    obtain ⟨fs, hB1⟩ := hB1
    obtain ⟨fs1, o1⟩ := o1
    refine ⟨h2, nx2, sl2, fun res r => ?_, b2, n1, n2, e2⟩
    refine xr_go i123_482 rfl ?_
    refine xr_go i123_483 rfl ?_
    refine xr_go i123_484 rfl ?_
    refine xr_go i123_485 rfl ?_
    refine xr_go i123_486 rfl ?_
    refine xr_sald i123_487 hA (nI_add i 1) (by omega) (by omega) ?_
    refine xr_go i123_488 rfl ?_
    refine xr_go i123_489 rfl ?_
    refine xr_go i123_490 rfl ?_
    refine xr_go i123_491 rfl ?_
    refine xr_sald i123_492 hA (nI_add i 2) (by omega) (by omega) ?_
    refine xr_go i123_493 rfl ?_
    refine xr_go i123_494 rfl ?_
    refine xr_go i123_495 rfl ?_
    refine xr_go i123_496 rfl ?_
    refine xr_sald i123_497 hA (nI_add i 3) (by omega) (by omega) ?_
    refine xr_if_eqT i123_498 (t := 505) (by decide) hz ?_
    refine xr_go i123_505 rfl ?_
    refine xr_V i123_506 xc123_56 ⟨rfl, rfl⟩ xa_13 rfl (by assumption) rfl (Nat.le_of_ble_eq_true rfl) (by omega) ⟨Nat.le_of_ble_eq_true rfl, Nat.le_of_ble_eq_true rfl⟩ (r1) ?_
    refine xr_stk (st' := [.long v]) rfl ?_
    refine xr_go i123_509 rfl ?_
    refine xr_go i123_510 rfl ?_
    refine xr_go i123_511 rfl ?_
    refine xr_go i123_512 rfl ?_
    refine xr_go i123_513 rfl ?_
    refine xr_sald i123_514 e1 (nI_add i 1) (by omega) (by omega) ?_
    refine xr_go i123_515 rfl ?_
    refine xr_go i123_516 rfl ?_
    refine xr_go i123_517 rfl ?_
    refine xr_go i123_518 rfl ?_
    refine xr_sald i123_519 e1 (nI_add i 2) (by omega) (by omega) ?_
    refine xr_go i123_520 rfl ?_
    refine xr_go i123_521 rfl ?_
    refine xr_go i123_522 rfl ?_
    refine xr_go i123_523 rfl ?_
    refine xr_sald i123_524 e1 (nI_add i 3) (by omega) (by omega) ?_
    refine xr_if_eqT i123_525 (t := 532) (by decide) hz ?_
    refine xr_go i123_532 rfl ?_
    refine xr_V i123_533 xc123_60 ⟨rfl, rfl⟩ xa_102 rfl (by assumption) rfl (Nat.le_of_ble_eq_true rfl) (by omega) ⟨Nat.le_of_ble_eq_true rfl, Nat.le_of_ble_eq_true rfl⟩ (r2) ?_
    refine xr_stk (st' := [.long v, .long v]) rfl ?_
    refine xr_go i123_536 rfl ?_
    refine xr_if_eqT i123_537 (t := 730) (by decide) (lcmp_self v) ?_
    exact r
  · obtain ⟨v, h1, nx1, sl1, h2, nx2, sl2, r1, o1, r2, b2, n1, n2, fr⟩ := J_cell (G := G) (d := d - 1) (nx := nx) (sl := sl) hb (G.2.2.2.2 (i + 1)) (G.2.2.2.2 (i + 2)) (1 : Int32) (by omega)
    obtain ⟨e1, e2⟩ := fr _ hAB hA
    have hB1 : ∃ fs, h B = some (.inr (0, fs)) := by
      obtain ⟨_, _, _, _, _, _, _, _, _, _, _, _, _, _, _, _, _, hD, -⟩ := hb
      exact (xDS_obj hD).1
    obtain ⟨fs, hB1⟩ := hB1
    obtain ⟨fs1, o1⟩ := o1
    refine ⟨h2, nx2, sl2, fun res r => ?_, b2, n1, n2, e2⟩
    refine xr_go i123_482 rfl ?_
    refine xr_go i123_483 rfl ?_
    refine xr_go i123_484 rfl ?_
    refine xr_go i123_485 rfl ?_
    refine xr_go i123_486 rfl ?_
    refine xr_sald i123_487 hA (nI_add i 1) (by omega) (by omega) ?_
    refine xr_go i123_488 rfl ?_
    refine xr_go i123_489 rfl ?_
    refine xr_go i123_490 rfl ?_
    refine xr_go i123_491 rfl ?_
    refine xr_sald i123_492 hA (nI_add i 2) (by omega) (by omega) ?_
    refine xr_go i123_493 rfl ?_
    refine xr_go i123_494 rfl ?_
    refine xr_go i123_495 rfl ?_
    refine xr_go i123_496 rfl ?_
    refine xr_sald i123_497 hA (nI_add i 3) (by omega) (by omega) ?_
    refine xr_if_eqF i123_498 (t := 505) (by decide) hz ?_
    refine xr_go i123_501 rfl ?_
    refine xr_goto i123_502 (t := 506) (by decide) ?_
    refine xr_V i123_506 xc123_56 ⟨rfl, rfl⟩ xa_13 rfl (by assumption) rfl (Nat.le_of_ble_eq_true rfl) (by omega) ⟨Nat.le_of_ble_eq_true rfl, Nat.le_of_ble_eq_true rfl⟩ (r1) ?_
    refine xr_stk (st' := [.long v]) rfl ?_
    refine xr_go i123_509 rfl ?_
    refine xr_go i123_510 rfl ?_
    refine xr_go i123_511 rfl ?_
    refine xr_go i123_512 rfl ?_
    refine xr_go i123_513 rfl ?_
    refine xr_sald i123_514 e1 (nI_add i 1) (by omega) (by omega) ?_
    refine xr_go i123_515 rfl ?_
    refine xr_go i123_516 rfl ?_
    refine xr_go i123_517 rfl ?_
    refine xr_go i123_518 rfl ?_
    refine xr_sald i123_519 e1 (nI_add i 2) (by omega) (by omega) ?_
    refine xr_go i123_520 rfl ?_
    refine xr_go i123_521 rfl ?_
    refine xr_go i123_522 rfl ?_
    refine xr_go i123_523 rfl ?_
    refine xr_sald i123_524 e1 (nI_add i 3) (by omega) (by omega) ?_
    refine xr_if_eqF i123_525 (t := 532) (by decide) hz ?_
    refine xr_go i123_528 rfl ?_
    refine xr_goto i123_529 (t := 533) (by decide) ?_
    refine xr_V i123_533 xc123_60 ⟨rfl, rfl⟩ xa_102 rfl (by assumption) rfl (Nat.le_of_ble_eq_true rfl) (by omega) ⟨Nat.le_of_ble_eq_true rfl, Nat.le_of_ble_eq_true rfl⟩ (r2) ?_
    refine xr_stk (st' := [.long v, .long v]) rfl ?_
    refine xr_go i123_536 rfl ?_
    refine xr_if_eqT i123_537 (t := 730) (by decide) (lcmp_self v) ?_
    exact r
set_option maxHeartbeats 2000000 in
theorem l_10 (hb : xBoth B nx h) (hA : h G.2.2.1 = none) (hAB : G.2.2.1 < B) (hi : i + 6 ≤ G.2.2.2.1) (hm : G.2.2.2.1 ≤ 3072) (hd : 41 ≤ d) : ∃ h2 nx2 sl2, (∀ res, xRun G d 123 (730, [some (.ref G.2.2.1), some (.ref B), some (.ref (B + 78)), some (.int (nI i))], [], (h2, nx2, sl2)) res → xRun G d 123 (542, [some (.ref G.2.2.1), some (.ref B), some (.ref (B + 78)), some (.int (nI i))], [], (h, nx, sl)) res) ∧ xBoth B nx2 h2 ∧ nx2 ≤ nx + 4 ∧ sl2 ≤ sl + 3000 ∧ h2 G.2.2.1 = none := by
  obtain ⟨v, h1, nx1, sl1, h2, nx2, sl2, r1, o1, r2, b2, n1, n2, fr⟩ := J_order (G := G) (d := d - 1) (nx := nx) (sl := sl) hb (G.2.2.2.2 (i + 1)) (G.2.2.2.2 (i + 2)) (by omega)
  obtain ⟨e1, e2⟩ := fr _ hAB hA
  have hB1 : ∃ fs, h B = some (.inr (0, fs)) := by
    obtain ⟨_, _, _, _, _, _, _, _, _, _, _, _, _, _, _, _, _, hD, -⟩ := hb
    exact (xDS_obj hD).1
  obtain ⟨fs, hB1⟩ := hB1
  obtain ⟨fs1, o1⟩ := o1
  refine ⟨h2, nx2, sl2, fun res r => ?_, b2, n1, n2, e2⟩
  refine xr_go i123_542 rfl ?_
  refine xr_go i123_543 rfl ?_
  refine xr_go i123_544 rfl ?_
  refine xr_go i123_545 rfl ?_
  refine xr_go i123_546 rfl ?_
  refine xr_sald i123_547 hA (nI_add i 1) (by omega) (by omega) ?_
  refine xr_go i123_548 rfl ?_
  refine xr_go i123_549 rfl ?_
  refine xr_go i123_550 rfl ?_
  refine xr_go i123_551 rfl ?_
  refine xr_sald i123_552 hA (nI_add i 2) (by omega) (by omega) ?_
  refine xr_V i123_553 xc123_61 ⟨rfl, rfl⟩ xa_14 rfl (by assumption) rfl (Nat.le_of_ble_eq_true rfl) (by omega) ⟨Nat.le_of_ble_eq_true rfl, Nat.le_of_ble_eq_true rfl⟩ (r1) ?_
  refine xr_stk (st' := [.int v]) rfl ?_
  refine xr_go i123_556 rfl ?_
  refine xr_go i123_557 rfl ?_
  refine xr_go i123_558 rfl ?_
  refine xr_go i123_559 rfl ?_
  refine xr_go i123_560 rfl ?_
  refine xr_sald i123_561 e1 (nI_add i 1) (by omega) (by omega) ?_
  refine xr_go i123_562 rfl ?_
  refine xr_go i123_563 rfl ?_
  refine xr_go i123_564 rfl ?_
  refine xr_go i123_565 rfl ?_
  refine xr_sald i123_566 e1 (nI_add i 2) (by omega) (by omega) ?_
  refine xr_V i123_567 xc123_64 ⟨rfl, rfl⟩ xa_115 rfl (by assumption) rfl (Nat.le_of_ble_eq_true rfl) (by omega) ⟨Nat.le_of_ble_eq_true rfl, Nat.le_of_ble_eq_true rfl⟩ (r2) ?_
  refine xr_stk (st' := [.int v, .int v]) rfl ?_
  refine xr_icmp_eqT i123_570 (t := 730) (by decide) rfl ?_
  exact r
set_option maxHeartbeats 2000000 in
theorem l_11 (hb : xBoth B nx h) (hA : h G.2.2.1 = none) (hAB : G.2.2.1 < B) (hi : i + 6 ≤ G.2.2.2.1) (hm : G.2.2.2.1 ≤ 3072) (hd : 41 ≤ d) : ∃ h2 nx2 sl2, (∀ res, xRun G d 123 (730, [some (.ref G.2.2.1), some (.ref B), some (.ref (B + 78)), some (.int (nI i))], [], (h2, nx2, sl2)) res → xRun G d 123 (575, [some (.ref G.2.2.1), some (.ref B), some (.ref (B + 78)), some (.int (nI i))], [], (h, nx, sl)) res) ∧ xBoth B nx2 h2 ∧ nx2 ≤ nx + 4 ∧ sl2 ≤ sl + 3000 ∧ h2 G.2.2.1 = none := by
  obtain ⟨v, h1, nx1, sl1, h2, nx2, sl2, r1, o1, r2, b2, n1, n2, fr⟩ := J_outcome (G := G) (d := d - 1) (nx := nx) (sl := sl) hb (G.2.2.2.2 (i + 1)) (G.2.2.2.2 (i + 2)) (by omega)
  obtain ⟨e1, e2⟩ := fr _ hAB hA
  have hB1 : ∃ fs, h B = some (.inr (0, fs)) := by
    obtain ⟨_, _, _, _, _, _, _, _, _, _, _, _, _, _, _, _, _, hD, -⟩ := hb
    exact (xDS_obj hD).1
  obtain ⟨fs, hB1⟩ := hB1
  obtain ⟨fs1, o1⟩ := o1
  refine ⟨h2, nx2, sl2, fun res r => ?_, b2, n1, n2, e2⟩
  refine xr_go i123_575 rfl ?_
  refine xr_go i123_576 rfl ?_
  refine xr_go i123_577 rfl ?_
  refine xr_go i123_578 rfl ?_
  refine xr_go i123_579 rfl ?_
  refine xr_sald i123_580 hA (nI_add i 1) (by omega) (by omega) ?_
  refine xr_go i123_581 rfl ?_
  refine xr_go i123_582 rfl ?_
  refine xr_go i123_583 rfl ?_
  refine xr_go i123_584 rfl ?_
  refine xr_sald i123_585 hA (nI_add i 2) (by omega) (by omega) ?_
  refine xr_V i123_586 xc123_65 ⟨rfl, rfl⟩ xa_15 rfl (by assumption) rfl (Nat.le_of_ble_eq_true rfl) (by omega) ⟨Nat.le_of_ble_eq_true rfl, Nat.le_of_ble_eq_true rfl⟩ (r1) ?_
  refine xr_stk (st' := [.int v]) rfl ?_
  refine xr_go i123_589 rfl ?_
  refine xr_go i123_590 rfl ?_
  refine xr_go i123_591 rfl ?_
  refine xr_go i123_592 rfl ?_
  refine xr_go i123_593 rfl ?_
  refine xr_sald i123_594 e1 (nI_add i 1) (by omega) (by omega) ?_
  refine xr_go i123_595 rfl ?_
  refine xr_go i123_596 rfl ?_
  refine xr_go i123_597 rfl ?_
  refine xr_go i123_598 rfl ?_
  refine xr_sald i123_599 e1 (nI_add i 2) (by omega) (by omega) ?_
  refine xr_V i123_600 xc123_68 ⟨rfl, rfl⟩ xa_116 rfl (by assumption) rfl (Nat.le_of_ble_eq_true rfl) (by omega) ⟨Nat.le_of_ble_eq_true rfl, Nat.le_of_ble_eq_true rfl⟩ (r2) ?_
  refine xr_stk (st' := [.int v, .int v]) rfl ?_
  refine xr_icmp_eqT i123_603 (t := 730) (by decide) rfl ?_
  exact r
set_option maxHeartbeats 2000000 in
theorem l_12 (hb : xBoth B nx h) (hA : h G.2.2.1 = none) (hAB : G.2.2.1 < B) (hi : i + 6 ≤ G.2.2.2.1) (hm : G.2.2.2.1 ≤ 3072) (hd : 41 ≤ d) : ∃ h2 nx2 sl2, (∀ res, xRun G d 123 (730, [some (.ref G.2.2.1), some (.ref B), some (.ref (B + 78)), some (.int (nI i))], [], (h2, nx2, sl2)) res → xRun G d 123 (608, [some (.ref G.2.2.1), some (.ref B), some (.ref (B + 78)), some (.int (nI i))], [], (h, nx, sl)) res) ∧ xBoth B nx2 h2 ∧ nx2 ≤ nx + 4 ∧ sl2 ≤ sl + 3000 ∧ h2 G.2.2.1 = none := by
  obtain ⟨v, h1, nx1, sl1, h2, nx2, sl2, r1, o1, r2, b2, n1, n2, fr⟩ := J_look (G := G) (d := d - 1) (nx := nx) (sl := sl) hb (G.2.2.2.2 (i + 1)) (G.2.2.2.2 (i + 2)) (by omega)
  obtain ⟨e1, e2⟩ := fr _ hAB hA
  have hB1 : ∃ fs, h B = some (.inr (0, fs)) := by
    obtain ⟨_, _, _, _, _, _, _, _, _, _, _, _, _, _, _, _, _, hD, -⟩ := hb
    exact (xDS_obj hD).1
  obtain ⟨fs, hB1⟩ := hB1
  obtain ⟨fs1, o1⟩ := o1
  refine ⟨h2, nx2, sl2, fun res r => ?_, b2, n1, n2, e2⟩
  refine xr_go i123_608 rfl ?_
  refine xr_go i123_609 rfl ?_
  refine xr_go i123_610 rfl ?_
  refine xr_go i123_611 rfl ?_
  refine xr_go i123_612 rfl ?_
  refine xr_sald i123_613 hA (nI_add i 1) (by omega) (by omega) ?_
  refine xr_go i123_614 rfl ?_
  refine xr_go i123_615 rfl ?_
  refine xr_go i123_616 rfl ?_
  refine xr_go i123_617 rfl ?_
  refine xr_sald i123_618 hA (nI_add i 2) (by omega) (by omega) ?_
  refine xr_V i123_619 xc123_69 ⟨rfl, rfl⟩ xa_16 rfl (by assumption) rfl (Nat.le_of_ble_eq_true rfl) (by omega) ⟨Nat.le_of_ble_eq_true rfl, Nat.le_of_ble_eq_true rfl⟩ (r1) ?_
  refine xr_stk (st' := [.int v]) rfl ?_
  refine xr_go i123_622 rfl ?_
  refine xr_go i123_623 rfl ?_
  refine xr_go i123_624 rfl ?_
  refine xr_go i123_625 rfl ?_
  refine xr_go i123_626 rfl ?_
  refine xr_sald i123_627 e1 (nI_add i 1) (by omega) (by omega) ?_
  refine xr_go i123_628 rfl ?_
  refine xr_go i123_629 rfl ?_
  refine xr_go i123_630 rfl ?_
  refine xr_go i123_631 rfl ?_
  refine xr_sald i123_632 e1 (nI_add i 2) (by omega) (by omega) ?_
  refine xr_V i123_633 xc123_72 ⟨rfl, rfl⟩ xa_117 rfl (by assumption) rfl (Nat.le_of_ble_eq_true rfl) (by omega) ⟨Nat.le_of_ble_eq_true rfl, Nat.le_of_ble_eq_true rfl⟩ (r2) ?_
  refine xr_stk (st' := [.int v, .int v]) rfl ?_
  refine xr_icmp_eqT i123_636 (t := 730) (by decide) rfl ?_
  exact r
set_option maxHeartbeats 2000000 in
theorem l_13 (hb : xBoth B nx h) (hA : h G.2.2.1 = none) (hAB : G.2.2.1 < B) (hi : i + 6 ≤ G.2.2.2.1) (hm : G.2.2.2.1 ≤ 3072) (hd : 41 ≤ d) : ∃ h2 nx2 sl2, (∀ res, xRun G d 123 (730, [some (.ref G.2.2.1), some (.ref B), some (.ref (B + 78)), some (.int (nI i))], [], (h2, nx2, sl2)) res → xRun G d 123 (641, [some (.ref G.2.2.1), some (.ref B), some (.ref (B + 78)), some (.int (nI i))], [], (h, nx, sl)) res) ∧ xBoth B nx2 h2 ∧ nx2 ≤ nx + 4 ∧ sl2 ≤ sl + 3000 ∧ h2 G.2.2.1 = none := by
  obtain ⟨v, h1, nx1, sl1, h2, nx2, sl2, r1, o1, r2, b2, n1, n2, fr⟩ := J_stamp (G := G) (d := d - 1) (nx := nx) (sl := sl) hb (G.2.2.2.2 (i + 1)) (G.2.2.2.2 (i + 2)) (G.2.2.2.2 (i + 3)) (by omega)
  obtain ⟨e1, e2⟩ := fr _ hAB hA
  have hB1 : ∃ fs, h B = some (.inr (0, fs)) := by
    obtain ⟨_, _, _, _, _, _, _, _, _, _, _, _, _, _, _, _, _, hD, -⟩ := hb
    exact (xDS_obj hD).1
  obtain ⟨fs, hB1⟩ := hB1
  obtain ⟨fs1, o1⟩ := o1
  refine ⟨h2, nx2, sl2, fun res r => ?_, b2, n1, n2, e2⟩
  refine xr_go i123_641 rfl ?_
  refine xr_go i123_642 rfl ?_
  refine xr_go i123_643 rfl ?_
  refine xr_go i123_644 rfl ?_
  refine xr_go i123_645 rfl ?_
  refine xr_sald i123_646 hA (nI_add i 1) (by omega) (by omega) ?_
  refine xr_go i123_647 rfl ?_
  refine xr_go i123_648 rfl ?_
  refine xr_go i123_649 rfl ?_
  refine xr_go i123_650 rfl ?_
  refine xr_sald i123_651 hA (nI_add i 2) (by omega) (by omega) ?_
  refine xr_go i123_652 rfl ?_
  refine xr_go i123_653 rfl ?_
  refine xr_go i123_654 rfl ?_
  refine xr_go i123_655 rfl ?_
  refine xr_sald i123_656 hA (nI_add i 3) (by omega) (by omega) ?_
  refine xr_V i123_657 xc123_73 ⟨rfl, rfl⟩ xa_17 rfl (by assumption) rfl (Nat.le_of_ble_eq_true rfl) (by omega) ⟨Nat.le_of_ble_eq_true rfl, Nat.le_of_ble_eq_true rfl⟩ (r1) ?_
  refine xr_stk (st' := [.int v]) rfl ?_
  refine xr_go i123_660 rfl ?_
  refine xr_go i123_661 rfl ?_
  refine xr_go i123_662 rfl ?_
  refine xr_go i123_663 rfl ?_
  refine xr_go i123_664 rfl ?_
  refine xr_sald i123_665 e1 (nI_add i 1) (by omega) (by omega) ?_
  refine xr_go i123_666 rfl ?_
  refine xr_go i123_667 rfl ?_
  refine xr_go i123_668 rfl ?_
  refine xr_go i123_669 rfl ?_
  refine xr_sald i123_670 e1 (nI_add i 2) (by omega) (by omega) ?_
  refine xr_go i123_671 rfl ?_
  refine xr_go i123_672 rfl ?_
  refine xr_go i123_673 rfl ?_
  refine xr_go i123_674 rfl ?_
  refine xr_sald i123_675 e1 (nI_add i 3) (by omega) (by omega) ?_
  refine xr_V i123_676 xc123_76 ⟨rfl, rfl⟩ xa_118 rfl (by assumption) rfl (Nat.le_of_ble_eq_true rfl) (by omega) ⟨Nat.le_of_ble_eq_true rfl, Nat.le_of_ble_eq_true rfl⟩ (r2) ?_
  refine xr_stk (st' := [.int v, .int v]) rfl ?_
  refine xr_icmp_eqT i123_679 (t := 730) (by decide) rfl ?_
  exact r
set_option maxHeartbeats 2000000 in
theorem l_14 (hb : xBoth B nx h) (hA : h G.2.2.1 = none) (hAB : G.2.2.1 < B) (hi : i + 6 ≤ G.2.2.2.1) (hm : G.2.2.2.1 ≤ 3072) (hd : 41 ≤ d) : ∃ h2 nx2 sl2, (∀ res, xRun G d 123 (730, [some (.ref G.2.2.1), some (.ref B), some (.ref (B + 78)), some (.int (nI i))], [], (h2, nx2, sl2)) res → xRun G d 123 (684, [some (.ref G.2.2.1), some (.ref B), some (.ref (B + 78)), some (.int (nI i))], [], (h, nx, sl)) res) ∧ xBoth B nx2 h2 ∧ nx2 ≤ nx + 4 ∧ sl2 ≤ sl + 3000 ∧ h2 G.2.2.1 = none := by
  obtain ⟨v, h1, nx1, sl1, h2, nx2, sl2, r1, o1, r2, b2, n1, n2, fr⟩ := J_count (G := G) (d := d - 1) (nx := nx) (sl := sl) hb (G.2.2.2.2 (i + 1)) (G.2.2.2.2 (i + 2)) (by omega)
  obtain ⟨e1, e2⟩ := fr _ hAB hA
  have hB1 : ∃ fs, h B = some (.inr (0, fs)) := by
    obtain ⟨_, _, _, _, _, _, _, _, _, _, _, _, _, _, _, _, _, hD, -⟩ := hb
    exact (xDS_obj hD).1
  obtain ⟨fs, hB1⟩ := hB1
  obtain ⟨fs1, o1⟩ := o1
  refine ⟨h2, nx2, sl2, fun res r => ?_, b2, n1, n2, e2⟩
  refine xr_go i123_684 rfl ?_
  refine xr_go i123_685 rfl ?_
  refine xr_go i123_686 rfl ?_
  refine xr_go i123_687 rfl ?_
  refine xr_go i123_688 rfl ?_
  refine xr_sald i123_689 hA (nI_add i 1) (by omega) (by omega) ?_
  refine xr_go i123_690 rfl ?_
  refine xr_go i123_691 rfl ?_
  refine xr_go i123_692 rfl ?_
  refine xr_go i123_693 rfl ?_
  refine xr_sald i123_694 hA (nI_add i 2) (by omega) (by omega) ?_
  refine xr_V i123_695 xc123_77 ⟨rfl, rfl⟩ xa_18 rfl (by assumption) rfl (Nat.le_of_ble_eq_true rfl) (by omega) ⟨Nat.le_of_ble_eq_true rfl, Nat.le_of_ble_eq_true rfl⟩ (r1) ?_
  refine xr_stk (st' := [.int v]) rfl ?_
  refine xr_go i123_698 rfl ?_
  refine xr_go i123_699 rfl ?_
  refine xr_go i123_700 rfl ?_
  refine xr_go i123_701 rfl ?_
  refine xr_go i123_702 rfl ?_
  refine xr_sald i123_703 e1 (nI_add i 1) (by omega) (by omega) ?_
  refine xr_go i123_704 rfl ?_
  refine xr_go i123_705 rfl ?_
  refine xr_go i123_706 rfl ?_
  refine xr_go i123_707 rfl ?_
  refine xr_sald i123_708 e1 (nI_add i 2) (by omega) (by omega) ?_
  refine xr_V i123_709 xc123_80 ⟨rfl, rfl⟩ xa_119 rfl (by assumption) rfl (Nat.le_of_ble_eq_true rfl) (by omega) ⟨Nat.le_of_ble_eq_true rfl, Nat.le_of_ble_eq_true rfl⟩ (r2) ?_
  refine xr_stk (st' := [.int v, .int v]) rfl ?_
  refine xr_icmp_eqT i123_712 (t := 730) (by decide) rfl ?_
  exact r
set_option maxHeartbeats 2000000 in
theorem l_15 (hb : xBoth B nx h) (hA : h G.2.2.1 = none) (hAB : G.2.2.1 < B) (hi : i + 6 ≤ G.2.2.2.1) (hm : G.2.2.2.1 ≤ 3072) (hd : 41 ≤ d) : ∃ h2 nx2 sl2, (∀ res, xRun G d 123 (730, [some (.ref G.2.2.1), some (.ref B), some (.ref (B + 78)), some (.int (nI i))], [], (h2, nx2, sl2)) res → xRun G d 123 (717, [some (.ref G.2.2.1), some (.ref B), some (.ref (B + 78)), some (.int (nI i))], [], (h, nx, sl)) res) ∧ xBoth B nx2 h2 ∧ nx2 ≤ nx + 4 ∧ sl2 ≤ sl + 3000 ∧ h2 G.2.2.1 = none := by
  obtain ⟨v, h1, nx1, sl1, h2, nx2, sl2, r1, o1, r2, b2, n1, n2, fr⟩ := J_writes (G := G) (d := d - 1) (nx := nx) (sl := sl) hb  (by omega)
  obtain ⟨e1, e2⟩ := fr _ hAB hA
  have hB1 : ∃ fs, h B = some (.inr (0, fs)) := by
    obtain ⟨_, _, _, _, _, _, _, _, _, _, _, _, _, _, _, _, _, hD, -⟩ := hb
    exact (xDS_obj hD).1
  obtain ⟨fs, hB1⟩ := hB1
  obtain ⟨fs1, o1⟩ := o1
  refine ⟨h2, nx2, sl2, fun res r => ?_, b2, n1, n2, e2⟩
  refine xr_go i123_717 rfl ?_
  refine xr_V i123_718 xc123_81 ⟨rfl, rfl⟩ xa_19 rfl (by assumption) rfl (Nat.le_of_ble_eq_true rfl) (by omega) ⟨Nat.le_of_ble_eq_true rfl, Nat.le_of_ble_eq_true rfl⟩ (r1) ?_
  refine xr_stk (st' := [.int v]) rfl ?_
  refine xr_go i123_721 rfl ?_
  refine xr_V i123_722 xc123_84 ⟨rfl, rfl⟩ xa_120 rfl (by assumption) rfl (Nat.le_of_ble_eq_true rfl) (by omega) ⟨Nat.le_of_ble_eq_true rfl, Nat.le_of_ble_eq_true rfl⟩ (r2) ?_
  refine xr_stk (st' := [.int v, .int v]) rfl ?_
  refine xr_icmp_eqT i123_725 (t := 730) (by decide) rfl ?_
  exact r
theorem law_loop (hG : xGok G) (hAB : G.2.2.1 < B) (hm : G.2.2.2.1 ≤ 3072) (hd : 41 ≤ d) : ∀ (m i : Nat) (h : xH) (nx sl : Nat), G.2.2.2.1 ≤ i + 6 * m → i < 6000 → xBoth B nx h → h G.2.2.1 = none → ∃ h2 nx2 sl2, xRun G d 123 (18, [some (.ref G.2.2.1), some (.ref B), some (.ref (B + 78)), some (.int (nI i))], [], (h, nx, sl)) (some (.int 1), (h2, nx2, sl2)) ∧ nx2 ≤ nx + 4 * m ∧ sl2 ≤ sl + 3000 * m := by
  intro m
  have stop : ∀ (i : Nat) (h : xH) (nx sl : Nat), ¬ i + 6 ≤ G.2.2.2.1 → i < 6000 → h G.2.2.1 = none → xRun G d 123 (18, [some (.ref G.2.2.1), some (.ref B), some (.ref (B + 78)), some (.int (nI i))], [], (h, nx, sl)) (some (.int 1), (h, nx, sl)) := by
    intro i h nx sl hi hi6 hA
    refine xr_go i123_18 rfl ?_
    refine xr_go i123_19 rfl ?_
    refine xr_salen i123_20 hA ?_
    refine xr_go i123_21 rfl ?_
    refine xr_go i123_23 rfl ?_
    by_cases h6 : 6 ≤ G.2.2.2.1
    · refine xr_top (show _ = nI (G.2.2.2.1 - 6) from pk_sub (b := 6) h6) ?_
      refine xr_icmp_gtT i123_24 (t := 736) (by decide) (nI_lt (by omega) (by omega)) ?_
      refine xr_go i123_736 rfl ?_
      exact xr_iret i123_737 xt_123 rfl
    · have key : ∀ k : Fin 6, nI k.val - 6 < 0 := by decide +kernel
      have k1 := key ⟨G.2.2.2.1, by omega⟩
      refine xr_icmp_gtT i123_24 (t := 736) (by decide) (Int32.lt_of_lt_of_le k1 (nI_pos' (by omega))) ?_
      refine xr_go i123_736 rfl ?_
      exact xr_iret i123_737 xt_123 rfl
  induction m with
  | zero =>
    intro i h nx sl hl hi6 hb hA
    exact ⟨h, nx, sl, stop i h nx sl (by omega) hi6 hA, by omega, by omega⟩
  | succ m ih =>
    intro i h nx sl hl hi6 hb hA
    by_cases hi : i + 6 ≤ G.2.2.2.1
    · have head : ∀ k, k < 16 → G.2.2.2.2 i &&& 15 = nI k → ∀ res, xRun G d 123 (33, [some (.ref G.2.2.1), some (.ref B), some (.ref (B + 78)), some (.int (nI i))], [.int (nI k)], (h, nx, sl)) res → xRun G d 123 (18, [some (.ref G.2.2.1), some (.ref B), some (.ref (B + 78)), some (.int (nI i))], [], (h, nx, sl)) res := by
        intro k hk ek res r
        refine xr_go i123_18 rfl ?_
        refine xr_go i123_19 rfl ?_
        refine xr_salen i123_20 hA ?_
        refine xr_go i123_21 rfl ?_
        refine xr_go i123_23 rfl ?_
        refine xr_top (show _ = nI (G.2.2.2.1 - 6) from pk_sub (b := 6) (by omega)) ?_
        refine xr_icmp_gtF i123_24 (t := 736) (by decide) (nI_nlt (by omega) (by omega)) ?_
        refine xr_go i123_27 rfl ?_
        refine xr_go i123_28 rfl ?_
        refine xr_sald i123_29 hA rfl (by omega) (by omega) ?_
        refine xr_go i123_30 rfl ?_
        refine xr_go i123_32 rfl ?_
        exact xr_top ek r
      have next : ∀ pc, (∃ h2 nx2 sl2, (∀ res, xRun G d 123 (730, [some (.ref G.2.2.1), some (.ref B), some (.ref (B + 78)), some (.int (nI i))], [], (h2, nx2, sl2)) res → xRun G d 123 (pc, [some (.ref G.2.2.1), some (.ref B), some (.ref (B + 78)), some (.int (nI i))], [], (h, nx, sl)) res) ∧ xBoth B nx2 h2 ∧ nx2 ≤ nx + 4 ∧ sl2 ≤ sl + 3000 ∧ h2 G.2.2.1 = none) → (∀ res, xRun G d 123 (pc, [some (.ref G.2.2.1), some (.ref B), some (.ref (B + 78)), some (.int (nI i))], [], (h, nx, sl)) res → xRun G d 123 (18, [some (.ref G.2.2.1), some (.ref B), some (.ref (B + 78)), some (.int (nI i))], [], (h, nx, sl)) res) → ∃ h2 nx2 sl2, xRun G d 123 (18, [some (.ref G.2.2.1), some (.ref B), some (.ref (B + 78)), some (.int (nI i))], [], (h, nx, sl)) (some (.int 1), (h2, nx2, sl2)) ∧ nx2 ≤ nx + 4 * (m + 1) ∧ sl2 ≤ sl + 3000 * (m + 1) := by
        intro pc ⟨h2, nx2, sl2, r, b2, n1, n2, e2⟩ hd2
        obtain ⟨h3, nx3, sl3, r3, n3, n4⟩ := ih (i + 6) h2 nx2 sl2 (by omega) (by omega) b2 e2
        refine ⟨h3, nx3, sl3, hd2 _ (r _ ?_), by omega, by omega⟩
        refine xr_inc6 i123_730 rfl rfl ?_
        refine xr_goto i123_733 (t := 18) (by decide) ?_
        exact r3
      obtain ⟨k, hk, ek⟩ := and15 (G.2.2.2.2 i)
      have hd0 := head k hk ek
      have hc : k = 0 ∨ k = 1 ∨ k = 2 ∨ k = 3 ∨ k = 4 ∨ k = 5 ∨ k = 6 ∨ k = 7 ∨ k = 8 ∨ k = 9 ∨ k = 10 ∨ k = 11 ∨ k = 12 ∨ k = 13 ∨ k = 14 ∨ k = 15 := by omega
      rcases hc with rfl | rfl | rfl | rfl | rfl | rfl | rfl | rfl | rfl | rfl | rfl | rfl | rfl | rfl | rfl | rfl
      · refine next 112 (l_0 hb hA hAB hi hm hd) (fun res r => hd0 res ?_)
        refine xr_go i123_33 rfl ?_
        exact r
      · refine next 175 (l_1 hb hA hAB hi hm hd) (fun res r => hd0 res ?_)
        refine xr_go i123_33 rfl ?_
        exact r
      · refine next 198 (l_2 hG hb hA hAB hi hm hd) (fun res r => hd0 res ?_)
        refine xr_go i123_33 rfl ?_
        exact r
      · refine next 211 (l_3 hb hA hAB hi hm hd) (fun res r => hd0 res ?_)
        refine xr_go i123_33 rfl ?_
        exact r
      · refine next 254 (l_4 hb hA hAB hi hm hd) (fun res r => hd0 res ?_)
        refine xr_go i123_33 rfl ?_
        exact r
      · refine next 324 (l_5 hb hA hAB hi hm hd) (fun res r => hd0 res ?_)
        refine xr_go i123_33 rfl ?_
        exact r
      · refine next 383 (l_6 hb hA hAB hi hm hd) (fun res r => hd0 res ?_)
        refine xr_go i123_33 rfl ?_
        exact r
      · refine next 406 (l_7 hb hA hAB hi hm hd) (fun res r => hd0 res ?_)
        refine xr_go i123_33 rfl ?_
        exact r
      · refine next 449 (l_8 hb hA hAB hi hm hd) (fun res r => hd0 res ?_)
        refine xr_go i123_33 rfl ?_
        exact r
      · refine next 482 (l_9 hb hA hAB hi hm hd) (fun res r => hd0 res ?_)
        refine xr_go i123_33 rfl ?_
        exact r
      · refine next 542 (l_10 hb hA hAB hi hm hd) (fun res r => hd0 res ?_)
        refine xr_go i123_33 rfl ?_
        exact r
      · refine next 575 (l_11 hb hA hAB hi hm hd) (fun res r => hd0 res ?_)
        refine xr_go i123_33 rfl ?_
        exact r
      · refine next 608 (l_12 hb hA hAB hi hm hd) (fun res r => hd0 res ?_)
        refine xr_go i123_33 rfl ?_
        exact r
      · refine next 641 (l_13 hb hA hAB hi hm hd) (fun res r => hd0 res ?_)
        refine xr_go i123_33 rfl ?_
        exact r
      · refine next 684 (l_14 hb hA hAB hi hm hd) (fun res r => hd0 res ?_)
        refine xr_go i123_33 rfl ?_
        exact r
      · refine next 717 (l_15 hb hA hAB hi hm hd) (fun res r => hd0 res ?_)
        refine xr_go i123_33 rfl ?_
        exact r
    · exact ⟨h, nx, sl, stop i h nx sl hi hi6 hA, by omega, by omega⟩
/-- THE LAW RUNS TO ITS END AND SAYS TRUE -/
theorem law_run (hG : xGok G) (hA : h G.2.2.1 = none) (hAB : G.2.2.1 < B) (hm : G.2.2.2.1 ≤ 3072) (hd : 41 ≤ d) : ∃ h2 nx2 sl2, xRun G d 123 (0, [some (.ref G.2.2.1), none, none, none], [], (h, B, sl)) (some (.int 1), (h2, nx2, sl2)) ∧ nx2 ≤ B + 3000 ∧ sl2 ≤ sl + 1600000 := by
  obtain ⟨k1, ek1⟩ : ∃ y : xH, y = xup h B (.inr (0, [.null, .null, .null, .null, .null, .null])) := ⟨_, rfl⟩
  obtain ⟨k2, r2, f2, c2⟩ := c_0 (G := G) (d := d - 1) (sl := sl + 6) (xup_at ek1) (by omega)
  obtain ⟨k3, ek3⟩ : ∃ y : xH, y = xup k2 (B + 78) (.inr (10, [.null, .int 0, .null, .null, .null, .null, .null, .int 0, .int 0, .null, .null, .null, .null, .null, .null, .null, .null, .int 0, .int 0, .int 0, .int 0, .int 0, .int 0, .int 0, .long 0, .null, .int 0, .null, .null, .null, .null, .int 0, .null, .int 0])) := ⟨_, rfl⟩
  obtain ⟨k4, r4, f4, c4⟩ := c_79 (G := G) (d := d - 1) (sl := sl + 6 + 11498 + 34) (xup_at ek3) (by omega)
  have k3n : ∀ q, q ≠ B + 78 → k3 q = k2 q := fun q hq => by rw [ek3]; exact xup_n hq
  have hD := c2 (B + 119) k4 (Nat.le_refl _) (fun q e1 e2 => (f4 q (by omega)).trans (k3n q (by omega)))
  have hA4 : k4 G.2.2.1 = none := (f4 _ (by omega)).trans ((k3n _ (by omega)).trans ((f2 _ hAB).trans (by rw [ek1, xup_n (by omega)]; exact hA)))
  obtain ⟨h5, nx5, sl5, r5, n5, n6⟩ := law_loop (G := G) (d := d) (B := B) hG hAB hm hd 512 0 k4 (B + 119) (sl + 6 + 11498 + 34 + 7833) (by omega) (by omega) ⟨_, _, _, _, _, _, _, _, _, _, _, _, _, _, _, _, _, hD, c4⟩ hA4
  refine ⟨h5, nx5, sl5, ?_, by omega, by omega⟩
  refine xr_new i123_0 xk123_7 rfl rfl rfl (fun z1 ez1 => ?_)
  obtain rfl : z1 = k1 := ez1.trans ek1.symm
  refine xr_go i123_3 rfl ?_
  refine xr_I i123_4 xc123_9 ⟨by first | exact Or.inl rfl | exact Or.inr rfl, rfl⟩ xa_0 rfl rfl (Nat.le_of_ble_eq_true rfl) (by omega) ⟨Nat.le_of_ble_eq_true rfl, Nat.le_of_ble_eq_true rfl⟩ (r2) ?_
  refine xr_go i123_7 rfl ?_
  refine xr_new i123_8 xk123_10 rfl rfl rfl (fun z3 ez3 => ?_)
  obtain rfl : z3 = k3 := ez3.trans ek3.symm
  refine xr_go i123_11 rfl ?_
  refine xr_I i123_12 xc123_12 ⟨by first | exact Or.inl rfl | exact Or.inr rfl, rfl⟩ xa_79 rfl rfl (Nat.le_of_ble_eq_true rfl) (by omega) ⟨Nat.le_of_ble_eq_true rfl, Nat.le_of_ble_eq_true rfl⟩ (r4) ?_
  refine xr_go i123_15 rfl ?_
  refine xr_go i123_16 rfl ?_
  refine xr_go i123_17 rfl ?_
  exact r5
end XLAW

