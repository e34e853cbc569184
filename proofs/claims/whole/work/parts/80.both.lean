/-! ===== both together: each call answers alike ===== -/
def xBoth (B nx : Nat) (h : xH) : Prop := ∃ (tak cmt : Nat) (sv sp pl cm : Nat → Nat) (pg : Nat → List (Nat × Int32)) (clk com fog : Nat → Nat) (kno : Nat → Nat → Nat) (bit : Nat → Nat) (rd wr : Nat → Nat → Nat) (lat : Option (List (Nat × Int32))) (tn : Nat) (tb : Nat → Nat), xDS B nx tak cmt sv sp pl cm pg clk com fog kno bit rd wr lat tn tb h ∧ xMod (B + 78) nx tak cmt sv sp pl cm pg clk com fog kno bit rd wr lat tn tb h
def xJR {α : Type} (W : α → Value) (G : xG) (d B cm : Nat) (cL : xL) (mm : Nat) (mL : xL) (h : xH) (nx sl : Nat) : Prop := ∃ (v : α) (h1 : xH) (nx1 sl1 : Nat) (h2 : xH) (nx2 sl2 : Nat), xRun G d cm (0, cL, [], (h, nx, sl)) (some (W v), (h1, nx1, sl1)) ∧ (∃ fs, h1 (B + 78) = some (.inr (10, fs))) ∧ xRun G d mm (0, mL, [], (h1, nx1, sl1)) (some (W v), (h2, nx2, sl2)) ∧ xBoth B nx2 h2 ∧ nx2 ≤ nx + 4 ∧ sl2 ≤ sl + 3000 ∧ ∀ q, q < B → h q = none → h1 q = none ∧ h2 q = none
section XBOTH
variable {G : xG} {d : Nat} {h h' : xH} {nx sl B : Nat} {tak cmt : Nat} {sv sp pl cm : Nat → Nat} {pg : Nat → List (Nat × Int32)} {clk com fog : Nat → Nat} {kno : Nat → Nat → Nat} {bit : Nat → Nat} {rd wr : Nat → Nat → Nat} {lat : Option (List (Nat × Int32))} {tn : Nat} {tb : Nat → Nat}
theorem xMod_obj {M : Nat} (hM : xMod M nx tak cmt sv sp pl cm pg clk com fog kno bit rd wr lat tn tb h) : ∃ fs, h M = some (.inr (10, fs)) := by
  obtain ⟨lt, at_, sz, kd, fr, to_, ft, pt, nu, mn, pc, od, hO, -⟩ := hM
  exact ⟨_, hO⟩
theorem xDS_obj (hD : xDS B nx tak cmt sv sp pl cm pg clk com fog kno bit rd wr lat tn tb h) : (∃ fs, h B = some (.inr (0, fs))) ∧ B + 119 ≤ nx := by
  obtain ⟨lv, wad, pad, psa, poa, h1, h2, h3, h4, h5, h6, h7, h8, h9, h10, h11, h12, h13⟩ := hD
  exact ⟨⟨_, h1.1⟩, h13⟩
theorem xDS_ok (hD : xDS B nx tak cmt sv sp pl cm pg clk com fog kno bit rd wr lat tn tb h) : (∀ w, w < tak → xOKp (pg w)) ∧ tn ≤ 400 ∧ tak ≤ 500 := by
  have hP := xDS_pure hD
  obtain ⟨lv, wad, pad, psa, poa, h1, h2, ⟨f, f1, f2, f3, f4⟩, h4, h5, h6, h7, h8, h9, h10, h11, h12, h13⟩ := hD
  exact ⟨h8, f3, hP.1⟩
theorem xJ_mk {α : Type} {W : α → Value} {v : α} {cmm mm : Nat} {cL mL : xL} {h1 : xH} {nx1 sl1 : Nat} {tak' cmt' : Nat} {sv' sp' pl' cm' : Nat → Nat} {pg' : Nat → List (Nat × Int32)} {clk' com' fog' : Nat → Nat} {kno' : Nat → Nat → Nat} {bit' : Nat → Nat} {rd' wr' : Nat → Nat → Nat} {lat' : Option (List (Nat × Int32))} {tn' : Nat} {tb' : Nat → Nat}
    (hM : xMod (B + 78) nx tak cmt sv sp pl cm pg clk com fog kno bit rd wr lat tn tb h) (hB : B + 119 ≤ nx) (r1 : xRun G d cmm (0, cL, [], (h, nx, sl)) (some (W v), (h1, nx1, sl1))) (hD1 : xDS B nx1 tak' cmt' sv' sp' pl' cm' pg' clk' com' fog' kno' bit' rd' wr' lat' tn' tb' h1) (o1 : xoth B nx h h1) (hn : nx ≤ nx1)
    (m : xMod (B + 78) nx1 tak cmt sv sp pl cm pg clk com fog kno bit rd wr lat tn tb h1 → ∃ h2 nx2 sl2, xRun G d mm (0, mL, [], (h1, nx1, sl1)) (some (W v), (h2, nx2, sl2)) ∧ nx1 ≤ nx2 ∧ nx2 ≤ nx + 4 ∧ sl2 ≤ sl + 3000 ∧ xMod (B + 78) nx2 tak' cmt' sv' sp' pl' cm' pg' clk' com' fog' kno' bit' rd' wr' lat' tn' tb' h2 ∧ xmo (B + 78) nx1 h1 h2) : xJR W G d B cmm cL mm mL h nx sl := by
  have hM1 := xMod_kept hM hn (fun q a1 a2 a3 => o1 q (Or.inr a1) a2 a3)
  obtain ⟨h2, nx2, sl2, r2, n1, n2, n3, hM2, o2⟩ := m hM1
  refine ⟨v, h1, nx1, sl1, h2, nx2, sl2, r1, xMod_obj hM1, r2, ⟨_, _, _, _, _, _, _, _, _, _, _, _, _, _, _, _, _, xDS_kept hD1 n1 (fun q e1 e2 e3 => o2 q (by omega) e3), hM2⟩, n2, n3, fun q e1 e2 => ?_⟩
  have e3 : h1 q = none := (o1 q (by omega) (by omega) (fun fs z => by rw [e2] at z; cases z)).trans e2
  exact ⟨e3, (o2 q (by omega) (by omega)).trans e3⟩
theorem J_feed (hb : xBoth B nx h) (a b c d1 e : Int32) (hd : 40 ≤ d) : xJR Value.int G d B 1 [some (.ref B), some (.int a), some (.int b), some (.int c), some (.int d1), some (.int e)] 80 [some (.ref (B + 78)), some (.int a), some (.int b), some (.int c), some (.int d1), some (.int e), none, none] h nx sl := by
  obtain ⟨tak, cmt, sv, sp, pl, cm, pg, clk, com, fog, kno, bit, rd, wr, lat, tn, tb, hD, hM⟩ := hb
  have hB := (xDS_obj hD).2
  have hok := xDS_ok hD
  obtain ⟨h1, r1, D1, o1⟩ := D_feed (G := G) (d := d) (nx := nx) (sl := sl) hD a b c d1 e (by omega)
  refine xJ_mk hM hB r1 D1 o1 (Nat.le_refl _) (fun hM1 => ?_)
  obtain ⟨h2, nx2, sl2, r2, n1, n2, n3, M2, o2⟩ := M_feed (G := G) (d := d) (sl := sl) hM1 hok.2.1 a b c d1 e
  exact ⟨h2, nx2, sl2, r2, n1, by omega, by omega, M2, o2⟩
theorem J_end (hb : xBoth B nx h) (x : Int32) (hd : 40 ≤ d) : xJR Value.int G d B 2 [some (.ref B), some (.int x)] 81 [some (.ref (B + 78)), some (.int x)] h nx sl := by
  obtain ⟨tak, cmt, sv, sp, pl, cm, pg, clk, com, fog, kno, bit, rd, wr, lat, tn, tb, hD, hM⟩ := hb
  have hB := (xDS_obj hD).2
  have hok := xDS_ok hD
  obtain ⟨h1, r1, D1, o1⟩ := D_end (G := G) (d := d) (nx := nx) (sl := sl) hD x
  refine xJ_mk hM hB r1 D1 o1 (Nat.le_refl _) (fun hM1 => ?_)
  obtain ⟨h2, r2, M2, o2⟩ := M_end (G := G) (d := d) (sl := sl) hM1 hok.2.1 x (by omega)
  exact ⟨h2, nx, sl, r2, Nat.le_refl _, by omega, by omega, M2, o2⟩
theorem J_prog (hG : xGok G) (hb : xBoth B nx h) (hd : 40 ≤ d) : xJR Value.int G d B 3 [some (.ref B), none] 83 [some (.ref (B + 78)), none] h nx sl := by
  obtain ⟨tak, cmt, sv, sp, pl, cm, pg, clk, com, fog, kno, bit, rd, wr, lat, tn, tb, hD, hM⟩ := hb
  obtain ⟨ans, h1, nx1, sl1, h2, nx2, sl2, lat', r1, o1, r2, D2, M2, n1, n2, fr⟩ := J_program (G := G) (d := d) (nx := nx) (sl := sl) hG hD hM (by omega)
  exact ⟨ans, h1, nx1, sl1, h2, nx2, sl2, r1, o1, r2, ⟨_, _, _, _, _, _, _, _, _, _, _, _, _, _, _, _, _, D2, M2⟩, n1, n2, fr⟩
theorem J_write (hb : xBoth B nx h) (x y z : Int32) (hd : 40 ≤ d) : xJR Value.int G d B 5 [some (.ref B), some (.int x), some (.int y), some (.int z), none, none, none, none] 98 [some (.ref (B + 78)), some (.int x), some (.int y), some (.int z)] h nx sl := by
  obtain ⟨tak, cmt, sv, sp, pl, cm, pg, clk, com, fog, kno, bit, rd, wr, lat, tn, tb, hD, hM⟩ := hb
  have hB := (xDS_obj hD).2
  have hok := xDS_ok hD
  have hP := xDS_pure hD
  by_cases hp : pWrite x y z
  · cases lat with
    | none => exact xJ_mk (v := -2) hM hB (D_write_none hD hp (by omega)) hD xoth.refl (Nat.le_refl _) (fun hM1 => ⟨h, nx, sl, M_write_none hM1 hp (by omega), Nat.le_refl _, by omega, by omega, hM1, xmo.refl⟩)
    | some p =>
      by_cases ht : tak < 500
      · have hp0 := hp
        obtain ⟨p1, p2, p3⟩ := hp0
        obtain ⟨s, hs, rfl⟩ := xrng_of (by omega) p1
        obtain ⟨j, hj, rfl⟩ := xrng_of (by omega) p2
        obtain ⟨n, hn, rfl⟩ := xrng_of (by omega) p3
        by_cases hmy : aMay tak sv sp (kno s) (bit j) 4 8 (rd j) (wr j) = true
        · obtain ⟨h1, r1, D1, o1⟩ := D_write_ok (G := G) (d := d) (nx := nx) (sl := sl) hD hp hs hj (by omega) ht hmy (by omega)
          refine xJ_mk hM hB r1 D1 o1 (Nat.le_succ _) (fun hM1 => ?_)
          obtain ⟨h2, r2, M2, o2⟩ := M_write_ok (G := G) (d := d) (sl := sl + 4) hM1 hP hp hs hj (by omega) ht hmy (by omega)
          exact ⟨h2, nx + 1, sl + 4, r2, Nat.le_refl _, by omega, by omega, M2, o2⟩
        · exact xJ_mk (v := -4) hM hB (D_write_den hD hp hs hj ht hmy (by omega)) hD xoth.refl (Nat.le_refl _) (fun hM1 => ⟨h, nx, sl, M_write_den hM1 hP hp hs hj ht hmy (by omega), Nat.le_refl _, by omega, by omega, hM1, xmo.refl⟩)
      · exact xJ_mk (v := -3) hM hB (D_write_full hD hp ht (by omega)) hD xoth.refl (Nat.le_refl _) (fun hM1 => ⟨h, nx, sl, M_write_full hM1 hp (by omega) (by omega), Nat.le_refl _, by omega, by omega, hM1, xmo.refl⟩)
  · exact xJ_mk (v := -1) hM hB (D_write_no hp (by omega)) hD xoth.refl (Nat.le_refl _) (fun hM1 => ⟨h, nx, sl, M_write_no hp (by omega), Nat.le_refl _, by omega, by omega, hM1, xmo.refl⟩)
theorem J_read (hb : xBoth B nx h) (x y c b : Int32) (hd : 40 ≤ d) : xJR Value.long G d B 8 [some (.ref B), some (.int x), some (.int y), some (.int c), some (.int b), none, none] 101 [some (.ref (B + 78)), some (.int x), some (.int y), some (.int c), some (.int b), none] h nx sl := by
  obtain ⟨tak, cmt, sv, sp, pl, cm, pg, clk, com, fog, kno, bit, rd, wr, lat, tn, tb, hD, hM⟩ := hb
  have hB := (xDS_obj hD).2
  have hok := xDS_ok hD
  have hP := xDS_pure hD
  obtain ⟨h1, r1, D1, o1⟩ := D_read (G := G) (d := d) (nx := nx) (sl := sl) hD x y c b (by omega)
  refine xJ_mk hM hB r1 D1 o1 (Nat.le_refl _) (fun hM1 => ?_)
  obtain ⟨h2, r2, ⟨rd', e1, M2⟩, o2⟩ := M_read (G := G) (d := d) (sl := sl) hM1 hP hok.1 x y c b (by omega)
  exact ⟨h2, nx, sl, r2, Nat.le_refl _, by omega, by omega, xMod_rd M2 e1, o2⟩
theorem J_assure (hb : xBoth B nx h) (x y z : Int32) (hd : 40 ≤ d) : xJR Value.int G d B 9 [some (.ref B), some (.int x), some (.int y), some (.int z), none, none] 110 [some (.ref (B + 78)), some (.int x), some (.int y), some (.int z), none] h nx sl := by
  obtain ⟨tak, cmt, sv, sp, pl, cm, pg, clk, com, fog, kno, bit, rd, wr, lat, tn, tb, hD, hM⟩ := hb
  have hB := (xDS_obj hD).2
  obtain ⟨h1, r1, D1, o1⟩ := D_assure (G := G) (d := d) (nx := nx) (sl := sl) hD x y z (by omega)
  refine xJ_mk hM hB r1 D1 o1 (Nat.le_refl _) (fun hM1 => ?_)
  obtain ⟨h2, r2, M2, o2⟩ := M_assure (G := G) (d := d) (sl := sl) hM1 x y z (by omega)
  exact ⟨h2, nx, sl, r2, Nat.le_refl _, by omega, by omega, M2, o2⟩
theorem J_commit (hb : xBoth B nx h) (x : Int32) (hd : 40 ≤ d) : xJR Value.int G d B 10 [some (.ref B), some (.int x), none, none, none] 111 [some (.ref (B + 78)), some (.int x), none, none] h nx sl := by
  obtain ⟨tak, cmt, sv, sp, pl, cm, pg, clk, com, fog, kno, bit, rd, wr, lat, tn, tb, hD, hM⟩ := hb
  have hB := (xDS_obj hD).2
  have hP := xDS_pure hD
  obtain ⟨c1, c2⟩ := D_commit (G := G) (d := d) (nx := nx) (sl := sl) hD x (by omega)
  by_cases hx : x < 0
  · exact xJ_mk (v := -1) hM hB (c1 hx) hD xoth.refl (Nat.le_refl _) (fun hM1 => ⟨h, nx, sl, (M_commit hM1 hP x (by omega)).1 hx, Nat.le_refl _, by omega, by omega, hM1, xmo.refl⟩)
  · have e := nI_clampOf hx
    obtain ⟨h1, r1, D1, o1⟩ := c2 _ e (Int32.toNatClampNeg_lt x)
    refine xJ_mk hM hB r1 D1 o1 (Nat.le_refl _) (fun hM1 => ?_)
    obtain ⟨h2, r2, M2, o2⟩ := (M_commit (G := G) (d := d) (sl := sl) hM1 hP x (by omega)).2 _ e (Int32.toNatClampNeg_lt x)
    exact ⟨h2, nx, sl, r2, Nat.le_refl _, by omega, by omega, M2, o2⟩
theorem J_meet (hb : xBoth B nx h) (x y z : Int32) (hd : 40 ≤ d) : xJR Value.int G d B 11 [some (.ref B), some (.int x), some (.int y), some (.int z), none, none, none] 112 [some (.ref (B + 78)), some (.int x), some (.int y), some (.int z), none, none, none] h nx sl := by
  obtain ⟨tak, cmt, sv, sp, pl, cm, pg, clk, com, fog, kno, bit, rd, wr, lat, tn, tb, hD, hM⟩ := hb
  have hB := (xDS_obj hD).2
  have hP := xDS_pure hD
  obtain ⟨c1, c2⟩ := D_meet (G := G) (d := d) (nx := nx) (sl := sl) hD x y z (by omega)
  by_cases hp : pMeet x y z
  · have hp0 := hp
    obtain ⟨p1, p2, -, p3⟩ := hp0
    obtain ⟨f, hf, ef⟩ := xrng_of (by omega) p1
    obtain ⟨t, hs, et⟩ := xrng_of (by omega) p2
    have hz := nI_clampOf p3
    obtain ⟨h1, r1, D1, o1⟩ := c2 f t _ hp ef et hz hf hs (Int32.toNatClampNeg_lt z)
    refine xJ_mk hM hB r1 D1 o1 (Nat.le_refl _) (fun hM1 => ?_)
    obtain ⟨h2, r2, M2, o2⟩ := (M_meet (G := G) (d := d) (sl := sl) hM1 hP x y z (by omega)).2 f t _ hp ef et hz hf hs (Int32.toNatClampNeg_lt z)
    exact ⟨h2, nx, sl, r2, Nat.le_refl _, by omega, by omega, M2, o2⟩
  · exact xJ_mk (v := -1) hM hB (c1 hp) hD xoth.refl (Nat.le_refl _) (fun hM1 => ⟨h, nx, sl, (M_meet hM1 hP x y z (by omega)).1 hp, Nat.le_refl _, by omega, by omega, hM1, xmo.refl⟩)
theorem J_forget (hb : xBoth B nx h) (x y : Int32) (hd : 40 ≤ d) : xJR Value.int G d B 12 [some (.ref B), some (.int x), some (.int y), none] 114 [some (.ref (B + 78)), some (.int x), some (.int y)] h nx sl := by
  obtain ⟨tak, cmt, sv, sp, pl, cm, pg, clk, com, fog, kno, bit, rd, wr, lat, tn, tb, hD, hM⟩ := hb
  have hB := (xDS_obj hD).2
  have hP := xDS_pure hD
  obtain ⟨h1, r1, D1, o1⟩ := D_forget (G := G) (d := d) (nx := nx) (sl := sl) hD x y (by omega)
  refine xJ_mk hM hB r1 D1 o1 (Nat.le_refl _) (fun hM1 => ?_)
  obtain ⟨h2, r2, M2, o2⟩ := M_forget (G := G) (d := d) (sl := sl) hM1 hP x y (by omega)
  exact ⟨h2, nx, sl, r2, Nat.le_refl _, by omega, by omega, M2, o2⟩
theorem J_cell (hb : xBoth B nx h) (x y b : Int32) (hd : 40 ≤ d) : xJR Value.long G d B 13 [some (.ref B), some (.int x), some (.int y), some (.int b)] 102 [some (.ref (B + 78)), some (.int x), some (.int y), some (.int b)] h nx sl := by
  obtain ⟨tak, cmt, sv, sp, pl, cm, pg, clk, com, fog, kno, bit, rd, wr, lat, tn, tb, hD, hM⟩ := hb
  have hB := (xDS_obj hD).2
  have hok := xDS_ok hD
  have hP := xDS_pure hD
  obtain ⟨h1, r1, D1, o1⟩ := D_cell (G := G) (d := d) (nx := nx) (sl := sl) hD x y b (by omega)
  refine xJ_mk hM hB r1 D1 o1 (Nat.le_refl _) (fun hM1 => ?_)
  obtain ⟨h2, r2, M2, o2⟩ := M_cell (G := G) (d := d) (sl := sl) hM1 hP hok.1 x y b (by omega)
  exact ⟨h2, nx, sl, r2, Nat.le_refl _, by omega, by omega, M2, o2⟩
theorem J_order (hb : xBoth B nx h) (x y : Int32) (hd : 40 ≤ d) : xJR Value.int G d B 14 [some (.ref B), some (.int x), some (.int y)] 115 [some (.ref (B + 78)), some (.int x), some (.int y)] h nx sl := by
  obtain ⟨tak, cmt, sv, sp, pl, cm, pg, clk, com, fog, kno, bit, rd, wr, lat, tn, tb, hD, hM⟩ := hb
  have hB := (xDS_obj hD).2
  have hP := xDS_pure hD
  have r1 := D_order (G := G) (d := d) (nx := nx) (sl := sl) hD x y (by omega)
  refine xJ_mk hM hB r1 hD xoth.refl (Nat.le_refl _) (fun hM1 => ?_)
  obtain ⟨h2, r2, M2, o2⟩ := M_order (G := G) (d := d) (sl := sl) hM1 hP x y (by omega)
  exact ⟨h2, nx, sl, r2, Nat.le_refl _, by omega, by omega, M2, o2⟩
theorem J_outcome (hb : xBoth B nx h) (x y : Int32) (hd : 40 ≤ d) : xJR Value.int G d B 15 [some (.ref B), some (.int x), some (.int y)] 116 [some (.ref (B + 78)), some (.int x), some (.int y), none, none] h nx sl := by
  obtain ⟨tak, cmt, sv, sp, pl, cm, pg, clk, com, fog, kno, bit, rd, wr, lat, tn, tb, hD, hM⟩ := hb
  have hB := (xDS_obj hD).2
  have hok := xDS_ok hD
  have hP := xDS_pure hD
  obtain ⟨h1, r1, D1, o1⟩ := D_outcome (G := G) (d := d) (nx := nx) (sl := sl) hD x y (by omega)
  refine xJ_mk hM hB r1 D1 o1 (Nat.le_refl _) (fun hM1 => ?_)
  obtain ⟨h2, r2, M2, o2⟩ := M_outcome (G := G) (d := d) (sl := sl) hM1 hP hok.1 x y (by omega)
  exact ⟨h2, nx, sl, r2, Nat.le_refl _, by omega, by omega, M2, o2⟩
theorem J_look (hb : xBoth B nx h) (x y : Int32) (hd : 40 ≤ d) : xJR Value.int G d B 16 [some (.ref B), some (.int x), some (.int y), none] 117 [some (.ref (B + 78)), some (.int x), some (.int y)] h nx sl := by
  obtain ⟨tak, cmt, sv, sp, pl, cm, pg, clk, com, fog, kno, bit, rd, wr, lat, tn, tb, hD, hM⟩ := hb
  have hB := (xDS_obj hD).2
  have hP := xDS_pure hD
  exact xJ_mk hM hB (D_look hD x y (by omega)) hD xoth.refl (Nat.le_refl _) (fun hM1 => ⟨h, nx, sl, M_look hM1 hP x y (by omega), Nat.le_refl _, by omega, by omega, hM1, xmo.refl⟩)
theorem J_stamp (hb : xBoth B nx h) (x y z : Int32) (hd : 40 ≤ d) : xJR Value.int G d B 17 [some (.ref B), some (.int x), some (.int y), some (.int z)] 118 [some (.ref (B + 78)), some (.int x), some (.int y), some (.int z)] h nx sl := by
  obtain ⟨tak, cmt, sv, sp, pl, cm, pg, clk, com, fog, kno, bit, rd, wr, lat, tn, tb, hD, hM⟩ := hb
  have hB := (xDS_obj hD).2
  have hP := xDS_pure hD
  exact xJ_mk hM hB (D_stamp hD x y z (by omega)) hD xoth.refl (Nat.le_refl _) (fun hM1 => ⟨h, nx, sl, M_stamp hM1 hP x y z (by omega), Nat.le_refl _, by omega, by omega, hM1, xmo.refl⟩)
theorem J_count (hb : xBoth B nx h) (x y : Int32) (hd : 40 ≤ d) : xJR Value.int G d B 18 [some (.ref B), some (.int x), some (.int y), none] 119 [some (.ref (B + 78)), some (.int x), some (.int y), none, none] h nx sl := by
  obtain ⟨tak, cmt, sv, sp, pl, cm, pg, clk, com, fog, kno, bit, rd, wr, lat, tn, tb, hD, hM⟩ := hb
  have hB := (xDS_obj hD).2
  have hP := xDS_pure hD
  exact xJ_mk hM hB (D_count hD x y (by omega)) hD xoth.refl (Nat.le_refl _) (fun hM1 => ⟨h, nx, sl, M_count hM1 hP x y (by omega), Nat.le_refl _, by omega, by omega, hM1, xmo.refl⟩)
theorem J_writes (hb : xBoth B nx h) (hd : 40 ≤ d) : xJR Value.int G d B 19 [some (.ref B)] 120 [some (.ref (B + 78))] h nx sl := by
  obtain ⟨tak, cmt, sv, sp, pl, cm, pg, clk, com, fog, kno, bit, rd, wr, lat, tn, tb, hD, hM⟩ := hb
  have hB := (xDS_obj hD).2
  exact xJ_mk hM hB (D_writes hD) hD xoth.refl (Nat.le_refl _) (fun hM1 => ⟨h, nx, sl, M_writes hM1, Nat.le_refl _, by omega, by omega, hM1, xmo.refl⟩)
end XBOTH

