/-! ===== what holds at the law's entry (wip/gen/lay82.py) ===== -/
def xtm : List Term := [.string "DriftStore$Tokens" 62, .string "DriftStore$Tokens" 68, .string "DriftStore$Tokens" 70, .string "DriftStore$Tokens" 72, .string "DriftStore$Tokens" 74, .string "DriftStore$Tokens" 76, .string "DriftStore$Tokens" 78, .string "DriftStoreModel" 222, .string "DriftStoreModel" 224, .string "DriftStoreModel" 220, .string "DriftStoreModel" 213, .string "DriftStoreModel" 215, .string "DriftStoreModel" 199, .string "DriftStoreModel" 201, .string "DriftStoreModel" 203, .string "DriftStoreModel" 205, .string "DriftStoreModel" 190, .string "DriftStoreModel" 195]
def xFl0 : List Jvm.Cond := flatC (Jvm.Cond.and given_1 narrow_1)
def xPx : List Nat := [9, 14, 21, 31, 42, 53, 68, 206, 225, 245, 266, 288, 311, 335, 360, 386, 413, 442]
def xPn : List (List Nat) := [[0, 20, 29, 39, 49, 63, 77, 211, 230, 250, 271, 293, 316, 340, 365, 391, 419, 447], [0, 0, 30, 40, 50, 64, 78, 212, 231, 251, 272, 294, 317, 341, 366, 392, 420, 448], [0, 0, 0, 41, 51, 65, 79, 213, 232, 252, 273, 295, 318, 342, 367, 393, 421, 449], [0, 0, 0, 0, 52, 66, 80, 214, 233, 253, 274, 296, 319, 343, 368, 394, 422, 450], [0, 0, 0, 0, 0, 67, 81, 215, 234, 254, 275, 297, 320, 344, 369, 395, 423, 451], [0, 0, 0, 0, 0, 0, 82, 216, 235, 255, 276, 298, 321, 345, 370, 396, 424, 452], [0, 0, 0, 0, 0, 0, 0, 217, 236, 256, 277, 299, 322, 346, 371, 397, 425, 453], [0, 0, 0, 0, 0, 0, 0, 0, 244, 264, 285, 307, 330, 354, 379, 405, 433, 461], [0, 0, 0, 0, 0, 0, 0, 0, 0, 265, 286, 308, 331, 355, 380, 406, 434, 462], [0, 0, 0, 0, 0, 0, 0, 0, 0, 0, 287, 309, 332, 356, 381, 407, 435, 463], [0, 0, 0, 0, 0, 0, 0, 0, 0, 0, 0, 310, 333, 357, 382, 408, 436, 464], [0, 0, 0, 0, 0, 0, 0, 0, 0, 0, 0, 0, 334, 358, 383, 409, 437, 465], [0, 0, 0, 0, 0, 0, 0, 0, 0, 0, 0, 0, 0, 359, 384, 410, 438, 466], [0, 0, 0, 0, 0, 0, 0, 0, 0, 0, 0, 0, 0, 0, 385, 411, 439, 467], [0, 0, 0, 0, 0, 0, 0, 0, 0, 0, 0, 0, 0, 0, 0, 412, 440, 468], [0, 0, 0, 0, 0, 0, 0, 0, 0, 0, 0, 0, 0, 0, 0, 0, 441, 469], [0, 0, 0, 0, 0, 0, 0, 0, 0, 0, 0, 0, 0, 0, 0, 0, 0, 470], [0, 0, 0, 0, 0, 0, 0, 0, 0, 0, 0, 0, 0, 0, 0, 0, 0, 0]]
def xd : Term := .string "" 0
def xfv (i : Nat) : Term := .field (xtm.getD i xd) "java/lang/String" "value" "[B"
theorem xe1 : ∀ i : Fin 18, xFl0[xPx.getD i.val 0]? = some (Jvm.Cond.exactly (xtm.getD i.val xd) "java/lang/String") := by decide +kernel
theorem xe2 : ∀ i : Fin 18, xFl0[xPx.getD i.val 0 + 1]? = some (Jvm.Cond.eq (.field (xtm.getD i.val xd) "java/lang/String" "coder" "B") (.int 0)) := by decide +kernel
theorem xe3 : ∀ i : Fin 18, xFl0[xPx.getD i.val 0 + 2]? = some (Jvm.Cond.arrayOf (xfv i.val) .byte) := by decide +kernel
theorem xe4 : ∀ i : Fin 18, xFl0[xPx.getD i.val 0 + 3]? = some (Jvm.Cond.eq (.length (xfv i.val)) (.int (Int32.ofNat (xSl.getD i.val 0)))) := by decide +kernel
theorem xe5 : ∀ i : Fin 18, ∀ j : Fin 6, j.val < xSl.getD i.val 0 → xFl0[xPx.getD i.val 0 + 4 + j.val]? = some (Jvm.Cond.eq (.elem (xfv i.val) (.int (Int32.ofNat j.val))) (.int ((xSb.getD i.val []).getD j.val 0))) := by decide +kernel
theorem xe6 : ∀ i j : Fin 18, i.val < j.val → xFl0[(xPn.getD i.val []).getD j.val 0]? = some (Jvm.Cond.not (Jvm.Cond.eq (xtm.getD i.val xd) (xtm.getD j.val xd))) ∨ xFl0[(xPn.getD i.val []).getD j.val 0]? = some (Jvm.Cond.not (Jvm.Cond.eq (xtm.getD j.val xd) (xtm.getD i.val xd))) := by decide +kernel
theorem xe7 : ∀ i : Fin 18, xSl.getD i.val 0 ≤ 6 := by decide +kernel
theorem x_texts {A : Nat → Prop} {s : State} {args : Array Value} (h : (Jvm.Cond.and given_1 narrow_1).before args s = true) (hA : ∀ a : Nat, a < s.heap.size → ¬ A a) : ∃ adK adV : Nat → Nat, vk_S 18 xSl xSb adK adV A s s.heap ∧ ∀ i : Nat, i < 18 → (xtm.getD i xd).eval args s none [] s = some (.ref (adK i)) := by
  have hs : ∀ (n : Nat) (w : Jvm.Cond), xFl0[n]? = some w → w.before args s = true := fun n w hw => flat_of_before _ h w (List.mem_of_getElem? hw)
  refine vk_Sof (tm := fun i => xtm.getD i xd) (fun i hi => ?_) (fun i hi => hs _ _ (xe1 ⟨i, hi⟩)) (fun i hi => hs _ _ (xe2 ⟨i, hi⟩)) (fun i hi => hs _ _ (xe3 ⟨i, hi⟩)) (fun i hi => hs _ _ (xe4 ⟨i, hi⟩)) (fun i hi j hj => ?_) (fun i j hi hj hij => ?_) hA
  · have := xe7 ⟨i, hi⟩
    dsimp only at this
    omega
  · have := xe7 ⟨i, hi⟩
    dsimp only at this
    exact hs _ _ (xe5 ⟨i, hi⟩ ⟨j, by omega⟩ hj)
  · rcases Nat.lt_or_gt_of_ne hij with z | z
    · rcases xe6 ⟨i, hi⟩ ⟨j, hj⟩ z with q | q
      · exact Or.inl (hs _ _ q)
      · exact Or.inr (hs _ _ q)
    · rcases xe6 ⟨j, hj⟩ ⟨i, hi⟩ z with q | q
      · exact Or.inr (hs _ _ q)
      · exact Or.inl (hs _ _ q)
theorem x_lits {s : State} {b : Nat} {adK : Nat → Nat} (hts : ∀ w ∈ lw_tbl, w.before #[Value.ref b] s = true) (h : (Jvm.Cond.and given_1 narrow_1).before #[Value.ref b] s = true) (hK : ∀ i : Nat, i < 18 → (xtm.getD i xd).eval #[Value.ref b] s none [] s = some (.ref (adK i))) : ∀ q ∈ xDt, q.2.2.1 = 1 → vk_R (xon q.1) q.2.1 (xSn.getD q.2.2.2.2.1 "") (adK q.2.2.2.2.1) s := by
  have hs : ∀ (n : Nat) (w : Jvm.Cond), xFl0[n]? = some w → w.before #[Value.ref b] s = true := fun n w hw => flat_of_before _ h w (List.mem_of_getElem? hw)
  have r0 : ((1 : Nat)) = 1 → vk_R (xon 3) 62 (xSn.getD 0 "") (adK 0) s := fun _ => vk_R.of (A := #[Value.ref b]) (hts _ (List.mem_of_getElem? (i := 326) (show lw_tbl[326]? = some (Jvm.Cond.stringRef "DriftStore$Tokens" 62 "c") by decide +kernel))) (hK 0 (by decide))
  have r1 : ((1 : Nat)) = 1 → vk_R (xon 3) 68 (xSn.getD 1 "") (adK 1) s := fun _ => vk_R.of (A := #[Value.ref b]) (hts _ (List.mem_of_getElem? (i := 378) (show lw_tbl[378]? = some (Jvm.Cond.stringRef "DriftStore$Tokens" 68 "if") by decide +kernel))) (hK 1 (by decide))
  have r2 : ((1 : Nat)) = 1 → vk_R (xon 3) 70 (xSn.getD 2 "") (adK 2) s := fun _ => vk_R.of (A := #[Value.ref b]) (hts _ (List.mem_of_getElem? (i := 379) (show lw_tbl[379]? = some (Jvm.Cond.stringRef "DriftStore$Tokens" 70 "then") by decide +kernel))) (hK 2 (by decide))
  have r3 : ((1 : Nat)) = 1 → vk_R (xon 3) 72 (xSn.getD 3 "") (adK 3) s := fun _ => vk_R.of (A := #[Value.ref b]) (hts _ (List.mem_of_getElem? (i := 380) (show lw_tbl[380]? = some (Jvm.Cond.stringRef "DriftStore$Tokens" 72 "else") by decide +kernel))) (hK 3 (by decide))
  have r4 : ((1 : Nat)) = 1 → vk_R (xon 3) 74 (xSn.getD 4 "") (adK 4) s := fun _ => vk_R.of (A := #[Value.ref b]) (hts _ (List.mem_of_getElem? (i := 381) (show lw_tbl[381]? = some (Jvm.Cond.stringRef "DriftStore$Tokens" 74 "and") by decide +kernel))) (hK 4 (by decide))
  have r5 : ((1 : Nat)) = 1 → vk_R (xon 3) 76 (xSn.getD 5 "") (adK 5) s := fun _ => vk_R.of (A := #[Value.ref b]) (hts _ (List.mem_of_getElem? (i := 382) (show lw_tbl[382]? = some (Jvm.Cond.stringRef "DriftStore$Tokens" 76 "server") by decide +kernel))) (hK 5 (by decide))
  have r6 : ((1 : Nat)) = 1 → vk_R (xon 3) 78 (xSn.getD 6 "") (adK 6) s := fun _ => vk_R.of (A := #[Value.ref b]) (hts _ (List.mem_of_getElem? (i := 383) (show lw_tbl[383]? = some (Jvm.Cond.stringRef "DriftStore$Tokens" 78 "stamp") by decide +kernel))) (hK 6 (by decide))
  have r7 : ((0 : Nat)) = 1 → vk_R (xon 0) 78 (xSn.getD 0 "") (adK 0) s := fun z => absurd z (by decide)
  have r8 : ((1 : Nat)) = 1 → vk_R (xon 10) 100 (xSn.getD 1 "") (adK 1) s := fun _ => vk_R.of (A := #[Value.ref b]) (hts _ (List.mem_of_getElem? (i := 826) (show lw_tbl[826]? = some (Jvm.Cond.stringRef "DriftStoreModel" 100 "if") by decide +kernel))) (va_eqR (hs 90 (Jvm.Cond.eq (.string "DriftStore$Tokens" 68) (.string "DriftStoreModel" 100)) (by decide +kernel)) (hK 1 (by decide)))
  have r9 : ((1 : Nat)) = 1 → vk_R (xon 10) 106 (xSn.getD 2 "") (adK 2) s := fun _ => vk_R.of (A := #[Value.ref b]) (hts _ (List.mem_of_getElem? (i := 833) (show lw_tbl[833]? = some (Jvm.Cond.stringRef "DriftStoreModel" 106 "then") by decide +kernel))) (va_eqR (hs 106 (Jvm.Cond.eq (.string "DriftStore$Tokens" 70) (.string "DriftStoreModel" 106)) (by decide +kernel)) (hK 2 (by decide)))
  have r10 : ((1 : Nat)) = 1 → vk_R (xon 10) 108 (xSn.getD 3 "") (adK 3) s := fun _ => vk_R.of (A := #[Value.ref b]) (hts _ (List.mem_of_getElem? (i := 834) (show lw_tbl[834]? = some (Jvm.Cond.stringRef "DriftStoreModel" 108 "else") by decide +kernel))) (va_eqR (hs 123 (Jvm.Cond.eq (.string "DriftStore$Tokens" 72) (.string "DriftStoreModel" 108)) (by decide +kernel)) (hK 3 (by decide)))
  have r11 : ((1 : Nat)) = 1 → vk_R (xon 10) 110 (xSn.getD 4 "") (adK 4) s := fun _ => vk_R.of (A := #[Value.ref b]) (hts _ (List.mem_of_getElem? (i := 835) (show lw_tbl[835]? = some (Jvm.Cond.stringRef "DriftStoreModel" 110 "and") by decide +kernel))) (va_eqR (hs 140 (Jvm.Cond.eq (.string "DriftStore$Tokens" 74) (.string "DriftStoreModel" 110)) (by decide +kernel)) (hK 4 (by decide)))
  have r12 : ((1 : Nat)) = 1 → vk_R (xon 10) 112 (xSn.getD 5 "") (adK 5) s := fun _ => vk_R.of (A := #[Value.ref b]) (hts _ (List.mem_of_getElem? (i := 836) (show lw_tbl[836]? = some (Jvm.Cond.stringRef "DriftStoreModel" 112 "server") by decide +kernel))) (va_eqR (hs 161 (Jvm.Cond.eq (.string "DriftStore$Tokens" 76) (.string "DriftStoreModel" 112)) (by decide +kernel)) (hK 5 (by decide)))
  have r13 : ((1 : Nat)) = 1 → vk_R (xon 10) 113 (xSn.getD 6 "") (adK 6) s := fun _ => vk_R.of (A := #[Value.ref b]) (hts _ (List.mem_of_getElem? (i := 837) (show lw_tbl[837]? = some (Jvm.Cond.stringRef "DriftStoreModel" 113 "stamp") by decide +kernel))) (va_eqR (hs 182 (Jvm.Cond.eq (.string "DriftStore$Tokens" 78) (.string "DriftStoreModel" 113)) (by decide +kernel)) (hK 6 (by decide)))
  have r14 : ((1 : Nat)) = 1 → vk_R (xon 10) 114 (xSn.getD 0 "") (adK 0) s := fun _ => vk_R.of (A := #[Value.ref b]) (hts _ (List.mem_of_getElem? (i := 838) (show lw_tbl[838]? = some (Jvm.Cond.stringRef "DriftStoreModel" 114 "c") by decide +kernel))) (va_eqR (hs 193 (Jvm.Cond.eq (.string "DriftStore$Tokens" 62) (.string "DriftStoreModel" 114)) (by decide +kernel)) (hK 0 (by decide)))
  have r15 : ((1 : Nat)) = 1 → vk_R (xon 10) 222 (xSn.getD 7 "") (adK 7) s := fun _ => vk_R.of (A := #[Value.ref b]) (hts _ (List.mem_of_getElem? (i := 881) (show lw_tbl[881]? = some (Jvm.Cond.stringRef "DriftStoreModel" 222 "(") by decide +kernel))) (hK 7 (by decide))
  have r16 : ((1 : Nat)) = 1 → vk_R (xon 10) 224 (xSn.getD 8 "") (adK 8) s := fun _ => vk_R.of (A := #[Value.ref b]) (hts _ (List.mem_of_getElem? (i := 882) (show lw_tbl[882]? = some (Jvm.Cond.stringRef "DriftStoreModel" 224 ")") by decide +kernel))) (hK 8 (by decide))
  have r17 : ((1 : Nat)) = 1 → vk_R (xon 10) 220 (xSn.getD 9 "") (adK 9) s := fun _ => vk_R.of (A := #[Value.ref b]) (hts _ (List.mem_of_getElem? (i := 892) (show lw_tbl[892]? = some (Jvm.Cond.stringRef "DriftStoreModel" 220 "*") by decide +kernel))) (hK 9 (by decide))
  have r18 : ((1 : Nat)) = 1 → vk_R (xon 10) 213 (xSn.getD 10 "") (adK 10) s := fun _ => vk_R.of (A := #[Value.ref b]) (hts _ (List.mem_of_getElem? (i := 893) (show lw_tbl[893]? = some (Jvm.Cond.stringRef "DriftStoreModel" 213 "+") by decide +kernel))) (hK 10 (by decide))
  have r19 : ((1 : Nat)) = 1 → vk_R (xon 10) 215 (xSn.getD 11 "") (adK 11) s := fun _ => vk_R.of (A := #[Value.ref b]) (hts _ (List.mem_of_getElem? (i := 894) (show lw_tbl[894]? = some (Jvm.Cond.stringRef "DriftStoreModel" 215 "-") by decide +kernel))) (hK 11 (by decide))
  have r20 : ((1 : Nat)) = 1 → vk_R (xon 10) 199 (xSn.getD 12 "") (adK 12) s := fun _ => vk_R.of (A := #[Value.ref b]) (hts _ (List.mem_of_getElem? (i := 895) (show lw_tbl[895]? = some (Jvm.Cond.stringRef "DriftStoreModel" 199 "=") by decide +kernel))) (hK 12 (by decide))
  have r21 : ((1 : Nat)) = 1 → vk_R (xon 10) 201 (xSn.getD 13 "") (adK 13) s := fun _ => vk_R.of (A := #[Value.ref b]) (hts _ (List.mem_of_getElem? (i := 896) (show lw_tbl[896]? = some (Jvm.Cond.stringRef "DriftStoreModel" 201 "#") by decide +kernel))) (hK 13 (by decide))
  have r22 : ((1 : Nat)) = 1 → vk_R (xon 10) 203 (xSn.getD 14 "") (adK 14) s := fun _ => vk_R.of (A := #[Value.ref b]) (hts _ (List.mem_of_getElem? (i := 897) (show lw_tbl[897]? = some (Jvm.Cond.stringRef "DriftStoreModel" 203 "<") by decide +kernel))) (hK 14 (by decide))
  have r23 : ((1 : Nat)) = 1 → vk_R (xon 10) 205 (xSn.getD 15 "") (adK 15) s := fun _ => vk_R.of (A := #[Value.ref b]) (hts _ (List.mem_of_getElem? (i := 898) (show lw_tbl[898]? = some (Jvm.Cond.stringRef "DriftStoreModel" 205 ">") by decide +kernel))) (hK 15 (by decide))
  have r24 : ((1 : Nat)) = 1 → vk_R (xon 10) 190 (xSn.getD 16 "") (adK 16) s := fun _ => vk_R.of (A := #[Value.ref b]) (hts _ (List.mem_of_getElem? (i := 899) (show lw_tbl[899]? = some (Jvm.Cond.stringRef "DriftStoreModel" 190 ":=") by decide +kernel))) (hK 16 (by decide))
  have r25 : ((1 : Nat)) = 1 → vk_R (xon 10) 195 (xSn.getD 17 "") (adK 17) s := fun _ => vk_R.of (A := #[Value.ref b]) (hts _ (List.mem_of_getElem? (i := 900) (show lw_tbl[900]? = some (Jvm.Cond.stringRef "DriftStoreModel" 195 ",") by decide +kernel))) (hK 17 (by decide))
  unfold xDt
  exact List.forall_mem_cons.mpr ⟨r0, List.forall_mem_cons.mpr ⟨r1, List.forall_mem_cons.mpr ⟨r2, List.forall_mem_cons.mpr ⟨r3, List.forall_mem_cons.mpr ⟨r4, List.forall_mem_cons.mpr ⟨r5, List.forall_mem_cons.mpr ⟨r6, List.forall_mem_cons.mpr ⟨r7, List.forall_mem_cons.mpr ⟨r8, List.forall_mem_cons.mpr ⟨r9, List.forall_mem_cons.mpr ⟨r10, List.forall_mem_cons.mpr ⟨r11, List.forall_mem_cons.mpr ⟨r12, List.forall_mem_cons.mpr ⟨r13, List.forall_mem_cons.mpr ⟨r14, List.forall_mem_cons.mpr ⟨r15, List.forall_mem_cons.mpr ⟨r16, List.forall_mem_cons.mpr ⟨r17, List.forall_mem_cons.mpr ⟨r18, List.forall_mem_cons.mpr ⟨r19, List.forall_mem_cons.mpr ⟨r20, List.forall_mem_cons.mpr ⟨r21, List.forall_mem_cons.mpr ⟨r22, List.forall_mem_cons.mpr ⟨r23, List.forall_mem_cons.mpr ⟨r24, List.forall_mem_cons.mpr ⟨r25, List.forall_mem_nil _⟩⟩⟩⟩⟩⟩⟩⟩⟩⟩⟩⟩⟩⟩⟩⟩⟩⟩⟩⟩⟩⟩⟩⟩⟩⟩
theorem x_types {s : State} {b : Nat} (hts : ∀ w ∈ lw_tbl, w.before #[Value.ref b] s = true) : ∃ tA : Nat → ClassId, ∀ (k : Nat) (q : ClassId × FieldType), (xtys tA)[k]? = some q → ArrOfT s q.1 q.2 ∧ va_RA s q.1 q.2 := by
  have m0 := hts _ (List.mem_of_getElem? (i := 89) (show lw_tbl[89]? = some (Jvm.Cond.arrayClass .int) by decide +kernel))
  obtain ⟨c0, k0, p0, a0, b0, e0⟩ := Cond.arrayClass_spec m0
  have m1 := hts _ (List.mem_of_getElem? (i := 248) (show lw_tbl[248]? = some (Jvm.Cond.arrayClass .boolean) by decide +kernel))
  obtain ⟨c1, k1, p1, a1, b1, e1⟩ := Cond.arrayClass_spec m1
  have m2 := hts _ (List.mem_of_getElem? (i := 475) (show lw_tbl[475]? = some (Jvm.Cond.arrayClass .byte) by decide +kernel))
  obtain ⟨c2, k2, p2, a2, b2, e2⟩ := Cond.arrayClass_spec m2
  have m3 := hts _ (List.mem_of_getElem? (i := 151) (show lw_tbl[151]? = some (Jvm.Cond.arrayOver (.object "DriftStore$Write")) by decide +kernel))
  obtain ⟨p3, c3, k3, a3, f3, b3, e3, g3⟩ := Cond.arrayOver_spec m3
  have m4 := hts _ (List.mem_of_getElem? (i := 195) (show lw_tbl[195]? = some (Jvm.Cond.arrayOver (.object "DriftStore$Server")) by decide +kernel))
  obtain ⟨p4, c4, k4, a4, f4, b4, e4, g4⟩ := Cond.arrayOver_spec m4
  have m5 := hts _ (List.mem_of_getElem? (i := 250) (show lw_tbl[250]? = some (Jvm.Cond.arrayOver (.object "DriftStore$Session")) by decide +kernel))
  obtain ⟨p5, c5, k5, a5, f5, b5, e5, g5⟩ := Cond.arrayOver_spec m5
  have m6 := hts _ (List.mem_of_getElem? (i := 697) (show lw_tbl[697]? = some (Jvm.Cond.arrayOver (.array .int)) by decide +kernel))
  obtain ⟨p6, c6, k6, a6, f6, b6, e6, g6⟩ := arrayOverA_spec m6
  have m7 := hts _ (List.mem_of_getElem? (i := 699) (show lw_tbl[699]? = some (Jvm.Cond.arrayOver (.array .boolean)) by decide +kernel))
  obtain ⟨p7, c7, k7, a7, f7, b7, e7, g7⟩ := arrayOverA_spec m7
  refine ⟨fun k => [c0, c1, c2, c3, c4, c5, c6, c7].getD k 0, fun k q hq => ?_⟩
  have hk : k < 8 := (List.getElem?_eq_some_iff.mp hq).1
  have hc : k = 0 ∨ k = 1 ∨ k = 2 ∨ k = 3 ∨ k = 4 ∨ k = 5 ∨ k = 6 ∨ k = 7 := by omega
  rcases hc with rfl | rfl | rfl | rfl | rfl | rfl | rfl | rfl
  · cases hq
    exact ⟨fun n z => ⟨(fun k h => by cases h), k0, b0, p0, e0⟩, a0⟩
  · cases hq
    exact ⟨fun n z => ⟨(fun k h => by cases h), k1, b1, p1, e1⟩, a1⟩
  · cases hq
    exact ⟨fun n z => ⟨(fun k h => by cases h), k2, b2, p2, e2⟩, a2⟩
  · cases hq
    exact ⟨fun n z => ⟨(fun k h => by cases h), k3, b3, p3, e3⟩, ⟨k3, p3, b3, e3, a3, g3⟩⟩
  · cases hq
    exact ⟨fun n z => ⟨(fun k h => by cases h), k4, b4, p4, e4⟩, ⟨k4, p4, b4, e4, a4, g4⟩⟩
  · cases hq
    exact ⟨fun n z => ⟨(fun k h => by cases h), k5, b5, p5, e5⟩, ⟨k5, p5, b5, e5, a5, g5⟩⟩
  · cases hq
    exact ⟨fun n z => ⟨(fun k h => by cases h), k6, b6, p6, e6⟩, g6⟩
  · cases hq
    exact ⟨fun n z => ⟨(fun k h => by cases h), k7, b7, p7, e7⟩, g7⟩
def xIp : List Nat := [66, 74, 91, 97, 145, 170, 196, 251, 445, 502, 691]
theorem x_inst : ∀ c : Fin 11, lw_tbl[xIp.getD c.val 0]? = (xcl[c.val]?).map (fun q => Jvm.Cond.instantiable q.1 q.2.2) := by decide +kernel
theorem x_classes {s : State} {b : Nat} (hts : ∀ w ∈ lw_tbl, w.before #[Value.ref b] s = true) : ∃ D : va_G, ∀ (c : Nat) (q : vw_C), xcl[c]? = some q → u_Kn s q.1 q.2.1 q.2.2 (D.1 c) (D.2 c) := by
  have h0 : ∀ c : Nat, ∃ x : ClassId × (Nat → Nat), ∀ q : vw_C, xcl[c]? = some q → u_Kn s q.1 q.2.1 q.2.2 x.1 x.2 := by
    intro c
    cases hq : xcl[c]? with
    | none => exact ⟨(0, fun _ => 0), fun q z => by cases z⟩
    | some q =>
      have hc : c < 11 := (List.getElem?_eq_some_iff.mp hq).1
      have hi := x_inst ⟨c, hc⟩
      dsimp only at hi
      rw [hq] at hi
      obtain ⟨cC, iS, hk⟩ := u_known hts (xcl_ok c q hq).1 (hts _ (List.mem_of_getElem? hi))
      exact ⟨(cC, iS), fun q' z => by cases z; exact hk⟩
  obtain ⟨f, hf⟩ := Classical.axiomOfChoice h0
  exact ⟨(fun c => (f c).1, fun c => (f c).2), fun c q hq => hf c q hq⟩
/-- the tables and what is never written, at the law's entry -/
theorem x_start {s : State} {b L : Nat} {xs : Nat → Int32} (hts : ∀ w ∈ lw_tbl, w.before #[Value.ref b] s = true) (h : (Jvm.Cond.and given_1 narrow_1).before #[Value.ref b] s = true) (hX : va_X b L xs s s.heap) (hb : b < s.heap.size) : ∃ (D : va_G) (tA : Nat → ClassId) (G : xG) (adV : Nat → Nat), xK D tA s ∧ xro G adV (fun q => s.heap.size ≤ q) s s.heap ∧ xGok G ∧ G.2.2 = (b, L, xs) := by
  obtain ⟨tA, hT⟩ := x_types hts
  obtain ⟨D, hD⟩ := x_classes hts
  have hA : ∀ a : Nat, a < s.heap.size → ¬ s.heap.size ≤ a := fun a ha => Nat.not_le.mpr ha
  obtain ⟨adK, adV, hS, hE⟩ := x_texts (A := fun q => s.heap.size ≤ q) h hA
  have hs : ∀ (n : Nat) (w : Jvm.Cond), xFl0[n]? = some w → w.before #[Value.ref b] s = true := fun n w hw => flat_of_before _ h w (List.mem_of_getElem? hw)
  have hback : ∀ a i, (List.range 18).find? (fun i => decide (adK i = a)) = some i → i < 18 ∧ a = adK i := fun a i z => by
    have z1 := List.find?_some z
    have z2 := List.mem_of_find?_eq_some z
    simp only [decide_eq_true_eq] at z1
    exact ⟨List.mem_range.mp z2, z1.symm⟩
  refine ⟨D, tA, (adK, fun a => (List.range 18).find? (fun i => decide (adK i = a)), (b, L, xs)), adV, ⟨fun w hw hg a => word_at (State.WarmedH.refl s) (good_of_word hg) (hts w hw), fun w hw hn => ?_, ⟨hD, hT⟩, hts _ (List.mem_of_getElem? (i := 151) (show lw_tbl[151]? = some (Jvm.Cond.arrayOver (.object "DriftStore$Write")) by decide +kernel)), hts _ (List.mem_of_getElem? (i := 195) (show lw_tbl[195]? = some (Jvm.Cond.arrayOver (.object "DriftStore$Server")) by decide +kernel)), hts _ (List.mem_of_getElem? (i := 250) (show lw_tbl[250]? = some (Jvm.Cond.arrayOver (.object "DriftStore$Session")) by decide +kernel)), hts _ (List.mem_of_getElem? (i := 697) (show lw_tbl[697]? = some (Jvm.Cond.arrayOver (.array .int)) by decide +kernel)), hts _ (List.mem_of_getElem? (i := 699) (show lw_tbl[699]? = some (Jvm.Cond.arrayOver (.array .boolean)) by decide +kernel))⟩, ⟨hX, hb, Nat.not_le.mpr hb, hS, x_lits hts h hE, hback, va_Zof (hts _ (List.mem_of_getElem? (i := 339) (show lw_tbl[339]? = some (Jvm.Cond.laysStatic "java/lang/String" "COMPACT_STRINGS" "Z") by decide +kernel))) (hts _ (List.mem_of_getElem? (i := 56) (show lw_tbl[56]? = some (Jvm.Cond.initialized "java/lang/String") by decide +kernel))) (va_eqt (hs 4 _ (by decide +kernel))) hA, va_Zqof (hts _ (List.mem_of_getElem? (i := 355) (show lw_tbl[355]? = some (Jvm.Cond.laysStatic "jdk/internal/util/Preconditions" "SIOOBE_FORMATTER" "Ljava/util/function/BiFunction;") by decide +kernel))) (hts _ (List.mem_of_getElem? (i := 58) (show lw_tbl[58]? = some (Jvm.Cond.initialized "jdk/internal/util/Preconditions") by decide +kernel))) (hs 5 _ (by decide +kernel)) hA⟩, fun k hk => ?_, rfl⟩
  · have z := hts w hw
    cases w <;> first | exact va_tabs rfl rfl z | (exact absurd hn (by simp [xnw]))
  · show (List.range 18).find? (fun i => decide (adK i = adK k)) = some k
    cases hf : (List.range 18).find? (fun i => decide (adK i = adK k)) with
    | none =>
      have := List.find?_eq_none.mp hf k (List.mem_range.mpr hk)
      simp at this
    | some j =>
      obtain ⟨z1, z2⟩ := hback _ _ hf
      rw [hS.2 k j hk z1 z2]

