section
-- ===== PART A: goes FIRST, ahead of the names: the tables' words, and 'selects' of the private methods out of them =====
/-- a private method of a class that the tables say can be made, by its rows of tables_1 -/
def lw_okq (q : MethodName × Nat) : Prop := (q.1.cls ≠ "java/lang/invoke/MethodHandle" ∧ q.1.cls ≠ "java/lang/invoke/VarHandle") ∧ Cond.instantiable q.1.cls q.2 ∈ tables_1 ∧ Cond.privateMethod q.1 ∈ tables_1 ∧ Cond.instanceMethod q.1 ∈ tables_1
theorem lw_p0 : lw_okq (⟨"DriftStore$Tokens", "scanToken", "(LDriftStore$Tape;I)I"⟩, 4) := ⟨⟨by decide +kernel, by decide +kernel⟩, List.mem_of_getElem? (i := 51) (by decide +kernel), List.mem_of_getElem? (i := 270) (by decide +kernel), List.mem_of_getElem? (i := 271) (by decide +kernel)⟩
theorem lw_p1 : lw_okq (⟨"DriftStore$Tokens", "scanWord", "(LDriftStore$Tape;I)I"⟩, 4) := ⟨⟨by decide +kernel, by decide +kernel⟩, List.mem_of_getElem? (i := 51) (by decide +kernel), List.mem_of_getElem? (i := 274) (by decide +kernel), List.mem_of_getElem? (i := 275) (by decide +kernel)⟩
theorem lw_p2 : lw_okq (⟨"DriftStore$Tokens", "scanNumber", "(LDriftStore$Tape;I)I"⟩, 4) := ⟨⟨by decide +kernel, by decide +kernel⟩, List.mem_of_getElem? (i := 51) (by decide +kernel), List.mem_of_getElem? (i := 339) (by decide +kernel), List.mem_of_getElem? (i := 340) (by decide +kernel)⟩
theorem lw_p3 : lw_okq (⟨"DriftStore$Compiler", "accept", "(I)Z"⟩, 8) := ⟨⟨by decide +kernel, by decide +kernel⟩, List.mem_of_getElem? (i := 45) (by decide +kernel), List.mem_of_getElem? (i := 348) (by decide +kernel), List.mem_of_getElem? (i := 349) (by decide +kernel)⟩
theorem lw_p4 : lw_okq (⟨"DriftStore$Compiler", "parseTest", "()V"⟩, 8) := ⟨⟨by decide +kernel, by decide +kernel⟩, List.mem_of_getElem? (i := 45) (by decide +kernel), List.mem_of_getElem? (i := 352) (by decide +kernel), List.mem_of_getElem? (i := 353) (by decide +kernel)⟩
theorem lw_p5 : lw_okq (⟨"DriftStore$Compiler", "parseSum", "(I)V"⟩, 8) := ⟨⟨by decide +kernel, by decide +kernel⟩, List.mem_of_getElem? (i := 45) (by decide +kernel), List.mem_of_getElem? (i := 356) (by decide +kernel), List.mem_of_getElem? (i := 357) (by decide +kernel)⟩
theorem lw_p6 : lw_okq (⟨"DriftStore$Compiler", "parseTerm", "(I)V"⟩, 8) := ⟨⟨by decide +kernel, by decide +kernel⟩, List.mem_of_getElem? (i := 45) (by decide +kernel), List.mem_of_getElem? (i := 360) (by decide +kernel), List.mem_of_getElem? (i := 361) (by decide +kernel)⟩
theorem lw_p7 : lw_okq (⟨"DriftStore$Compiler", "parsePart", "(I)V"⟩, 8) := ⟨⟨by decide +kernel, by decide +kernel⟩, List.mem_of_getElem? (i := 45) (by decide +kernel), List.mem_of_getElem? (i := 364) (by decide +kernel), List.mem_of_getElem? (i := 365) (by decide +kernel)⟩
theorem lw_p8 : lw_okq (⟨"DriftStore$Compiler", "require", "(I)V"⟩, 8) := ⟨⟨by decide +kernel, by decide +kernel⟩, List.mem_of_getElem? (i := 45) (by decide +kernel), List.mem_of_getElem? (i := 368) (by decide +kernel), List.mem_of_getElem? (i := 369) (by decide +kernel)⟩
theorem lw_p9 : lw_okq (⟨"DriftStore$Compiler", "fail", "()V"⟩, 8) := ⟨⟨by decide +kernel, by decide +kernel⟩, List.mem_of_getElem? (i := 45) (by decide +kernel), List.mem_of_getElem? (i := 372) (by decide +kernel), List.mem_of_getElem? (i := 373) (by decide +kernel)⟩
theorem lw_p10 : lw_okq (⟨"DriftStore$Compiler", "kind", "()I"⟩, 8) := ⟨⟨by decide +kernel, by decide +kernel⟩, List.mem_of_getElem? (i := 45) (by decide +kernel), List.mem_of_getElem? (i := 376) (by decide +kernel), List.mem_of_getElem? (i := 377) (by decide +kernel)⟩
theorem lw_p11 : lw_okq (⟨"DriftStore$Compiler", "parseCellNumber", "()I"⟩, 8) := ⟨⟨by decide +kernel, by decide +kernel⟩, List.mem_of_getElem? (i := 45) (by decide +kernel), List.mem_of_getElem? (i := 380) (by decide +kernel), List.mem_of_getElem? (i := 381) (by decide +kernel)⟩
theorem lw_p12 : lw_okq (⟨"DriftStore$Compiler", "emit", "(II)V"⟩, 8) := ⟨⟨by decide +kernel, by decide +kernel⟩, List.mem_of_getElem? (i := 45) (by decide +kernel), List.mem_of_getElem? (i := 387) (by decide +kernel), List.mem_of_getElem? (i := 388) (by decide +kernel)⟩
theorem lw_p13 : lw_okq (⟨"DriftStore$Compiler", "parseEffects", "()V"⟩, 8) := ⟨⟨by decide +kernel, by decide +kernel⟩, List.mem_of_getElem? (i := 45) (by decide +kernel), List.mem_of_getElem? (i := 391) (by decide +kernel), List.mem_of_getElem? (i := 392) (by decide +kernel)⟩
theorem lw_p14 : lw_okq (⟨"DriftStore$Session", "assures", "(I)Z"⟩, 3) := ⟨⟨by decide +kernel, by decide +kernel⟩, List.mem_of_getElem? (i := 205) (by decide +kernel), List.mem_of_getElem? (i := 446) (by decide +kernel), List.mem_of_getElem? (i := 447) (by decide +kernel)⟩
theorem lw_p15 : lw_okq (⟨"DriftStore$Server", "catchUp", "()V"⟩, 13) := ⟨⟨by decide +kernel, by decide +kernel⟩, List.mem_of_getElem? (i := 150) (by decide +kernel), List.mem_of_getElem? (i := 517) (by decide +kernel), List.mem_of_getElem? (i := 518) (by decide +kernel)⟩
def lw_privs_1 : List (MethodName × Nat) := [(⟨"DriftStore$Tokens", "scanToken", "(LDriftStore$Tape;I)I"⟩, 4), (⟨"DriftStore$Tokens", "scanWord", "(LDriftStore$Tape;I)I"⟩, 4), (⟨"DriftStore$Tokens", "scanNumber", "(LDriftStore$Tape;I)I"⟩, 4), (⟨"DriftStore$Compiler", "accept", "(I)Z"⟩, 8), (⟨"DriftStore$Compiler", "parseTest", "()V"⟩, 8), (⟨"DriftStore$Compiler", "parseSum", "(I)V"⟩, 8), (⟨"DriftStore$Compiler", "parseTerm", "(I)V"⟩, 8), (⟨"DriftStore$Compiler", "parsePart", "(I)V"⟩, 8), (⟨"DriftStore$Compiler", "require", "(I)V"⟩, 8), (⟨"DriftStore$Compiler", "fail", "()V"⟩, 8), (⟨"DriftStore$Compiler", "kind", "()I"⟩, 8), (⟨"DriftStore$Compiler", "parseCellNumber", "()I"⟩, 8), (⟨"DriftStore$Compiler", "emit", "(II)V"⟩, 8), (⟨"DriftStore$Compiler", "parseEffects", "()V"⟩, 8), (⟨"DriftStore$Session", "assures", "(I)Z"⟩, 3), (⟨"DriftStore$Server", "catchUp", "()V"⟩, 13)]
theorem lw_r1 : ∀ q ∈ lw_privs_1, lw_okq q := List.forall_mem_cons.mpr ⟨lw_p0, List.forall_mem_cons.mpr ⟨lw_p1, List.forall_mem_cons.mpr ⟨lw_p2, List.forall_mem_cons.mpr ⟨lw_p3, List.forall_mem_cons.mpr ⟨lw_p4, List.forall_mem_cons.mpr ⟨lw_p5, List.forall_mem_cons.mpr ⟨lw_p6, List.forall_mem_cons.mpr ⟨lw_p7, List.forall_mem_cons.mpr ⟨lw_p8, List.forall_mem_cons.mpr ⟨lw_p9, List.forall_mem_cons.mpr ⟨lw_p10, List.forall_mem_cons.mpr ⟨lw_p11, List.forall_mem_cons.mpr ⟨lw_p12, List.forall_mem_cons.mpr ⟨lw_p13, List.forall_mem_cons.mpr ⟨lw_p14, List.forall_mem_cons.mpr ⟨lw_p15, fun _ h => absurd h List.not_mem_nil⟩⟩⟩⟩⟩⟩⟩⟩⟩⟩⟩⟩⟩⟩⟩⟩
theorem lw_p16 : lw_okq (⟨"DriftStore$Machine", "beginRule", "()V"⟩, 6) := ⟨⟨by decide +kernel, by decide +kernel⟩, List.mem_of_getElem? (i := 124) (by decide +kernel), List.mem_of_getElem? (i := 526) (by decide +kernel), List.mem_of_getElem? (i := 527) (by decide +kernel)⟩
theorem lw_p17 : lw_okq (⟨"DriftStore$Machine", "doStep", "(IILDriftStore$Write;[I)V"⟩, 6) := ⟨⟨by decide +kernel, by decide +kernel⟩, List.mem_of_getElem? (i := 124) (by decide +kernel), List.mem_of_getElem? (i := 530) (by decide +kernel), List.mem_of_getElem? (i := 531) (by decide +kernel)⟩
theorem lw_p18 : lw_okq (⟨"DriftStore$Machine", "push", "(I)V"⟩, 6) := ⟨⟨by decide +kernel, by decide +kernel⟩, List.mem_of_getElem? (i := 124) (by decide +kernel), List.mem_of_getElem? (i := 534) (by decide +kernel), List.mem_of_getElem? (i := 535) (by decide +kernel)⟩
theorem lw_p19 : lw_okq (⟨"DriftStore$Machine", "keepEffect", "(I)V"⟩, 6) := ⟨⟨by decide +kernel, by decide +kernel⟩, List.mem_of_getElem? (i := 124) (by decide +kernel), List.mem_of_getElem? (i := 538) (by decide +kernel), List.mem_of_getElem? (i := 539) (by decide +kernel)⟩
theorem lw_p20 : lw_okq (⟨"DriftStore$Machine", "pop", "()I"⟩, 6) := ⟨⟨by decide +kernel, by decide +kernel⟩, List.mem_of_getElem? (i := 124) (by decide +kernel), List.mem_of_getElem? (i := 542) (by decide +kernel), List.mem_of_getElem? (i := 543) (by decide +kernel)⟩
theorem lw_p21 : lw_okq (⟨"DriftStore$Machine", "combine", "(I)V"⟩, 6) := ⟨⟨by decide +kernel, by decide +kernel⟩, List.mem_of_getElem? (i := 124) (by decide +kernel), List.mem_of_getElem? (i := 546) (by decide +kernel), List.mem_of_getElem? (i := 547) (by decide +kernel)⟩
theorem lw_p22 : lw_okq (⟨"DriftStore$Machine", "changeCells", "([I)V"⟩, 6) := ⟨⟨by decide +kernel, by decide +kernel⟩, List.mem_of_getElem? (i := 124) (by decide +kernel), List.mem_of_getElem? (i := 550) (by decide +kernel), List.mem_of_getElem? (i := 551) (by decide +kernel)⟩
theorem lw_p23 : lw_okq (⟨"DriftStore$Server", "removeTentative", "(I)V"⟩, 13) := ⟨⟨by decide +kernel, by decide +kernel⟩, List.mem_of_getElem? (i := 150) (by decide +kernel), List.mem_of_getElem? (i := 579) (by decide +kernel), List.mem_of_getElem? (i := 580) (by decide +kernel)⟩
theorem lw_p24 : lw_okq (⟨"DriftStoreModel", "step", "()V"⟩, 34) := ⟨⟨by decide +kernel, by decide +kernel⟩, List.mem_of_getElem? (i := 645) (by decide +kernel), List.mem_of_getElem? (i := 774) (by decide +kernel), List.mem_of_getElem? (i := 775) (by decide +kernel)⟩
theorem lw_p25 : lw_okq (⟨"DriftStoreModel", "is", "(Ljava/lang/String;)Z"⟩, 34) := ⟨⟨by decide +kernel, by decide +kernel⟩, List.mem_of_getElem? (i := 645) (by decide +kernel), List.mem_of_getElem? (i := 782) (by decide +kernel), List.mem_of_getElem? (i := 783) (by decide +kernel)⟩
theorem lw_p26 : lw_okq (⟨"DriftStoreModel", "rule", "()Z"⟩, 34) := ⟨⟨by decide +kernel, by decide +kernel⟩, List.mem_of_getElem? (i := 645) (by decide +kernel), List.mem_of_getElem? (i := 804) (by decide +kernel), List.mem_of_getElem? (i := 805) (by decide +kernel)⟩
theorem lw_p27 : lw_okq (⟨"DriftStoreModel", "bad", "()Z"⟩, 34) := ⟨⟨by decide +kernel, by decide +kernel⟩, List.mem_of_getElem? (i := 645) (by decide +kernel), List.mem_of_getElem? (i := 808) (by decide +kernel), List.mem_of_getElem? (i := 809) (by decide +kernel)⟩
theorem lw_p28 : lw_okq (⟨"DriftStoreModel", "put", "(I)V"⟩, 34) := ⟨⟨by decide +kernel, by decide +kernel⟩, List.mem_of_getElem? (i := 645) (by decide +kernel), List.mem_of_getElem? (i := 812) (by decide +kernel), List.mem_of_getElem? (i := 813) (by decide +kernel)⟩
theorem lw_p29 : lw_okq (⟨"DriftStoreModel", "compare", "()Z"⟩, 34) := ⟨⟨by decide +kernel, by decide +kernel⟩, List.mem_of_getElem? (i := 645) (by decide +kernel), List.mem_of_getElem? (i := 816) (by decide +kernel), List.mem_of_getElem? (i := 817) (by decide +kernel)⟩
theorem lw_p30 : lw_okq (⟨"DriftStoreModel", "whole", "()Z"⟩, 34) := ⟨⟨by decide +kernel, by decide +kernel⟩, List.mem_of_getElem? (i := 645) (by decide +kernel), List.mem_of_getElem? (i := 820) (by decide +kernel), List.mem_of_getElem? (i := 821) (by decide +kernel)⟩
theorem lw_p31 : lw_okq (⟨"DriftStoreModel", "sum", "(I)Z"⟩, 34) := ⟨⟨by decide +kernel, by decide +kernel⟩, List.mem_of_getElem? (i := 645) (by decide +kernel), List.mem_of_getElem? (i := 824) (by decide +kernel), List.mem_of_getElem? (i := 825) (by decide +kernel)⟩
def lw_privs_2 : List (MethodName × Nat) := [(⟨"DriftStore$Machine", "beginRule", "()V"⟩, 6), (⟨"DriftStore$Machine", "doStep", "(IILDriftStore$Write;[I)V"⟩, 6), (⟨"DriftStore$Machine", "push", "(I)V"⟩, 6), (⟨"DriftStore$Machine", "keepEffect", "(I)V"⟩, 6), (⟨"DriftStore$Machine", "pop", "()I"⟩, 6), (⟨"DriftStore$Machine", "combine", "(I)V"⟩, 6), (⟨"DriftStore$Machine", "changeCells", "([I)V"⟩, 6), (⟨"DriftStore$Server", "removeTentative", "(I)V"⟩, 13), (⟨"DriftStoreModel", "step", "()V"⟩, 34), (⟨"DriftStoreModel", "is", "(Ljava/lang/String;)Z"⟩, 34), (⟨"DriftStoreModel", "rule", "()Z"⟩, 34), (⟨"DriftStoreModel", "bad", "()Z"⟩, 34), (⟨"DriftStoreModel", "put", "(I)V"⟩, 34), (⟨"DriftStoreModel", "compare", "()Z"⟩, 34), (⟨"DriftStoreModel", "whole", "()Z"⟩, 34), (⟨"DriftStoreModel", "sum", "(I)Z"⟩, 34)]
theorem lw_r2 : ∀ q ∈ lw_privs_2, lw_okq q := List.forall_mem_cons.mpr ⟨lw_p16, List.forall_mem_cons.mpr ⟨lw_p17, List.forall_mem_cons.mpr ⟨lw_p18, List.forall_mem_cons.mpr ⟨lw_p19, List.forall_mem_cons.mpr ⟨lw_p20, List.forall_mem_cons.mpr ⟨lw_p21, List.forall_mem_cons.mpr ⟨lw_p22, List.forall_mem_cons.mpr ⟨lw_p23, List.forall_mem_cons.mpr ⟨lw_p24, List.forall_mem_cons.mpr ⟨lw_p25, List.forall_mem_cons.mpr ⟨lw_p26, List.forall_mem_cons.mpr ⟨lw_p27, List.forall_mem_cons.mpr ⟨lw_p28, List.forall_mem_cons.mpr ⟨lw_p29, List.forall_mem_cons.mpr ⟨lw_p30, List.forall_mem_cons.mpr ⟨lw_p31, fun _ h => absurd h List.not_mem_nil⟩⟩⟩⟩⟩⟩⟩⟩⟩⟩⟩⟩⟩⟩⟩⟩
theorem lw_p32 : lw_okq (⟨"DriftStoreModel", "term", "(I)Z"⟩, 34) := ⟨⟨by decide +kernel, by decide +kernel⟩, List.mem_of_getElem? (i := 645) (by decide +kernel), List.mem_of_getElem? (i := 828) (by decide +kernel), List.mem_of_getElem? (i := 829) (by decide +kernel)⟩
theorem lw_p33 : lw_okq (⟨"DriftStoreModel", "part", "(I)Z"⟩, 34) := ⟨⟨by decide +kernel, by decide +kernel⟩, List.mem_of_getElem? (i := 645) (by decide +kernel), List.mem_of_getElem? (i := 832) (by decide +kernel), List.mem_of_getElem? (i := 833) (by decide +kernel)⟩
theorem lw_p34 : lw_okq (⟨"DriftStoreModel", "take", "(Ljava/lang/String;)Z"⟩, 34) := ⟨⟨by decide +kernel, by decide +kernel⟩, List.mem_of_getElem? (i := 645) (by decide +kernel), List.mem_of_getElem? (i := 838) (by decide +kernel), List.mem_of_getElem? (i := 839) (by decide +kernel)⟩
theorem lw_p35 : lw_okq (⟨"DriftStoreModel", "cell", "()Z"⟩, 34) := ⟨⟨by decide +kernel, by decide +kernel⟩, List.mem_of_getElem? (i := 645) (by decide +kernel), List.mem_of_getElem? (i := 842) (by decide +kernel), List.mem_of_getElem? (i := 843) (by decide +kernel)⟩
theorem lw_p36 : lw_okq (⟨"DriftStoreModel", "isAtLeast", "(I[I)Z"⟩, 34) := ⟨⟨by decide +kernel, by decide +kernel⟩, List.mem_of_getElem? (i := 645) (by decide +kernel), List.mem_of_getElem? (i := 864) (by decide +kernel), List.mem_of_getElem? (i := 865) (by decide +kernel)⟩
theorem lw_p37 : lw_okq (⟨"DriftStoreModel", "vector", "(II)I"⟩, 34) := ⟨⟨by decide +kernel, by decide +kernel⟩, List.mem_of_getElem? (i := 645) (by decide +kernel), List.mem_of_getElem? (i := 868) (by decide +kernel), List.mem_of_getElem? (i := 869) (by decide +kernel)⟩
theorem lw_p38 : lw_okq (⟨"DriftStoreModel", "run", "(IZ)V"⟩, 34) := ⟨⟨by decide +kernel, by decide +kernel⟩, List.mem_of_getElem? (i := 645) (by decide +kernel), List.mem_of_getElem? (i := 883) (by decide +kernel), List.mem_of_getElem? (i := 884) (by decide +kernel)⟩
theorem lw_p39 : lw_okq (⟨"DriftStoreModel", "arrange", "(I)V"⟩, 34) := ⟨⟨by decide +kernel, by decide +kernel⟩, List.mem_of_getElem? (i := 645) (by decide +kernel), List.mem_of_getElem? (i := 887) (by decide +kernel), List.mem_of_getElem? (i := 888) (by decide +kernel)⟩
theorem lw_p40 : lw_okq (⟨"DriftStoreModel", "isCommitted", "(II)Z"⟩, 34) := ⟨⟨by decide +kernel, by decide +kernel⟩, List.mem_of_getElem? (i := 645) (by decide +kernel), List.mem_of_getElem? (i := 891) (by decide +kernel), List.mem_of_getElem? (i := 892) (by decide +kernel)⟩
theorem lw_p41 : lw_okq (⟨"DriftStoreModel", "isBefore", "(II)Z"⟩, 34) := ⟨⟨by decide +kernel, by decide +kernel⟩, List.mem_of_getElem? (i := 645) (by decide +kernel), List.mem_of_getElem? (i := 895) (by decide +kernel), List.mem_of_getElem? (i := 896) (by decide +kernel)⟩
theorem lw_p42 : lw_okq (⟨"DriftStoreModel", "perform", "(I)I"⟩, 34) := ⟨⟨by decide +kernel, by decide +kernel⟩, List.mem_of_getElem? (i := 645) (by decide +kernel), List.mem_of_getElem? (i := 900) (by decide +kernel), List.mem_of_getElem? (i := 901) (by decide +kernel)⟩
theorem lw_p43 : lw_okq (⟨"DriftStoreModel", "holds", "(I)Z"⟩, 34) := ⟨⟨by decide +kernel, by decide +kernel⟩, List.mem_of_getElem? (i := 645) (by decide +kernel), List.mem_of_getElem? (i := 904) (by decide +kernel), List.mem_of_getElem? (i := 905) (by decide +kernel)⟩
theorem lw_p44 : lw_okq (⟨"DriftStoreModel", "value", "(I)I"⟩, 34) := ⟨⟨by decide +kernel, by decide +kernel⟩, List.mem_of_getElem? (i := 645) (by decide +kernel), List.mem_of_getElem? (i := 908) (by decide +kernel), List.mem_of_getElem? (i := 909) (by decide +kernel)⟩
theorem lw_p45 : lw_okq (⟨"DriftStoreModel", "learn", "(II)V"⟩, 34) := ⟨⟨by decide +kernel, by decide +kernel⟩, List.mem_of_getElem? (i := 645) (by decide +kernel), List.mem_of_getElem? (i := 925) (by decide +kernel), List.mem_of_getElem? (i := 926) (by decide +kernel)⟩
def lw_privs_3 : List (MethodName × Nat) := [(⟨"DriftStoreModel", "term", "(I)Z"⟩, 34), (⟨"DriftStoreModel", "part", "(I)Z"⟩, 34), (⟨"DriftStoreModel", "take", "(Ljava/lang/String;)Z"⟩, 34), (⟨"DriftStoreModel", "cell", "()Z"⟩, 34), (⟨"DriftStoreModel", "isAtLeast", "(I[I)Z"⟩, 34), (⟨"DriftStoreModel", "vector", "(II)I"⟩, 34), (⟨"DriftStoreModel", "run", "(IZ)V"⟩, 34), (⟨"DriftStoreModel", "arrange", "(I)V"⟩, 34), (⟨"DriftStoreModel", "isCommitted", "(II)Z"⟩, 34), (⟨"DriftStoreModel", "isBefore", "(II)Z"⟩, 34), (⟨"DriftStoreModel", "perform", "(I)I"⟩, 34), (⟨"DriftStoreModel", "holds", "(I)Z"⟩, 34), (⟨"DriftStoreModel", "value", "(I)I"⟩, 34), (⟨"DriftStoreModel", "learn", "(II)V"⟩, 34)]
theorem lw_r3 : ∀ q ∈ lw_privs_3, lw_okq q := List.forall_mem_cons.mpr ⟨lw_p32, List.forall_mem_cons.mpr ⟨lw_p33, List.forall_mem_cons.mpr ⟨lw_p34, List.forall_mem_cons.mpr ⟨lw_p35, List.forall_mem_cons.mpr ⟨lw_p36, List.forall_mem_cons.mpr ⟨lw_p37, List.forall_mem_cons.mpr ⟨lw_p38, List.forall_mem_cons.mpr ⟨lw_p39, List.forall_mem_cons.mpr ⟨lw_p40, List.forall_mem_cons.mpr ⟨lw_p41, List.forall_mem_cons.mpr ⟨lw_p42, List.forall_mem_cons.mpr ⟨lw_p43, List.forall_mem_cons.mpr ⟨lw_p44, List.forall_mem_cons.mpr ⟨lw_p45, fun _ h => absurd h List.not_mem_nil⟩⟩⟩⟩⟩⟩⟩⟩⟩⟩⟩⟩⟩⟩
def lw_privs : List (MethodName × Nat) := lw_privs_1 ++ (lw_privs_2 ++ (lw_privs_3))
def lw_tbl : List Cond := k2_sels lw_privs ++ tables_1
theorem lw_privs_ok : ∀ q ∈ lw_privs, lw_okq q := by
  show ∀ q ∈ lw_privs_1 ++ (lw_privs_2 ++ (lw_privs_3)), lw_okq q
  exact List.forall_mem_append.mpr ⟨lw_r1, List.forall_mem_append.mpr ⟨lw_r2, lw_r3⟩⟩
end
section
/-! ===== names, by program (wip/gen/lay02.py): classes, methods, links, with the places of their words in lw_tbl ===== -/
def xT0 : u_T := fun k => match k with
  | 0 => ("DriftStore", "tape", "LDriftStore$Tape;", true)
  | 1 => ("DriftStore", "compiler", "LDriftStore$Compiler;", true)
  | 2 => ("DriftStore", "history", "LDriftStore$History;", true)
  | 3 => ("DriftStore", "servers", "[LDriftStore$Server;", true)
  | 4 => ("DriftStore", "sessions", "[LDriftStore$Session;", true)
  | _ => ("DriftStore", "latest", "LDriftStore$Program;", false)
def xty0 : Nat → FieldType := fun k => match k with
  | 0 => .object "DriftStore$Tape"
  | 1 => .object "DriftStore$Compiler"
  | 2 => .object "DriftStore$History"
  | 3 => .array (.object "DriftStore$Server")
  | 4 => .array (.object "DriftStore$Session")
  | _ => .object "DriftStore$Program"
def xT1 : u_T := fun k => match k with
  | 0 => ("DriftStore$Tape", "bytes", "[I", true)
  | _ => ("DriftStore$Tape", "length", "I", false)
def xty1 : Nat → FieldType := fun k => match k with
  | 0 => .array .int
  | _ => .int
def xT2 : u_T := fun k => match k with
  | 0 => ("DriftStore$Compiler", "tape", "LDriftStore$Tape;", true)
  | 1 => ("DriftStore$Compiler", "tokens", "LDriftStore$Tokens;", true)
  | 2 => ("DriftStore$Compiler", "steps", "[I", true)
  | 3 => ("DriftStore$Compiler", "operands", "[I", true)
  | 4 => ("DriftStore$Compiler", "size", "I", false)
  | 5 => ("DriftStore$Compiler", "at", "I", false)
  | 6 => ("DriftStore$Compiler", "parts", "I", false)
  | _ => ("DriftStore$Compiler", "fault", "I", false)
def xty2 : Nat → FieldType := fun k => match k with
  | 0 => .object "DriftStore$Tape"
  | 1 => .object "DriftStore$Tokens"
  | 2 => .array .int
  | 3 => .array .int
  | 4 => .int
  | 5 => .int
  | 6 => .int
  | _ => .int
def xT3 : u_T := fun k => match k with
  | 0 => ("DriftStore$Tokens", "kinds", "[I", true)
  | 1 => ("DriftStore$Tokens", "places", "[I", true)
  | 2 => ("DriftStore$Tokens", "numbers", "[I", true)
  | _ => ("DriftStore$Tokens", "size", "I", false)
def xty3 : Nat → FieldType := fun k => match k with
  | 0 => .array .int
  | 1 => .array .int
  | 2 => .array .int
  | _ => .int
def xT4 : u_T := fun k => match k with
  | 0 => ("DriftStore$History", "writes", "[LDriftStore$Write;", true)
  | 1 => ("DriftStore$History", "commits", "[I", true)
  | 2 => ("DriftStore$History", "taken", "I", false)
  | _ => ("DriftStore$History", "committed", "I", false)
def xty4 : Nat → FieldType := fun k => match k with
  | 0 => .array (.object "DriftStore$Write")
  | 1 => .array .int
  | 2 => .int
  | _ => .int
def xT5 : u_T := fun k => match k with
  | 0 => ("DriftStore$Machine", "values", "[I", true)
  | 1 => ("DriftStore$Machine", "targets", "[I", true)
  | 2 => ("DriftStore$Machine", "sums", "[I", true)
  | 3 => ("DriftStore$Machine", "depth", "I", false)
  | 4 => ("DriftStore$Machine", "effects", "I", false)
  | _ => ("DriftStore$Machine", "holds", "Z", false)
def xty5 : Nat → FieldType := fun k => match k with
  | 0 => .array .int
  | 1 => .array .int
  | 2 => .array .int
  | 3 => .int
  | 4 => .int
  | _ => .boolean
def xT6 : u_T := fun k => match k with
  | 0 => ("DriftStore$Server", "history", "LDriftStore$History;", true)
  | 1 => ("DriftStore$Server", "machine", "LDriftStore$Machine;", true)
  | 2 => ("DriftStore$Server", "vector", "[I", true)
  | 3 => ("DriftStore$Server", "known", "[Z", true)
  | 4 => ("DriftStore$Server", "tentative", "[I", true)
  | 5 => ("DriftStore$Server", "committedCells", "[I", true)
  | 6 => ("DriftStore$Server", "cells", "[I", true)
  | 7 => ("DriftStore$Server", "outcomes", "[I", true)
  | 8 => ("DriftStore$Server", "clock", "I", false)
  | 9 => ("DriftStore$Server", "committed", "I", false)
  | 10 => ("DriftStore$Server", "forgotten", "I", false)
  | 11 => ("DriftStore$Server", "tentatives", "I", false)
  | _ => ("DriftStore$Server", "done", "I", false)
def xty6 : Nat → FieldType := fun k => match k with
  | 0 => .object "DriftStore$History"
  | 1 => .object "DriftStore$Machine"
  | 2 => .array .int
  | 3 => .array .boolean
  | 4 => .array .int
  | 5 => .array .int
  | 6 => .array .int
  | 7 => .array .int
  | 8 => .int
  | 9 => .int
  | 10 => .int
  | 11 => .int
  | _ => .int
def xT7 : u_T := fun k => match k with
  | 0 => ("DriftStore$Session", "readVector", "[I", true)
  | 1 => ("DriftStore$Session", "writeVector", "[I", true)
  | _ => ("DriftStore$Session", "assurances", "I", false)
def xty7 : Nat → FieldType := fun k => match k with
  | 0 => .array .int
  | 1 => .array .int
  | _ => .int
def xT8 : u_T := fun k => match k with
  | 0 => ("DriftStore$Program", "steps", "[I", true)
  | _ => ("DriftStore$Program", "operands", "[I", true)
def xty8 : Nat → FieldType := fun k => match k with
  | 0 => .array .int
  | _ => .array .int
def xT9 : u_T := fun k => match k with
  | 0 => ("DriftStore$Write", "server", "I", true)
  | 1 => ("DriftStore$Write", "stamp", "I", true)
  | 2 => ("DriftStore$Write", "program", "LDriftStore$Program;", true)
  | _ => ("DriftStore$Write", "place", "I", false)
def xty9 : Nat → FieldType := fun k => match k with
  | 0 => .int
  | 1 => .int
  | 2 => .object "DriftStore$Program"
  | _ => .int
def xT10 : u_T := fun k => match k with
  | 0 => ("DriftStoreModel", "tape", "[B", true)
  | 1 => ("DriftStoreModel", "tapeMany", "I", false)
  | 2 => ("DriftStoreModel", "server", "[I", true)
  | 3 => ("DriftStoreModel", "stamp", "[I", true)
  | 4 => ("DriftStoreModel", "rank", "[I", true)
  | 5 => ("DriftStoreModel", "byRank", "[I", true)
  | 6 => ("DriftStoreModel", "what", "[[I", true)
  | 7 => ("DriftStoreModel", "writes", "I", false)
  | 8 => ("DriftStoreModel", "ranks", "I", false)
  | 9 => ("DriftStoreModel", "knows", "[[Z", true)
  | 10 => ("DriftStoreModel", "clock", "[I", true)
  | 11 => ("DriftStoreModel", "committed", "[I", true)
  | 12 => ("DriftStoreModel", "forgotten", "[I", true)
  | 13 => ("DriftStoreModel", "bits", "[I", true)
  | 14 => ("DriftStoreModel", "reads", "[[I", true)
  | 15 => ("DriftStoreModel", "writing", "[[I", true)
  | 16 => ("DriftStoreModel", "latest", "[I", false)
  | 17 => ("DriftStoreModel", "at", "I", false)
  | 18 => ("DriftStoreModel", "size", "I", false)
  | 19 => ("DriftStoreModel", "kind", "I", false)
  | 20 => ("DriftStoreModel", "from", "I", false)
  | 21 => ("DriftStoreModel", "to", "I", false)
  | 22 => ("DriftStoreModel", "fault", "I", false)
  | 23 => ("DriftStoreModel", "parts", "I", false)
  | 24 => ("DriftStoreModel", "number", "J", false)
  | 25 => ("DriftStoreModel", "code", "[I", true)
  | 26 => ("DriftStoreModel", "many", "I", false)
  | 27 => ("DriftStoreModel", "cells", "[I", true)
  | 28 => ("DriftStoreModel", "stack", "[I", true)
  | 29 => ("DriftStoreModel", "found", "[I", true)
  | 30 => ("DriftStoreModel", "goal", "[I", true)
  | 31 => ("DriftStoreModel", "pc", "I", false)
  | 32 => ("DriftStoreModel", "order", "[I", true)
  | _ => ("DriftStoreModel", "ordered", "I", false)
def xty10 : Nat → FieldType := fun k => match k with
  | 0 => .array .byte
  | 1 => .int
  | 2 => .array .int
  | 3 => .array .int
  | 4 => .array .int
  | 5 => .array .int
  | 6 => .array (.array .int)
  | 7 => .int
  | 8 => .int
  | 9 => .array (.array .boolean)
  | 10 => .array .int
  | 11 => .array .int
  | 12 => .array .int
  | 13 => .array .int
  | 14 => .array (.array .int)
  | 15 => .array (.array .int)
  | 16 => .array .int
  | 17 => .int
  | 18 => .int
  | 19 => .int
  | 20 => .int
  | 21 => .int
  | 22 => .int
  | 23 => .int
  | 24 => .long
  | 25 => .array .int
  | 26 => .int
  | 27 => .array .int
  | 28 => .array .int
  | 29 => .array .int
  | 30 => .array .int
  | 31 => .int
  | 32 => .array .int
  | _ => .int
abbrev xcl : List vw_C := [("DriftStore", xT0, 6), ("DriftStore$Tape", xT1, 2), ("DriftStore$Compiler", xT2, 8), ("DriftStore$Tokens", xT3, 4), ("DriftStore$History", xT4, 4), ("DriftStore$Machine", xT5, 6), ("DriftStore$Server", xT6, 13), ("DriftStore$Session", xT7, 3), ("DriftStore$Program", xT8, 2), ("DriftStore$Write", xT9, 4), ("DriftStoreModel", xT10, 34)]
def xtyL : List (Nat → FieldType) := [xty0, xty1, xty2, xty3, xty4, xty5, xty6, xty7, xty8, xty9, xty10]
def xtyOf (ci : Nat) : Nat → FieldType := xtyL.getD ci xty0
def xdefL : List (List Value) := [[.null, .null, .null, .null, .null, .null], [.null, .int 0], [.null, .null, .null, .null, .int 0, .int 0, .int 0, .int 0], [.null, .null, .null, .int 0], [.null, .null, .int 0, .int 0], [.null, .null, .null, .int 0, .int 0, .int 0], [.null, .null, .null, .null, .null, .null, .null, .null, .int 0, .int 0, .int 0, .int 0, .int 0], [.null, .null, .int 0], [.null, .null], [.int 0, .int 0, .null, .int 0], [.null, .int 0, .null, .null, .null, .null, .null, .int 0, .int 0, .null, .null, .null, .null, .null, .null, .null, .null, .int 0, .int 0, .int 0, .int 0, .int 0, .int 0, .int 0, .long 0, .null, .int 0, .null, .null, .null, .null, .int 0, .null, .int 0]]
def xdef (ci : Nat) : List Value := xdefL.getD ci []
def xonL : List String := ["DriftStore", "DriftStore$Tape", "DriftStore$Compiler", "DriftStore$Tokens", "DriftStore$History", "DriftStore$Machine", "DriftStore$Server", "DriftStore$Session", "DriftStore$Program", "DriftStore$Write", "DriftStoreModel", "java/util/Arrays", "DriftStoreLaw"]
def xon (o : Nat) : String := xonL.getD o ""
theorem xin0 : ∀ w ∈ u_ws "DriftStore" xT0 6, w ∈ lw_tbl := by
  intro w hw
  have h : u_ws "DriftStore" xT0 6 = [275, 277, 279, 281, 283, 285].filterMap (fun i => lw_tbl[i]?) := by decide +kernel
  rw [h] at hw
  obtain ⟨i, -, hi⟩ := List.mem_filterMap.mp hw
  exact List.mem_of_getElem? hi
theorem xnm0 : ∀ a, a < 6 → ∀ b, b < 6 → a ≠ b → (xT0 a).2.1 ≠ (xT0 b).2.1 := by decide +kernel
theorem xtk0 : ∀ k, k < 6 → parseFieldDescriptor (xT0 k).2.2.1 = some (xty0 k) := by decide +kernel
theorem xin1 : ∀ w ∈ u_ws "DriftStore$Tape" xT1 2, w ∈ lw_tbl := by
  intro w hw
  have h : u_ws "DriftStore$Tape" xT1 2 = [84, 86].filterMap (fun i => lw_tbl[i]?) := by decide +kernel
  rw [h] at hw
  obtain ⟨i, -, hi⟩ := List.mem_filterMap.mp hw
  exact List.mem_of_getElem? hi
theorem xnm1 : ∀ a, a < 2 → ∀ b, b < 2 → a ≠ b → (xT1 a).2.1 ≠ (xT1 b).2.1 := by decide +kernel
theorem xtk1 : ∀ k, k < 2 → parseFieldDescriptor (xT1 k).2.2.1 = some (xty1 k) := by decide +kernel
theorem xin2 : ∀ w ∈ u_ws "DriftStore$Compiler" xT2 8, w ∈ lw_tbl := by
  intro w hw
  have h : u_ws "DriftStore$Compiler" xT2 8 = [127, 129, 131, 133, 135, 137, 139, 141].filterMap (fun i => lw_tbl[i]?) := by decide +kernel
  rw [h] at hw
  obtain ⟨i, -, hi⟩ := List.mem_filterMap.mp hw
  exact List.mem_of_getElem? hi
theorem xnm2 : ∀ a, a < 8 → ∀ b, b < 8 → a ≠ b → (xT2 a).2.1 ≠ (xT2 b).2.1 := by decide +kernel
theorem xtk2 : ∀ k, k < 8 → parseFieldDescriptor (xT2 k).2.2.1 = some (xty2 k) := by decide +kernel
theorem xin3 : ∀ w ∈ u_ws "DriftStore$Tokens" xT3 4, w ∈ lw_tbl := by
  intro w hw
  have h : u_ws "DriftStore$Tokens" xT3 4 = [110, 112, 114, 116].filterMap (fun i => lw_tbl[i]?) := by decide +kernel
  rw [h] at hw
  obtain ⟨i, -, hi⟩ := List.mem_filterMap.mp hw
  exact List.mem_of_getElem? hi
theorem xnm3 : ∀ a, a < 4 → ∀ b, b < 4 → a ≠ b → (xT3 a).2.1 ≠ (xT3 b).2.1 := by decide +kernel
theorem xtk3 : ∀ k, k < 4 → parseFieldDescriptor (xT3 k).2.2.1 = some (xty3 k) := by decide +kernel
theorem xin4 : ∀ w ∈ u_ws "DriftStore$History" xT4 4, w ∈ lw_tbl := by
  intro w hw
  have h : u_ws "DriftStore$History" xT4 4 = [160, 162, 164, 166].filterMap (fun i => lw_tbl[i]?) := by decide +kernel
  rw [h] at hw
  obtain ⟨i, -, hi⟩ := List.mem_filterMap.mp hw
  exact List.mem_of_getElem? hi
theorem xnm4 : ∀ a, a < 4 → ∀ b, b < 4 → a ≠ b → (xT4 a).2.1 ≠ (xT4 b).2.1 := by decide +kernel
theorem xtk4 : ∀ k, k < 4 → parseFieldDescriptor (xT4 k).2.2.1 = some (xty4 k) := by decide +kernel
theorem xin5 : ∀ w ∈ u_ws "DriftStore$Machine" xT5 6, w ∈ lw_tbl := by
  intro w hw
  have h : u_ws "DriftStore$Machine" xT5 6 = [181, 183, 185, 187, 189, 191].filterMap (fun i => lw_tbl[i]?) := by decide +kernel
  rw [h] at hw
  obtain ⟨i, -, hi⟩ := List.mem_filterMap.mp hw
  exact List.mem_of_getElem? hi
theorem xnm5 : ∀ a, a < 6 → ∀ b, b < 6 → a ≠ b → (xT5 a).2.1 ≠ (xT5 b).2.1 := by decide +kernel
theorem xtk5 : ∀ k, k < 6 → parseFieldDescriptor (xT5 k).2.2.1 = some (xty5 k) := by decide +kernel
theorem xin6 : ∀ w ∈ u_ws "DriftStore$Server" xT6 13, w ∈ lw_tbl := by
  intro w hw
  have h : u_ws "DriftStore$Server" xT6 13 = [221, 223, 225, 227, 229, 231, 233, 235, 237, 239, 241, 243, 245].filterMap (fun i => lw_tbl[i]?) := by decide +kernel
  rw [h] at hw
  obtain ⟨i, -, hi⟩ := List.mem_filterMap.mp hw
  exact List.mem_of_getElem? hi
theorem xnm6 : ∀ a, a < 13 → ∀ b, b < 13 → a ≠ b → (xT6 a).2.1 ≠ (xT6 b).2.1 := by decide +kernel
theorem xtk6 : ∀ k, k < 13 → parseFieldDescriptor (xT6 k).2.2.1 = some (xty6 k) := by decide +kernel
theorem xin7 : ∀ w ∈ u_ws "DriftStore$Session" xT7 3, w ∈ lw_tbl := by
  intro w hw
  have h : u_ws "DriftStore$Session" xT7 3 = [262, 264, 266].filterMap (fun i => lw_tbl[i]?) := by decide +kernel
  rw [h] at hw
  obtain ⟨i, -, hi⟩ := List.mem_filterMap.mp hw
  exact List.mem_of_getElem? hi
theorem xnm7 : ∀ a, a < 3 → ∀ b, b < 3 → a ≠ b → (xT7 a).2.1 ≠ (xT7 b).2.1 := by decide +kernel
theorem xtk7 : ∀ k, k < 3 → parseFieldDescriptor (xT7 k).2.2.1 = some (xty7 k) := by decide +kernel
theorem xin8 : ∀ w ∈ u_ws "DriftStore$Program" xT8 2, w ∈ lw_tbl := by
  intro w hw
  have h : u_ws "DriftStore$Program" xT8 2 = [470, 472].filterMap (fun i => lw_tbl[i]?) := by decide +kernel
  rw [h] at hw
  obtain ⟨i, -, hi⟩ := List.mem_filterMap.mp hw
  exact List.mem_of_getElem? hi
theorem xnm8 : ∀ a, a < 2 → ∀ b, b < 2 → a ≠ b → (xT8 a).2.1 ≠ (xT8 b).2.1 := by decide +kernel
theorem xtk8 : ∀ k, k < 2 → parseFieldDescriptor (xT8 k).2.2.1 = some (xty8 k) := by decide +kernel
theorem xin9 : ∀ w ∈ u_ws "DriftStore$Write" xT9 4, w ∈ lw_tbl := by
  intro w hw
  have h : u_ws "DriftStore$Write" xT9 4 = [520, 522, 524, 526].filterMap (fun i => lw_tbl[i]?) := by decide +kernel
  rw [h] at hw
  obtain ⟨i, -, hi⟩ := List.mem_filterMap.mp hw
  exact List.mem_of_getElem? hi
theorem xnm9 : ∀ a, a < 4 → ∀ b, b < 4 → a ≠ b → (xT9 a).2.1 ≠ (xT9 b).2.1 := by decide +kernel
theorem xtk9 : ∀ k, k < 4 → parseFieldDescriptor (xT9 k).2.2.1 = some (xty9 k) := by decide +kernel
theorem xin10 : ∀ w ∈ u_ws "DriftStoreModel" xT10 34, w ∈ lw_tbl := by
  intro w hw
  have h : u_ws "DriftStoreModel" xT10 34 = [735, 737, 739, 741, 743, 745, 747, 749, 751, 753, 755, 757, 759, 761, 763, 765, 767, 769, 771, 773, 775, 777, 779, 781, 783, 785, 787, 789, 791, 793, 795, 797, 799, 801].filterMap (fun i => lw_tbl[i]?) := by decide +kernel
  rw [h] at hw
  obtain ⟨i, -, hi⟩ := List.mem_filterMap.mp hw
  exact List.mem_of_getElem? hi
theorem xnm10 : ∀ a, a < 34 → ∀ b, b < 34 → a ≠ b → (xT10 a).2.1 ≠ (xT10 b).2.1 := by decide +kernel
theorem xtk10 : ∀ k, k < 34 → parseFieldDescriptor (xT10 k).2.2.1 = some (xty10 k) := by decide +kernel
/-- a method: its name, code, locals, answer, own class, parameters, the place of its word -/
abbrev xMR : Type := MethodName × ByteArray × Nat × Option FieldType × Nat × Nat × Nat
def xTab : List xMR := [(⟨"DriftStore", "<init>", "()V"⟩, prog_1_method_1_code, 3, none, 0, 0, 69),
  (⟨"DriftStore", "feed", "(IIIII)I"⟩, prog_1_method_2_code, 6, (some .int), 0, 5, 291),
  (⟨"DriftStore", "end", "(I)I"⟩, prog_1_method_3_code, 2, (some .int), 0, 1, 299),
  (⟨"DriftStore", "program", "()I"⟩, prog_1_method_4_code, 2, (some .int), 0, 0, 303),
  (⟨"DriftStore", "isCell", "(I)Z"⟩, prog_1_method_20_code, 1, (some .boolean), 0, 1, 431),
  (⟨"DriftStore", "write", "(III)I"⟩, prog_1_method_5_code, 8, (some .int), 0, 3, 479),
  (⟨"DriftStore", "isServer", "(I)Z"⟩, prog_1_method_18_code, 1, (some .boolean), 0, 1, 482),
  (⟨"DriftStore", "isSession", "(I)Z"⟩, prog_1_method_19_code, 1, (some .boolean), 0, 1, 485),
  (⟨"DriftStore", "read", "(IIIZ)J"⟩, prog_1_method_6_code, 7, (some .long), 0, 4, 545),
  (⟨"DriftStore", "assure", "(IIZ)I"⟩, prog_1_method_7_code, 6, (some .int), 0, 3, 602),
  (⟨"DriftStore", "commit", "(I)I"⟩, prog_1_method_8_code, 5, (some .int), 0, 1, 613),
  (⟨"DriftStore", "meet", "(III)I"⟩, prog_1_method_9_code, 7, (some .int), 0, 3, 631),
  (⟨"DriftStore", "forget", "(II)I"⟩, prog_1_method_10_code, 4, (some .int), 0, 2, 649),
  (⟨"DriftStore", "cell", "(IIZ)J"⟩, prog_1_method_11_code, 4, (some .long), 0, 3, 653),
  (⟨"DriftStore", "order", "(II)I"⟩, prog_1_method_12_code, 3, (some .int), 0, 2, 657),
  (⟨"DriftStore", "outcome", "(II)I"⟩, prog_1_method_13_code, 3, (some .int), 0, 2, 665),
  (⟨"DriftStore", "look", "(II)I"⟩, prog_1_method_14_code, 4, (some .int), 0, 2, 677),
  (⟨"DriftStore", "stamp", "(III)I"⟩, prog_1_method_15_code, 4, (some .int), 0, 3, 681),
  (⟨"DriftStore", "count", "(II)I"⟩, prog_1_method_16_code, 4, (some .int), 0, 2, 685),
  (⟨"DriftStore", "writes", "()I"⟩, prog_1_method_17_code, 1, (some .int), 0, 0, 689),
  (⟨"DriftStore$Tape", "<init>", "()V"⟩, prog_9_method_1_code, 1, none, 1, 0, 77),
  (⟨"DriftStore$Tape", "addInt", "(I)V"⟩, prog_9_method_2_code, 3, none, 1, 1, 295),
  (⟨"DriftStore$Compiler", "<init>", "(LDriftStore$Tape;)V"⟩, prog_2_method_1_code, 2, none, 2, 1, 94),
  (⟨"DriftStore$Compiler", "compile", "()I"⟩, prog_2_method_2_code, 3, (some .int), 2, 0, 307),
  (⟨"DriftStore$Compiler", "accept", "(I)Z"⟩, prog_2_method_11_code, 2, (some .boolean), 2, 1, 396),
  (⟨"DriftStore$Compiler", "parseTest", "()V"⟩, prog_2_method_4_code, 4, none, 2, 0, 400),
  (⟨"DriftStore$Compiler", "parseSum", "(I)V"⟩, prog_2_method_6_code, 5, none, 2, 1, 404),
  (⟨"DriftStore$Compiler", "parseTerm", "(I)V"⟩, prog_2_method_7_code, 4, none, 2, 1, 408),
  (⟨"DriftStore$Compiler", "parsePart", "(I)V"⟩, prog_2_method_8_code, 3, none, 2, 1, 412),
  (⟨"DriftStore$Compiler", "require", "(I)V"⟩, prog_2_method_12_code, 2, none, 2, 1, 416),
  (⟨"DriftStore$Compiler", "fail", "()V"⟩, prog_2_method_13_code, 1, none, 2, 0, 420),
  (⟨"DriftStore$Compiler", "kind", "()I"⟩, prog_2_method_10_code, 1, (some .int), 2, 0, 424),
  (⟨"DriftStore$Compiler", "parseCellNumber", "()I"⟩, prog_2_method_9_code, 2, (some .int), 2, 0, 428),
  (⟨"DriftStore$Compiler", "emit", "(II)V"⟩, prog_2_method_14_code, 3, none, 2, 2, 435),
  (⟨"DriftStore$Compiler", "parseEffects", "()V"⟩, prog_2_method_5_code, 4, none, 2, 0, 439),
  (⟨"DriftStore$Compiler", "compiled", "()LDriftStore$Program;"⟩, prog_2_method_3_code, 1, (some (.object "DriftStore$Program")), 2, 0, 443),
  (⟨"DriftStore$Tokens", "<init>", "()V"⟩, prog_10_method_1_code, 1, none, 3, 0, 100),
  (⟨"DriftStore$Tokens", "scan", "(LDriftStore$Tape;)V"⟩, prog_10_method_2_code, 5, none, 3, 1, 311),
  (⟨"DriftStore$Tokens", "skipBlanks", "(LDriftStore$Tape;I)I"⟩, prog_10_method_3_code, 3, (some .int), 3, 2, 314),
  (⟨"DriftStore$Tokens", "scanToken", "(LDriftStore$Tape;I)I"⟩, prog_10_method_4_code, 5, (some .int), 3, 2, 318),
  (⟨"DriftStore$Tokens", "scanWord", "(LDriftStore$Tape;I)I"⟩, prog_10_method_5_code, 4, (some .int), 3, 2, 322),
  (⟨"DriftStore$Tokens", "kindOfWord", "(LDriftStore$Tape;II)I"⟩, prog_10_method_7_code, 3, (some .int), 3, 3, 325),
  (⟨"DriftStore$Tokens", "spells", "(LDriftStore$Tape;IILjava/lang/String;)Z"⟩, prog_10_method_8_code, 5, (some .boolean), 3, 4, 329),
  (⟨"DriftStore$Tokens", "scanNumber", "(LDriftStore$Tape;I)I"⟩, prog_10_method_6_code, 7, (some .int), 3, 2, 387),
  (⟨"DriftStore$Tokens", "kindOfSign", "(I)I"⟩, prog_10_method_9_code, 1, (some .int), 3, 1, 392),
  (⟨"DriftStore$History", "<init>", "()V"⟩, prog_3_method_1_code, 1, none, 4, 0, 148),
  (⟨"DriftStore$History", "add", "(LDriftStore$Write;)I"⟩, prog_3_method_3_code, 2, (some .int), 4, 1, 532),
  (⟨"DriftStore$History", "commitNext", "(I)V"⟩, prog_3_method_4_code, 2, none, 4, 1, 618),
  (⟨"DriftStore$History", "has", "(I)Z"⟩, prog_3_method_2_code, 2, (some .boolean), 4, 1, 669),
  (⟨"DriftStore$Machine", "<init>", "()V"⟩, prog_5_method_1_code, 1, none, 5, 0, 173),
  (⟨"DriftStore$Machine", "perform", "(LDriftStore$Write;[I)I"⟩, prog_5_method_2_code, 6, (some .int), 5, 2, 570),
  (⟨"DriftStore$Machine", "beginRule", "()V"⟩, prog_5_method_3_code, 1, none, 5, 0, 574),
  (⟨"DriftStore$Machine", "doStep", "(IILDriftStore$Write;[I)V"⟩, prog_5_method_4_code, 5, none, 5, 4, 578),
  (⟨"DriftStore$Machine", "push", "(I)V"⟩, prog_5_method_8_code, 2, none, 5, 1, 582),
  (⟨"DriftStore$Machine", "keepEffect", "(I)V"⟩, prog_5_method_6_code, 3, none, 5, 1, 586),
  (⟨"DriftStore$Machine", "pop", "()I"⟩, prog_5_method_9_code, 1, (some .int), 5, 0, 590),
  (⟨"DriftStore$Machine", "combine", "(I)V"⟩, prog_5_method_5_code, 4, none, 5, 1, 594),
  (⟨"DriftStore$Machine", "changeCells", "([I)V"⟩, prog_5_method_7_code, 3, none, 5, 1, 598),
  (⟨"DriftStore$Server", "<init>", "(LDriftStore$History;LDriftStore$Machine;)V"⟩, prog_7_method_1_code, 3, none, 6, 2, 199),
  (⟨"DriftStore$Server", "learn", "(I)V"⟩, prog_7_method_2_code, 4, none, 6, 1, 536),
  (⟨"DriftStore$Server", "valueOf", "(IZ)I"⟩, prog_7_method_9_code, 3, (some .int), 6, 2, 561),
  (⟨"DriftStore$Server", "catchUp", "()V"⟩, prog_7_method_10_code, 3, none, 6, 0, 565),
  (⟨"DriftStore$Server", "learnNextCommit", "()V"⟩, prog_7_method_3_code, 2, none, 6, 0, 622),
  (⟨"DriftStore$Server", "removeTentative", "(I)V"⟩, prog_7_method_11_code, 3, none, 6, 1, 627),
  (⟨"DriftStore$Server", "learnForgotten", "(I)V"⟩, prog_7_method_4_code, 3, none, 6, 1, 635),
  (⟨"DriftStore$Server", "learnCommits", "(LDriftStore$Server;I)I"⟩, prog_7_method_5_code, 5, (some .int), 6, 2, 640),
  (⟨"DriftStore$Server", "learnTentative", "(LDriftStore$Server;I)I"⟩, prog_7_method_6_code, 5, (some .int), 6, 2, 645),
  (⟨"DriftStore$Server", "writeAt", "(I)I"⟩, prog_7_method_7_code, 2, (some .int), 6, 1, 661),
  (⟨"DriftStore$Server", "outcomeOf", "(I)I"⟩, prog_7_method_8_code, 2, (some .int), 6, 1, 673),
  (⟨"DriftStore$Session", "<init>", "()V"⟩, prog_8_method_1_code, 1, none, 7, 0, 254),
  (⟨"DriftStore$Session", "mayWriteAt", "(LDriftStore$Server;)Z"⟩, prog_8_method_2_code, 2, (some .boolean), 7, 1, 490),
  (⟨"DriftStore$Session", "assures", "(I)Z"⟩, prog_8_method_6_code, 2, (some .boolean), 7, 1, 494),
  (⟨"DriftStore$Session", "isAtLeast", "([I[I)Z"⟩, prog_8_method_7_code, 3, (some .boolean), 7, 2, 497),
  (⟨"DriftStore$Session", "mayReadAt", "(LDriftStore$Server;)Z"⟩, prog_8_method_3_code, 2, (some .boolean), 7, 1, 551),
  (⟨"DriftStore$Session", "hasReadAt", "(LDriftStore$Server;)V"⟩, prog_8_method_4_code, 3, none, 7, 1, 556),
  (⟨"DriftStore$Session", "clearVectors", "()V"⟩, prog_8_method_5_code, 1, none, 7, 0, 606),
  (⟨"DriftStore$Program", "<init>", "([I[I)V"⟩, prog_6_method_1_code, 3, none, 8, 2, 464),
  (⟨"DriftStore$Write", "<init>", "(IILDriftStore$Program;)V"⟩, prog_11_method_1_code, 4, none, 9, 3, 505),
  (⟨"DriftStore$Write", "comesBefore", "(LDriftStore$Write;)Z"⟩, prog_11_method_2_code, 2, (some .boolean), 9, 1, 541),
  (⟨"DriftStoreModel", "<init>", "()V"⟩, prog_13_method_2_code, 1, none, 10, 0, 694),
  (⟨"DriftStoreModel", "feed", "(IIIII)I"⟩, prog_13_method_3_code, 8, (some .int), 10, 5, 807),
  (⟨"DriftStoreModel", "end", "(I)I"⟩, prog_13_method_4_code, 2, (some .int), 10, 1, 811),
  (⟨"DriftStoreModel", "in", "(JJJ)Z"⟩, prog_13_method_1_code, 6, (some .boolean), 10, 3, 814),
  (⟨"DriftStoreModel", "program", "()I"⟩, prog_13_method_12_code, 2, (some .int), 10, 0, 818),
  (⟨"DriftStoreModel", "step", "()V"⟩, prog_13_method_7_code, 3, none, 10, 0, 822),
  (⟨"DriftStoreModel", "isLetter", "(I)Z"⟩, prog_13_method_5_code, 1, (some .boolean), 10, 1, 825),
  (⟨"DriftStoreModel", "is", "(Ljava/lang/String;)Z"⟩, prog_13_method_8_code, 3, (some .boolean), 10, 1, 830),
  (⟨"DriftStoreModel", "isDigit", "(I)Z"⟩, prog_13_method_6_code, 1, (some .boolean), 10, 1, 841),
  (⟨"DriftStoreModel", "rule", "()Z"⟩, prog_13_method_13_code, 4, (some .boolean), 10, 0, 852),
  (⟨"DriftStoreModel", "bad", "()Z"⟩, prog_13_method_9_code, 1, (some .boolean), 10, 0, 856),
  (⟨"DriftStoreModel", "put", "(I)V"⟩, prog_13_method_11_code, 2, none, 10, 1, 860),
  (⟨"DriftStoreModel", "compare", "()Z"⟩, prog_13_method_15_code, 2, (some .boolean), 10, 0, 864),
  (⟨"DriftStoreModel", "whole", "()Z"⟩, prog_13_method_16_code, 1, (some .boolean), 10, 0, 868),
  (⟨"DriftStoreModel", "sum", "(I)Z"⟩, prog_13_method_17_code, 3, (some .boolean), 10, 1, 872),
  (⟨"DriftStoreModel", "term", "(I)Z"⟩, prog_13_method_18_code, 2, (some .boolean), 10, 1, 876),
  (⟨"DriftStoreModel", "part", "(I)Z"⟩, prog_13_method_19_code, 2, (some .boolean), 10, 1, 880),
  (⟨"DriftStoreModel", "take", "(Ljava/lang/String;)Z"⟩, prog_13_method_10_code, 2, (some .boolean), 10, 1, 886),
  (⟨"DriftStoreModel", "cell", "()Z"⟩, prog_13_method_14_code, 1, (some .boolean), 10, 0, 890),
  (⟨"DriftStoreModel", "write", "(III)I"⟩, prog_13_method_30_code, 4, (some .int), 10, 3, 905),
  (⟨"DriftStoreModel", "isAtLeast", "(I[I)Z"⟩, prog_13_method_28_code, 4, (some .boolean), 10, 2, 912),
  (⟨"DriftStoreModel", "vector", "(II)I"⟩, prog_13_method_27_code, 5, (some .int), 10, 2, 916),
  (⟨"DriftStoreModel", "read", "(IIIZ)J"⟩, prog_13_method_31_code, 6, (some .long), 10, 4, 921),
  (⟨"DriftStoreModel", "cell", "(IIZ)J"⟩, prog_13_method_36_code, 4, (some .long), 10, 3, 927),
  (⟨"DriftStoreModel", "run", "(IZ)V"⟩, prog_13_method_26_code, 5, none, 10, 2, 931),
  (⟨"DriftStoreModel", "arrange", "(I)V"⟩, prog_13_method_25_code, 4, none, 10, 1, 935),
  (⟨"DriftStoreModel", "isCommitted", "(II)Z"⟩, prog_13_method_23_code, 3, (some .boolean), 10, 2, 939),
  (⟨"DriftStoreModel", "isBefore", "(II)Z"⟩, prog_13_method_24_code, 3, (some .boolean), 10, 2, 943),
  (⟨"DriftStoreModel", "perform", "(I)I"⟩, prog_13_method_22_code, 6, (some .int), 10, 1, 948),
  (⟨"DriftStoreModel", "holds", "(I)Z"⟩, prog_13_method_21_code, 9, (some .boolean), 10, 1, 952),
  (⟨"DriftStoreModel", "value", "(I)I"⟩, prog_13_method_20_code, 5, (some .int), 10, 1, 956),
  (⟨"DriftStoreModel", "assure", "(IIZ)I"⟩, prog_13_method_32_code, 5, (some .int), 10, 3, 960),
  (⟨"DriftStoreModel", "commit", "(I)I"⟩, prog_13_method_33_code, 4, (some .int), 10, 1, 965),
  (⟨"DriftStoreModel", "meet", "(III)I"⟩, prog_13_method_34_code, 7, (some .int), 10, 3, 969),
  (⟨"DriftStoreModel", "learn", "(II)V"⟩, prog_13_method_29_code, 3, none, 10, 2, 973),
  (⟨"DriftStoreModel", "forget", "(II)I"⟩, prog_13_method_35_code, 3, (some .int), 10, 2, 977),
  (⟨"DriftStoreModel", "order", "(II)I"⟩, prog_13_method_37_code, 3, (some .int), 10, 2, 982),
  (⟨"DriftStoreModel", "outcome", "(II)I"⟩, prog_13_method_38_code, 5, (some .int), 10, 2, 986),
  (⟨"DriftStoreModel", "look", "(II)I"⟩, prog_13_method_39_code, 3, (some .int), 10, 2, 990),
  (⟨"DriftStoreModel", "stamp", "(III)I"⟩, prog_13_method_40_code, 4, (some .int), 10, 3, 995),
  (⟨"DriftStoreModel", "count", "(II)I"⟩, prog_13_method_41_code, 5, (some .int), 10, 2, 999),
  (⟨"DriftStoreModel", "writes", "()I"⟩, prog_13_method_42_code, 1, (some .int), 10, 0, 1004),
  (⟨"java/util/Arrays", "copyOf", "([II)[I"⟩, prog_20_method_123_code, 3, (some (.array .int)), 11, 2, 448),
  (⟨"java/util/Arrays", "fill", "([II)V"⟩, prog_20_method_103_code, 4, none, 11, 2, 609),
  (⟨"DriftStoreLaw", "law", "([I)Z"⟩, code, 4, (some .boolean), 12, 1, 0)]
def xRow (mi : Nat) : xMR := xTab.getD mi (⟨"", "", ""⟩, code, 0, none, 0, 0, 0)
def xP (mi : Nat) := (xRow mi).2.2.2.2.2.2
def xY (mi : Nat) := (xRow mi).1
def xB (mi : Nat) := (xRow mi).2.1
def xM (mi : Nat) := (xRow mi).2.2.1
def xT (mi : Nat) := (xRow mi).2.2.2.1
def xO (mi : Nat) := (xRow mi).2.2.2.2.1
def xA (mi : Nat) := (xRow mi).2.2.2.2.2.1
/-- a field link: own class, place in its pool, the class that has the field, its number; by the nest; the place of its word -/
def xFt : List (Nat × Nat × Nat × Nat × Nat × Nat) := [(1, 9, 1, 0, 0, 79), (3, 39, 1, 0, 1, 80), (1, 15, 1, 1, 0, 81), (0, 55, 1, 1, 1, 82), (3, 34, 1, 1, 1, 83), (3, 9, 3, 0, 0, 102), (2, 104, 3, 0, 1, 103), (3, 15, 3, 1, 0, 104), (2, 108, 3, 1, 1, 105), (3, 18, 3, 2, 0, 106), (2, 98, 3, 2, 1, 107), (3, 21, 3, 3, 0, 108), (2, 107, 3, 3, 1, 109), (2, 38, 2, 0, 0, 119), (2, 14, 2, 1, 0, 120), (2, 18, 2, 2, 0, 121), (2, 22, 2, 3, 0, 122), (2, 25, 2, 4, 0, 123), (2, 29, 2, 5, 0, 124), (2, 32, 2, 6, 0, 125), (2, 35, 2, 7, 0, 126), (4, 11, 4, 0, 0, 152), (6, 55, 4, 0, 1, 153), (0, 176, 4, 0, 1, 154), (4, 17, 4, 1, 0, 155), (6, 79, 4, 1, 1, 156), (4, 21, 4, 2, 0, 157), (0, 79, 4, 2, 1, 158), (4, 25, 4, 3, 0, 159), (5, 9, 5, 0, 0, 175), (5, 13, 5, 1, 0, 176), (5, 16, 5, 2, 0, 177), (5, 19, 5, 3, 0, 178), (5, 23, 5, 4, 0, 179), (5, 26, 5, 5, 0, 180), (6, 47, 6, 0, 0, 201), (6, 51, 6, 1, 0, 202), (6, 9, 6, 2, 0, 203), (7, 26, 6, 2, 1, 204), (0, 189, 6, 2, 1, 205), (6, 15, 6, 3, 0, 206), (6, 19, 6, 4, 0, 207), (0, 141, 6, 4, 1, 208), (6, 22, 6, 5, 0, 209), (6, 25, 6, 6, 0, 210), (6, 28, 6, 7, 0, 211), (6, 31, 6, 8, 0, 212), (0, 86, 6, 8, 1, 213), (6, 35, 6, 9, 0, 214), (0, 153, 6, 9, 1, 215), (6, 38, 6, 10, 0, 216), (0, 150, 6, 10, 1, 217), (6, 41, 6, 11, 0, 218), (0, 135, 6, 11, 1, 219), (6, 44, 6, 12, 0, 220), (7, 9, 7, 0, 0, 256), (0, 192, 7, 0, 1, 257), (7, 15, 7, 1, 0, 258), (0, 107, 7, 1, 1, 259), (7, 18, 7, 2, 0, 260), (0, 129, 7, 2, 1, 261), (0, 12, 0, 0, 0, 269), (0, 21, 0, 1, 0, 270), (0, 28, 0, 2, 0, 271), (0, 37, 0, 3, 0, 272), (0, 46, 0, 4, 0, 273), (0, 51, 0, 5, 0, 274), (8, 7, 8, 0, 0, 466), (5, 39, 8, 0, 1, 467), (8, 13, 8, 1, 0, 468), (5, 44, 8, 1, 1, 469), (9, 13, 9, 0, 0, 507), (6, 72, 9, 0, 1, 508), (5, 59, 9, 0, 1, 509), (0, 180, 9, 0, 1, 510), (9, 16, 9, 1, 0, 511), (6, 61, 9, 1, 1, 512), (5, 62, 9, 1, 1, 513), (0, 183, 9, 1, 1, 514), (9, 19, 9, 2, 0, 515), (5, 30, 9, 2, 1, 516), (9, 7, 9, 3, 0, 517), (4, 28, 9, 3, 1, 518), (0, 186, 9, 3, 1, 519), (10, 9, 10, 0, 0, 701), (10, 73, 10, 1, 0, 702), (10, 13, 10, 2, 0, 703), (10, 17, 10, 3, 0, 704), (10, 20, 10, 4, 0, 705), (10, 23, 10, 5, 0, 706), (10, 27, 10, 6, 0, 707), (10, 239, 10, 7, 0, 708), (10, 285, 10, 8, 0, 709), (10, 33, 10, 9, 0, 710), (10, 36, 10, 10, 0, 711), (10, 39, 10, 11, 0, 712), (10, 42, 10, 12, 0, 713), (10, 45, 10, 13, 0, 714), (10, 49, 10, 14, 0, 715), (10, 52, 10, 15, 0, 716), (10, 174, 10, 16, 0, 717), (10, 81, 10, 17, 0, 718), (10, 84, 10, 18, 0, 719), (10, 90, 10, 19, 0, 720), (10, 87, 10, 20, 0, 721), (10, 97, 10, 21, 0, 722), (10, 149, 10, 22, 0, 723), (10, 162, 10, 23, 0, 724), (10, 119, 10, 24, 0, 725), (10, 55, 10, 25, 0, 726), (10, 159, 10, 26, 0, 727), (10, 58, 10, 27, 0, 728), (10, 61, 10, 28, 0, 729), (10, 64, 10, 29, 0, 730), (10, 67, 10, 30, 0, 731), (10, 226, 10, 31, 0, 732), (10, 70, 10, 32, 0, 733), (10, 236, 10, 33, 0, 734)]
def xFl (o i : Nat) : Option (Nat × Nat × Nat × Nat × Nat × Nat) := xFt.find? (fun q => q.1 == o && q.2.1 == i)
/-- a call link: own class, place in its pool, kind (0 virtual, 1 static, 2 constructor, 3 and 4 these by the nest, 5 Object(), 6 max, 7 min, 8 min of longs, 9 arraycopy, 10 length, 11 charAt), the method; places of its words -/
def xCt : List (Nat × Nat × Nat × Nat × Nat × Nat × Nat) := [(12, 9, 2, 0, 67, 68, 0), (0, 3, 5, 0, 70, 0, 0), (0, 11, 3, 20, 75, 76, 0), (1, 3, 5, 0, 78, 0, 0), (0, 18, 2, 22, 92, 93, 0), (2, 5, 5, 0, 95, 0, 0), (2, 13, 3, 36, 98, 99, 0), (3, 3, 5, 0, 101, 0, 0), (0, 27, 3, 45, 146, 147, 0), (4, 3, 5, 0, 149, 0, 0), (0, 34, 3, 49, 171, 172, 0), (5, 1, 5, 0, 174, 0, 0), (0, 41, 2, 58, 197, 198, 0), (6, 3, 5, 0, 200, 0, 0), (0, 50, 3, 69, 252, 253, 0), (7, 3, 5, 0, 255, 0, 0), (12, 13, 0, 1, 288, 289, 290), (0, 59, 0, 21, 292, 293, 294), (12, 18, 0, 2, 296, 297, 298), (12, 23, 0, 3, 300, 301, 302), (0, 63, 0, 23, 304, 305, 306), (2, 42, 0, 37, 308, 309, 310), (3, 25, 1, 38, 312, 313, 0), (3, 29, 0, 39, 315, 317, 0), (3, 42, 0, 40, 319, 321, 1), (3, 52, 1, 41, 323, 324, 0), (3, 64, 1, 42, 327, 328, 0), (3, 80, 10, 0, 330, 0, 0), (3, 85, 11, 0, 340, 0, 0), (3, 45, 0, 43, 384, 386, 2), (3, 48, 1, 44, 390, 391, 0), (2, 48, 0, 24, 393, 395, 3), (2, 52, 0, 25, 397, 399, 4), (2, 80, 0, 26, 401, 403, 5), (2, 92, 0, 27, 405, 407, 6), (2, 95, 0, 28, 409, 411, 7), (2, 84, 0, 29, 413, 415, 8), (2, 68, 0, 30, 417, 419, 9), (2, 64, 0, 31, 421, 423, 10), (2, 89, 0, 32, 425, 427, 11), (2, 101, 4, 4, 429, 430, 0), (2, 60, 0, 33, 432, 434, 12), (2, 55, 0, 34, 436, 438, 13), (0, 67, 0, 35, 440, 441, 442), (2, 71, 1, 121, 446, 447, 0), (11, 304, 7, 0, 456, 0, 0), (11, 150, 9, 0, 459, 0, 0), (2, 77, 2, 76, 462, 463, 0), (8, 1, 5, 0, 465, 0, 0), (12, 28, 0, 5, 476, 477, 478), (0, 71, 1, 6, 480, 481, 0), (0, 75, 1, 7, 483, 484, 0), (0, 82, 0, 70, 487, 488, 489), (7, 22, 0, 71, 491, 493, 14), (7, 31, 1, 72, 495, 496, 0), (0, 89, 6, 0, 498, 0, 0), (0, 97, 2, 77, 503, 504, 0), (9, 1, 5, 0, 506, 0, 0), (0, 100, 0, 46, 529, 530, 531), (0, 104, 0, 59, 533, 534, 535), (6, 66, 6, 0, 537, 0, 0), (6, 75, 0, 78, 538, 539, 540), (12, 33, 0, 8, 542, 543, 544), (0, 111, 1, 4, 546, 430, 0), (0, 116, 0, 73, 548, 549, 550), (0, 121, 0, 74, 553, 554, 555), (7, 35, 6, 0, 557, 0, 0), (0, 125, 0, 60, 558, 559, 560), (6, 101, 0, 61, 562, 564, 15), (6, 104, 9, 0, 566, 0, 0), (6, 89, 0, 50, 567, 568, 569), (5, 36, 0, 51, 571, 573, 16), (5, 47, 0, 52, 575, 577, 17), (5, 55, 0, 53, 579, 581, 18), (5, 65, 0, 54, 583, 585, 19), (5, 71, 0, 55, 587, 589, 20), (5, 68, 0, 56, 591, 593, 21), (5, 51, 0, 57, 595, 597, 22), (12, 38, 0, 9, 599, 600, 601), (0, 132, 0, 75, 603, 604, 605), (7, 41, 1, 122, 607, 608, 0), (12, 43, 0, 10, 610, 611, 612), (0, 138, 7, 0, 614, 0, 0), (0, 144, 0, 47, 615, 616, 617), (0, 147, 0, 62, 619, 620, 621), (6, 82, 0, 59, 623, 534, 535), (6, 86, 0, 63, 624, 626, 23), (12, 47, 0, 11, 628, 629, 630), (0, 156, 0, 64, 632, 633, 634), (6, 95, 0, 62, 636, 620, 621), (0, 159, 0, 65, 637, 638, 639), (6, 98, 7, 0, 641, 0, 0), (0, 163, 0, 66, 642, 643, 644), (12, 51, 0, 12, 646, 647, 648), (12, 56, 0, 13, 650, 651, 652), (12, 61, 0, 14, 654, 655, 656), (0, 166, 0, 67, 658, 659, 660), (12, 65, 0, 15, 662, 663, 664), (0, 170, 0, 48, 666, 667, 668), (0, 173, 0, 68, 670, 671, 672), (12, 69, 0, 16, 674, 675, 676), (12, 73, 0, 17, 678, 679, 680), (12, 77, 0, 18, 682, 683, 684), (12, 81, 0, 19, 686, 687, 688), (12, 12, 2, 79, 692, 693, 0), (10, 1, 5, 0, 695, 0, 0), (12, 17, 0, 80, 804, 805, 806), (12, 22, 0, 81, 808, 809, 810), (10, 77, 1, 82, 812, 813, 0), (12, 27, 0, 83, 815, 816, 817), (10, 156, 0, 84, 819, 821, 24), (10, 93, 1, 85, 823, 824, 0), (10, 102, 0, 86, 827, 829, 25), (10, 139, 10, 0, 831, 0, 0), (10, 145, 11, 0, 832, 0, 0), (10, 116, 1, 87, 839, 840, 0), (10, 129, 8, 0, 845, 0, 0), (10, 165, 0, 88, 849, 851, 26), (10, 152, 0, 89, 853, 855, 27), (10, 177, 0, 90, 857, 859, 28), (10, 181, 0, 91, 861, 863, 29), (10, 192, 0, 92, 865, 867, 30), (10, 207, 0, 93, 869, 871, 31), (10, 210, 0, 94, 873, 875, 32), (10, 217, 0, 95, 877, 879, 33), (10, 184, 0, 96, 883, 885, 34), (10, 187, 0, 97, 887, 889, 35), (10, 168, 1, 121, 901, 447, 0), (12, 32, 0, 98, 902, 903, 904), (10, 272, 0, 99, 909, 911, 36), (10, 263, 0, 100, 913, 915, 37), (10, 259, 6, 0, 917, 0, 0), (12, 37, 0, 101, 918, 919, 920), (10, 280, 0, 102, 924, 925, 926), (10, 292, 0, 103, 928, 930, 38), (10, 249, 0, 104, 932, 934, 39), (10, 242, 0, 105, 936, 938, 40), (10, 246, 0, 106, 940, 942, 41), (10, 252, 1, 122, 944, 608, 0), (10, 256, 0, 107, 945, 947, 42), (10, 233, 0, 108, 949, 951, 43), (10, 229, 0, 109, 953, 955, 44), (12, 42, 0, 110, 957, 958, 959), (12, 46, 0, 111, 962, 963, 964), (12, 50, 0, 112, 966, 967, 968), (10, 288, 0, 113, 970, 972, 45), (12, 55, 0, 114, 974, 975, 976), (12, 60, 0, 102, 978, 925, 926), (12, 64, 0, 115, 979, 980, 981), (12, 68, 0, 116, 983, 984, 985), (12, 72, 0, 117, 987, 988, 989), (12, 76, 0, 118, 992, 993, 994), (12, 80, 0, 119, 996, 997, 998), (12, 84, 0, 120, 1001, 1002, 1003)]
def xCl (o i : Nat) : Option (Nat × Nat × Nat × Nat × Nat × Nat × Nat) := xCt.find? (fun q => q.1 == o && q.2.1 == i)
/-- new: own class, place in its pool, the class; places of its words -/
def xKt : List (Nat × Nat × Nat × Nat × Nat × Nat) := [(12, 7, 0, 65, 66, 47), (0, 9, 1, 73, 74, 48), (0, 16, 2, 90, 91, 49), (2, 11, 3, 96, 97, 50), (0, 25, 4, 144, 145, 51), (4, 9, 9, 150, 502, 64), (0, 32, 5, 169, 170, 52), (0, 35, 6, 194, 196, 53), (0, 44, 7, 249, 251, 54), (2, 58, 8, 444, 445, 60), (0, 95, 9, 501, 502, 64), (12, 10, 10, 690, 691, 55)]
def xKl (o i : Nat) : Option (Nat × Nat × Nat × Nat × Nat × Nat) := xKt.find? (fun q => q.1 == o && q.2.1 == i)
/-- anewarray: own class, place in its pool, the kind of array (16, 17: multianewarray of 6, 7); places of its words -/
def xNt : List (Nat × Nat × Nat × Nat × Nat) := [(4, 9, 3, 150, 151), (0, 35, 4, 194, 195), (0, 44, 5, 249, 250), (0, 95, 3, 501, 151), (10, 26, 6, 696, 697), (10, 31, 17, 698, 699), (10, 48, 16, 700, 697)]
def xNl (o i : Nat) : Option (Nat × Nat × Nat × Nat × Nat) := xNt.find? (fun q => q.1 == o && q.2.1 == i)
/-- ldc: own class, place in its pool, kind (0 an int, 1 a text), the int, the number of the text; the place of its word -/
def xDt : List (Nat × Nat × Nat × Int32 × Nat × Nat) := [(3, 62, 1, 0, 0, 326), (3, 68, 1, 0, 1, 378), (3, 70, 1, 0, 2, 379), (3, 72, 1, 0, 3, 380), (3, 74, 1, 0, 4, 381), (3, 76, 1, 0, 5, 382), (3, 78, 1, 0, 6, 383), (0, 78, 0, 1000000000, 0, 486), (10, 100, 1, 0, 1, 826), (10, 106, 1, 0, 2, 833), (10, 108, 1, 0, 3, 834), (10, 110, 1, 0, 4, 835), (10, 112, 1, 0, 5, 836), (10, 113, 1, 0, 6, 837), (10, 114, 1, 0, 0, 838), (10, 222, 1, 0, 7, 881), (10, 224, 1, 0, 8, 882), (10, 220, 1, 0, 9, 892), (10, 213, 1, 0, 10, 893), (10, 215, 1, 0, 11, 894), (10, 199, 1, 0, 12, 895), (10, 201, 1, 0, 13, 896), (10, 203, 1, 0, 14, 897), (10, 205, 1, 0, 15, 898), (10, 190, 1, 0, 16, 899), (10, 195, 1, 0, 17, 900)]
def xDl (o i : Nat) : Option (Nat × Nat × Nat × Int32 × Nat × Nat) := xDt.find? (fun q => q.1 == o && q.2.1 == i)
def xLt : List (Nat × Nat × Int64 × Nat) := [(3, 58, 2147483647, 388), (3, 60, 10, 389), (0, 114, 1099511627776, 547), (0, 119, 1099511627777, 552), (10, 123, 1099511627776, 842), (10, 125, 10, 843), (10, 127, 48, 844), (10, 137, 2147483647, 848), (10, 197, 32, 891), (10, 266, 4, 906), (10, 268, 7, 907), (10, 270, 1000000000, 908), (10, 276, 31, 922), (10, 278, 1099511627777, 923), (10, 283, 15, 961), (10, 296, 2, 991), (10, 298, 3, 1000)]
def xLl (o i : Nat) : Option (Nat × Nat × Int64 × Nat) := xLt.find? (fun q => q.1 == o && q.2.1 == i)
/-- the texts -/
def xSt : List (List Nat) := [[99], [105, 102], [116, 104, 101, 110], [101, 108, 115, 101], [97, 110, 100], [115, 101, 114, 118, 101, 114], [115, 116, 97, 109, 112], [40], [41], [42], [43], [45], [61], [35], [60], [62], [58, 61], [44]]
def xSn : List String := ["c", "if", "then", "else", "and", "server", "stamp", "(", ")", "*", "+", "-", "=", "#", "<", ">", ":=", ","]
def xinL : List Nat := [47, 48, 49, 50, 51, 52, 53, 54, 60, 64, 55, 61, 46]
end
section
/-! ===== THE SMALL MACHINE: an interpreter of this claim's methods. A heap is a function from addresses to cells (an array: its kind, length, contents; an object: its class, its fields). Kinds of arrays: 0 int, 1 boolean, 2 byte, 3 Write, 4 Server, 5 Session, 6 int[], 7 boolean[]. ===== -/
abbrev xE : Type := (Nat × vp_A) ⊕ (Nat × List Value)
abbrev xH : Type := Nat → Option xE
/-- a world: its heap, the next address, the slots that are used -/
abbrev xW : Type := xH × Nat × Nat
abbrev xL : Type := List (Option Value)
/-- a frame: program counter, locals, operand stack, world -/
abbrev xF : Type := Nat × xL × List Value × xW
/-- what an instruction comes to: the next frame; an answer; a call (method, arguments, what stays on the stack) -/
abbrev xR : Type := xF ⊕ ((Option Value × xW) ⊕ (Nat × List Value × List Value))
/-- what never changes: the addresses of the texts, and back; the script: address, length, contents -/
abbrev xG : Type := (Nat → Nat) × (Nat → Option Nat) × (Nat × Nat × (Nat → Int32))
def xlen : Instr → Nat
  | .bipush _ | .iload _ | .lload _ | .aload _ | .istore _ | .lstore _ | .astore _ | .ldc _ | .newarray _ => 2
  | .sipush _ | .ldc2_w _ | .iinc _ _ | .if_icmp _ _ | .ifCond _ _ | .goto _ | .getfield _ | .putfield _ | .invokevirtual _ | .invokespecial _ | .invokestatic _ | .new _ | .anewarray _ | .ifnonnull _ => 3
  | .multianewarray _ _ => 4
  | _ => 1
def xsw : Instr → Bool
  | .tableswitch _ _ _ _ | .lookupswitch _ _ => true
  | _ => false
/-- the instruction at a place of a method -/
def xI (mi pc : Nat) : Option Instr := match decode (xB mi) pc with
  | .ok (i, n) => if n = xlen i ∨ xsw i = true then some i else none
  | .error _ => none
def xup (h : xH) (a : Nat) (e : xE) : xH := fun q => if q = a then some e else h q
/-- a value of one slot laid into a local -/
def xst (L : xL) (i : Nat) (v : Value) : Option xL :=
  if i < L.length then (match (if i = 0 then none else L[i - 1]?) with
    | some (some u) => if u.category = 2 then none else some (L.set i (some v))
    | _ => some (L.set i (some v))) else none
/-- a long laid into two locals -/
def xst2 (L : xL) (i : Nat) (v : Value) : Option xL :=
  if i + 1 < L.length then (match (if i = 0 then none else L[i - 1]?) with
    | some (some u) => if u.category = 2 then none else some ((L.set i (some v)).set (i + 1) none)
    | _ => some ((L.set i (some v)).set (i + 1) none)) else none
def xpush (n : Nat) (v : Value) (pc : Nat) (L : xL) (st : List Value) (w : xW) : Option xR := some (.inl (pc + n, L, v :: st, w))
def xiload (n i pc : Nat) (L : xL) (st : List Value) (w : xW) : Option xR := match L[i]? with
  | some (some (.int v)) => some (.inl (pc + n, L, .int v :: st, w))
  | _ => none
def xlload (n i pc : Nat) (L : xL) (st : List Value) (w : xW) : Option xR := match L[i]? with
  | some (some (.long v)) => some (.inl (pc + n, L, .long v :: st, w))
  | _ => none
def xaload (n i pc : Nat) (L : xL) (st : List Value) (w : xW) : Option xR := match L[i]? with
  | some (some (.ref v)) => some (.inl (pc + n, L, .ref v :: st, w))
  | _ => none
def xistore (n i pc : Nat) (L : xL) (st : List Value) (w : xW) : Option xR := match st with
  | .int v :: r => (xst L i (.int v)).map (fun L' => .inl (pc + n, L', r, w))
  | _ => none
def xlstore (n i pc : Nat) (L : xL) (st : List Value) (w : xW) : Option xR := match st with
  | .long v :: r => (xst2 L i (.long v)).map (fun L' => .inl (pc + n, L', r, w))
  | _ => none
def xastore (n i pc : Nat) (L : xL) (st : List Value) (w : xW) : Option xR := match st with
  | .ref v :: r => (xst L i (.ref v)).map (fun L' => .inl (pc + n, L', r, w))
  | _ => none
def xiinc (i : Nat) (k : Int) (pc : Nat) (L : xL) (st : List Value) (w : xW) : Option xR := match L[i]? with
  | some (some (.int v)) => (xst L i (.int (v + Int32.ofInt k))).map (fun L' => .inl (pc + 3, L', st, w))
  | _ => none
def xbin (f : Int32 → Int32 → Int32) (pc : Nat) (L : xL) (st : List Value) (w : xW) : Option xR := match st with
  | .int y :: .int x :: r => some (.inl (pc + 1, L, .int (f x y) :: r, w))
  | _ => none
def xdiv (f : Int32 → Int32 → Int32) (pc : Nat) (L : xL) (st : List Value) (w : xW) : Option xR := match st with
  | .int y :: .int x :: r => if y = 0 then none else some (.inl (pc + 1, L, .int (f x y) :: r, w))
  | _ => none
def xlbin (f : Int64 → Int64 → Int64) (pc : Nat) (L : xL) (st : List Value) (w : xW) : Option xR := match st with
  | .long y :: .long x :: r => some (.inl (pc + 1, L, .long (f x y) :: r, w))
  | _ => none
def xun (f : Int32 → Value) (pc : Nat) (L : xL) (st : List Value) (w : xW) : Option xR := match st with
  | .int x :: r => some (.inl (pc + 1, L, f x :: r, w))
  | _ => none
def xl2i (pc : Nat) (L : xL) (st : List Value) (w : xW) : Option xR := match st with
  | .long x :: r => some (.inl (pc + 1, L, .int x.toInt32 :: r, w))
  | _ => none
def xlcmp (pc : Nat) (L : xL) (st : List Value) (w : xW) : Option xR := match st with
  | .long y :: .long x :: r => some (.inl (pc + 1, L, .int (lg_cmp x y) :: r, w))
  | _ => none
def xdup (pc : Nat) (L : xL) (st : List Value) (w : xW) : Option xR := match st with
  | v :: r => if v.category = 1 then some (.inl (pc + 1, L, v :: v :: r, w)) else none
  | _ => none
def xpop (pc : Nat) (L : xL) (st : List Value) (w : xW) : Option xR := match st with
  | v :: r => if v.category = 1 then some (.inl (pc + 1, L, r, w)) else none
  | _ => none
def xdup2 (pc : Nat) (L : xL) (st : List Value) (w : xW) : Option xR := match st with
  | v :: u :: r => if v.category = 1 ∧ u.category = 1 then some (.inl (pc + 1, L, v :: u :: v :: u :: r, w)) else none
  | _ => none
def xcnd (c : ClassFile.Cond) (x y : Int32) : Bool := match c with
  | .eq => decide (x = y)
  | .ne => decide (¬ x = y)
  | .lt => decide (x < y)
  | .ge => decide (y ≤ x)
  | .gt => decide (y < x)
  | .le => decide (x ≤ y)
def xgo (pc : Nat) (off : Int) (L : xL) (st : List Value) (w : xW) : Option xR := if 0 ≤ (pc : Int) + off then some (.inl (((pc : Int) + off).toNat, L, st, w)) else none
def xbr (b : Bool) (pc : Nat) (off : Int) (L : xL) (st : List Value) (w : xW) : Option xR := if 0 ≤ (pc : Int) + off then (if b = true then some (.inl (((pc : Int) + off).toNat, L, st, w)) else some (.inl (pc + 3, L, st, w))) else none
def xicmp (c : ClassFile.Cond) (off : Int) (pc : Nat) (L : xL) (st : List Value) (w : xW) : Option xR := match st with
  | .int y :: .int x :: r => xbr (xcnd c x y) pc off L r w
  | _ => none
def xif (c : ClassFile.Cond) (off : Int) (pc : Nat) (L : xL) (st : List Value) (w : xW) : Option xR := match st with
  | .int x :: r => xbr (xcnd c x 0) pc off L r w
  | _ => none
def xnonnull (off : Int) (pc : Nat) (L : xL) (st : List Value) (w : xW) : Option xR := match st with
  | .ref _ :: r => xgo pc off L r w
  | .null :: r => some (.inl (pc + 3, L, r, w))
  | _ => none
def xtsw (d lo hi : Int) (offs : Array Int) (pc : Nat) (L : xL) (st : List Value) (w : xW) : Option xR := match st with
  | .int x :: r => if x.toInt < lo ∨ hi < x.toInt then xgo pc d L r w else (match offs[(x.toInt - lo).toNat]? with
    | some off => xgo pc off L r w
    | none => none)
  | _ => none
def xlsw (d : Int) (ps : Array (Int × Int)) (pc : Nat) (L : xL) (st : List Value) (w : xW) : Option xR := match st with
  | .int x :: r => if (ps.toList.zip (ps.toList.drop 1)).all (fun (a, next) => a.1 < next.1) = true then xgo pc (Op.lookupswitch.offset ps.toList d x.toInt) L r w else none
  | _ => none
/-- loads out of arrays -/
def xiald (G : xG) (pc : Nat) (L : xL) (st : List Value) (w : xW) : Option xR := match st with
  | .int i :: .ref a :: r => (match w.1 a with
    | some (.inl (0, n, .inl f)) => if i < 0 ∨ n ≤ i.toNatClampNeg then none else some (.inl (pc + 1, L, .int (f i.toNatClampNeg) :: r, w))
    | some _ => none
    | none => if a = G.2.2.1 then (if i < 0 ∨ G.2.2.2.1 ≤ i.toNatClampNeg then none else some (.inl (pc + 1, L, .int (G.2.2.2.2 i.toNatClampNeg) :: r, w))) else none)
  | _ => none
def xbald (pc : Nat) (L : xL) (st : List Value) (w : xW) : Option xR := match st with
  | .int i :: .ref a :: r => (match w.1 a with
    | some (.inl (1, n, .inl f)) => if i < 0 ∨ n ≤ i.toNatClampNeg then none else some (.inl (pc + 1, L, .int (f i.toNatClampNeg) :: r, w))
    | some (.inl (2, n, .inl f)) => if i < 0 ∨ n ≤ i.toNatClampNeg then none else some (.inl (pc + 1, L, .int (f i.toNatClampNeg) :: r, w))
    | _ => none)
  | _ => none
def xaald (pc : Nat) (L : xL) (st : List Value) (w : xW) : Option xR := match st with
  | .int i :: .ref a :: r => (match w.1 a with
    | some (.inl (t, n, .inr (.inr (.inr (.inr f))))) => if i < 0 ∨ n ≤ i.toNatClampNeg ∨ t < 3 ∨ 7 < t then none else some (.inl (pc + 1, L, va_rf (f i.toNatClampNeg) :: r, w))
    | _ => none)
  | _ => none
def xalen (G : xG) (pc : Nat) (L : xL) (st : List Value) (w : xW) : Option xR := match st with
  | .ref a :: r => (match w.1 a with
    | some (.inl (t, x)) => if 7 < t then none else some (.inl (pc + 1, L, .int (Int32.ofNat x.1) :: r, w))
    | some _ => none
    | none => if a = G.2.2.1 then some (.inl (pc + 1, L, .int (Int32.ofNat G.2.2.2.1) :: r, w)) else none)
  | _ => none
/-- stores into arrays -/
def xiast (pc : Nat) (L : xL) (st : List Value) (w : xW) : Option xR := match st with
  | .int x :: .int i :: .ref a :: r => (match w.1 a with
    | some (.inl (0, n, .inl f)) => if i < 0 ∨ n ≤ i.toNatClampNeg then none else some (.inl (pc + 1, L, r, xup w.1 a (.inl (0, n, .inl (upd f i.toNatClampNeg x))), w.2))
    | _ => none)
  | _ => none
def xbast (pc : Nat) (L : xL) (st : List Value) (w : xW) : Option xR := match st with
  | .int x :: .int i :: .ref a :: r => (match w.1 a with
    | some (.inl (1, n, .inl f)) => if i < 0 ∨ n ≤ i.toNatClampNeg then none else some (.inl (pc + 1, L, r, xup w.1 a (.inl (1, n, .inl (upd f i.toNatClampNeg (vp_nar .boolean x)))), w.2))
    | some (.inl (2, n, .inl f)) => if i < 0 ∨ n ≤ i.toNatClampNeg then none else some (.inl (pc + 1, L, r, xup w.1 a (.inl (2, n, .inl (upd f i.toNatClampNeg (vp_nar .byte x)))), w.2))
    | _ => none)
  | _ => none
/-- may the cell stand in an array of kind t? -/
def xfit (t : Nat) : Option xE → Bool
  | some (.inr (ci, _)) => (t == 3 && ci == 9) || (t == 4 && ci == 6) || (t == 5 && ci == 7)
  | some (.inl (k, _)) => t == 6 && k == 0
  | none => false
def xaast (pc : Nat) (L : xL) (st : List Value) (w : xW) : Option xR := match st with
  | .ref v :: .int i :: .ref a :: r => (match w.1 a with
    | some (.inl (t, n, .inr (.inr (.inr (.inr f))))) => if i < 0 ∨ n ≤ i.toNatClampNeg then none else if xfit t (w.1 v) = true then some (.inl (pc + 1, L, r, xup w.1 a (.inl (t, n, .inr (.inr (.inr (.inr (va_up f i.toNatClampNeg (some v))))))), w.2)) else none
    | _ => none)
  | _ => none
/-- new cells -/
def xat (t : ArrayType) : Option Nat := match t with
  | .int => some 0
  | .boolean => some 1
  | .byte => some 2
  | _ => none
def xnewa (t : ArrayType) (pc : Nat) (L : xL) (st : List Value) (w : xW) : Option xR := match st with
  | .int n :: r => (match xat t with
    | some k => if n < 0 ∨ 100000 < n.toNatClampNeg then none else some (.inl (pc + 2, L, .ref w.2.1 :: r, xup w.1 w.2.1 (.inl (k, n.toNatClampNeg, .inl (fun _ => 0))), w.2.1 + 1, w.2.2 + n.toNatClampNeg))
    | none => none)
  | _ => none
def xanew (o idx pc : Nat) (L : xL) (st : List Value) (w : xW) : Option xR := match st with
  | .int n :: r => (match xNl o idx with
    | some q => if n < 0 ∨ 100000 < n.toNatClampNeg ∨ 7 < q.2.2.1 then none else some (.inl (pc + 3, L, .ref w.2.1 :: r, xup w.1 w.2.1 (.inl (q.2.2.1, n.toNatClampNeg, .inr (.inr (.inr (.inr (fun _ => none)))))), w.2.1 + 1, w.2.2 + n.toNatClampNeg))
    | none => none)
  | _ => none
/-- rows of a new array of arrays: the outer one at a, the inner ones behind it -/
def xgrid (h : xH) (a n m : Nat) (t k : Nat) : xH := fun q => if q = a then some (.inl (t, n, .inr (.inr (.inr (.inr (fun j => if j < n then some (a + 1 + j) else none)))))) else if a < q ∧ q ≤ a + n then some (.inl (k, m, .inl (fun _ => 0))) else h q
def xmulti (o idx dims pc : Nat) (L : xL) (st : List Value) (w : xW) : Option xR := match st with
  | .int m :: .int n :: r => (match xNl o idx with
    | some q => if n < 0 ∨ 1000 < n.toNatClampNeg ∨ m < 0 ∨ 1000 < m.toNatClampNeg ∨ dims ≠ 2 ∨ ¬ (q.2.2.1 = 16 ∨ q.2.2.1 = 17) then none else some (.inl (pc + 4, L, .ref w.2.1 :: r, xgrid w.1 w.2.1 n.toNatClampNeg m.toNatClampNeg (q.2.2.1 - 10) (q.2.2.1 - 16), w.2.1 + 1 + n.toNatClampNeg, w.2.2 + n.toNatClampNeg + n.toNatClampNeg * m.toNatClampNeg))
    | none => none)
  | _ => none
def xnew (o idx pc : Nat) (L : xL) (st : List Value) (w : xW) : Option xR := match xKl o idx with
  | some q => some (.inl (pc + 3, L, .ref w.2.1 :: st, xup w.1 w.2.1 (.inr (q.2.2.1, xdef q.2.2.1)), w.2.1 + 1, w.2.2 + (xdef q.2.2.1).length))
  | none => none
/-- fields -/
def xgetf (o idx pc : Nat) (L : xL) (st : List Value) (w : xW) : Option xR := match st with
  | .ref a :: r => (match w.1 a with
    | some (.inr (ci, fs)) => (match xFl o idx with
      | some q => if ci = q.2.2.1 then (match fs[q.2.2.2.1]? with
        | some v => some (.inl (pc + 3, L, v :: r, w))
        | none => none) else none
      | none => none)
    | _ => none)
  | _ => none
def xfin (ci k : Nat) : Bool := match xcl[ci]? with
  | some q => (q.2.1 k).2.2.2
  | none => true
def xputf (o idx : Nat) (init : Bool) (pc : Nat) (L : xL) (st : List Value) (w : xW) : Option xR := match st with
  | v :: .ref a :: r => (match w.1 a with
    | some (.inr (ci, fs)) => (match xFl o idx with
      | some q => if ci = q.2.2.1 ∧ q.2.2.2.1 < fs.length ∧ narrow (xtyOf ci q.2.2.2.1) v = v ∧ fits (xtyOf ci q.2.2.2.1) v = true ∧ (xfin ci q.2.2.2.1 = false ∨ (init = true ∧ o = ci ∧ q.2.2.2.2.1 = 0)) then some (.inl (pc + 3, L, r, xup w.1 a (.inr (ci, fs.set q.2.2.2.1 v)), w.2)) else none
      | none => none)
    | _ => none)
  | _ => none
def xldc (G : xG) (o idx pc : Nat) (L : xL) (st : List Value) (w : xW) : Option xR := match xDl o idx with
  | some q => if q.2.2.1 = 0 then some (.inl (pc + 2, L, .int q.2.2.2.1 :: st, w)) else some (.inl (pc + 2, L, .ref (G.1 q.2.2.2.2.1) :: st, w))
  | none => none
def xldc2 (o idx pc : Nat) (L : xL) (st : List Value) (w : xW) : Option xR := match xLl o idx with
  | some q => some (.inl (pc + 3, L, .long q.2.2.1 :: st, w))
  | none => none
def xcats (st : List Value) : Nat := (st.map fun v => v.category).sum
/-- System.arraycopy of ints -/
def xcopy (pc : Nat) (L : xL) (st : List Value) (w : xW) : Option xR := match st with
  | .int n :: .int dp :: .ref b :: .int sp :: .ref a :: r => (match w.1 a, w.1 b with
    | some (.inl (0, n0, .inl f)), some (.inl (0, n1, .inl g)) => if 8 < xcats r ∨ sp < 0 ∨ dp < 0 ∨ n < 0 ∨ n0 < sp.toNatClampNeg + n.toNatClampNeg ∨ n1 < dp.toNatClampNeg + n.toNatClampNeg then none else some (.inl (pc + 3, L, r, xup w.1 b (.inl (0, n1, .inl (va_cpy f g sp.toNatClampNeg dp.toNatClampNeg n.toNatClampNeg))), w.2))
    | _, _ => none)
  | _ => none
def xslen (G : xG) (pc : Nat) (L : xL) (st : List Value) (w : xW) : Option xR := match st with
  | .ref a :: r => (match G.2.1 a with
    | some i => if 8 < xcats r then none else some (.inl (pc + 3, L, .int (nI (xSt.getD i []).length) :: r, w))
    | none => none)
  | _ => none
def xsat (G : xG) (pc : Nat) (L : xL) (st : List Value) (w : xW) : Option xR := match st with
  | .int k :: .ref a :: r => (match G.2.1 a with
    | some i => if 8 < xcats r ∨ k < 0 ∨ (xSt.getD i []).length ≤ k.toNatClampNeg then none else some (.inl (pc + 3, L, .int (nI ((xSt.getD i []).getD k.toNatClampNeg 0)) :: r, w))
    | none => none)
  | _ => none
/-- a call, by its kind: methods of the claim; members of the JDK -/
def xcV (id : Nat) (st : List Value) (w : xW) : Option xR := match st.drop (xA id) with
  | .ref b :: r => (match w.1 b with
    | some (.inr (ci, _)) => if ci = xO id ∧ xcats r ≤ 8 then some (.inr (.inr (id, .ref b :: (st.take (xA id)).reverse, r))) else none
    | _ => none)
  | _ => none
def xcI (id : Nat) (st : List Value) : Option xR := match st.drop (xA id) with
  | .ref b :: r => if xcats r ≤ 8 ∧ xT id = none then some (.inr (.inr (id, .ref b :: (st.take (xA id)).reverse, r))) else none
  | _ => none
def xcS (id : Nat) (st : List Value) : Option xR := if xA id ≤ st.length ∧ xcats (st.drop (xA id)) ≤ 8 then some (.inr (.inr (id, (st.take (xA id)).reverse, st.drop (xA id)))) else none
def xobj (pc : Nat) (L : xL) (st : List Value) (w : xW) : Option xR := match st with
  | .ref _ :: r => if xcats r ≤ 8 then some (.inl (pc + 3, L, r, w)) else none
  | _ => none
def xmax (pc : Nat) (L : xL) (st : List Value) (w : xW) : Option xR := match st with
  | .int y :: .int x :: r => if xcats r ≤ 8 then some (.inl (pc + 3, L, .int (if x < y then y else x) :: r, w)) else none
  | _ => none
def xmin (pc : Nat) (L : xL) (st : List Value) (w : xW) : Option xR := match st with
  | .int y :: .int x :: r => if xcats r ≤ 8 then some (.inl (pc + 3, L, .int (if y < x then y else x) :: r, w)) else none
  | _ => none
def xminl (pc : Nat) (L : xL) (st : List Value) (w : xW) : Option xR := match st with
  | .long y :: .long x :: r => if xcats r ≤ 8 then some (.inl (pc + 3, L, .long (if y < x then y else x) :: r, w)) else none
  | _ => none
def xcall (G : xG) (kind id : Nat) (pc : Nat) (L : xL) (st : List Value) (w : xW) : Option xR :=
  if kind = 0 then xcV id st w
  else if kind = 1 ∨ kind = 4 then xcS id st
  else if kind = 2 ∨ kind = 3 then xcI id st
  else if kind = 5 then xobj pc L st w
  else if kind = 6 then xmax pc L st w
  else if kind = 7 then xmin pc L st w
  else if kind = 8 then xminl pc L st w
  else if kind = 9 then xcopy pc L st w
  else if kind = 10 then xslen G pc L st w
  else if kind = 11 then xsat G pc L st w
  else none
def xinv (G : xG) (op o idx d : Nat) (pc : Nat) (L : xL) (st : List Value) (w : xW) : Option xR := match xCl o idx with
  | some q => if d = 0 then none else if (op = 0 ∧ (q.2.2.1 = 0 ∨ q.2.2.1 = 10 ∨ q.2.2.1 = 11)) ∨ (op = 1 ∧ (q.2.2.1 = 2 ∨ q.2.2.1 = 3 ∨ q.2.2.1 = 5)) ∨ (op = 2 ∧ (q.2.2.1 = 1 ∨ q.2.2.1 = 4 ∨ q.2.2.1 = 6 ∨ q.2.2.1 = 7 ∨ q.2.2.1 = 8 ∨ q.2.2.1 = 9)) then xcall G q.2.2.1 q.2.2.2.1 pc L st w else none
  | none => none
def xiret (rt : Option FieldType) (st : List Value) (w : xW) : Option xR := match st with
  | [.int v] => (match rt with
    | some ty => if narrow ty (.int v) = .int v then some (.inr (.inl (some (.int v), w))) else none
    | none => none)
  | _ => none
def xlret (rt : Option FieldType) (st : List Value) (w : xW) : Option xR := match st with
  | [.long v] => if rt = some .long then some (.inr (.inl (some (.long v), w))) else none
  | _ => none
def xaret (rt : Option FieldType) (st : List Value) (w : xW) : Option xR := match st with
  | [.ref a] => (match rt with
    | some (.object _) => some (.inr (.inl (some (.ref a), w)))
    | some (.array _) => some (.inr (.inl (some (.ref a), w)))
    | _ => none)
  | _ => none
def xvret (rt : Option FieldType) (st : List Value) (w : xW) : Option xR := match st with
  | [] => if rt = none then some (.inr (.inl (none, w))) else none
  | _ => none
/-- one instruction -/
def xop (G : xG) (mi d : Nat) (ins : Instr) (pc : Nat) (L : xL) (st : List Value) (w : xW) : Option xR := match ins with
  | .aconst_null => xpush 1 .null pc L st w
  | .iconst n => xpush 1 (.int (Int32.ofInt n)) pc L st w
  | .lconst n => xpush 1 (.long (Int64.ofNat (n : Nat))) pc L st w
  | .bipush n => xpush 2 (.int (Int8.ofInt n).toInt32) pc L st w
  | .sipush n => xpush 3 (.int (Int16.ofInt n).toInt32) pc L st w
  | .ldc i => xldc G (xO mi) i pc L st w
  | .ldc2_w i => xldc2 (xO mi) i pc L st w
  | .iload i => xiload 2 i pc L st w
  | .iload_n i => xiload 1 i pc L st w
  | .lload i => xlload 2 i pc L st w
  | .lload_n i => xlload 1 i pc L st w
  | .aload i => xaload 2 i pc L st w
  | .aload_n i => xaload 1 i pc L st w
  | .istore i => xistore 2 i pc L st w
  | .istore_n i => xistore 1 i pc L st w
  | .lstore_n i => xlstore 1 i pc L st w
  | .astore i => xastore 2 i pc L st w
  | .astore_n i => xastore 1 i pc L st w
  | .iinc i k => xiinc i k pc L st w
  | .iadd => xbin (fun x y => x + y) pc L st w
  | .isub => xbin (fun x y => x - y) pc L st w
  | .imul => xbin (fun x y => x * y) pc L st w
  | .iand => xbin (fun x y => x &&& y) pc L st w
  | .ior => xbin (fun x y => x ||| y) pc L st w
  | .ishl => xbin (fun x y => x <<< (y &&& 31)) pc L st w
  | .ishr => xbin (fun x y => x >>> (y &&& 31)) pc L st w
  | .iushr => xbin (fun x y => (x.toUInt32 >>> (y.toUInt32 &&& Int32.toUInt32 31)).toInt32) pc L st w
  | .idiv => xdiv (fun x y => x / y) pc L st w
  | .irem => xdiv (fun x y => x - x / y * y) pc L st w
  | .ladd => xlbin (fun x y => x + y) pc L st w
  | .lsub => xlbin (fun x y => x - y) pc L st w
  | .lmul => xlbin (fun x y => x * y) pc L st w
  | .i2l => xun (fun x => .long x.toInt64) pc L st w
  | .i2b => xun (fun x => .int x.toInt8.toInt32) pc L st w
  | .i2c => xun (fun x => .int (x.toUInt32 % 65536).toInt32) pc L st w
  | .l2i => xl2i pc L st w
  | .lcmp => xlcmp pc L st w
  | .dup => xdup pc L st w
  | .dup2 => xdup2 pc L st w
  | .pop => xpop pc L st w
  | .if_icmp c off => xicmp c off pc L st w
  | .ifCond c off => xif c off pc L st w
  | .goto off => xgo pc off L st w
  | .ifnonnull off => xnonnull off pc L st w
  | .tableswitch df lo hi offs => xtsw df lo hi offs pc L st w
  | .lookupswitch df ps => xlsw df ps pc L st w
  | .iaload => xiald G pc L st w
  | .baload => xbald pc L st w
  | .aaload => xaald pc L st w
  | .arraylength => xalen G pc L st w
  | .iastore => xiast pc L st w
  | .bastore => xbast pc L st w
  | .aastore => xaast pc L st w
  | .newarray t => xnewa t pc L st w
  | .anewarray i => xanew (xO mi) i pc L st w
  | .multianewarray i dims => xmulti (xO mi) i dims pc L st w
  | .new i => xnew (xO mi) i pc L st w
  | .getfield i => xgetf (xO mi) i pc L st w
  | .putfield i => xputf (xO mi) i ((xY mi).name == "<init>") pc L st w
  | .invokevirtual i => xinv G 0 (xO mi) i d pc L st w
  | .invokespecial i => xinv G 1 (xO mi) i d pc L st w
  | .invokestatic i => xinv G 2 (xO mi) i d pc L st w
  | .ireturn => xiret (xT mi) st w
  | .lreturn => xlret (xT mi) st w
  | .areturn => xaret (xT mi) st w
  | .return_ => xvret (xT mi) st w
  | _ => none
/-- arguments as locals: a long takes two -/
def xargs : List Value → xL
  | [] => []
  | v :: vs => if v.category = 2 then some v :: none :: xargs vs else some v :: xargs vs
def xloc (mi : Nat) (as : List Value) : xL := xargs as ++ List.replicate (xM mi - (xargs as).length) none
/-- a run: steps left, calls left, method, frame -/
def xrun (G : xG) : Nat → Nat → Nat → xF → Option (Option Value × xW)
  | 0, _, _, _ => none
  | n + 1, d, mi, f => match xI mi f.1 with
    | none => none
    | some ins => match xop G mi d ins f.1 f.2.1 f.2.2.1 f.2.2.2 with
      | none => none
      | some (.inl f') => xrun G n d mi f'
      | some (.inr (.inl r)) => some r
      | some (.inr (.inr c)) => if (xargs c.2.1).length ≤ xM c.1 ∧ c.1 < 123 then (match xrun G n (d - 1) c.1 (0, xloc c.1 c.2.1, [], f.2.2.2) with
        | none => none
        | some r => xrun G n d mi (f.1 + 3, f.2.1, r.1.toList ++ c.2.2, r.2)) else none
end
section
/-! ===== WHAT THE SMALL MACHINE STANDS ON: tables, worlds, locals ===== -/
abbrev xtys (tA : Nat → ClassId) : List (ClassId × FieldType) := [(tA 0, .int), (tA 1, .boolean), (tA 2, .byte), (tA 3, .object "DriftStore$Write"), (tA 4, .object "DriftStore$Server"), (tA 5, .object "DriftStore$Session"), (tA 6, .array .int), (tA 7, .array .boolean)]
def xte (tA : Nat → ClassId) : xE → va_E
  | .inl (t, x) => .inl (tA t, x)
  | .inr o => .inr o
def xnw : Jvm.Cond → Bool
  | .fieldLinkNest .. | .methodLinkNest .. => true
  | _ => false
/-- what is said of the tables -/
def xK (D : va_G) (tA : Nat → ClassId) (U : State) : Prop :=
  (∀ w ∈ lw_tbl, goodWord w = true → ∀ a : Array Value, w.before a U = true) ∧ (∀ w ∈ lw_tbl, xnw w = true → va_Nw w U) ∧ va_K D xcl (xtys tA) U ∧
  va_AO "DriftStore$Write" U ∧ va_AO "DriftStore$Server" U ∧ va_AO "DriftStore$Session" U ∧ (Jvm.Cond.arrayOver (.array .int)).before #[] U = true ∧ (Jvm.Cond.arrayOver (.array .boolean)).before #[] U = true
/-- arrays of arrays are there still when the tables have moved -/
theorem xAO_moved {t : FieldType} {u U : State} (hvm : u.vm.Alike U.vm) (h : (Jvm.Cond.arrayOver (.array t)).before #[] u = true) : (Jvm.Cond.arrayOver (.array t)).before #[] U = true := by
  obtain ⟨comp, c, k, h1, h2, h3, h4, h5⟩ := arrayOverA_spec h
  obtain ⟨k', hk', he⟩ := hvm.2.2 _ _ h3
  have hi := (hvm.findIdx?_eq _ (fun _ => rfl)).trans h2
  have hkind : k'.kind = .array comp (.array t) := by rw [he]; exact h4
  have f1 : U.vm.findClass (FieldType.array t).toString = some comp := by rw [hvm.findClass]; exact h1
  have f2 : U.vm.findClass ("[" ++ (FieldType.array t).toString) = some c := by rw [hvm.findClass]; exact h5
  unfold Cond.before Cond.holds
  simp only [Cond.value]
  rw [f1, Option.bind_some]
  refine (congrArg (fun o : Option Nat => (o.bind (fun c => (U.vm.classes[c]?).map fun (k : Class) => match k.kind with | .array _ ty => decide (ty = FieldType.array t) && decide (U.vm.findClass ("[" ++ (FieldType.array t).toString) = some c) | _ => false) == some true)) hi).trans ?_
  simp [hk', hkind, f2]
theorem xK_warm {D : va_G} {tA : Nat → ClassId} {s U : State} (h : xK D tA s) (hW : s.WarmedH U.vm) : xK D tA U := by
  obtain ⟨h1, h2, h3, h4, h5, h6, h7, h8⟩ := h
  refine ⟨fun w hw hg a => word_at hW (good_of_word hg) (h1 w hw hg a), fun w hw hn => ?_, va_K.moved hW.alike h3, h4.moved hW.alike, h5.moved hW.alike, h6.moved hW.alike, xAO_moved hW.alike h7, xAO_moved hW.alike h8⟩
  have hz := h2 w hw hn
  cases w <;> first | exact va_Nw.warmF hW hz | exact va_Nw.warmM hW hz | (exact absurd hn (by simp [xnw]))
theorem xK_same {D : va_G} {tA : Nat → ClassId} {s U : State} (h : xK D tA s) (hv : U.vm = s.vm) : xK D tA U := xK_warm h (by rw [hv]; exact State.WarmedH.refl s)
/-- a word of the tables -/
theorem xK.w {D : va_G} {tA : Nat → ClassId} {U : State} (h : xK D tA U) (i : Nat) {w : Jvm.Cond} (hw : lw_tbl[i]? = some w) (hg : goodWord w = true) (a : Array Value) : w.before a U = true := h.1 w (List.mem_of_getElem? hw) hg a
theorem xK.n {D : va_G} {tA : Nat → ClassId} {U : State} (h : xK D tA U) (i : Nat) {w : Jvm.Cond} (hw : lw_tbl[i]? = some w) (hg : xnw w = true) : va_Nw w U := h.2.1 w (List.mem_of_getElem? hw) hg
/-- the world in the heap -/
def xrep (D : va_G) (tA : Nat → ClassId) (A : Nat → Prop) (H0 : Heap) (s0 : Nat) (w : xW) (H : Heap) (locs : List Loc) (cells slots : Nat) : Prop :=
  (∀ a e, w.1 a = some e → va_at D xcl (a, xte tA e) H ∧ A a) ∧ w.2.1 = H.size ∧ va_S A H0 H locs ∧ (∀ q, H0.size ≤ q → A q) ∧ H0.size + cells = w.2.1 ∧ s0 + slots = w.2.2
/-- the method that runs -/
def xCtx (mi : Nat) (p : Program) (s : State) (m : MethodId) (meth : Method) (c : Code) : Prop :=
  p.tables.exec = Jvm.exec ∧ c.code = xB mi ∧ c.maxLocals = xM mi ∧ meth.sig.returnType = xT mi ∧ s.vm.findClass (xon (xO mi)) = some m.cls ∧ meth.locks = false ∧ ((xY mi).name = "<init>" → meth.name = "<init>")
/-- the locals -/
def xpr (L : xL) : List (Nat × Value) := (List.range L.length).filterMap (fun i => match L[i]? with
  | some (some v) => some (i, v)
  | _ => none)
theorem xpr_mem {L : xL} {q : Nat × Value} : q ∈ xpr L ↔ L[q.1]? = some (some q.2) := by
  unfold xpr
  rw [List.mem_filterMap]
  constructor
  · rintro ⟨i, -, hi⟩
    split at hi
    · rename_i v hv
      cases hi
      exact hv
    · cases hi
  · intro h
    have hl : q.1 < L.length := (List.getElem?_eq_some_iff.mp h).1
    exact ⟨q.1, List.mem_range.mpr hl, by rw [h]⟩
def xlr (ls : Array Slot) (nL : Nat) (L : xL) : Prop := L.length = nL ∧ lv_has ls nL (xpr L)
theorem xlr.at {ls : Array Slot} {nL : Nat} {L : xL} (h : xlr ls nL L) {i : Nat} {v : Value} (hv : L[i]? = some (some v)) : ls[i]? = some (.val v) := h.2.2.2 (i, v) (xpr_mem.mpr hv)
theorem xst_some {L L' : xL} {i : Nat} {v : Value} (h : xst L i v = some L') : i < L.length ∧ L' = L.set i (some v) ∧ ∀ u, i ≠ 0 → L[i - 1]? = some (some u) → ¬ u.category = 2 := by
  unfold xst at h
  split at h
  · rename_i hi
    split at h
    · rename_i u hu
      split at h
      · cases h
      · rename_i hc
        cases h
        refine ⟨hi, rfl, fun u' h0 hu' => ?_⟩
        rw [if_neg h0, hu'] at hu
        cases hu
        exact hc
    · rename_i hn
      cases h
      refine ⟨hi, rfl, fun u' h0 hu' => ?_⟩
      exact absurd (by rw [if_neg h0]; exact hu') (hn u')
  · cases h
theorem xst2_some {L L' : xL} {i : Nat} {v : Value} (h : xst2 L i v = some L') : i + 1 < L.length ∧ L' = (L.set i (some v)).set (i + 1) none ∧ ∀ u, i ≠ 0 → L[i - 1]? = some (some u) → ¬ u.category = 2 := by
  unfold xst2 at h
  split at h
  · rename_i hi
    split at h
    · rename_i u hu
      split at h
      · cases h
      · rename_i hc
        cases h
        refine ⟨hi, rfl, fun u' h0 hu' => ?_⟩
        rw [if_neg h0, hu'] at hu
        cases hu
        exact hc
    · rename_i hn
      cases h
      refine ⟨hi, rfl, fun u' h0 hu' => ?_⟩
      exact absurd (by rw [if_neg h0]; exact hu') (hn u')
  · cases h
theorem xlr_set {ls' : Array Slot} {nL : Nat} {L L' : xL} {i : Nat} {v : Value} (hL : L.length = nL) (h : xst L i v = some L') (h' : lv_has ls' nL ((i, v) :: (xpr L).filter (fun q => !(q.1 == i) && !(q.1 + 1 == i && q.2.category == 2)))) : xlr ls' nL L' := by
  obtain ⟨hi, rfl, hc⟩ := xst_some h
  refine ⟨by simpa using hL, h'.1, h'.2.1, fun q hq => ?_⟩
  have hq := xpr_mem.mp hq
  apply h'.2.2
  by_cases hqi : q.1 = i
  · rw [hqi, List.getElem?_set_self hi] at hq
    cases hq
    obtain ⟨a, b⟩ := q
    cases hqi
    exact List.mem_cons_self
  · rw [List.getElem?_set_ne (Ne.symm hqi)] at hq
    refine List.mem_cons_of_mem _ (List.mem_filter.mpr ⟨xpr_mem.mpr hq, ?_⟩)
    simp only [Bool.and_eq_true, Bool.not_eq_true', beq_eq_false_iff_ne, Bool.and_eq_false_iff]
    refine ⟨hqi, ?_⟩
    by_cases h1 : q.1 + 1 = i
    · right
      refine hc q.2 (by omega) ?_
      rw [← h1]
      exact hq
    · left
      exact h1
theorem xlr_set2 {ls' : Array Slot} {nL : Nat} {L L' : xL} {i : Nat} {v : Value} (hL : L.length = nL) (h : xst2 L i v = some L') (h' : lv_has ls' nL ((i, v) :: (xpr L).filter (fun q => !(q.1 == i) && (!(q.1 == i + 1) && !(q.1 + 1 == i && q.2.category == 2))))) : xlr ls' nL L' := by
  obtain ⟨hi, rfl, hc⟩ := xst2_some h
  refine ⟨by simpa using hL, h'.1, h'.2.1, fun q hq => ?_⟩
  have hq := xpr_mem.mp hq
  apply h'.2.2
  by_cases hq1 : q.1 = i + 1
  · rw [hq1, List.getElem?_set_self (by simpa using hi)] at hq
    cases hq
  · rw [List.getElem?_set_ne (Ne.symm hq1)] at hq
    by_cases hqi : q.1 = i
    · rw [hqi, List.getElem?_set_self (by omega)] at hq
      cases hq
      obtain ⟨a, b⟩ := q
      cases hqi
      exact List.mem_cons_self
    · rw [List.getElem?_set_ne (Ne.symm hqi)] at hq
      refine List.mem_cons_of_mem _ (List.mem_filter.mpr ⟨xpr_mem.mpr hq, ?_⟩)
      simp only [Bool.and_eq_true, Bool.not_eq_true', beq_eq_false_iff_ne, Bool.and_eq_false_iff]
      refine ⟨hqi, hq1, ?_⟩
      by_cases h1 : q.1 + 1 = i
      · right
        refine hc q.2 (by omega) ?_
        rw [← h1]
        exact hq
      · left
        exact h1
/-- from here on the run goes well -/
def xnx (p : Program) (l : Launch) (e : Env) (R : Room) (s : State) (m : MethodId) (args : Array Value) (below : List Frame) (meth : Method) (c : Code) (Q : State → Prop) (D : va_G) (tA : Nat → ClassId) (A : Nat → Prop) (s0 nL : Nat) (f : xF) : Prop :=
  ∀ H locs cells slots ls, xrep D tA A s.heap s0 f.2.2.2 H locs cells slots → xlr ls nL f.2.1 → W p l e R s m args below meth c H locs cells slots Q (F0 m f.1 ls f.2.2.1)
theorem xI_dec {mi pc : Nat} {i : Instr} (h : xI mi pc = some i) : ∃ n, decode (xB mi) pc = .ok (i, n) ∧ (n = xlen i ∨ xsw i = true) := by
  unfold xI at h
  split at h
  · rename_i i' n hd
    split at h
    · rename_i hc
      cases h
      exact ⟨n, hd, hc⟩
    · cases h
  · cases h
end
section
/-! ===== the small machine is right: instructions that leave the world as it is (wip/gen/lay05.py) ===== -/
section XP
variable {p : Program} {l : Launch} {e : Env} {R : Room} {s : State} {m : MethodId} {args : Array Value} {below : List Frame} {meth : Method} {c : Code} {Q : State → Prop} {D : va_G} {tA : Nat → ClassId} {A : Nat → Prop} {s0 nL : Nat} {cc : ByteArray} {pc : Nat} {L : xL} {st : List Value} {w : xW} {f' : xF}
theorem xs_aconst_null (hx : p.tables.exec = Jvm.exec) (hb : c.code = cc)  (hdg : decode cc pc = .ok (.aconst_null, 1)) (hop : xpush 1 (.null) pc L st w = some (.inl f')) (hk : xnx p l e R s m args below meth c Q D tA A s0 nL f') : xnx p l e R s m args below meth c Q D tA A s0 nL (pc, L, st, w) := by
  cases hop
  intro H locs cells slots ls hR hL
  exact lv_null hx hb hdg (hk H locs cells slots ls hR hL)
theorem xs_iconst (hx : p.tables.exec = Jvm.exec) (hb : c.code = cc) {n : Int} (hdg : decode cc pc = .ok (.iconst n, 1)) (hop : xpush 1 (.int (Int32.ofInt n)) pc L st w = some (.inl f')) (hk : xnx p l e R s m args below meth c Q D tA A s0 nL f') : xnx p l e R s m args below meth c Q D tA A s0 nL (pc, L, st, w) := by
  cases hop
  intro H locs cells slots ls hR hL
  exact lv_iconst hx hb hdg rfl (hk H locs cells slots ls hR hL)
theorem xs_lconst (hx : p.tables.exec = Jvm.exec) (hb : c.code = cc) {n : Fin 2} (hdg : decode cc pc = .ok (.lconst n, 1)) (hop : xpush 1 (.long (Int64.ofNat (n : Nat))) pc L st w = some (.inl f')) (hk : xnx p l e R s m args below meth c Q D tA A s0 nL f') : xnx p l e R s m args below meth c Q D tA A s0 nL (pc, L, st, w) := by
  cases hop
  intro H locs cells slots ls hR hL
  exact lv_lconst hx hb hdg rfl (hk H locs cells slots ls hR hL)
theorem xs_bipush (hx : p.tables.exec = Jvm.exec) (hb : c.code = cc) {n : Int} (hdg : decode cc pc = .ok (.bipush n, 2)) (hop : xpush 2 (.int (Int8.ofInt n).toInt32) pc L st w = some (.inl f')) (hk : xnx p l e R s m args below meth c Q D tA A s0 nL f') : xnx p l e R s m args below meth c Q D tA A s0 nL (pc, L, st, w) := by
  cases hop
  intro H locs cells slots ls hR hL
  exact lv_bipush hx hb hdg rfl (hk H locs cells slots ls hR hL)
theorem xs_sipush (hx : p.tables.exec = Jvm.exec) (hb : c.code = cc) {n : Int} (hdg : decode cc pc = .ok (.sipush n, 3)) (hop : xpush 3 (.int (Int16.ofInt n).toInt32) pc L st w = some (.inl f')) (hk : xnx p l e R s m args below meth c Q D tA A s0 nL f') : xnx p l e R s m args below meth c Q D tA A s0 nL (pc, L, st, w) := by
  cases hop
  intro H locs cells slots ls hR hL
  exact lv_sipush hx hb hdg rfl (hk H locs cells slots ls hR hL)
theorem xs_iload (hx : p.tables.exec = Jvm.exec) (hb : c.code = cc) {i : Nat} (hdg : decode cc pc = .ok (.iload i, 2)) (hop : xiload 2 i pc L st w = some (.inl f')) (hk : xnx p l e R s m args below meth c Q D tA A s0 nL f') : xnx p l e R s m args below meth c Q D tA A s0 nL (pc, L, st, w) := by
  unfold xiload at hop
  split at hop
  · rename_i v hv
    cases hop
    intro H locs cells slots ls hR hL
    exact lv_iload hx hb hdg (hL.at hv) (hk H locs cells slots ls hR hL)
  · cases hop
theorem xs_iload_n (hx : p.tables.exec = Jvm.exec) (hb : c.code = cc) {i : Fin 4} (hdg : decode cc pc = .ok (.iload_n i, 1)) (hop : xiload 1 i pc L st w = some (.inl f')) (hk : xnx p l e R s m args below meth c Q D tA A s0 nL f') : xnx p l e R s m args below meth c Q D tA A s0 nL (pc, L, st, w) := by
  unfold xiload at hop
  split at hop
  · rename_i v hv
    cases hop
    intro H locs cells slots ls hR hL
    exact lv_iload_n hx hb hdg rfl (hL.at hv) (hk H locs cells slots ls hR hL)
  · cases hop
theorem xs_lload (hx : p.tables.exec = Jvm.exec) (hb : c.code = cc) {i : Nat} (hdg : decode cc pc = .ok (.lload i, 2)) (hop : xlload 2 i pc L st w = some (.inl f')) (hk : xnx p l e R s m args below meth c Q D tA A s0 nL f') : xnx p l e R s m args below meth c Q D tA A s0 nL (pc, L, st, w) := by
  unfold xlload at hop
  split at hop
  · rename_i v hv
    cases hop
    intro H locs cells slots ls hR hL
    exact lv_lload hx hb hdg (hL.at hv) (hk H locs cells slots ls hR hL)
  · cases hop
theorem xs_lload_n (hx : p.tables.exec = Jvm.exec) (hb : c.code = cc) {i : Fin 4} (hdg : decode cc pc = .ok (.lload_n i, 1)) (hop : xlload 1 i pc L st w = some (.inl f')) (hk : xnx p l e R s m args below meth c Q D tA A s0 nL f') : xnx p l e R s m args below meth c Q D tA A s0 nL (pc, L, st, w) := by
  unfold xlload at hop
  split at hop
  · rename_i v hv
    cases hop
    intro H locs cells slots ls hR hL
    exact lv_lload_n hx hb hdg rfl (hL.at hv) (hk H locs cells slots ls hR hL)
  · cases hop
theorem xs_aload (hx : p.tables.exec = Jvm.exec) (hb : c.code = cc) {i : Nat} (hdg : decode cc pc = .ok (.aload i, 2)) (hop : xaload 2 i pc L st w = some (.inl f')) (hk : xnx p l e R s m args below meth c Q D tA A s0 nL f') : xnx p l e R s m args below meth c Q D tA A s0 nL (pc, L, st, w) := by
  unfold xaload at hop
  split at hop
  · rename_i v hv
    cases hop
    intro H locs cells slots ls hR hL
    exact lv_aload hx hb hdg (hL.at hv) (hk H locs cells slots ls hR hL)
  · cases hop
theorem xs_aload_n (hx : p.tables.exec = Jvm.exec) (hb : c.code = cc) {i : Fin 4} (hdg : decode cc pc = .ok (.aload_n i, 1)) (hop : xaload 1 i pc L st w = some (.inl f')) (hk : xnx p l e R s m args below meth c Q D tA A s0 nL f') : xnx p l e R s m args below meth c Q D tA A s0 nL (pc, L, st, w) := by
  unfold xaload at hop
  split at hop
  · rename_i v hv
    cases hop
    intro H locs cells slots ls hR hL
    exact lv_aload_n hx hb hdg rfl (hL.at hv) (hk H locs cells slots ls hR hL)
  · cases hop
theorem xs_istore (hx : p.tables.exec = Jvm.exec) (hb : c.code = cc) {i : Nat} (hdg : decode cc pc = .ok (.istore i, 2)) (hop : xistore 2 i pc L st w = some (.inl f')) (hk : xnx p l e R s m args below meth c Q D tA A s0 nL f') : xnx p l e R s m args below meth c Q D tA A s0 nL (pc, L, st, w) := by
  unfold xistore at hop
  split at hop
  · rename_i v r
    obtain ⟨L', hs, he⟩ := Option.map_eq_some_iff.mp hop
    cases he
    intro H locs cells slots ls hR hL
    exact lv_istore hx hb hdg hL.2 (by have := (xst_some hs).1; rw [hL.1] at this; exact this) rfl (fun ls' h' => hk H locs cells slots ls' hR (xlr_set hL.1 hs h'))
  · cases hop
theorem xs_istore_n (hx : p.tables.exec = Jvm.exec) (hb : c.code = cc) {i : Fin 4} (hdg : decode cc pc = .ok (.istore_n i, 1)) (hop : xistore 1 i pc L st w = some (.inl f')) (hk : xnx p l e R s m args below meth c Q D tA A s0 nL f') : xnx p l e R s m args below meth c Q D tA A s0 nL (pc, L, st, w) := by
  unfold xistore at hop
  split at hop
  · rename_i v r
    obtain ⟨L', hs, he⟩ := Option.map_eq_some_iff.mp hop
    cases he
    intro H locs cells slots ls hR hL
    exact lv_istore_n hx hb hdg rfl hL.2 (by have := (xst_some hs).1; rw [hL.1] at this; exact this) rfl (fun ls' h' => hk H locs cells slots ls' hR (xlr_set hL.1 hs h'))
  · cases hop
theorem xs_astore (hx : p.tables.exec = Jvm.exec) (hb : c.code = cc) {i : Nat} (hdg : decode cc pc = .ok (.astore i, 2)) (hop : xastore 2 i pc L st w = some (.inl f')) (hk : xnx p l e R s m args below meth c Q D tA A s0 nL f') : xnx p l e R s m args below meth c Q D tA A s0 nL (pc, L, st, w) := by
  unfold xastore at hop
  split at hop
  · rename_i v r
    obtain ⟨L', hs, he⟩ := Option.map_eq_some_iff.mp hop
    cases he
    intro H locs cells slots ls hR hL
    exact lv_astore hx hb hdg hL.2 (by have := (xst_some hs).1; rw [hL.1] at this; exact this) rfl (fun ls' h' => hk H locs cells slots ls' hR (xlr_set hL.1 hs h'))
  · cases hop
theorem xs_astore_n (hx : p.tables.exec = Jvm.exec) (hb : c.code = cc) {i : Fin 4} (hdg : decode cc pc = .ok (.astore_n i, 1)) (hop : xastore 1 i pc L st w = some (.inl f')) (hk : xnx p l e R s m args below meth c Q D tA A s0 nL f') : xnx p l e R s m args below meth c Q D tA A s0 nL (pc, L, st, w) := by
  unfold xastore at hop
  split at hop
  · rename_i v r
    obtain ⟨L', hs, he⟩ := Option.map_eq_some_iff.mp hop
    cases he
    intro H locs cells slots ls hR hL
    exact lv_astore_n hx hb hdg rfl hL.2 (by have := (xst_some hs).1; rw [hL.1] at this; exact this) rfl (fun ls' h' => hk H locs cells slots ls' hR (xlr_set hL.1 hs h'))
  · cases hop
theorem xs_lstore_n (hx : p.tables.exec = Jvm.exec) (hb : c.code = cc) {i : Fin 4} (hdg : decode cc pc = .ok (.lstore_n i, 1)) (hop : xlstore 1 i pc L st w = some (.inl f')) (hk : xnx p l e R s m args below meth c Q D tA A s0 nL f') : xnx p l e R s m args below meth c Q D tA A s0 nL (pc, L, st, w) := by
  unfold xlstore at hop
  split at hop
  · rename_i v r
    obtain ⟨L', hs, he⟩ := Option.map_eq_some_iff.mp hop
    cases he
    intro H locs cells slots ls hR hL
    exact lv_lstore_n hx hb hdg rfl hL.2 (by have := (xst2_some hs).1; rw [hL.1] at this; exact this) rfl (fun ls' h' => hk H locs cells slots ls' hR (xlr_set2 hL.1 hs h'))
  · cases hop
theorem xs_iinc (hx : p.tables.exec = Jvm.exec) (hb : c.code = cc) {i : Nat} {k : Int} (hdg : decode cc pc = .ok (.iinc i k, 3)) (hop : xiinc i k pc L st w = some (.inl f')) (hk : xnx p l e R s m args below meth c Q D tA A s0 nL f') : xnx p l e R s m args below meth c Q D tA A s0 nL (pc, L, st, w) := by
  unfold xiinc at hop
  split at hop
  · rename_i v hv
    obtain ⟨L', hs, he⟩ := Option.map_eq_some_iff.mp hop
    cases he
    intro H locs cells slots ls hR hL
    obtain ⟨j, hj⟩ := List.getElem?_of_mem ((xpr_mem (q := (i, .int v))).mpr hv)
    exact lv_iinc hx hb hdg hL.2 hj rfl (by have := (xst_some hs).1; rw [hL.1] at this; exact this) rfl (fun ls' h' => hk H locs cells slots ls' hR (xlr_set hL.1 hs h'))
  · cases hop
theorem xs_iadd (hx : p.tables.exec = Jvm.exec) (hb : c.code = cc)  (hdg : decode cc pc = .ok (.iadd, 1)) (hop : xbin (fun x y => x + y) pc L st w = some (.inl f')) (hk : xnx p l e R s m args below meth c Q D tA A s0 nL f') : xnx p l e R s m args below meth c Q D tA A s0 nL (pc, L, st, w) := by
  unfold xbin at hop
  split at hop
  · rename_i y x r
    cases hop
    intro H locs cells slots ls hR hL
    exact lv_iadd hx hb hdg (hk H locs cells slots ls hR hL)
  · cases hop
theorem xs_isub (hx : p.tables.exec = Jvm.exec) (hb : c.code = cc)  (hdg : decode cc pc = .ok (.isub, 1)) (hop : xbin (fun x y => x - y) pc L st w = some (.inl f')) (hk : xnx p l e R s m args below meth c Q D tA A s0 nL f') : xnx p l e R s m args below meth c Q D tA A s0 nL (pc, L, st, w) := by
  unfold xbin at hop
  split at hop
  · rename_i y x r
    cases hop
    intro H locs cells slots ls hR hL
    exact lv_isub hx hb hdg (hk H locs cells slots ls hR hL)
  · cases hop
theorem xs_imul (hx : p.tables.exec = Jvm.exec) (hb : c.code = cc)  (hdg : decode cc pc = .ok (.imul, 1)) (hop : xbin (fun x y => x * y) pc L st w = some (.inl f')) (hk : xnx p l e R s m args below meth c Q D tA A s0 nL f') : xnx p l e R s m args below meth c Q D tA A s0 nL (pc, L, st, w) := by
  unfold xbin at hop
  split at hop
  · rename_i y x r
    cases hop
    intro H locs cells slots ls hR hL
    exact lv_imul hx hb hdg (hk H locs cells slots ls hR hL)
  · cases hop
theorem xs_iand (hx : p.tables.exec = Jvm.exec) (hb : c.code = cc)  (hdg : decode cc pc = .ok (.iand, 1)) (hop : xbin (fun x y => x &&& y) pc L st w = some (.inl f')) (hk : xnx p l e R s m args below meth c Q D tA A s0 nL f') : xnx p l e R s m args below meth c Q D tA A s0 nL (pc, L, st, w) := by
  unfold xbin at hop
  split at hop
  · rename_i y x r
    cases hop
    intro H locs cells slots ls hR hL
    exact lv_iand hx hb hdg (hk H locs cells slots ls hR hL)
  · cases hop
theorem xs_ior (hx : p.tables.exec = Jvm.exec) (hb : c.code = cc)  (hdg : decode cc pc = .ok (.ior, 1)) (hop : xbin (fun x y => x ||| y) pc L st w = some (.inl f')) (hk : xnx p l e R s m args below meth c Q D tA A s0 nL f') : xnx p l e R s m args below meth c Q D tA A s0 nL (pc, L, st, w) := by
  unfold xbin at hop
  split at hop
  · rename_i y x r
    cases hop
    intro H locs cells slots ls hR hL
    exact lv_ior hx hb hdg (hk H locs cells slots ls hR hL)
  · cases hop
theorem xs_ishl (hx : p.tables.exec = Jvm.exec) (hb : c.code = cc)  (hdg : decode cc pc = .ok (.ishl, 1)) (hop : xbin (fun x y => x <<< (y &&& 31)) pc L st w = some (.inl f')) (hk : xnx p l e R s m args below meth c Q D tA A s0 nL f') : xnx p l e R s m args below meth c Q D tA A s0 nL (pc, L, st, w) := by
  unfold xbin at hop
  split at hop
  · rename_i y x r
    cases hop
    intro H locs cells slots ls hR hL
    exact lv_ishl hx hb hdg (hk H locs cells slots ls hR hL)
  · cases hop
theorem xs_ishr (hx : p.tables.exec = Jvm.exec) (hb : c.code = cc)  (hdg : decode cc pc = .ok (.ishr, 1)) (hop : xbin (fun x y => x >>> (y &&& 31)) pc L st w = some (.inl f')) (hk : xnx p l e R s m args below meth c Q D tA A s0 nL f') : xnx p l e R s m args below meth c Q D tA A s0 nL (pc, L, st, w) := by
  unfold xbin at hop
  split at hop
  · rename_i y x r
    cases hop
    intro H locs cells slots ls hR hL
    exact lv_ishr hx hb hdg (hk H locs cells slots ls hR hL)
  · cases hop
theorem xs_iushr (hx : p.tables.exec = Jvm.exec) (hb : c.code = cc)  (hdg : decode cc pc = .ok (.iushr, 1)) (hop : xbin (fun x y => (x.toUInt32 >>> (y.toUInt32 &&& Int32.toUInt32 31)).toInt32) pc L st w = some (.inl f')) (hk : xnx p l e R s m args below meth c Q D tA A s0 nL f') : xnx p l e R s m args below meth c Q D tA A s0 nL (pc, L, st, w) := by
  unfold xbin at hop
  split at hop
  · rename_i y x r
    cases hop
    intro H locs cells slots ls hR hL
    exact lv_iushr hx hb hdg rfl (hk H locs cells slots ls hR hL)
  · cases hop
theorem xs_idiv (hx : p.tables.exec = Jvm.exec) (hb : c.code = cc)  (hdg : decode cc pc = .ok (.idiv, 1)) (hop : xdiv (fun x y => x / y) pc L st w = some (.inl f')) (hk : xnx p l e R s m args below meth c Q D tA A s0 nL f') : xnx p l e R s m args below meth c Q D tA A s0 nL (pc, L, st, w) := by
  unfold xdiv at hop
  split at hop
  · rename_i y x r
    split at hop
    · cases hop
    · rename_i hy
      cases hop
      intro H locs cells slots ls hR hL
      exact lv_idiv hx hb hdg hy (hk H locs cells slots ls hR hL)
  · cases hop
theorem xs_irem (hx : p.tables.exec = Jvm.exec) (hb : c.code = cc)  (hdg : decode cc pc = .ok (.irem, 1)) (hop : xdiv (fun x y => x - x / y * y) pc L st w = some (.inl f')) (hk : xnx p l e R s m args below meth c Q D tA A s0 nL f') : xnx p l e R s m args below meth c Q D tA A s0 nL (pc, L, st, w) := by
  unfold xdiv at hop
  split at hop
  · rename_i y x r
    split at hop
    · cases hop
    · rename_i hy
      cases hop
      intro H locs cells slots ls hR hL
      exact lv_irem hx hb hdg hy (hk H locs cells slots ls hR hL)
  · cases hop
theorem xs_ladd (hx : p.tables.exec = Jvm.exec) (hb : c.code = cc)  (hdg : decode cc pc = .ok (.ladd, 1)) (hop : xlbin (fun x y => x + y) pc L st w = some (.inl f')) (hk : xnx p l e R s m args below meth c Q D tA A s0 nL f') : xnx p l e R s m args below meth c Q D tA A s0 nL (pc, L, st, w) := by
  unfold xlbin at hop
  split at hop
  · rename_i y x r
    cases hop
    intro H locs cells slots ls hR hL
    exact lv_ladd hx hb hdg (hk H locs cells slots ls hR hL)
  · cases hop
theorem xs_lsub (hx : p.tables.exec = Jvm.exec) (hb : c.code = cc)  (hdg : decode cc pc = .ok (.lsub, 1)) (hop : xlbin (fun x y => x - y) pc L st w = some (.inl f')) (hk : xnx p l e R s m args below meth c Q D tA A s0 nL f') : xnx p l e R s m args below meth c Q D tA A s0 nL (pc, L, st, w) := by
  unfold xlbin at hop
  split at hop
  · rename_i y x r
    cases hop
    intro H locs cells slots ls hR hL
    exact lv_lsub hx hb hdg (hk H locs cells slots ls hR hL)
  · cases hop
theorem xs_lmul (hx : p.tables.exec = Jvm.exec) (hb : c.code = cc)  (hdg : decode cc pc = .ok (.lmul, 1)) (hop : xlbin (fun x y => x * y) pc L st w = some (.inl f')) (hk : xnx p l e R s m args below meth c Q D tA A s0 nL f') : xnx p l e R s m args below meth c Q D tA A s0 nL (pc, L, st, w) := by
  unfold xlbin at hop
  split at hop
  · rename_i y x r
    cases hop
    intro H locs cells slots ls hR hL
    exact lv_lmul hx hb hdg (hk H locs cells slots ls hR hL)
  · cases hop
theorem xs_i2l (hx : p.tables.exec = Jvm.exec) (hb : c.code = cc)  (hdg : decode cc pc = .ok (.i2l, 1)) (hop : xun (fun x => .long x.toInt64) pc L st w = some (.inl f')) (hk : xnx p l e R s m args below meth c Q D tA A s0 nL f') : xnx p l e R s m args below meth c Q D tA A s0 nL (pc, L, st, w) := by
  unfold xun at hop
  split at hop
  · rename_i x r
    cases hop
    intro H locs cells slots ls hR hL
    exact lv_i2l hx hb hdg rfl (hk H locs cells slots ls hR hL)
  · cases hop
theorem xs_i2b (hx : p.tables.exec = Jvm.exec) (hb : c.code = cc)  (hdg : decode cc pc = .ok (.i2b, 1)) (hop : xun (fun x => .int x.toInt8.toInt32) pc L st w = some (.inl f')) (hk : xnx p l e R s m args below meth c Q D tA A s0 nL f') : xnx p l e R s m args below meth c Q D tA A s0 nL (pc, L, st, w) := by
  unfold xun at hop
  split at hop
  · rename_i x r
    cases hop
    intro H locs cells slots ls hR hL
    exact lv_i2b hx hb hdg rfl (hk H locs cells slots ls hR hL)
  · cases hop
theorem xs_i2c (hx : p.tables.exec = Jvm.exec) (hb : c.code = cc)  (hdg : decode cc pc = .ok (.i2c, 1)) (hop : xun (fun x => .int (x.toUInt32 % 65536).toInt32) pc L st w = some (.inl f')) (hk : xnx p l e R s m args below meth c Q D tA A s0 nL f') : xnx p l e R s m args below meth c Q D tA A s0 nL (pc, L, st, w) := by
  unfold xun at hop
  split at hop
  · rename_i x r
    cases hop
    intro H locs cells slots ls hR hL
    exact lv_i2c hx hb hdg rfl (hk H locs cells slots ls hR hL)
  · cases hop
theorem xs_l2i (hx : p.tables.exec = Jvm.exec) (hb : c.code = cc)  (hdg : decode cc pc = .ok (.l2i, 1)) (hop : xl2i pc L st w = some (.inl f')) (hk : xnx p l e R s m args below meth c Q D tA A s0 nL f') : xnx p l e R s m args below meth c Q D tA A s0 nL (pc, L, st, w) := by
  unfold xl2i at hop
  split at hop
  · rename_i x r
    cases hop
    intro H locs cells slots ls hR hL
    exact lv_l2i hx hb hdg rfl (hk H locs cells slots ls hR hL)
  · cases hop
theorem xs_lcmp (hx : p.tables.exec = Jvm.exec) (hb : c.code = cc)  (hdg : decode cc pc = .ok (.lcmp, 1)) (hop : xlcmp pc L st w = some (.inl f')) (hk : xnx p l e R s m args below meth c Q D tA A s0 nL f') : xnx p l e R s m args below meth c Q D tA A s0 nL (pc, L, st, w) := by
  unfold xlcmp at hop
  split at hop
  · rename_i y x r
    cases hop
    intro H locs cells slots ls hR hL
    exact W.lcmp hx hb hdg (hk H locs cells slots ls hR hL)
  · cases hop
theorem xs_dup (hx : p.tables.exec = Jvm.exec) (hb : c.code = cc)  (hdg : decode cc pc = .ok (.dup, 1)) (hop : xdup pc L st w = some (.inl f')) (hk : xnx p l e R s m args below meth c Q D tA A s0 nL f') : xnx p l e R s m args below meth c Q D tA A s0 nL (pc, L, st, w) := by
  unfold xdup at hop
  split at hop
  · rename_i v r
    split at hop
    · rename_i hc
      cases hop
      intro H locs cells slots ls hR hL
      exact lv_dup hx hb hdg hc (hk H locs cells slots ls hR hL)
    · cases hop
  · cases hop
theorem xs_pop (hx : p.tables.exec = Jvm.exec) (hb : c.code = cc)  (hdg : decode cc pc = .ok (.pop, 1)) (hop : xpop pc L st w = some (.inl f')) (hk : xnx p l e R s m args below meth c Q D tA A s0 nL f') : xnx p l e R s m args below meth c Q D tA A s0 nL (pc, L, st, w) := by
  unfold xpop at hop
  split at hop
  · rename_i v r
    split at hop
    · rename_i hc
      cases hop
      intro H locs cells slots ls hR hL
      exact lv_pop hx hb hdg hc (hk H locs cells slots ls hR hL)
    · cases hop
  · cases hop
theorem xs_dup2 (hx : p.tables.exec = Jvm.exec) (hb : c.code = cc)  (hdg : decode cc pc = .ok (.dup2, 1)) (hop : xdup2 pc L st w = some (.inl f')) (hk : xnx p l e R s m args below meth c Q D tA A s0 nL f') : xnx p l e R s m args below meth c Q D tA A s0 nL (pc, L, st, w) := by
  unfold xdup2 at hop
  split at hop
  · rename_i v u r
    split at hop
    · rename_i hc
      cases hop
      intro H locs cells slots ls hR hL
      exact lv_dup2_11 hx hb hdg hc.1 hc.2 (hk H locs cells slots ls hR hL)
    · cases hop
  · cases hop
theorem xgo_some {off : Int} (h : xgo pc off L st w = some (.inl f')) : (pc : Int) + off = ((((pc : Int) + off).toNat : Nat) : Int) ∧ f' = (((pc : Int) + off).toNat, L, st, w) := by
  unfold xgo at h
  split at h
  · rename_i h0
    cases h
    exact ⟨(Int.toNat_of_nonneg h0).symm, rfl⟩
  · cases h
theorem xs_goto (hx : p.tables.exec = Jvm.exec) (hb : c.code = cc) {off : Int} (hdg : decode cc pc = .ok (.goto off, 3)) (hop : xgo pc off L st w = some (.inl f')) (hk : xnx p l e R s m args below meth c Q D tA A s0 nL f') : xnx p l e R s m args below meth c Q D tA A s0 nL (pc, L, st, w) := by
  obtain ⟨ht, rfl⟩ := xgo_some hop
  intro H locs cells slots ls hR hL
  exact lv_goto hx hb hdg ht (hk H locs cells slots ls hR hL)
theorem xs_ifnonnull (hx : p.tables.exec = Jvm.exec) (hb : c.code = cc) {off : Int} (hdg : decode cc pc = .ok (.ifnonnull off, 3)) (hop : xnonnull off pc L st w = some (.inl f')) (hk : xnx p l e R s m args below meth c Q D tA A s0 nL f') : xnx p l e R s m args below meth c Q D tA A s0 nL (pc, L, st, w) := by
  unfold xnonnull at hop
  split at hop
  · rename_i v r
    obtain ⟨ht, rfl⟩ := xgo_some hop
    intro H locs cells slots ls hR hL
    exact lv_ifnonnull hx hb hdg ht (hk H locs cells slots ls hR hL)
  · rename_i r
    cases hop
    intro H locs cells slots ls hR hL
    exact lv_ifnonnullN hx hb hdg (hk H locs cells slots ls hR hL)
  · cases hop
theorem xs_icmp (hx : p.tables.exec = Jvm.exec) (hb : c.code = cc) {cnd : ClassFile.Cond} {off : Int} (hdg : decode cc pc = .ok (.if_icmp cnd off, 3)) (hop : xicmp cnd off pc L st w = some (.inl f')) (hk : xnx p l e R s m args below meth c Q D tA A s0 nL f') : xnx p l e R s m args below meth c Q D tA A s0 nL (pc, L, st, w) := by
  unfold xicmp at hop
  split at hop
  · rename_i y x r
    unfold xbr at hop
    split at hop
    · rename_i h0
      have ht := (Int.toNat_of_nonneg h0).symm
      intro H locs cells slots ls hR hL
      cases cnd
      · refine lv_icmp_eq hx hb hdg ht (fun hc => ?_) (fun hc => ?_)
        · rw [if_pos (by simp [xcnd, hc])] at hop
          cases hop
          exact hk H locs cells slots ls hR hL
        · rw [if_neg (by simp [xcnd, hc])] at hop
          cases hop
          exact hk H locs cells slots ls hR hL
      · refine lv_icmp_ne hx hb hdg ht (fun hc => ?_) (fun hc => ?_)
        · rw [if_pos (by simp [xcnd, hc])] at hop
          cases hop
          exact hk H locs cells slots ls hR hL
        · rw [if_neg (by simp [xcnd, hc])] at hop
          cases hop
          exact hk H locs cells slots ls hR hL
      · refine lv_icmp_lt hx hb hdg ht (fun hc => ?_) (fun hc => ?_)
        · rw [if_pos (by simp [xcnd, hc])] at hop
          cases hop
          exact hk H locs cells slots ls hR hL
        · rw [if_neg (by simp [xcnd, hc])] at hop
          cases hop
          exact hk H locs cells slots ls hR hL
      · refine lv_icmp_ge hx hb hdg ht (fun hc => ?_) (fun hc => ?_)
        · rw [if_pos (by simp [xcnd, hc])] at hop
          cases hop
          exact hk H locs cells slots ls hR hL
        · rw [if_neg (by simp [xcnd, hc])] at hop
          cases hop
          exact hk H locs cells slots ls hR hL
      · refine lv_icmp_gt hx hb hdg ht (fun hc => ?_) (fun hc => ?_)
        · rw [if_pos (by simp [xcnd, hc])] at hop
          cases hop
          exact hk H locs cells slots ls hR hL
        · rw [if_neg (by simp [xcnd, hc])] at hop
          cases hop
          exact hk H locs cells slots ls hR hL
      · refine lv_icmp_le hx hb hdg ht (fun hc => ?_) (fun hc => ?_)
        · rw [if_pos (by simp [xcnd, hc])] at hop
          cases hop
          exact hk H locs cells slots ls hR hL
        · rw [if_neg (by simp [xcnd, hc])] at hop
          cases hop
          exact hk H locs cells slots ls hR hL
    · cases hop
  · cases hop
theorem xs_if (hx : p.tables.exec = Jvm.exec) (hb : c.code = cc) {cnd : ClassFile.Cond} {off : Int} (hdg : decode cc pc = .ok (.ifCond cnd off, 3)) (hop : xif cnd off pc L st w = some (.inl f')) (hk : xnx p l e R s m args below meth c Q D tA A s0 nL f') : xnx p l e R s m args below meth c Q D tA A s0 nL (pc, L, st, w) := by
  unfold xif at hop
  split at hop
  · rename_i x r
    unfold xbr at hop
    split at hop
    · rename_i h0
      have ht := (Int.toNat_of_nonneg h0).symm
      intro H locs cells slots ls hR hL
      cases cnd
      · refine lv_if_eq hx hb hdg ht (fun hc => ?_) (fun hc => ?_)
        · rw [if_pos (by simp [xcnd, hc])] at hop
          cases hop
          exact hk H locs cells slots ls hR hL
        · rw [if_neg (by simp [xcnd, hc])] at hop
          cases hop
          exact hk H locs cells slots ls hR hL
      · refine lv_if_ne hx hb hdg ht (fun hc => ?_) (fun hc => ?_)
        · rw [if_pos (by simp [xcnd, hc])] at hop
          cases hop
          exact hk H locs cells slots ls hR hL
        · rw [if_neg (by simp [xcnd, hc])] at hop
          cases hop
          exact hk H locs cells slots ls hR hL
      · refine lv_if_lt hx hb hdg ht (fun hc => ?_) (fun hc => ?_)
        · rw [if_pos (by simp [xcnd, hc])] at hop
          cases hop
          exact hk H locs cells slots ls hR hL
        · rw [if_neg (by simp [xcnd, hc])] at hop
          cases hop
          exact hk H locs cells slots ls hR hL
      · refine lv_if_ge hx hb hdg ht (fun hc => ?_) (fun hc => ?_)
        · rw [if_pos (by simp [xcnd, hc])] at hop
          cases hop
          exact hk H locs cells slots ls hR hL
        · rw [if_neg (by simp [xcnd, hc])] at hop
          cases hop
          exact hk H locs cells slots ls hR hL
      · refine lv_if_gt hx hb hdg ht (fun hc => ?_) (fun hc => ?_)
        · rw [if_pos (by simp [xcnd, hc])] at hop
          cases hop
          exact hk H locs cells slots ls hR hL
        · rw [if_neg (by simp [xcnd, hc])] at hop
          cases hop
          exact hk H locs cells slots ls hR hL
      · refine lv_if_le hx hb hdg ht (fun hc => ?_) (fun hc => ?_)
        · rw [if_pos (by simp [xcnd, hc])] at hop
          cases hop
          exact hk H locs cells slots ls hR hL
        · rw [if_neg (by simp [xcnd, hc])] at hop
          cases hop
          exact hk H locs cells slots ls hR hL
    · cases hop
  · cases hop
theorem xs_tsw (hx : p.tables.exec = Jvm.exec) (hb : c.code = cc) {df lo hi : Int} {offs : Array Int} {len : Nat} (hdg : decode cc pc = .ok (.tableswitch df lo hi offs, len)) (hop : xtsw df lo hi offs pc L st w = some (.inl f')) (hk : xnx p l e R s m args below meth c Q D tA A s0 nL f') : xnx p l e R s m args below meth c Q D tA A s0 nL (pc, L, st, w) := by
  unfold xtsw at hop
  split at hop
  · rename_i x r
    split at hop
    · rename_i h0
      obtain ⟨ht, rfl⟩ := xgo_some hop
      intro H locs cells slots ls hR hL
      exact lv_tableOut hx hb hdg h0 ht (hk H locs cells slots ls hR hL)
    · rename_i h0
      split at hop
      · rename_i off ho
        obtain ⟨ht, rfl⟩ := xgo_some hop
        intro H locs cells slots ls hR hL
        exact lv_tableIn hx hb hdg (fun z => h0 (Or.inl z)) (fun z => h0 (Or.inr z)) ho ht (hk H locs cells slots ls hR hL)
      · cases hop
  · cases hop
theorem xs_lsw (hx : p.tables.exec = Jvm.exec) (hb : c.code = cc) {df : Int} {ps : Array (Int × Int)} {len : Nat} (hdg : decode cc pc = .ok (.lookupswitch df ps, len)) (hop : xlsw df ps pc L st w = some (.inl f')) (hk : xnx p l e R s m args below meth c Q D tA A s0 nL f') : xnx p l e R s m args below meth c Q D tA A s0 nL (pc, L, st, w) := by
  unfold xlsw at hop
  split at hop
  · rename_i x r
    split at hop
    · rename_i h0
      obtain ⟨ht, rfl⟩ := xgo_some hop
      intro H locs cells slots ls hR hL
      exact lv_lookup hx hb hdg h0 rfl ht (hk H locs cells slots ls hR hL)
    · cases hop
  · cases hop
end XP
end
section
/-! ===== the small machine is right: arrays, fields, new cells ===== -/
theorem xP1 {D : va_G} {cl : List vw_C} {q : Nat × va_E} {H : Heap} (h : va_at D cl q H) : va_P D cl [q] H := by
  intro k q' hk
  have hz : k < 1 := (List.getElem?_eq_some_iff.mp hk).1
  rw [show k = 0 by omega] at hk
  cases hk
  exact h
theorem xrep_put {D : va_G} {tA : Nat → ClassId} {A : Nat → Prop} {H0 : Heap} {s0 : Nat} {w : xW} {H H1 : Heap} {locs : List Loc} {cells slots a k : Nat} {e0 e : xE} (h : xrep D tA A H0 s0 w H locs cells slots) (ha : w.1 a = some e0) (he : va_at D xcl (a, xte tA e) H1) (z : H1.size = H.size) (oq : ∀ q : Nat, q ≠ a → H1[q]? = H[q]?) : xrep D tA A H0 s0 (xup w.1 a e, w.2) H1 (locs ++ [⟨a, k⟩]) cells slots := by
  obtain ⟨h1, h2, h3, h4, h5, h6⟩ := h
  have hA := (h1 a e0 ha).2
  refine ⟨fun b e' hb => ?_, by rw [z]; exact h2, h3.put z oq hA, h4, h5, h6⟩
  by_cases hba : b = a
  · subst hba
    have : e = e' := by simpa [xup] using hb
    subst this
    exact ⟨he, hA⟩
  · have hb' : w.1 b = some e' := by simpa [xup, hba] using hb
    exact ⟨(h1 b e' hb').1.kept (oq b hba), (h1 b e' hb').2⟩
theorem xrep_new {D : va_G} {tA : Nat → ClassId} {A : Nat → Prop} {H0 : Heap} {s0 n : Nat} {w : xW} {H H1 : Heap} {locs : List Loc} {cells slots : Nat} {e : xE} (h : xrep D tA A H0 s0 w H locs cells slots) (z : H1.size = H.size + 1) (o1 : ∀ q : Nat, q < H.size → H1[q]? = H[q]?) (he : va_at D xcl (H.size, xte tA e) H1) : xrep D tA A H0 s0 (xup w.1 w.2.1 e, w.2.1 + 1, w.2.2 + n) H1 locs (cells + 1) (slots + n) := by
  obtain ⟨h1, h2, h3, h4, h5, h6⟩ := h
  refine ⟨fun b e' hb => ?_, by show w.2.1 + 1 = _; rw [z, h2], ⟨by rw [z]; exact Nat.le_succ_of_le h3.1, fun q g1 g2 => (o1 q (Nat.lt_of_lt_of_le g1 h3.1)).trans (h3.2.1 q g1 g2), h3.2.2⟩, h4, by show _ = w.2.1 + 1; omega, by show _ = w.2.2 + n; omega⟩
  by_cases hba : b = w.2.1
  · subst hba
    have : e = e' := by simpa [xup] using hb
    subst this
    rw [h2]
    exact ⟨he, h4 _ (by rw [← h2, ← h5]; omega)⟩
  · have hb' : w.1 b = some e' := by simpa [xup, hba] using hb
    exact ⟨(h1 b e' hb').1.kept (o1 b (h1 b e' hb').1.lt), (h1 b e' hb').2⟩
/-- what is never written: the script, the texts, a static of String -/
def xSl : List Nat := xSt.map List.length
def xSb : List (List Int32) := xSt.map (fun l => l.map nI)
def xro (G : xG) (adV : Nat → Nat) (A : Nat → Prop) (s : State) (H : Heap) : Prop :=
  va_X G.2.2.1 G.2.2.2.1 G.2.2.2.2 s H ∧ G.2.2.1 < H.size ∧ ¬ A G.2.2.1 ∧ vk_S 18 xSl xSb G.1 adV A s H ∧ (∀ q ∈ xDt, q.2.2.1 = 1 → vk_R (xon q.1) q.2.1 (xSn.getD q.2.2.2.2.1 "") (G.1 q.2.2.2.2.1) s) ∧ (∀ a i, G.2.1 a = some i → i < 18 ∧ a = G.1 i) ∧ va_Z "java/lang/String" "COMPACT_STRINGS" "Z" (.int 1) A s H ∧ va_Zq "jdk/internal/util/Preconditions" "SIOOBE_FORMATTER" "Ljava/util/function/BiFunction;" A s H
section XH
variable {p : Program} {l : Launch} {e : Env} {R : Room} {s : State} {m : MethodId} {args : Array Value} {below : List Frame} {meth : Method} {c : Code} {Q : State → Prop} {D : va_G} {tA : Nat → ClassId} {A : Nat → Prop} {s0 nL : Nat} {cc : ByteArray} {pc : Nat} {L : xL} {st : List Value} {w : xW} {f' : xF} {G : xG} {adV : Nat → Nat}
theorem xs_iaload (hx : p.tables.exec = Jvm.exec) (hb : c.code = cc) (hK : xK D tA s) (hro : xro G adV A s s.heap) (hdg : decode cc pc = .ok (.iaload, 1)) (hop : xiald G pc L st w = some (.inl f')) (hk : xnx p l e R s m args below meth c Q D tA A s0 nL f') : xnx p l e R s m args below meth c Q D tA A s0 nL (pc, L, st, w) := by
  unfold xiald at hop
  split at hop
  · rename_i i a r
    split at hop
    · rename_i n f ha
      split at hop
      · cases hop
      · rename_i hin
        cases hop
        intro H locs cells slots ls hR hL
        exact va_iald hx hb hK.2.2.1 (xP1 (hR.1 a _ ha).1) 0 0 rfl rfl hin hdg (hk H locs cells slots ls hR hL)
    · cases hop
    · split at hop
      · rename_i ha
        subst ha
        split at hop
        · cases hop
        · rename_i hin
          cases hop
          intro H locs cells slots ls hR hL
          exact va_sld hx hb hro.1 hro.2.1 hro.2.2.1 hR.2.2.1 hin hdg (hk H locs cells slots ls hR hL)
      · cases hop
  · cases hop
theorem xs_baload (hx : p.tables.exec = Jvm.exec) (hb : c.code = cc) (hK : xK D tA s) (hdg : decode cc pc = .ok (.baload, 1)) (hop : xbald pc L st w = some (.inl f')) (hk : xnx p l e R s m args below meth c Q D tA A s0 nL f') : xnx p l e R s m args below meth c Q D tA A s0 nL (pc, L, st, w) := by
  unfold xbald at hop
  split at hop
  · rename_i i a r
    split at hop
    · rename_i n f ha
      split at hop
      · cases hop
      · rename_i hin
        cases hop
        intro H locs cells slots ls hR hL
        exact va_zald hx hb hK.2.2.1 (xP1 (hR.1 a _ ha).1) 0 1 rfl rfl hin hdg (hk H locs cells slots ls hR hL)
    · rename_i n f ha
      split at hop
      · cases hop
      · rename_i hin
        cases hop
        intro H locs cells slots ls hR hL
        exact va_bald hx hb hK.2.2.1 (xP1 (hR.1 a _ ha).1) 0 2 rfl rfl hin hdg (hk H locs cells slots ls hR hL)
    · cases hop
  · cases hop
theorem xs_aald1 (hx : p.tables.exec = Jvm.exec) (hb : c.code = cc) {ty : FieldType} (hty : ty.isReference = true) {cA : ClassId} (hA : ArrOfT s cA ty) {H : Heap} {locs : List Loc} {cells slots n a : Nat} {ls : Array Slot} {f : Nat → Option Nat} {i : Int32} {r : List Value} (ha : H[a]? = some (vp_cell cA (n, .inr (.inr (.inr (.inr f)))))) (hin : ¬ (i < 0 ∨ n ≤ i.toNatClampNeg)) (hdg : decode cc pc = .ok (.aaload, 1)) (kk : W p l e R s m args below meth c H locs cells slots Q (F0 m (pc + 1) ls (va_rf (f i.toNatClampNeg) :: r))) : W p l e R s m args below meth c H locs cells slots Q (F0 m pc ls (.int i :: .ref a :: r)) := by
  have hlt : i.toNatClampNeg < n := Nat.not_le.mp fun q => hin (Or.inr q)
  exact W.aald (v := va_rf (f i.toNatClampNeg)) (ty := ty) hx hb ha (hA n (fun j => va_rf (f j))) hty (fun q => by cases q) (by show ¬ (i < 0 ∨ (arrV _ _ _).slots.size ≤ _); rw [arrV_size]; exact hin) (by show (arrV _ _ _).slots[_]? = _; rw [arrV_read _ _ hlt]) rfl rfl hdg kk
/-- the kinds of arrays of references -/
theorem xarr {t : Nat} (hK : xK D tA s) (h1 : ¬ t < 3) (h2 : ¬ 7 < t) : ∃ ty : FieldType, ty.isReference = true ∧ ArrOfT s (tA t) ty := by
  have hk := hK.2.2.1.2
  have h : t = 3 ∨ t = 4 ∨ t = 5 ∨ t = 6 ∨ t = 7 := by omega
  rcases h with rfl | rfl | rfl | rfl | rfl
  · exact ⟨_, rfl, (hk 3 _ rfl).1⟩
  · exact ⟨_, rfl, (hk 4 _ rfl).1⟩
  · exact ⟨_, rfl, (hk 5 _ rfl).1⟩
  · exact ⟨_, rfl, (hk 6 _ rfl).1⟩
  · exact ⟨_, rfl, (hk 7 _ rfl).1⟩
theorem xarr0 {t : Nat} (hK : xK D tA s) (h2 : ¬ 7 < t) : ∃ ty : FieldType, (xtys tA)[t]? = some (tA t, ty) := by
  have h : t = 0 ∨ t = 1 ∨ t = 2 ∨ t = 3 ∨ t = 4 ∨ t = 5 ∨ t = 6 ∨ t = 7 := by omega
  rcases h with rfl | rfl | rfl | rfl | rfl | rfl | rfl | rfl <;> exact ⟨_, rfl⟩
theorem xs_aaload (hx : p.tables.exec = Jvm.exec) (hb : c.code = cc) (hK : xK D tA s) (hdg : decode cc pc = .ok (.aaload, 1)) (hop : xaald pc L st w = some (.inl f')) (hk : xnx p l e R s m args below meth c Q D tA A s0 nL f') : xnx p l e R s m args below meth c Q D tA A s0 nL (pc, L, st, w) := by
  unfold xaald at hop
  split at hop
  · rename_i i a r
    split at hop
    · rename_i t n f ha
      split at hop
      · cases hop
      · rename_i hin
        cases hop
        intro H locs cells slots ls hR hL
        obtain ⟨ty, h1, h2⟩ := xarr (t := t) hK (fun z => hin (Or.inr (Or.inr (Or.inl z)))) (fun z => hin (Or.inr (Or.inr (Or.inr z))))
        exact xs_aald1 hx hb h1 h2 (hR.1 a _ ha).1 (fun z => hin (z.elim Or.inl (fun z => Or.inr (Or.inl z)))) hdg (hk H locs cells slots ls hR hL)
    · cases hop
  · cases hop
theorem xs_arraylength (hx : p.tables.exec = Jvm.exec) (hb : c.code = cc) (hK : xK D tA s) (hro : xro G adV A s s.heap) (hdg : decode cc pc = .ok (.arraylength, 1)) (hop : xalen G pc L st w = some (.inl f')) (hk : xnx p l e R s m args below meth c Q D tA A s0 nL f') : xnx p l e R s m args below meth c Q D tA A s0 nL (pc, L, st, w) := by
  unfold xalen at hop
  split at hop
  · rename_i a r
    split at hop
    · rename_i t x ha
      split at hop
      · cases hop
      · rename_i h7
        cases hop
        intro H locs cells slots ls hR hL
        obtain ⟨ty, ht⟩ := xarr0 hK h7
        exact va_alen hx hb hK.2.2.1 (xP1 (hR.1 a _ ha).1) 0 t rfl ht rfl hdg (hk H locs cells slots ls hR hL)
    · cases hop
    · split at hop
      · rename_i ha
        subst ha
        cases hop
        intro H locs cells slots ls hR hL
        exact va_slen hx hb hro.1 hro.2.1 hro.2.2.1 hR.2.2.1 hdg (hk H locs cells slots ls hR hL)
      · cases hop
  · cases hop
theorem xs_iastore (hx : p.tables.exec = Jvm.exec) (hb : c.code = cc) (hK : xK D tA s) (hdg : decode cc pc = .ok (.iastore, 1)) (hop : xiast pc L st w = some (.inl f')) (hk : xnx p l e R s m args below meth c Q D tA A s0 nL f') : xnx p l e R s m args below meth c Q D tA A s0 nL (pc, L, st, w) := by
  unfold xiast at hop
  split at hop
  · rename_i x i a r
    split at hop
    · rename_i n f ha
      split at hop
      · cases hop
      · rename_i hin
        cases hop
        intro H locs cells slots ls hR hL
        refine W.iast hx hb (hR.1 a _ ha).1 ((hK.2.2.1.2 0 _ rfl).1 n (fun j => .int (f j))) (fun q => by cases q) (by show ¬ (i < 0 ∨ (arrV _ _ _).slots.size ≤ _); rw [arrV_size]; exact hin) rfl rfl hdg fun H1 e1 z oq => ?_
        refine hk H1 _ cells slots ls (xrep_put hR ha ?_ z oq) hL
        show H1[a]? = some (vp_cell _ _)
        rw [e1]
        show some ((vp_cell (tA 0) (n, .inl f)).setSlot _ _) = _
        rw [vp_cell_i, vp_cell_i, arrV_store]
        congr 2
        funext q
        by_cases hq : q = i.toNatClampNeg
        · subst hq
          simp [updV, upd]
        · simp [updV, upd, hq]
    · cases hop
  · cases hop
theorem xs_bastore (hx : p.tables.exec = Jvm.exec) (hb : c.code = cc) (hK : xK D tA s) (hdg : decode cc pc = .ok (.bastore, 1)) (hop : xbast pc L st w = some (.inl f')) (hk : xnx p l e R s m args below meth c Q D tA A s0 nL f') : xnx p l e R s m args below meth c Q D tA A s0 nL (pc, L, st, w) := by
  unfold xbast at hop
  split at hop
  · rename_i x i a r
    split at hop
    · rename_i n f ha
      split at hop
      · cases hop
      · rename_i hin
        cases hop
        intro H locs cells slots ls hR hL
        refine W.zast hx hb (hR.1 a _ ha).1 ((hK.2.2.1.2 1 _ rfl).1 n (fun j => .int (f j))) (fun q => by cases q) (by show ¬ (i < 0 ∨ (arrV _ _ _).slots.size ≤ _); rw [arrV_size]; exact hin) rfl rfl hdg fun H1 e1 z oq => ?_
        refine hk H1 _ cells slots ls (xrep_put hR ha ?_ z oq) hL
        show H1[a]? = some (vp_cell _ _)
        rw [e1]
        show some ((vp_cell (tA 1) (n, .inl f)).setSlot _ _) = _
        rw [vp_cell_i, vp_cell_i, arrV_store]
        congr 2
        funext q
        by_cases hq : q = i.toNatClampNeg
        · subst hq
          simp [updV, upd, vp_nar]
          try rfl
        · simp [updV, upd, hq]
    · rename_i n f ha
      split at hop
      · cases hop
      · rename_i hin
        cases hop
        intro H locs cells slots ls hR hL
        refine W.bast hx hb (hR.1 a _ ha).1 ((hK.2.2.1.2 2 _ rfl).1 n (fun j => .int (f j))) (fun q => by cases q) (by show ¬ (i < 0 ∨ (arrV _ _ _).slots.size ≤ _); rw [arrV_size]; exact hin) rfl rfl hdg fun H1 e1 z oq => ?_
        refine hk H1 _ cells slots ls (xrep_put hR ha ?_ z oq) hL
        show H1[a]? = some (vp_cell _ _)
        rw [e1]
        show some ((vp_cell (tA 2) (n, .inl f)).setSlot _ _) = _
        rw [vp_cell_i, vp_cell_i, arrV_store]
        congr 2
        funext q
        by_cases hq : q = i.toNatClampNeg
        · subst hq
          simp [updV, upd, vp_nar]
          try rfl
        · simp [updV, upd, hq]
    · cases hop
  · cases hop
/-- a reference laid into an array of references -/
theorem xs_aast1 (hx : p.tables.exec = Jvm.exec) (hb : c.code = cc) {H : Heap} {locs : List Loc} {cells slots n a v t : Nat} {ls : Array Slot} {f : Nat → Option Nat} {i : Int32} {r : List Value} {kA kC : Class} {comp : ClassId} {ty : FieldType} {cv : Cell} (hR : xrep D tA A s.heap s0 w H locs cells slots) (hL : xlr ls nL L) (ha : w.1 a = some (.inl (t, n, .inr (.inr (.inr (.inr f)))))) (hin : ¬ (i < 0 ∨ n ≤ i.toNatClampNeg))
    (h1 : s.vm.classes[tA t]? = some kA) (h2 : kA.kind = .array comp ty) (hty : ty.isReference = true) (h3 : s.vm.classes[comp]? = some kC) (g1 : H[v]? = some cv) (g2 : ∀ q, cv.vm ≠ .statics q) (g3 : cv.cls = comp) (g4 : s.vm.assignable comp comp = true) (hdg : decode cc pc = .ok (.aastore, 1))
    (hk : xnx p l e R s m args below meth c Q D tA A s0 nL (pc + 1, L, r, xup w.1 a (.inl (t, n, .inr (.inr (.inr (.inr (va_up f i.toNatClampNeg (some v))))))), w.2)) : W p l e R s m args below meth c H locs cells slots Q (F0 m pc ls (.ref v :: .int i :: .ref a :: r)) := by
  have hlt : i.toNatClampNeg < n := Nat.not_le.mp fun q => hin (Or.inr q)
  have h0 : ¬ i < 0 := fun q => hin (Or.inl q)
  refine W.aast hx hb (hR.1 a _ ha).1 (fun q h => by cases h) (fun h => by cases h) h1 h2 hty h3 ⟨h0, by show _ < (arrV _ _ _).slots.size; rw [arrV_size]; exact hlt⟩ g1 g2 (by rw [g3]; exact h3) (by rw [g3]; exact g4) rfl rfl hdg fun H1 e1 z oq => ?_
  refine hk H1 _ cells slots ls (xrep_put hR ha ?_ z oq) hL
  show H1[a]? = some (vp_cell _ _)
  rw [e1]
  show some ((vp_cell (tA t) (n, .inr (.inr (.inr (.inr f))))).setSlot _ _) = _
  rw [vp_cell_q, vp_cell_q, arrV_store]
  congr 2
  funext q
  by_cases hq : q = i.toNatClampNeg
  · subst hq
    simp [updV, va_up, va_rf]
  · simp [updV, va_up, hq]
end XH
end
section
/-! ===== the small machine is right: fields, new cells, constants ===== -/
/-- what a program has decided of the classes -/
theorem xcl_ok : ∀ (ci : Nat) (r : vw_C), xcl[ci]? = some r → (∀ w ∈ u_ws r.1 r.2.1 r.2.2, w ∈ lw_tbl) ∧ (∀ a, a < r.2.2 → ∀ b, b < r.2.2 → a ≠ b → (r.2.1 a).2.1 ≠ (r.2.1 b).2.1) ∧ (∀ k, k < r.2.2 → parseFieldDescriptor (r.2.1 k).2.2.1 = some (xtyOf ci k)) ∧ (xdef ci).length = r.2.2 ∧ ∀ j, j < r.2.2 → defaultValue (xtyOf ci j) = vp_V (xdef ci) j
  | 0, _, h => by
    cases h
    exact ⟨xin0, xnm0, xtk0, rfl, by decide +kernel⟩
  | 1, _, h => by
    cases h
    exact ⟨xin1, xnm1, xtk1, rfl, by decide +kernel⟩
  | 2, _, h => by
    cases h
    exact ⟨xin2, xnm2, xtk2, rfl, by decide +kernel⟩
  | 3, _, h => by
    cases h
    exact ⟨xin3, xnm3, xtk3, rfl, by decide +kernel⟩
  | 4, _, h => by
    cases h
    exact ⟨xin4, xnm4, xtk4, rfl, by decide +kernel⟩
  | 5, _, h => by
    cases h
    exact ⟨xin5, xnm5, xtk5, rfl, by decide +kernel⟩
  | 6, _, h => by
    cases h
    exact ⟨xin6, xnm6, xtk6, rfl, by decide +kernel⟩
  | 7, _, h => by
    cases h
    exact ⟨xin7, xnm7, xtk7, rfl, by decide +kernel⟩
  | 8, _, h => by
    cases h
    exact ⟨xin8, xnm8, xtk8, rfl, by decide +kernel⟩
  | 9, _, h => by
    cases h
    exact ⟨xin9, xnm9, xtk9, rfl, by decide +kernel⟩
  | 10, _, h => by
    cases h
    exact ⟨xin10, xnm10, xtk10, rfl, by decide +kernel⟩
  | n + 11, _, h => by
    exfalso
    have := (List.getElem?_eq_some_iff.mp h).1
    simp at this
    omega
theorem xlay_good {C : String} {T : u_T} {N : Nat} : ∀ w ∈ u_ws C T N, goodWord w = true := by
  intro w hw
  obtain ⟨k, -, rfl⟩ := List.mem_map.mp hw
  unfold u_lay
  split <;> rfl
def xFok (q : Nat × Nat × Nat × Nat × Nat × Nat) : Bool := match xcl[q.2.2.1]? with
  | some r => decide (q.2.2.2.1 < r.2.2) && decide ((r.2.1 q.2.2.2.1).1 = xon q.2.2.1) && decide (lw_tbl[q.2.2.2.2.2]? = some (if q.2.2.2.2.1 = 0 then Jvm.Cond.fieldLink (xon q.1) q.2.1 (r.2.1 q.2.2.2.1).1 (r.2.1 q.2.2.2.1).2.1 (r.2.1 q.2.2.2.1).2.2.1 else Jvm.Cond.fieldLinkNest (xon q.1) q.2.1 (r.2.1 q.2.2.2.1).1 (r.2.1 q.2.2.2.1).2.1 (r.2.1 q.2.2.2.1).2.2.1 "DriftStore"))
  | none => false
set_option maxRecDepth 100000 in
theorem xFt_ok : xFt.all xFok = true := by decide +kernel
theorem xFl_some {o i : Nat} {q : Nat × Nat × Nat × Nat × Nat × Nat} (h : xFl o i = some q) : q.1 = o ∧ q.2.1 = i ∧ ∃ r, xcl[q.2.2.1]? = some r ∧ q.2.2.2.1 < r.2.2 ∧ (r.2.1 q.2.2.2.1).1 = xon q.2.2.1 ∧ lw_tbl[q.2.2.2.2.2]? = some (if q.2.2.2.2.1 = 0 then Jvm.Cond.fieldLink (xon o) i (r.2.1 q.2.2.2.1).1 (r.2.1 q.2.2.2.1).2.1 (r.2.1 q.2.2.2.1).2.2.1 else Jvm.Cond.fieldLinkNest (xon o) i (r.2.1 q.2.2.2.1).1 (r.2.1 q.2.2.2.1).2.1 (r.2.1 q.2.2.2.1).2.2.1 "DriftStore") := by
  have hm := List.mem_of_find?_eq_some h
  have hp := List.find?_some h
  simp only [Bool.and_eq_true, beq_iff_eq] at hp
  obtain ⟨rfl, rfl⟩ := hp
  have hk := List.all_eq_true.mp xFt_ok q hm
  unfold xFok at hk
  split at hk
  · rename_i r hr
    simp only [Bool.and_eq_true, decide_eq_true_eq] at hk
    exact ⟨rfl, rfl, r, hr, hk.1.1, hk.1.2, hk.2⟩
  · cases hk
section XN
variable {p : Program} {l : Launch} {e : Env} {R : Room} {s : State} {m : MethodId} {args : Array Value} {below : List Frame} {meth : Method} {c : Code} {Q : State → Prop} {D : va_G} {tA : Nat → ClassId} {A : Nat → Prop} {s0 nL : Nat} {cc : ByteArray} {pc : Nat} {L : xL} {st : List Value} {w : xW} {f' : xF} {G : xG} {adV : Nat → Nat} {o : Nat}
theorem xs_aastore (hx : p.tables.exec = Jvm.exec) (hb : c.code = cc) (hK : xK D tA s) (hdg : decode cc pc = .ok (.aastore, 1)) (hop : xaast pc L st w = some (.inl f')) (hk : xnx p l e R s m args below meth c Q D tA A s0 nL f') : xnx p l e R s m args below meth c Q D tA A s0 nL (pc, L, st, w) := by
  unfold xaast at hop
  split at hop
  · rename_i v i a r
    split at hop
    · rename_i t n f ha
      split at hop
      · cases hop
      · rename_i hin
        split at hop
        · rename_i hf
          cases hop
          intro H locs cells slots ls hR hL
          have hKv := hK.2.2.1
          have obj : ∀ (ci : Nat) (r8 : vw_C) (fs : List Value), xcl[ci]? = some r8 → w.1 v = some (.inr (ci, fs)) → (xtys tA)[t]? = some (tA t, .object r8.1) → W p l e R s m args below meth c H locs cells slots Q (F0 m pc ls (.ref v :: .int i :: .ref a :: r)) := by
            intro ci r9 fs hc hv ht
            obtain ⟨r', hr', cellV, g1, g2, g3, -⟩ := (hR.1 v _ hv).1
            have hcls := (hKv.1 ci r9 hc).2
            obtain ⟨kA, comp, k1, k2, k3, -⟩ := (hKv.2 t _ ht).2
            have hcomp : comp = D.1 ci := Option.some.inj (k3.symm.trans hcls.1)
            subst hcomp
            obtain ⟨kC, hkC, -⟩ := hcls.2
            exact xs_aast1 hx hb hR hL ha hin k1 k2 rfl hkC g1 (fun q h => by rw [g3] at h; cases h) g2 (va_asg _ _) hdg hk
          unfold xfit at hf
          split at hf
          · rename_i ci fs hv
            simp only [Bool.or_eq_true, Bool.and_eq_true, beq_iff_eq] at hf
            rcases hf with (⟨rfl, rfl⟩ | ⟨rfl, rfl⟩) | ⟨rfl, rfl⟩
            · exact obj 9 _ fs rfl hv rfl
            · exact obj 6 _ fs rfl hv rfl
            · exact obj 7 _ fs rfl hv rfl
          · rename_i k9 x9 hv
            simp only [Bool.and_eq_true, beq_iff_eq] at hf
            obtain ⟨rfl, rfl⟩ := hf
            obtain ⟨comp, c9, k, h1, h2, h3, h4, h5⟩ := arrayOverA_spec hK.2.2.2.2.2.2.1
            have e6 : s.vm.findClass ("[" ++ (FieldType.array .int).toString) = some (tA 6) := (hKv.2 6 _ rfl).2
            have e0 : s.vm.findClass ("[" ++ FieldType.int.toString) = some (tA 0) := (hKv.2 0 _ rfl).2
            have hc9 : c9 = tA 6 := Option.some.inj (h5.symm.trans e6)
            have hcomp : comp = tA 0 := Option.some.inj (h1.symm.trans e0)
            subst hc9
            subst hcomp
            obtain ⟨-, k0, hk0, -⟩ := (hKv.2 0 _ rfl).1 0 (fun _ => .null)
            have hvc : H[v]? = some (vp_cell (tA 0) x9) := (hR.1 v _ hv).1
            refine xs_aast1 hx hb hR hL ha hin h3 h4 rfl hk0 hvc (fun q h => ?_) ?_ (va_asg _ _) hdg hk
            · unfold vp_cell at h
              split at h <;> cases h
            · unfold vp_cell
              split <;> rfl
          · cases hf
        · cases hop
    · cases hop
  · cases hop
theorem xs_getfield (hx : p.tables.exec = Jvm.exec) (hb : c.code = cc) (hK : xK D tA s) (hown : s.vm.findClass (xon o) = some m.cls) {idx : Nat} (hdg : decode cc pc = .ok (.getfield idx, 3)) (hop : xgetf o idx pc L st w = some (.inl f')) (hk : xnx p l e R s m args below meth c Q D tA A s0 nL f') : xnx p l e R s m args below meth c Q D tA A s0 nL (pc, L, st, w) := by
  unfold xgetf at hop
  split at hop
  · rename_i a r
    split at hop
    · rename_i ci fs ha
      split at hop
      · rename_i q hq
        split at hop
        · rename_i hci
          subst hci
          split at hop
          · rename_i v hv
            cases hop
            intro H locs cells slots ls hR hL
            obtain ⟨-, -, ⟨C, T, N⟩, hr, hlt, -, hw⟩ := xFl_some hq
            obtain ⟨hin, -⟩ := xcl_ok _ _ hr
            have hts : ∀ w ∈ u_ws C T N, w.before args s = true := fun w hw' => hK.1 w (hin w hw') (xlay_good w hw') args
            by_cases hn : q.2.2.2.2.1 = 0
            · rw [if_pos hn] at hw
              exact va_get hx hb hts (fun _ h => h) hown hK.2.2.1 (xP1 (hR.1 a _ ha).1) 0 rfl hr q.2.2.2.1 hlt (hK.w _ hw rfl args) (fun _ h9 => h9) hv hdg (hk H locs cells slots ls hR hL)
            · rw [if_neg hn] at hw
              exact va_getN hx hb hts (fun _ h => h) hown hK.2.2.1 (xP1 (hR.1 a _ ha).1) 0 rfl hr q.2.2.2.1 hlt (va_Nw.use rfl (hK.n _ hw rfl)) (fun _ h9 => h9) hv hdg (hk H locs cells slots ls hR hL)
          · cases hop
        · cases hop
      · cases hop
    · cases hop
  · cases hop
theorem xs_putfield (hx : p.tables.exec = Jvm.exec) (hb : c.code = cc) (hK : xK D tA s) (hown : s.vm.findClass (xon o) = some m.cls) {idx : Nat} {init : Bool} (hin2 : init = true → meth.name = "<init>") (hdg : decode cc pc = .ok (.putfield idx, 3)) (hop : xputf o idx init pc L st w = some (.inl f')) (hk : xnx p l e R s m args below meth c Q D tA A s0 nL f') : xnx p l e R s m args below meth c Q D tA A s0 nL (pc, L, st, w) := by
  unfold xputf at hop
  split at hop
  · rename_i v a r
    split at hop
    · rename_i ci fs ha
      split at hop
      · rename_i q hq
        split at hop
        · rename_i hc
          obtain ⟨rfl, hl, hn, hfit, hfin⟩ := hc
          cases hop
          intro H locs cells slots ls hR hL
          obtain ⟨-, -, ⟨C, T, N⟩, hr, hlt, hdecl, hw⟩ := xFl_some hq
          obtain ⟨hin, hnm, hty, -⟩ := xcl_ok _ _ hr
          have hts : ∀ w ∈ u_ws C T N, w.before args s = true := fun w hw' => hK.1 w (hin w hw') (xlay_good w hw') args
          have hid : ∀ w ∈ u_ws C T N, w ∈ u_ws C T N := fun _ h => h
          have hap := va_apart (own := xon o) hts hid _ hty hnm hK.2.2.1 hr
          have hd := hty _ hlt
          obtain ⟨r9, h1, cell, q1, q2, q3, q4⟩ := (hR.1 a _ ha).1
          have hr9 : r9 = (C, T, N) := Option.some.inj (h1.symm.trans hr)
          subst hr9
          obtain ⟨hS, hfc, kC, hkC, hkind⟩ := hK.2.2.1.1 _ _ hr
          obtain ⟨cf, kf, fi, f, hi, hsl⟩ := hS _ hlt
          have hlay := hts _ (hid _ (u_in_lay hlt))
          have hst := (u_facts hfc hkC (u_lays hts hid hlt) hi).1
          have hend : ∀ H', H'[a]? = some (cell.setSlot (D.2 q.2.2.1 q.2.2.2.1) v) → H'.size = H.size → (∀ b, b ≠ a → H'[b]? = H[b]?) → W p l e R s m args below meth c H' (locs ++ [⟨a, D.2 q.2.2.1 q.2.2.2.1⟩]) cells slots Q (F0 m (pc + 3) ls _) := fun H' e1 e2 e3 =>
            hk H' _ cells slots ls (xrep_put hR ha ⟨_, hr, t_OB.to (V := updV (vp_V fs) q.2.2.2.1 v) ⟨_, e1, q2, q3, t_set q4 hap hlt v⟩ (fun j _ => vp_updV_set hl v j)⟩ e2 e3) hL
          have hff : xfin q.2.2.1 q.2.2.2.1 = (T q.2.2.2.1).2.2.2 := by
            unfold xfin
            rw [hr]
          by_cases hf : (T q.2.2.2.1).2.2.2 = false
          · unfold u_lay at hlay
            rw [if_neg (by rw [hf]; decide)] at hlay
            have h6 := u_store hfc hkC hkind hlay hi hd hn hfit
            by_cases hn : q.2.2.2.2.1 = 0
            · rw [if_pos hn] at hw
              refine W.putK hx hb (f := f) ⟨hown, hK.w _ hw rfl args, ⟨_, _, _, hi⟩, hst⟩ (by rw [q2]; exact h6) q1 q3 (by rw [hsl]; exact k2_hasslot (q4 _ hlt)) rfl rfl hdg fun H' e1 e2 e3 => ?_
              rw [hsl] at e1 ⊢
              exact hend H' e1 e2 e3
            · rw [if_neg hn] at hw
              refine va_WputK hx hb (f := f) hown (va_Nw.use rfl (hK.n _ hw rfl)) hi hst (by rw [q2]; exact h6) q1 q3 (by rw [hsl]; exact k2_hasslot (q4 _ hlt)) rfl rfl hdg fun H' e1 e2 e3 => ?_
              rw [hsl] at e1 ⊢
              exact hend H' e1 e2 e3
          · rcases hfin with h | ⟨hinit, ho, hz⟩
            · exact absurd (hff ▸ h) hf
            · have hft : (T q.2.2.2.1).2.2.2 = true := by simpa using hf
              rw [if_pos hz] at hw
              unfold u_lay at hlay
              rw [if_pos hft] at hlay
              have hcf : m.cls = cf := by
                obtain ⟨_, _, c', _, _, _, -, -, hf', -, -, -, hown2, -⟩ := Cond.laysFinal_spec hlay
                have e1 : c' = cf := by have := hi.symm.trans hf'; simp at this; exact this.1.symm
                rw [show (T q.2.2.2.1).1 = xon o by rw [ho]; exact hdecl] at hown2
                rw [← e1]; exact Option.some.inj (hown.symm.trans hown2)
              have h6 := u_fits hfc hkC hkind (Or.inr hlay) hi hd hn hfit
              refine W.putFinK hx hb hown (hK.w _ hw rfl args) hi hst hcf (hin2 hinit) (by rw [q2]; exact h6) q1 q3 (by rw [hsl]; exact k2_hasslot (q4 _ hlt)) rfl rfl hdg fun H' e1 e2 e3 => ?_
              rw [hsl] at e1 ⊢
              exact hend H' e1 e2 e3
        · cases hop
      · cases hop
    · cases hop
  · cases hop
end XN
end
section
/-! ===== the small machine is right: new cells, constants, answers ===== -/
def xKok (q : Nat × Nat × Nat × Nat × Nat × Nat) : Bool := match xcl[q.2.2.1]? with
  | some r => decide (lw_tbl[q.2.2.2.1]? = some (Jvm.Cond.classLink (xon q.1) q.2.1 r.1)) && decide (lw_tbl[q.2.2.2.2.1]? = some (Jvm.Cond.instantiable r.1 r.2.2)) && decide (lw_tbl[q.2.2.2.2.2]? = some (Jvm.Cond.initialized r.1))
  | none => false
set_option maxRecDepth 100000 in
theorem xKt_ok : xKt.all xKok = true := by decide +kernel
theorem xKl_some {o i : Nat} {q : Nat × Nat × Nat × Nat × Nat × Nat} (h : xKl o i = some q) : ∃ r, xcl[q.2.2.1]? = some r ∧ lw_tbl[q.2.2.2.1]? = some (Jvm.Cond.classLink (xon o) i r.1) ∧ lw_tbl[q.2.2.2.2.1]? = some (Jvm.Cond.instantiable r.1 r.2.2) ∧ lw_tbl[q.2.2.2.2.2]? = some (Jvm.Cond.initialized r.1) := by
  have hm := List.mem_of_find?_eq_some h
  have hp := List.find?_some h
  simp only [Bool.and_eq_true, beq_iff_eq] at hp
  obtain ⟨rfl, rfl⟩ := hp
  have hk := List.all_eq_true.mp xKt_ok q hm
  unfold xKok at hk
  split at hk
  · rename_i r hr
    simp only [Bool.and_eq_true, decide_eq_true_eq] at hk
    exact ⟨r, hr, hk.1.1, hk.1.2, hk.2⟩
  · cases hk
/-- the component of an array of references, by its kind -/
def xcomp (t : Nat) : FieldType := if t = 3 then .object "DriftStore$Write" else if t = 4 then .object "DriftStore$Server" else if t = 5 then .object "DriftStore$Session" else if t = 6 ∨ t = 16 then .array .int else .array .boolean
def xcname (t : Nat) : String := if t = 3 then "DriftStore$Write" else if t = 4 then "DriftStore$Server" else if t = 5 then "DriftStore$Session" else if t = 6 then (FieldType.array .int).toString else if t = 16 then (FieldType.array (.array .int)).toString else (FieldType.array (.array .boolean)).toString
def xNok (q : Nat × Nat × Nat × Nat × Nat) : Bool := decide (lw_tbl[q.2.2.2.1]? = some (Jvm.Cond.classLink (xon q.1) q.2.1 (xcname q.2.2.1))) && decide (lw_tbl[q.2.2.2.2]? = some (Jvm.Cond.arrayOver (xcomp q.2.2.1))) && decide (q.2.2.1 = 3 ∨ q.2.2.1 = 4 ∨ q.2.2.1 = 5 ∨ q.2.2.1 = 6 ∨ q.2.2.1 = 16 ∨ q.2.2.1 = 17)
set_option maxRecDepth 100000 in
theorem xNt_ok : xNt.all xNok = true := by decide +kernel
theorem xNl_some {o i : Nat} {q : Nat × Nat × Nat × Nat × Nat} (h : xNl o i = some q) : lw_tbl[q.2.2.2.1]? = some (Jvm.Cond.classLink (xon o) i (xcname q.2.2.1)) ∧ lw_tbl[q.2.2.2.2]? = some (Jvm.Cond.arrayOver (xcomp q.2.2.1)) ∧ (q.2.2.1 = 3 ∨ q.2.2.1 = 4 ∨ q.2.2.1 = 5 ∨ q.2.2.1 = 6 ∨ q.2.2.1 = 16 ∨ q.2.2.1 = 17) := by
  have hm := List.mem_of_find?_eq_some h
  have hp := List.find?_some h
  simp only [Bool.and_eq_true, beq_iff_eq] at hp
  obtain ⟨rfl, rfl⟩ := hp
  have hk := List.all_eq_true.mp xNt_ok q hm
  unfold xNok at hk
  simp only [Bool.and_eq_true, decide_eq_true_eq] at hk
  exact ⟨hk.1.1, hk.1.2, hk.2⟩
def xDok (q : Nat × Nat × Nat × Int32 × Nat × Nat) : Bool := if q.2.2.1 = 0 then decide (lw_tbl[q.2.2.2.2.2]? = some (Jvm.Cond.constant (xon q.1) q.2.1 q.2.2.2.1)) else decide (lw_tbl[q.2.2.2.2.2]? = some (Jvm.Cond.stringRef (xon q.1) q.2.1 (xSn.getD q.2.2.2.2.1 ""))) && decide (q.2.2.1 = 1)
set_option maxRecDepth 100000 in
theorem xDt_ok : xDt.all xDok = true := by decide +kernel
def xLok (q : Nat × Nat × Int64 × Nat) : Bool := decide (lw_tbl[q.2.2.2]? = some (Jvm.Cond.constantLong (xon q.1) q.2.1 q.2.2.1))
set_option maxRecDepth 100000 in
theorem xLt_ok : xLt.all xLok = true := by decide +kernel
set_option maxRecDepth 100000 in
theorem xac_int : Jvm.Cond.arrayClass .int ∈ lw_tbl := by decide +kernel
set_option maxRecDepth 100000 in
theorem xac_boolean : Jvm.Cond.arrayClass .boolean ∈ lw_tbl := by decide +kernel
set_option maxRecDepth 100000 in
theorem xac_byte : Jvm.Cond.arrayClass .byte ∈ lw_tbl := by decide +kernel
/-- a method's end -/
def xQ (D : va_G) (tA : Nat → ClassId) (A : Nat → Prop) (v : Option Value) (w' : xW) : Array Value → State → Outcome → State → Prop := fun _ st oc t => oc = .returned v ∧ (∀ a e, w'.1 a = some e → va_at D xcl (a, xte tA e) t.heap ∧ A a) ∧ w'.2.1 = t.heap.size ∧ va_F A st t
section XM
variable {p : Program} {l : Launch} {e : Env} {R : Room} {s : State} {m : MethodId} {args : Array Value} {below : List Frame} {meth : Method} {c : Code} {Q : State → Prop} {D : va_G} {tA : Nat → ClassId} {A : Nat → Prop} {s0 nL : Nat} {cc : ByteArray} {pc : Nat} {L : xL} {st : List Value} {w : xW} {f' : xF} {G : xG} {adV : Nat → Nat} {o : Nat}
theorem xs_new (hx : p.tables.exec = Jvm.exec) (hb : c.code = cc) (hK : xK D tA s) (hown : s.vm.findClass (xon o) = some m.cls) {idx : Nat} (hf1 : f'.2.2.2.2.1 ≤ s.heap.size + R.cells) (hf2 : f'.2.2.2.2.2 ≤ s0 + R.slots) (hdg : decode cc pc = .ok (.new idx, 3)) (hop : xnew o idx pc L st w = some (.inl f')) (hk : xnx p l e R s m args below meth c Q D tA A s0 nL f') : xnx p l e R s m args below meth c Q D tA A s0 nL (pc, L, st, w) := by
  unfold xnew at hop
  split at hop
  · rename_i q hq
    cases hop
    intro H locs cells slots ls hR hL
    obtain ⟨⟨C, T, N⟩, hr, w1, w2, w3⟩ := xKl_some hq
    obtain ⟨hin, hnm, hty, hlen, hdef⟩ := xcl_ok _ _ hr
    have hts : ∀ w ∈ u_ws C T N, w.before args s = true := fun w hw' => hK.1 w (hin w hw') (xlay_good w hw') args
    have hKn := hK.2.2.1.1 _ _ hr
    have hcell : s.heap.size + cells = w.2.1 := hR.2.2.2.2.1
    have hslot : s0 + slots = w.2.2 := hR.2.2.2.2.2
    have hf1 : w.2.1 + 1 ≤ s.heap.size + R.cells := hf1
    have hf2 : w.2.2 + (xdef q.2.2.1).length ≤ s0 + R.slots := hf2
    have hlen : (xdef q.2.2.1).length = N := hlen
    refine W.newcK hx hb hown (hK.w _ w1 rfl args) (hK.w _ w2 rfl args) (hK.w _ w3 rfl args) rfl hdg (by omega) (by show slots + N ≤ _; omega) hKn.2.1 rfl fun H1 kC hkC e1 z1 o1 => ?_
    have h9 := hk H1 locs (cells + 1) (slots + (xdef q.2.2.1).length) ls (xrep_new hR z1 o1 ⟨_, hr, (u_born (xtyOf q.2.2.1) hts (fun _ h => h) hKn hkC e1 hty).to hdef⟩) hL
    rw [hlen] at h9
    rw [hR.2.1] at h9
    exact h9
  · cases hop
theorem xs_newa1 (hx : p.tables.exec = Jvm.exec) (hb : c.code = cc) {atype : ArrayType} {t : Nat} (harr : (Jvm.Cond.arrayClass (newarray.typeOf atype)).before args s = true) (htA : s.vm.findClass ("[" ++ (newarray.typeOf atype).toString) = some (tA t)) (hdv : defaultValue (newarray.typeOf atype) = .int 0) (hcb : componentBytes (newarray.typeOf atype) ≤ 4) {n : Int32} {r : List Value} (hn : ¬ (n < 0 ∨ 100000 < n.toNatClampNeg)) (hf1 : w.2.1 + 1 ≤ s.heap.size + R.cells) (hf2 : w.2.2 + n.toNatClampNeg ≤ s0 + R.slots) (hdg : decode cc pc = .ok (.newarray atype, 2))
    (hk : xnx p l e R s m args below meth c Q D tA A s0 nL (pc + 2, L, .ref w.2.1 :: r, xup w.1 w.2.1 (.inl (t, n.toNatClampNeg, .inl (fun _ => 0))), w.2.1 + 1, w.2.2 + n.toNatClampNeg)) : xnx p l e R s m args below meth c Q D tA A s0 nL (pc, L, .int n :: r, w) := by
  intro H locs cells slots ls hR hL
  have hcell : s.heap.size + cells = w.2.1 := hR.2.2.2.2.1
  have hslot : s0 + slots = w.2.2 := hR.2.2.2.2.2
  have hm : n.toNatClampNeg * componentBytes (newarray.typeOf atype) ≤ n.toNatClampNeg * 4 := Nat.mul_le_mul_left _ hcb
  refine va_newaK hx hb harr rfl hdg rfl (fun z => hn (Or.inl z)) rfl (by have : ¬ 100000 < n.toNatClampNeg := fun z => hn (Or.inr z); omega) (by omega) (by omega) rfl fun H1 cA e1 z1 o1 hAr hNm => ?_
  have hcA : cA = tA t := Option.some.inj (hNm.symm.trans htA)
  subst hcA
  have h9 := hk H1 locs (cells + 1) (slots + n.toNatClampNeg) ls (xrep_new hR z1 o1 (by
    show H1[H.size]? = some (vp_cell _ _)
    rw [e1, vp_cell_i, hdv])) hL
  rw [hR.2.1] at h9
  exact h9
theorem xs_newarray (hx : p.tables.exec = Jvm.exec) (hb : c.code = cc) (hK : xK D tA s) {t : ArrayType} (hf1 : f'.2.2.2.2.1 ≤ s.heap.size + R.cells) (hf2 : f'.2.2.2.2.2 ≤ s0 + R.slots) (hdg : decode cc pc = .ok (.newarray t, 2)) (hop : xnewa t pc L st w = some (.inl f')) (hk : xnx p l e R s m args below meth c Q D tA A s0 nL f') : xnx p l e R s m args below meth c Q D tA A s0 nL (pc, L, st, w) := by
  unfold xnewa at hop
  split at hop
  · rename_i n r
    split at hop
    · rename_i k ht
      split at hop
      · cases hop
      · rename_i hn
        cases hop
        cases t <;> cases ht
        · exact xs_newa1 (atype := .boolean) (t := 1) hx hb (hK.1 (Jvm.Cond.arrayClass .boolean) xac_boolean rfl args) (hK.2.2.1.2 1 _ rfl).2 rfl (by decide) hn hf1 hf2 hdg hk
        · exact xs_newa1 (atype := .byte) (t := 2) hx hb (hK.1 (Jvm.Cond.arrayClass .byte) xac_byte rfl args) (hK.2.2.1.2 2 _ rfl).2 rfl (by decide) hn hf1 hf2 hdg hk
        · exact xs_newa1 (atype := .int) (t := 0) hx hb (hK.1 (Jvm.Cond.arrayClass .int) xac_int rfl args) (hK.2.2.1.2 0 _ rfl).2 rfl (by decide) hn hf1 hf2 hdg hk
    · cases hop
  · cases hop
theorem xnewq {H : Heap} {locs : List Loc} {cells slots n k : Nat} {ls : Array Slot} {cA : ClassId} {r : List Value} (hR : xrep D tA A s.heap s0 w H locs cells slots) (hL : xlr ls nL L) (hcA : cA = tA k) (hk : xnx p l e R s m args below meth c Q D tA A s0 nL (pc + 3, L, .ref w.2.1 :: r, xup w.1 w.2.1 (.inl (k, n, .inr (.inr (.inr (.inr (fun _ => none)))))), w.2.1 + 1, w.2.2 + n)) :
    W p l e R s m args below meth c (H.push { cls := cA, slots := Array.replicate n .null, vm := .none }) locs (cells + 1) (slots + n) Q (F0 m (pc + 3) ls (.ref H.size :: r)) := by
  subst hcA
  have h9 := hk (H.push { cls := tA k, slots := Array.replicate n .null, vm := .none }) locs (cells + 1) (slots + n) ls (xrep_new hR (Array.size_push ..) (fun q hq => by rw [Array.getElem?_push, if_neg (Nat.ne_of_lt hq)]) (by
    show (H.push _)[H.size]? = some (vp_cell _ _)
    rw [Array.getElem?_push_size, arrV_new, vp_cell_q]
    rfl)) hL
  rw [hR.2.1] at h9
  exact h9
theorem xs_anewarray (hx : p.tables.exec = Jvm.exec) (hb : c.code = cc) (hK : xK D tA s) (hown : s.vm.findClass (xon o) = some m.cls) {idx : Nat} (hf1 : f'.2.2.2.2.1 ≤ s.heap.size + R.cells) (hf2 : f'.2.2.2.2.2 ≤ s0 + R.slots) (hdg : decode cc pc = .ok (.anewarray idx, 3)) (hop : xanew o idx pc L st w = some (.inl f')) (hk : xnx p l e R s m args below meth c Q D tA A s0 nL f') : xnx p l e R s m args below meth c Q D tA A s0 nL (pc, L, st, w) := by
  unfold xanew at hop
  split at hop
  · rename_i n r
    split at hop
    · rename_i q hq
      split at hop
      · cases hop
      · rename_i hn
        cases hop
        intro H locs cells slots ls hR hL
        obtain ⟨w1, -, w3⟩ := xNl_some hq
        obtain ⟨q1, q2, k, q4, q5⟩ := q
        dsimp only at w1 w3 hn hk hf1 hf2
        have hcell : s.heap.size + cells = w.2.1 := hR.2.2.2.2.1
        have hslot : s0 + slots = w.2.2 := hR.2.2.2.2.2
        have hn0 : ¬ n < 0 := fun z => hn (Or.inl z)
        have hby : n.toNatClampNeg * 4 ≤ 536870912 := by have : ¬ 100000 < n.toNatClampNeg := fun z => hn (Or.inr (Or.inl z)); omega
        have h7 : ¬ 7 < k := fun z => hn (Or.inr (Or.inr z))
        have hKv := hK.2.2.1
        rcases w3 with rfl | rfl | rfl | rfl | rfl | rfl
        · exact W.anew hx hb hown (hK.w _ w1 rfl args) (va_AO.use hK.2.2.2.1) rfl hdg rfl hn0 hby (by omega) (by omega) fun cA kA comp f1 f2 f3 f4 => xnewq hR hL (by obtain ⟨_, _, -, -, -, k4⟩ := (hKv.2 3 _ rfl).2; exact Option.some.inj (f1.symm.trans k4)) hk
        · exact W.anew hx hb hown (hK.w _ w1 rfl args) (va_AO.use hK.2.2.2.2.1) rfl hdg rfl hn0 hby (by omega) (by omega) fun cA kA comp f1 f2 f3 f4 => xnewq hR hL (by obtain ⟨_, _, -, -, -, k4⟩ := (hKv.2 4 _ rfl).2; exact Option.some.inj (f1.symm.trans k4)) hk
        · exact W.anew hx hb hown (hK.w _ w1 rfl args) (va_AO.use hK.2.2.2.2.2.1) rfl hdg rfl hn0 hby (by omega) (by omega) fun cA kA comp f1 f2 f3 f4 => xnewq hR hL (by obtain ⟨_, _, -, -, -, k4⟩ := (hKv.2 5 _ rfl).2; exact Option.some.inj (f1.symm.trans k4)) hk
        · exact W.anewA (t := .int) hx hb hown (hK.w _ w1 rfl args) hK.2.2.2.2.2.2.1 rfl hdg rfl hn0 hby (by omega) (by omega) fun cA kA comp f1 f2 f3 f4 => xnewq hR hL (Option.some.inj (f1.symm.trans (hKv.2 6 _ rfl).2)) hk
        · omega
        · omega
    · cases hop
  · cases hop
theorem xs_ldc (hx : p.tables.exec = Jvm.exec) (hb : c.code = cc) (hK : xK D tA s) (hro : xro G adV A s s.heap) (hown : s.vm.findClass (xon o) = some m.cls) {idx : Nat} (hdg : decode cc pc = .ok (.ldc idx, 2)) (hop : xldc G o idx pc L st w = some (.inl f')) (hk : xnx p l e R s m args below meth c Q D tA A s0 nL f') : xnx p l e R s m args below meth c Q D tA A s0 nL (pc, L, st, w) := by
  unfold xldc at hop
  split at hop
  · rename_i q h
    have hm := List.mem_of_find?_eq_some h
    have hp := List.find?_some h
    simp only [Bool.and_eq_true, beq_iff_eq] at hp
    obtain ⟨rfl, rfl⟩ := hp
    have hq := List.all_eq_true.mp xDt_ok q hm
    unfold xDok at hq
    split at hop
    · rename_i h0
      cases hop
      rw [if_pos h0] at hq
      intro H locs cells slots ls hR hL
      exact lv_ldc hx hb hown (hK.w _ (of_decide_eq_true hq) rfl args) hdg (hk H locs cells slots ls hR hL)
    · rename_i h0
      cases hop
      rw [if_neg h0] at hq
      simp only [Bool.and_eq_true, decide_eq_true_eq] at hq
      intro H locs cells slots ls hR hL
      exact va_ldcS hx hb hown (hro.2.2.2.2.1 q hm hq.2) hdg (hk H locs cells slots ls hR hL)
  · cases hop
theorem xs_ldc2 (hx : p.tables.exec = Jvm.exec) (hb : c.code = cc) (hK : xK D tA s) (hown : s.vm.findClass (xon o) = some m.cls) {idx : Nat} (hdg : decode cc pc = .ok (.ldc2_w idx, 3)) (hop : xldc2 o idx pc L st w = some (.inl f')) (hk : xnx p l e R s m args below meth c Q D tA A s0 nL f') : xnx p l e R s m args below meth c Q D tA A s0 nL (pc, L, st, w) := by
  unfold xldc2 at hop
  split at hop
  · rename_i q h
    have hm := List.mem_of_find?_eq_some h
    have hp := List.find?_some h
    simp only [Bool.and_eq_true, beq_iff_eq] at hp
    obtain ⟨rfl, rfl⟩ := hp
    have hq := List.all_eq_true.mp xLt_ok q hm
    unfold xLok at hq
    cases hop
    intro H locs cells slots ls hR hL
    exact lv_ldc2 hx hb hown (hK.w _ (of_decide_eq_true hq) rfl args) hdg (hk H locs cells slots ls hR hL)
  · cases hop
theorem xQ_of {H : Heap} {locs : List Loc} {cells slots : Nat} {v : Option Value} (hR : xrep D tA A s.heap s0 w H locs cells slots) : ∀ t : State, t.heap = H → s.WarmedH t.vm → xQ D tA A v w args s (.returned v) t := fun t ht _ => ⟨rfl, by rw [ht]; exact hR.1, by rw [ht]; exact hR.2.1, hR.2.2.1.F ht⟩
theorem xs_ireturn (hx : p.tables.exec = Jvm.exec) (hb : c.code = cc) {rt : Option FieldType} (hr : meth.sig.returnType = rt) (hlocks : meth.locks = false) {v : Option Value} {w' : xW} (hf1 : w.2.1 ≤ s.heap.size + R.cells) (hf2 : w.2.2 ≤ s0 + R.slots) (hdg : decode cc pc = .ok (.ireturn, 1)) (hop : xiret rt st w = some (.inr (.inl (v, w')))) : xnx p l e R s m args below meth c (MQ below (xQ D tA A v w') args s R.cells R.slots A) D tA A s0 nL (pc, L, st, w) := by
  unfold xiret at hop
  split at hop
  · split at hop
    · split at hop
      · rename_i hn
        cases hop
        intro H locs cells slots ls hR hL
        have hcell : s.heap.size + cells = w.2.1 := hR.2.2.2.2.1
        have hslot : s0 + slots = w.2.2 := hR.2.2.2.2.2
        exact W.widen (k := R.cells) (n := R.slots) (by omega) (by omega) (W.zret hx hb hr hn (xQ_of hR) hR.2.2.1.2.2 hdg)
      · cases hop
    · cases hop
  · cases hop
theorem xs_lreturn (hx : p.tables.exec = Jvm.exec) (hb : c.code = cc) {rt : Option FieldType} (hr : meth.sig.returnType = rt) (hlocks : meth.locks = false) {v : Option Value} {w' : xW} (hf1 : w.2.1 ≤ s.heap.size + R.cells) (hf2 : w.2.2 ≤ s0 + R.slots) (hdg : decode cc pc = .ok (.lreturn, 1)) (hop : xlret rt st w = some (.inr (.inl (v, w')))) : xnx p l e R s m args below meth c (MQ below (xQ D tA A v w') args s R.cells R.slots A) D tA A s0 nL (pc, L, st, w) := by
  unfold xlret at hop
  split at hop
  · split at hop
    · rename_i hn
      cases hop
      intro H locs cells slots ls hR hL
      have hcell : s.heap.size + cells = w.2.1 := hR.2.2.2.2.1
      have hslot : s0 + slots = w.2.2 := hR.2.2.2.2.2
      exact W.widen (k := R.cells) (n := R.slots) (by omega) (by omega) (W.lret hx hb (hr.trans hn) (xQ_of hR) hR.2.2.1.2.2 hdg)
    · cases hop
  · cases hop
theorem xs_areturn (hx : p.tables.exec = Jvm.exec) (hb : c.code = cc) {rt : Option FieldType} (hr : meth.sig.returnType = rt) (hlocks : meth.locks = false) {v : Option Value} {w' : xW} (hf1 : w.2.1 ≤ s.heap.size + R.cells) (hf2 : w.2.2 ≤ s0 + R.slots) (hdg : decode cc pc = .ok (.areturn, 1)) (hop : xaret rt st w = some (.inr (.inl (v, w')))) : xnx p l e R s m args below meth c (MQ below (xQ D tA A v w') args s R.cells R.slots A) D tA A s0 nL (pc, L, st, w) := by
  unfold xaret at hop
  split at hop
  · split at hop
    · cases hop
      intro H locs cells slots ls hR hL
      have hcell : s.heap.size + cells = w.2.1 := hR.2.2.2.2.1
      have hslot : s0 + slots = w.2.2 := hR.2.2.2.2.2
      exact W.widen (k := R.cells) (n := R.slots) (by omega) (by omega) (W.aret hx hb hr (Or.inl ⟨_, rfl⟩) (Or.inr ⟨_, rfl⟩) (xQ_of hR) hR.2.2.1.2.2 hdg)
    · cases hop
      intro H locs cells slots ls hR hL
      have hcell : s.heap.size + cells = w.2.1 := hR.2.2.2.2.1
      have hslot : s0 + slots = w.2.2 := hR.2.2.2.2.2
      exact W.widen (k := R.cells) (n := R.slots) (by omega) (by omega) (W.aret hx hb hr (Or.inr ⟨_, rfl⟩) (Or.inr ⟨_, rfl⟩) (xQ_of hR) hR.2.2.1.2.2 hdg)
    · cases hop
  · cases hop
theorem xs_return (hx : p.tables.exec = Jvm.exec) (hb : c.code = cc) {rt : Option FieldType} (hr : meth.sig.returnType = rt) (hlocks : meth.locks = false) {v : Option Value} {w' : xW} (hf1 : w.2.1 ≤ s.heap.size + R.cells) (hf2 : w.2.2 ≤ s0 + R.slots) (hdg : decode cc pc = .ok (.return_, 1)) (hop : xvret rt st w = some (.inr (.inl (v, w')))) : xnx p l e R s m args below meth c (MQ below (xQ D tA A v w') args s R.cells R.slots A) D tA A s0 nL (pc, L, st, w) := by
  unfold xvret at hop
  split at hop
  · split at hop
    · rename_i hn
      cases hop
      intro H locs cells slots ls hR hL
      have hcell : s.heap.size + cells = w.2.1 := hR.2.2.2.2.1
      have hslot : s0 + slots = w.2.2 := hR.2.2.2.2.2
      exact W.widen (k := R.cells) (n := R.slots) (by omega) (by omega) (W.vret hx hb (hr.trans hn) (xQ_of hR) hR.2.2.1.2.2 hdg)
    · cases hop
  · cases hop
end XM
end
section
/-! ===== the words of the methods' code (wip/gen/lay09.py) ===== -/
def xCW (mi : Nat) : Prop := lw_tbl[xP mi]? = some (Jvm.Cond.code (xY mi) (xB mi) (xM mi) (xT mi))
set_option maxRecDepth 100000 in
theorem xcw_0 : xCW 0 := rfl
set_option maxRecDepth 100000 in
theorem xcw_1 : xCW 1 := rfl
set_option maxRecDepth 100000 in
theorem xcw_2 : xCW 2 := rfl
set_option maxRecDepth 100000 in
theorem xcw_3 : xCW 3 := rfl
set_option maxRecDepth 100000 in
theorem xcw_4 : xCW 4 := rfl
set_option maxRecDepth 100000 in
theorem xcw_5 : xCW 5 := rfl
set_option maxRecDepth 100000 in
theorem xcw_6 : xCW 6 := rfl
set_option maxRecDepth 100000 in
theorem xcw_7 : xCW 7 := rfl
set_option maxRecDepth 100000 in
theorem xcw_8 : xCW 8 := rfl
set_option maxRecDepth 100000 in
theorem xcw_9 : xCW 9 := rfl
set_option maxRecDepth 100000 in
theorem xcw_10 : xCW 10 := rfl
set_option maxRecDepth 100000 in
theorem xcw_11 : xCW 11 := rfl
set_option maxRecDepth 100000 in
theorem xcw_12 : xCW 12 := rfl
set_option maxRecDepth 100000 in
theorem xcw_13 : xCW 13 := rfl
set_option maxRecDepth 100000 in
theorem xcw_14 : xCW 14 := rfl
set_option maxRecDepth 100000 in
theorem xcw_15 : xCW 15 := rfl
set_option maxRecDepth 100000 in
theorem xcw_16 : xCW 16 := rfl
set_option maxRecDepth 100000 in
theorem xcw_17 : xCW 17 := rfl
set_option maxRecDepth 100000 in
theorem xcw_18 : xCW 18 := rfl
set_option maxRecDepth 100000 in
theorem xcw_19 : xCW 19 := rfl
set_option maxRecDepth 100000 in
theorem xcw_20 : xCW 20 := rfl
set_option maxRecDepth 100000 in
theorem xcw_21 : xCW 21 := rfl
set_option maxRecDepth 100000 in
theorem xcw_22 : xCW 22 := rfl
set_option maxRecDepth 100000 in
theorem xcw_23 : xCW 23 := rfl
set_option maxRecDepth 100000 in
theorem xcw_24 : xCW 24 := rfl
set_option maxRecDepth 100000 in
theorem xcw_25 : xCW 25 := rfl
set_option maxRecDepth 100000 in
theorem xcw_26 : xCW 26 := rfl
set_option maxRecDepth 100000 in
theorem xcw_27 : xCW 27 := rfl
set_option maxRecDepth 100000 in
theorem xcw_28 : xCW 28 := rfl
set_option maxRecDepth 100000 in
theorem xcw_29 : xCW 29 := rfl
set_option maxRecDepth 100000 in
theorem xcw_30 : xCW 30 := rfl
set_option maxRecDepth 100000 in
theorem xcw_31 : xCW 31 := rfl
set_option maxRecDepth 100000 in
theorem xcw_32 : xCW 32 := rfl
set_option maxRecDepth 100000 in
theorem xcw_33 : xCW 33 := rfl
set_option maxRecDepth 100000 in
theorem xcw_34 : xCW 34 := rfl
set_option maxRecDepth 100000 in
theorem xcw_35 : xCW 35 := rfl
set_option maxRecDepth 100000 in
theorem xcw_36 : xCW 36 := rfl
set_option maxRecDepth 100000 in
theorem xcw_37 : xCW 37 := rfl
set_option maxRecDepth 100000 in
theorem xcw_38 : xCW 38 := rfl
set_option maxRecDepth 100000 in
theorem xcw_39 : xCW 39 := rfl
set_option maxRecDepth 100000 in
theorem xcw_40 : xCW 40 := rfl
set_option maxRecDepth 100000 in
theorem xcw_41 : xCW 41 := rfl
set_option maxRecDepth 100000 in
theorem xcw_42 : xCW 42 := rfl
set_option maxRecDepth 100000 in
theorem xcw_43 : xCW 43 := rfl
set_option maxRecDepth 100000 in
theorem xcw_44 : xCW 44 := rfl
set_option maxRecDepth 100000 in
theorem xcw_45 : xCW 45 := rfl
set_option maxRecDepth 100000 in
theorem xcw_46 : xCW 46 := rfl
set_option maxRecDepth 100000 in
theorem xcw_47 : xCW 47 := rfl
set_option maxRecDepth 100000 in
theorem xcw_48 : xCW 48 := rfl
set_option maxRecDepth 100000 in
theorem xcw_49 : xCW 49 := rfl
set_option maxRecDepth 100000 in
theorem xcw_50 : xCW 50 := rfl
set_option maxRecDepth 100000 in
theorem xcw_51 : xCW 51 := rfl
set_option maxRecDepth 100000 in
theorem xcw_52 : xCW 52 := rfl
set_option maxRecDepth 100000 in
theorem xcw_53 : xCW 53 := rfl
set_option maxRecDepth 100000 in
theorem xcw_54 : xCW 54 := rfl
set_option maxRecDepth 100000 in
theorem xcw_55 : xCW 55 := rfl
set_option maxRecDepth 100000 in
theorem xcw_56 : xCW 56 := rfl
set_option maxRecDepth 100000 in
theorem xcw_57 : xCW 57 := rfl
set_option maxRecDepth 100000 in
theorem xcw_58 : xCW 58 := rfl
set_option maxRecDepth 100000 in
theorem xcw_59 : xCW 59 := rfl
set_option maxRecDepth 100000 in
theorem xcw_60 : xCW 60 := rfl
set_option maxRecDepth 100000 in
theorem xcw_61 : xCW 61 := rfl
set_option maxRecDepth 100000 in
theorem xcw_62 : xCW 62 := rfl
set_option maxRecDepth 100000 in
theorem xcw_63 : xCW 63 := rfl
set_option maxRecDepth 100000 in
theorem xcw_64 : xCW 64 := rfl
set_option maxRecDepth 100000 in
theorem xcw_65 : xCW 65 := rfl
set_option maxRecDepth 100000 in
theorem xcw_66 : xCW 66 := rfl
set_option maxRecDepth 100000 in
theorem xcw_67 : xCW 67 := rfl
set_option maxRecDepth 100000 in
theorem xcw_68 : xCW 68 := rfl
set_option maxRecDepth 100000 in
theorem xcw_69 : xCW 69 := rfl
set_option maxRecDepth 100000 in
theorem xcw_70 : xCW 70 := rfl
set_option maxRecDepth 100000 in
theorem xcw_71 : xCW 71 := rfl
set_option maxRecDepth 100000 in
theorem xcw_72 : xCW 72 := rfl
set_option maxRecDepth 100000 in
theorem xcw_73 : xCW 73 := rfl
set_option maxRecDepth 100000 in
theorem xcw_74 : xCW 74 := rfl
set_option maxRecDepth 100000 in
theorem xcw_75 : xCW 75 := rfl
set_option maxRecDepth 100000 in
theorem xcw_76 : xCW 76 := rfl
set_option maxRecDepth 100000 in
theorem xcw_77 : xCW 77 := rfl
set_option maxRecDepth 100000 in
theorem xcw_78 : xCW 78 := rfl
set_option maxRecDepth 100000 in
theorem xcw_79 : xCW 79 := rfl
set_option maxRecDepth 100000 in
theorem xcw_80 : xCW 80 := rfl
set_option maxRecDepth 100000 in
theorem xcw_81 : xCW 81 := rfl
set_option maxRecDepth 100000 in
theorem xcw_82 : xCW 82 := rfl
set_option maxRecDepth 100000 in
theorem xcw_83 : xCW 83 := rfl
set_option maxRecDepth 100000 in
theorem xcw_84 : xCW 84 := rfl
set_option maxRecDepth 100000 in
theorem xcw_85 : xCW 85 := rfl
set_option maxRecDepth 100000 in
theorem xcw_86 : xCW 86 := rfl
set_option maxRecDepth 100000 in
theorem xcw_87 : xCW 87 := rfl
set_option maxRecDepth 100000 in
theorem xcw_88 : xCW 88 := rfl
set_option maxRecDepth 100000 in
theorem xcw_89 : xCW 89 := rfl
set_option maxRecDepth 100000 in
theorem xcw_90 : xCW 90 := rfl
set_option maxRecDepth 100000 in
theorem xcw_91 : xCW 91 := rfl
set_option maxRecDepth 100000 in
theorem xcw_92 : xCW 92 := rfl
set_option maxRecDepth 100000 in
theorem xcw_93 : xCW 93 := rfl
set_option maxRecDepth 100000 in
theorem xcw_94 : xCW 94 := rfl
set_option maxRecDepth 100000 in
theorem xcw_95 : xCW 95 := rfl
set_option maxRecDepth 100000 in
theorem xcw_96 : xCW 96 := rfl
set_option maxRecDepth 100000 in
theorem xcw_97 : xCW 97 := rfl
set_option maxRecDepth 100000 in
theorem xcw_98 : xCW 98 := rfl
set_option maxRecDepth 100000 in
theorem xcw_99 : xCW 99 := rfl
set_option maxRecDepth 100000 in
theorem xcw_100 : xCW 100 := rfl
set_option maxRecDepth 100000 in
theorem xcw_101 : xCW 101 := rfl
set_option maxRecDepth 100000 in
theorem xcw_102 : xCW 102 := rfl
set_option maxRecDepth 100000 in
theorem xcw_103 : xCW 103 := rfl
set_option maxRecDepth 100000 in
theorem xcw_104 : xCW 104 := rfl
set_option maxRecDepth 100000 in
theorem xcw_105 : xCW 105 := rfl
set_option maxRecDepth 100000 in
theorem xcw_106 : xCW 106 := rfl
set_option maxRecDepth 100000 in
theorem xcw_107 : xCW 107 := rfl
set_option maxRecDepth 100000 in
theorem xcw_108 : xCW 108 := rfl
set_option maxRecDepth 100000 in
theorem xcw_109 : xCW 109 := rfl
set_option maxRecDepth 100000 in
theorem xcw_110 : xCW 110 := rfl
set_option maxRecDepth 100000 in
theorem xcw_111 : xCW 111 := rfl
set_option maxRecDepth 100000 in
theorem xcw_112 : xCW 112 := rfl
set_option maxRecDepth 100000 in
theorem xcw_113 : xCW 113 := rfl
set_option maxRecDepth 100000 in
theorem xcw_114 : xCW 114 := rfl
set_option maxRecDepth 100000 in
theorem xcw_115 : xCW 115 := rfl
set_option maxRecDepth 100000 in
theorem xcw_116 : xCW 116 := rfl
set_option maxRecDepth 100000 in
theorem xcw_117 : xCW 117 := rfl
set_option maxRecDepth 100000 in
theorem xcw_118 : xCW 118 := rfl
set_option maxRecDepth 100000 in
theorem xcw_119 : xCW 119 := rfl
set_option maxRecDepth 100000 in
theorem xcw_120 : xCW 120 := rfl
set_option maxRecDepth 100000 in
theorem xcw_121 : xCW 121 := rfl
set_option maxRecDepth 100000 in
theorem xcw_122 : xCW 122 := rfl
set_option maxRecDepth 100000 in
theorem xcwL_0 : ∀ mi ∈ ([0, 1, 2, 3, 4, 5, 6, 7, 8, 9, 10, 11, 12, 13, 14, 15, 16, 17, 18, 19, 20, 21, 22, 23, 24, 25, 26, 27, 28, 29, 30, 31, 32, 33, 34, 35, 36, 37, 38, 39, 40] : List Nat), xCW mi := List.forall_mem_cons.mpr ⟨xcw_0, List.forall_mem_cons.mpr ⟨xcw_1, List.forall_mem_cons.mpr ⟨xcw_2, List.forall_mem_cons.mpr ⟨xcw_3, List.forall_mem_cons.mpr ⟨xcw_4, List.forall_mem_cons.mpr ⟨xcw_5, List.forall_mem_cons.mpr ⟨xcw_6, List.forall_mem_cons.mpr ⟨xcw_7, List.forall_mem_cons.mpr ⟨xcw_8, List.forall_mem_cons.mpr ⟨xcw_9, List.forall_mem_cons.mpr ⟨xcw_10, List.forall_mem_cons.mpr ⟨xcw_11, List.forall_mem_cons.mpr ⟨xcw_12, List.forall_mem_cons.mpr ⟨xcw_13, List.forall_mem_cons.mpr ⟨xcw_14, List.forall_mem_cons.mpr ⟨xcw_15, List.forall_mem_cons.mpr ⟨xcw_16, List.forall_mem_cons.mpr ⟨xcw_17, List.forall_mem_cons.mpr ⟨xcw_18, List.forall_mem_cons.mpr ⟨xcw_19, List.forall_mem_cons.mpr ⟨xcw_20, List.forall_mem_cons.mpr ⟨xcw_21, List.forall_mem_cons.mpr ⟨xcw_22, List.forall_mem_cons.mpr ⟨xcw_23, List.forall_mem_cons.mpr ⟨xcw_24, List.forall_mem_cons.mpr ⟨xcw_25, List.forall_mem_cons.mpr ⟨xcw_26, List.forall_mem_cons.mpr ⟨xcw_27, List.forall_mem_cons.mpr ⟨xcw_28, List.forall_mem_cons.mpr ⟨xcw_29, List.forall_mem_cons.mpr ⟨xcw_30, List.forall_mem_cons.mpr ⟨xcw_31, List.forall_mem_cons.mpr ⟨xcw_32, List.forall_mem_cons.mpr ⟨xcw_33, List.forall_mem_cons.mpr ⟨xcw_34, List.forall_mem_cons.mpr ⟨xcw_35, List.forall_mem_cons.mpr ⟨xcw_36, List.forall_mem_cons.mpr ⟨xcw_37, List.forall_mem_cons.mpr ⟨xcw_38, List.forall_mem_cons.mpr ⟨xcw_39, List.forall_mem_cons.mpr ⟨xcw_40, (fun _ h => by cases h)⟩⟩⟩⟩⟩⟩⟩⟩⟩⟩⟩⟩⟩⟩⟩⟩⟩⟩⟩⟩⟩⟩⟩⟩⟩⟩⟩⟩⟩⟩⟩⟩⟩⟩⟩⟩⟩⟩⟩⟩⟩
set_option maxRecDepth 100000 in
theorem xcwL_41 : ∀ mi ∈ ([41, 42, 43, 44, 45, 46, 47, 48, 49, 50, 51, 52, 53, 54, 55, 56, 57, 58, 59, 60, 61, 62, 63, 64, 65, 66, 67, 68, 69, 70, 71, 72, 73, 74, 75, 76, 77, 78, 79, 80, 81] : List Nat), xCW mi := List.forall_mem_cons.mpr ⟨xcw_41, List.forall_mem_cons.mpr ⟨xcw_42, List.forall_mem_cons.mpr ⟨xcw_43, List.forall_mem_cons.mpr ⟨xcw_44, List.forall_mem_cons.mpr ⟨xcw_45, List.forall_mem_cons.mpr ⟨xcw_46, List.forall_mem_cons.mpr ⟨xcw_47, List.forall_mem_cons.mpr ⟨xcw_48, List.forall_mem_cons.mpr ⟨xcw_49, List.forall_mem_cons.mpr ⟨xcw_50, List.forall_mem_cons.mpr ⟨xcw_51, List.forall_mem_cons.mpr ⟨xcw_52, List.forall_mem_cons.mpr ⟨xcw_53, List.forall_mem_cons.mpr ⟨xcw_54, List.forall_mem_cons.mpr ⟨xcw_55, List.forall_mem_cons.mpr ⟨xcw_56, List.forall_mem_cons.mpr ⟨xcw_57, List.forall_mem_cons.mpr ⟨xcw_58, List.forall_mem_cons.mpr ⟨xcw_59, List.forall_mem_cons.mpr ⟨xcw_60, List.forall_mem_cons.mpr ⟨xcw_61, List.forall_mem_cons.mpr ⟨xcw_62, List.forall_mem_cons.mpr ⟨xcw_63, List.forall_mem_cons.mpr ⟨xcw_64, List.forall_mem_cons.mpr ⟨xcw_65, List.forall_mem_cons.mpr ⟨xcw_66, List.forall_mem_cons.mpr ⟨xcw_67, List.forall_mem_cons.mpr ⟨xcw_68, List.forall_mem_cons.mpr ⟨xcw_69, List.forall_mem_cons.mpr ⟨xcw_70, List.forall_mem_cons.mpr ⟨xcw_71, List.forall_mem_cons.mpr ⟨xcw_72, List.forall_mem_cons.mpr ⟨xcw_73, List.forall_mem_cons.mpr ⟨xcw_74, List.forall_mem_cons.mpr ⟨xcw_75, List.forall_mem_cons.mpr ⟨xcw_76, List.forall_mem_cons.mpr ⟨xcw_77, List.forall_mem_cons.mpr ⟨xcw_78, List.forall_mem_cons.mpr ⟨xcw_79, List.forall_mem_cons.mpr ⟨xcw_80, List.forall_mem_cons.mpr ⟨xcw_81, (fun _ h => by cases h)⟩⟩⟩⟩⟩⟩⟩⟩⟩⟩⟩⟩⟩⟩⟩⟩⟩⟩⟩⟩⟩⟩⟩⟩⟩⟩⟩⟩⟩⟩⟩⟩⟩⟩⟩⟩⟩⟩⟩⟩⟩
set_option maxRecDepth 100000 in
theorem xcwL_82 : ∀ mi ∈ ([82, 83, 84, 85, 86, 87, 88, 89, 90, 91, 92, 93, 94, 95, 96, 97, 98, 99, 100, 101, 102, 103, 104, 105, 106, 107, 108, 109, 110, 111, 112, 113, 114, 115, 116, 117, 118, 119, 120, 121, 122] : List Nat), xCW mi := List.forall_mem_cons.mpr ⟨xcw_82, List.forall_mem_cons.mpr ⟨xcw_83, List.forall_mem_cons.mpr ⟨xcw_84, List.forall_mem_cons.mpr ⟨xcw_85, List.forall_mem_cons.mpr ⟨xcw_86, List.forall_mem_cons.mpr ⟨xcw_87, List.forall_mem_cons.mpr ⟨xcw_88, List.forall_mem_cons.mpr ⟨xcw_89, List.forall_mem_cons.mpr ⟨xcw_90, List.forall_mem_cons.mpr ⟨xcw_91, List.forall_mem_cons.mpr ⟨xcw_92, List.forall_mem_cons.mpr ⟨xcw_93, List.forall_mem_cons.mpr ⟨xcw_94, List.forall_mem_cons.mpr ⟨xcw_95, List.forall_mem_cons.mpr ⟨xcw_96, List.forall_mem_cons.mpr ⟨xcw_97, List.forall_mem_cons.mpr ⟨xcw_98, List.forall_mem_cons.mpr ⟨xcw_99, List.forall_mem_cons.mpr ⟨xcw_100, List.forall_mem_cons.mpr ⟨xcw_101, List.forall_mem_cons.mpr ⟨xcw_102, List.forall_mem_cons.mpr ⟨xcw_103, List.forall_mem_cons.mpr ⟨xcw_104, List.forall_mem_cons.mpr ⟨xcw_105, List.forall_mem_cons.mpr ⟨xcw_106, List.forall_mem_cons.mpr ⟨xcw_107, List.forall_mem_cons.mpr ⟨xcw_108, List.forall_mem_cons.mpr ⟨xcw_109, List.forall_mem_cons.mpr ⟨xcw_110, List.forall_mem_cons.mpr ⟨xcw_111, List.forall_mem_cons.mpr ⟨xcw_112, List.forall_mem_cons.mpr ⟨xcw_113, List.forall_mem_cons.mpr ⟨xcw_114, List.forall_mem_cons.mpr ⟨xcw_115, List.forall_mem_cons.mpr ⟨xcw_116, List.forall_mem_cons.mpr ⟨xcw_117, List.forall_mem_cons.mpr ⟨xcw_118, List.forall_mem_cons.mpr ⟨xcw_119, List.forall_mem_cons.mpr ⟨xcw_120, List.forall_mem_cons.mpr ⟨xcw_121, List.forall_mem_cons.mpr ⟨xcw_122, (fun _ h => by cases h)⟩⟩⟩⟩⟩⟩⟩⟩⟩⟩⟩⟩⟩⟩⟩⟩⟩⟩⟩⟩⟩⟩⟩⟩⟩⟩⟩⟩⟩⟩⟩⟩⟩⟩⟩⟩⟩⟩⟩⟩⟩
theorem xcw_all (mi : Nat) (h : mi < 123) : xCW mi := by
  by_cases h0 : mi < 41
  · refine xcwL_0 mi ?_
    have : mi ∈ (List.range 41).map (fun k => 0 + k) := List.mem_map.mpr ⟨mi - 0, List.mem_range.mpr (by omega), by omega⟩
    exact this
  by_cases h41 : mi < 82
  · refine xcwL_41 mi ?_
    have : mi ∈ (List.range 41).map (fun k => 41 + k) := List.mem_map.mpr ⟨mi - 41, List.mem_range.mpr (by omega), by omega⟩
    exact this
  by_cases h82 : mi < 123
  · refine xcwL_82 mi ?_
    have : mi ∈ (List.range 41).map (fun k => 82 + k) := List.mem_map.mpr ⟨mi - 82, List.mem_range.mpr (by omega), by omega⟩
    exact this
  omega
end
section
/-! ===== the small machine is right: calls ===== -/
/-- what a program has decided of the methods -/
def xMok (mi : Nat) : Bool := decide (lw_tbl[xinL.getD (xO mi) 0]? = some (Jvm.Cond.initialized (xY mi).cls)) && decide ((xY mi).cls = xon (xO mi)) && decide ((parseMethodDescriptor (xY mi).desc).map (fun d => d.parameters.length) = some (xA mi)) && plainName (xY mi).cls && decide ((xY mi).cls ≠ "java/lang/invoke/MethodHandle") && decide ((xY mi).cls ≠ "java/lang/invoke/VarHandle") && decide (xM mi ≤ 20)
set_option maxRecDepth 100000 in
theorem xMt_ok : (List.range 123).all xMok = true := by decide +kernel
theorem xM_some {mi : Nat} (h : mi < 123) : lw_tbl[xP mi]? = some (Jvm.Cond.code (xY mi) (xB mi) (xM mi) (xT mi)) ∧ lw_tbl[xinL.getD (xO mi) 0]? = some (Jvm.Cond.initialized (xY mi).cls) ∧ (xY mi).cls = xon (xO mi) ∧ (parseMethodDescriptor (xY mi).desc).map (fun d => d.parameters.length) = some (xA mi) ∧ plainName (xY mi).cls = true ∧ (xY mi).cls ≠ "java/lang/invoke/MethodHandle" ∧ (xY mi).cls ≠ "java/lang/invoke/VarHandle" ∧ xM mi ≤ 20 := by
  have hk := List.all_eq_true.mp xMt_ok mi (List.mem_range.mpr h)
  unfold xMok at hk
  simp only [Bool.and_eq_true, decide_eq_true_eq] at hk
  obtain ⟨⟨⟨⟨⟨⟨h2, h3⟩, h4⟩, h5⟩, h6⟩, h7⟩, h8⟩ := hk
  exact ⟨xcw_all mi h, h2, h3, h4, h5, h6, h7, h8⟩
/-- what a program has decided of the calls -/
def xCok (q : Nat × Nat × Nat × Nat × Nat × Nat × Nat) : Bool :=
  if q.2.2.1 = 0 then decide (lw_tbl[q.2.2.2.2.1]? = some (Jvm.Cond.methodLink (xon q.1) q.2.1 (xY q.2.2.2.1))) && decide (lw_tbl[q.2.2.2.2.2.1]? = some (Jvm.Cond.instanceMethod (xY q.2.2.2.1))) && decide (lw_tbl[q.2.2.2.2.2.2]? = some (Jvm.Cond.selects (xY q.2.2.2.1).cls (xY q.2.2.2.1) (xY q.2.2.2.1)))
  else if q.2.2.1 = 1 then decide (lw_tbl[q.2.2.2.2.1]? = some (Jvm.Cond.methodLink (xon q.1) q.2.1 (xY q.2.2.2.1))) && decide (lw_tbl[q.2.2.2.2.2.1]? = some (Jvm.Cond.static (xY q.2.2.2.1)))
  else if q.2.2.1 = 2 then decide (lw_tbl[q.2.2.2.2.1]? = some (Jvm.Cond.methodLink (xon q.1) q.2.1 (xY q.2.2.2.1))) && decide (lw_tbl[q.2.2.2.2.2.1]? = some (Jvm.Cond.instanceMethod (xY q.2.2.2.1))) && decide ((xY q.2.2.2.1).name = "<init>")
  else if q.2.2.1 = 3 then decide (lw_tbl[q.2.2.2.2.1]? = some (Jvm.Cond.methodLinkNest (xon q.1) q.2.1 (xY q.2.2.2.1) "DriftStore")) && decide (lw_tbl[q.2.2.2.2.2.1]? = some (Jvm.Cond.instanceMethod (xY q.2.2.2.1))) && decide ((xY q.2.2.2.1).name = "<init>")
  else if q.2.2.1 = 4 then decide (lw_tbl[q.2.2.2.2.1]? = some (Jvm.Cond.methodLinkNest (xon q.1) q.2.1 (xY q.2.2.2.1) "DriftStore")) && decide (lw_tbl[q.2.2.2.2.2.1]? = some (Jvm.Cond.static (xY q.2.2.2.1)))
  else if q.2.2.1 = 5 then decide (lw_tbl[q.2.2.2.2.1]? = some (Jvm.Cond.methodLink (xon q.1) q.2.1 objectInit))
  else if q.2.2.1 = 6 then decide (lw_tbl[q.2.2.2.2.1]? = some (Jvm.Cond.methodLink (xon q.1) q.2.1 Lib.Math.max.name))
  else if q.2.2.1 = 7 then decide (lw_tbl[q.2.2.2.2.1]? = some (Jvm.Cond.methodLink (xon q.1) q.2.1 Lib.Math.min.name))
  else if q.2.2.1 = 8 then decide (lw_tbl[q.2.2.2.2.1]? = some (Jvm.Cond.methodLink (xon q.1) q.2.1 Lib.MathLoose.min_long.x))
  else if q.2.2.1 = 9 then decide (lw_tbl[q.2.2.2.2.1]? = some (Jvm.Cond.methodLink (xon q.1) q.2.1 arraycopyName))
  else if q.2.2.1 = 10 then decide (lw_tbl[q.2.2.2.2.1]? = some (Jvm.Cond.methodLink (xon q.1) q.2.1 ⟨"java/lang/String", "length", "()I"⟩))
  else if q.2.2.1 = 11 then decide (lw_tbl[q.2.2.2.2.1]? = some (Jvm.Cond.methodLink (xon q.1) q.2.1 ⟨"java/lang/String", "charAt", "(I)C"⟩))
  else false
set_option maxRecDepth 100000 in
theorem xCt_ok : xCt.all xCok = true := by decide +kernel
theorem xCl_some {o i : Nat} {q : Nat × Nat × Nat × Nat × Nat × Nat × Nat} (h : xCl o i = some q) : q.1 = o ∧ q.2.1 = i ∧ xCok q = true := by
  have hm := List.mem_of_find?_eq_some h
  have hp := List.find?_some h
  simp only [Bool.and_eq_true, beq_iff_eq] at hp
  exact ⟨hp.1, hp.2, List.all_eq_true.mp xCt_ok q hm⟩
end
section
/-! ===== worlds only grow; arguments as locals ===== -/
def xle (w w' : xW) : Prop := w.2.1 ≤ w'.2.1 ∧ w.2.2 ≤ w'.2.2
theorem xle.refl (w : xW) : xle w w := ⟨Nat.le_refl _, Nat.le_refl _⟩
theorem xle.trans {a b c : xW} (h : xle a b) (g : xle b c) : xle a c := ⟨Nat.le_trans h.1 g.1, Nat.le_trans h.2 g.2⟩
section XG
variable {G : xG} {mi d pc o idx : Nat} {L : xL} {st : List Value} {w : xW} {f' : xF}
theorem xg_go {off : Int} (h : xgo pc off L st w = some (.inl f')) : xle w f'.2.2.2 := by
  obtain ⟨-, rfl⟩ := xgo_some h
  exact xle.refl _
theorem xg_br {b : Bool} {off : Int} (h : xbr b pc off L st w = some (.inl f')) : xle w f'.2.2.2 := by
  unfold xbr at h
  split at h
  · split at h <;> (cases h; exact xle.refl _)
  · cases h
theorem xg_call {kind id : Nat} (h : xcall G kind id pc L st w = some (.inl f')) : xle w f'.2.2.2 := by
  unfold xcall at h
  split at h
  · unfold xcV at h
    repeat' (split at h)
    all_goals cases h
  split at h
  · unfold xcS at h
    repeat' (split at h)
    all_goals cases h
  split at h
  · unfold xcI at h
    repeat' (split at h)
    all_goals cases h
  split at h
  · unfold xobj at h
    repeat' (split at h)
    all_goals first | (cases h; done) | (cases h; exact xle.refl _)
  split at h
  · unfold xmax at h
    repeat' (split at h)
    all_goals first | (cases h; done) | (cases h; exact xle.refl _)
  split at h
  · unfold xmin at h
    repeat' (split at h)
    all_goals first | (cases h; done) | (cases h; exact xle.refl _)
  split at h
  · unfold xminl at h
    repeat' (split at h)
    all_goals first | (cases h; done) | (cases h; exact xle.refl _)
  split at h
  · unfold xcopy at h
    repeat' (split at h)
    all_goals first | (cases h; done) | (cases h; exact xle.refl _)
  split at h
  · unfold xslen at h
    repeat' (split at h)
    all_goals first | (cases h; done) | (cases h; exact xle.refl _)
  split at h
  · unfold xsat at h
    repeat' (split at h)
    all_goals first | (cases h; done) | (cases h; exact xle.refl _)
  cases h
theorem xn_call {kind id : Nat} {r : Option Value × xW} (h : xcall G kind id pc L st w = some (.inr (.inl r))) : False := by
  unfold xcall at h
  split at h
  · unfold xcV at h
    repeat' (split at h)
    all_goals cases h
  split at h
  · unfold xcS at h
    repeat' (split at h)
    all_goals cases h
  split at h
  · unfold xcI at h
    repeat' (split at h)
    all_goals cases h
  split at h
  · unfold xobj at h
    repeat' (split at h)
    all_goals cases h
  split at h
  · unfold xmax at h
    repeat' (split at h)
    all_goals cases h
  split at h
  · unfold xmin at h
    repeat' (split at h)
    all_goals cases h
  split at h
  · unfold xminl at h
    repeat' (split at h)
    all_goals cases h
  split at h
  · unfold xcopy at h
    repeat' (split at h)
    all_goals cases h
  split at h
  · unfold xslen at h
    repeat' (split at h)
    all_goals cases h
  split at h
  · unfold xsat at h
    repeat' (split at h)
    all_goals cases h
  cases h
theorem xn_inv {op : Nat} {r : Option Value × xW} (h : xinv G op o idx d pc L st w = some (.inr (.inl r))) : False := by
  unfold xinv at h
  split at h
  · split at h
    · cases h
    · split at h
      · exact xn_call h
      · cases h
  · cases h
theorem xg_inv {op : Nat} (h : xinv G op o idx d pc L st w = some (.inl f')) : xle w f'.2.2.2 := by
  unfold xinv at h
  split at h
  · split at h
    · cases h
    · split at h
      · exact xg_call h
      · cases h
  · cases h
set_option maxHeartbeats 4000000 in
theorem xg_op {ins : Instr} (h : xop G mi d ins pc L st w = some (.inl f')) : xle w f'.2.2.2 := by
  cases ins with
  | goto off => exact xg_go h
  | invokevirtual i => exact xg_inv h
  | invokespecial i => exact xg_inv h
  | invokestatic i => exact xg_inv h
  | if_icmp c off =>
    change xicmp c off pc L st w = _ at h
    unfold xicmp at h
    split at h
    · exact xg_br h
    · cases h
  | ifCond c off =>
    change xif c off pc L st w = _ at h
    unfold xif at h
    split at h
    · exact xg_br h
    · cases h
  | ifnonnull off =>
    change xnonnull off pc L st w = _ at h
    unfold xnonnull at h
    split at h
    · exact xg_go h
    · cases h; exact xle.refl _
    · cases h
  | tableswitch df lo hi offs =>
    change xtsw df lo hi offs pc L st w = _ at h
    unfold xtsw at h
    split at h
    · split at h
      · exact xg_go h
      · split at h
        · exact xg_go h
        · cases h
    · cases h
  | lookupswitch df ps =>
    change xlsw df ps pc L st w = _ at h
    unfold xlsw at h
    split at h
    · split at h
      · exact xg_go h
      · cases h
    · cases h
  | istore i =>
    change xistore 2 i pc L st w = _ at h
    unfold xistore at h
    split at h
    · obtain ⟨L', hs, he⟩ := Option.map_eq_some_iff.mp h; cases he; exact xle.refl _
    · cases h
  | istore_n i =>
    change xistore 1 i pc L st w = _ at h
    unfold xistore at h
    split at h
    · obtain ⟨L', hs, he⟩ := Option.map_eq_some_iff.mp h; cases he; exact xle.refl _
    · cases h
  | astore i =>
    change xastore 2 i pc L st w = _ at h
    unfold xastore at h
    split at h
    · obtain ⟨L', hs, he⟩ := Option.map_eq_some_iff.mp h; cases he; exact xle.refl _
    · cases h
  | astore_n i =>
    change xastore 1 i pc L st w = _ at h
    unfold xastore at h
    split at h
    · obtain ⟨L', hs, he⟩ := Option.map_eq_some_iff.mp h; cases he; exact xle.refl _
    · cases h
  | lstore_n i =>
    change xlstore 1 i pc L st w = _ at h
    unfold xlstore at h
    split at h
    · obtain ⟨L', hs, he⟩ := Option.map_eq_some_iff.mp h; cases he; exact xle.refl _
    · cases h
  | iinc i k =>
    change xiinc i k pc L st w = _ at h
    unfold xiinc at h
    split at h
    · obtain ⟨L', hs, he⟩ := Option.map_eq_some_iff.mp h; cases he; exact xle.refl _
    · cases h
  | newarray t =>
    change xnewa t pc L st w = _ at h
    unfold xnewa at h
    repeat' (split at h)
    all_goals first | (cases h; done) | (cases h; exact ⟨Nat.le_succ _, Nat.le_add_right _ _⟩)
  | anewarray i =>
    change xanew (xO mi) i pc L st w = _ at h
    unfold xanew at h
    repeat' (split at h)
    all_goals first | (cases h; done) | (cases h; exact ⟨Nat.le_succ _, Nat.le_add_right _ _⟩)
  | new i =>
    change xnew (xO mi) i pc L st w = _ at h
    unfold xnew at h
    repeat' (split at h)
    all_goals first | (cases h; done) | (cases h; exact ⟨Nat.le_succ _, Nat.le_add_right _ _⟩)
  | multianewarray i dims =>
    change xmulti (xO mi) i dims pc L st w = _ at h
    unfold xmulti at h
    repeat' (split at h)
    all_goals first | (cases h; done) | (cases h; exact ⟨by show _ ≤ w.2.1 + 1 + _; omega, by show _ ≤ w.2.2 + _ + _; omega⟩)
  | _ =>
    first
      | (cases h; done)
      | (simp only [xop, xpush, xiload, xlload, xaload, xbin, xdiv, xlbin, xun, xl2i, xlcmp, xdup, xdup2, xpop, xiald, xbald, xaald, xalen, xiast, xbast, xaast, xgetf, xputf, xldc, xldc2, xiret, xlret, xaret, xvret] at h
         repeat' (split at h)
         all_goals first | (cases h; done) | (cases h; exact xle.refl _))
theorem xg_ret {ins : Instr} {r : Option Value × xW} (h : xop G mi d ins pc L st w = some (.inr (.inl r))) : r.2 = w := by
  cases ins with
  | ireturn =>
    change xiret (xT mi) st w = _ at h
    unfold xiret at h
    repeat' (split at h)
    all_goals first | (cases h; done) | (cases h; rfl)
  | lreturn =>
    change xlret (xT mi) st w = _ at h
    unfold xlret at h
    repeat' (split at h)
    all_goals first | (cases h; done) | (cases h; rfl)
  | areturn =>
    change xaret (xT mi) st w = _ at h
    unfold xaret at h
    repeat' (split at h)
    all_goals first | (cases h; done) | (cases h; rfl)
  | return_ =>
    change xvret (xT mi) st w = _ at h
    unfold xvret at h
    repeat' (split at h)
    all_goals first | (cases h; done) | (cases h; rfl)
  | invokevirtual i => exact (xn_inv h).elim
  | invokespecial i => exact (xn_inv h).elim
  | invokestatic i => exact (xn_inv h).elim
  | istore i =>
    change xistore 2 i pc L st w = _ at h
    unfold xistore at h
    split at h
    · obtain ⟨L', hs, he⟩ := Option.map_eq_some_iff.mp h; cases he
    · cases h
  | istore_n i =>
    change xistore 1 i pc L st w = _ at h
    unfold xistore at h
    split at h
    · obtain ⟨L', hs, he⟩ := Option.map_eq_some_iff.mp h; cases he
    · cases h
  | astore i =>
    change xastore 2 i pc L st w = _ at h
    unfold xastore at h
    split at h
    · obtain ⟨L', hs, he⟩ := Option.map_eq_some_iff.mp h; cases he
    · cases h
  | astore_n i =>
    change xastore 1 i pc L st w = _ at h
    unfold xastore at h
    split at h
    · obtain ⟨L', hs, he⟩ := Option.map_eq_some_iff.mp h; cases he
    · cases h
  | lstore_n i =>
    change xlstore 1 i pc L st w = _ at h
    unfold xlstore at h
    split at h
    · obtain ⟨L', hs, he⟩ := Option.map_eq_some_iff.mp h; cases he
    · cases h
  | iinc i k =>
    change xiinc i k pc L st w = _ at h
    unfold xiinc at h
    split at h
    · obtain ⟨L', hs, he⟩ := Option.map_eq_some_iff.mp h; cases he
    · cases h
  | _ =>
    first
      | (cases h; done)
      | (simp only [xop, xpush, xiload, xlload, xaload, xbin, xdiv, xlbin, xun, xl2i, xlcmp, xdup, xdup2, xpop, xiald, xbald, xaald, xalen, xiast, xbast, xaast, xgetf, xputf, xldc, xldc2, xgo, xbr, xicmp, xif, xnonnull, xtsw, xlsw, xnewa, xanew, xnew, xmulti] at h
         repeat' (split at h)
         all_goals (cases h; done))
end XG
theorem xargs_len (vs : List Value) : (lg_sl vs).length = (xargs vs).length := by
  induction vs with
  | nil => rfl
  | cons v vs ih =>
    show ((if v.category = 2 then [Slot.val v, Slot.second] else [Slot.val v]) ++ lg_sl vs).length = (if v.category = 2 then some v :: none :: xargs vs else some v :: xargs vs).length
    split <;> simp [ih]
theorem xargs_at : ∀ (vs : List Value) (k i : Nat) (v : Value), (xargs vs)[i]? = some (some v) → (k + i, v) ∈ lv_args k vs := by
  intro vs
  induction vs with
  | nil => intro k i v h; simp [xargs] at h
  | cons u vs ih =>
    intro k i v h
    unfold xargs at h
    unfold lv_args
    split at h
    · rename_i hc
      rw [if_pos hc]
      match i, h with
      | 0, h =>
        cases h
        exact List.mem_cons_self
      | 1, h => cases h
      | i + 2, h =>
        have := ih (k + 2) i v h
        rw [show k + 2 + i = k + (i + 2) by omega] at this
        exact List.mem_cons_of_mem _ this
    · rename_i hc
      rw [if_neg hc]
      match i, h with
      | 0, h =>
        cases h
        exact List.mem_cons_self
      | i + 1, h =>
        have := ih (k + 1) i v h
        rw [show k + 1 + i = k + (i + 1) by omega] at this
        exact List.mem_cons_of_mem _ this
theorem xlr_entry {mi : Nat} {as : List Value} (h : (xargs as).length ≤ xM mi) : xlr ((lg_sl as ++ List.replicate (xM mi - (lg_sl as).length) Slot.unset).toArray) (xM mi) (xloc mi as) := by
  have hl := lv_entry as (n := xM mi) (by rw [xargs_len]; exact h)
  refine ⟨by simp [xloc]; omega, hl.1, hl.2.1, fun q hq => ?_⟩
  have hq := xpr_mem.mp hq
  unfold xloc at hq
  by_cases hi : q.1 < (xargs as).length
  · rw [List.getElem?_append_left hi] at hq
    have := xargs_at as 0 q.1 q.2 hq
    rw [Nat.zero_add] at this
    exact hl.2.2 q this
  · rw [List.getElem?_append_right (by omega)] at hq
    have := List.mem_of_getElem? hq
    have := List.eq_of_mem_replicate this
    cases this
end
section
/-! ===== the small machine is right: members of the JDK; behind a call ===== -/
theorem xro_call {G : xG} {adV : Nat → Nat} {A B : Nat → Prop} {s U : State} {H : Heap} {locs : List Loc} (h : xro G adV A s s.heap) (hS : va_S A s.heap H locs) (hW : s.WarmedH U.vm) (hU : U.heap = H) (hB : ∀ q, B q → A q) : xro G adV B U U.heap := by
  obtain ⟨h1, h2, h3, h4, h5, h6, h7, h8⟩ := h
  rw [hU]
  exact ⟨(h1.moved hW.alike).kept (hS.2.1 _ h2 h3), Nat.lt_of_lt_of_le h2 hS.1, fun z => h3 (hB _ z), ((h4.moved hW.alike).kept hS.2.1).narrow hB, fun q hq h0 => (h5 q hq h0).warm hW, h6, ((h7.moved hW.alike).kept hS.2.1).narrow hB, ((h8.moved hW.alike).kept hS.2.1).narrow hB⟩
theorem xro_same {G : xG} {adV : Nat → Nat} {A : Nat → Prop} {s U : State} (h : xro G adV A s s.heap) (hv : U.vm = s.vm) (hU : U.heap = s.heap) : xro G adV A U U.heap :=
  xro_call (locs := []) h va_S.rf (by rw [hv]; exact State.WarmedH.refl s) hU (fun _ z => z)
set_option maxRecDepth 100000 in
theorem xw71 : lw_tbl[71]? = some (Jvm.Cond.instanceMethod objectInit) := rfl
set_option maxRecDepth 100000 in
theorem xw72 : lw_tbl[72]? = some (Jvm.Cond.code objectInit ⟨#[0xb1]⟩ 1 none) := rfl
set_option maxRecDepth 100000 in
theorem xw62 : lw_tbl[62]? = some (Jvm.Cond.initialized "java/lang/Math") := rfl
set_option maxRecDepth 100000 in
theorem xw63 : lw_tbl[63]? = some (Jvm.Cond.initialized "java/lang/System") := rfl
set_option maxRecDepth 100000 in
theorem xw499 : lw_tbl[499]? = some (Jvm.Cond.static Lib.Math.max.name) := rfl
set_option maxRecDepth 100000 in
theorem xw500 : lw_tbl[500]? = some (Jvm.Cond.code Lib.Math.max.name Lib.Math.max.code 2 (some .int)) := rfl
set_option maxRecDepth 100000 in
theorem xw457 : lw_tbl[457]? = some (Jvm.Cond.static Lib.Math.min.name) := rfl
set_option maxRecDepth 100000 in
theorem xw458 : lw_tbl[458]? = some (Jvm.Cond.code Lib.Math.min.name Lib.Math.min.code 2 (some .int)) := rfl
set_option maxRecDepth 100000 in
theorem xw846 : lw_tbl[846]? = some (Jvm.Cond.static Lib.MathLoose.min_long.x) := rfl
set_option maxRecDepth 100000 in
theorem xw847 : lw_tbl[847]? = some (Jvm.Cond.code Lib.MathLoose.min_long.x Lib.MathLoose.min_long.code 4 (some .long)) := rfl
set_option maxRecDepth 100000 in
theorem xw460 : lw_tbl[460]? = some (Jvm.Cond.static arraycopyName) := rfl
set_option maxRecDepth 100000 in
theorem xw461 : lw_tbl[461]? = some (Jvm.Cond.native arraycopyName) := rfl
theorem xcl_nn {z : Int32} (hz : ¬ z < 0) : z.toInt = (z.toNatClampNeg : Int) := by
  have hz0 : (0 : Int) ≤ z.toInt := by
    have := Int32.not_lt.mp hz
    simpa using Int32.le_iff_toInt_le.mp this
  show z.toInt = ((z.toInt.toNat : Nat) : Int)
  omega
section XB
variable {p : Program} {l : Launch} {e : Env} {R : Room} {s : State} {m : MethodId} {args : Array Value} {below : List Frame} {meth : Method} {c : Code} {Q : State → Prop} {D : va_G} {tA : Nat → ClassId} {A : Nat → Prop} {s0 nL : Nat} {cc : ByteArray} {pc : Nat} {L : xL} {st : List Value} {w : xW} {f' : xF} {G : xG} {adV : Nat → Nat} {o : Nat}
theorem xs_obj (hx : p.tables.exec = Jvm.exec) (hb : c.code = cc) (hml : c.maxLocals = nL) (hK : xK D tA s) (hown : s.vm.findClass (xon o) = some m.cls) {idx : Nat} (hR1 : 1 ≤ R.frames) (hR2 : 64 ≤ R.locals) (hl : (Jvm.Cond.methodLink (xon o) idx objectInit).before args s = true) (hdg : decode cc pc = .ok (.invokespecial idx, 3)) (hop : xobj pc L st w = some (.inl f')) (hk : xnx p l e R s m args below meth c Q D tA A s0 nL f') : xnx p l e R s m args below meth c Q D tA A s0 nL (pc, L, st, w) := by
  unfold xobj at hop
  split at hop
  · rename_i a r
    split at hop
    · rename_i hc
      cases hop
      intro H locs cells slots ls hR hL
      have hc : (r.map fun v => v.category).sum ≤ 8 := hc
      exact W.objInit hx hb hown hl (hK.w _ xw71 rfl args) (hK.w _ xw72 rfl args) rfl (by rw [hml]; exact hL.2.1) rfl hdg hR1 (by show 2 * 0 + (r.map fun v => v.category).sum + 12 ≤ R.locals; omega) (hk H locs cells slots ls hR hL)
    · cases hop
  · cases hop
theorem xs_max (hx : p.tables.exec = Jvm.exec) (hb : c.code = cc) (hml : c.maxLocals = nL) (hK : xK D tA s) (hown : s.vm.findClass (xon o) = some m.cls) {idx : Nat} (hR1 : 1 ≤ R.frames) (hR2 : 64 ≤ R.locals) (hf1 : f'.2.2.2.2.1 ≤ s.heap.size + R.cells) (hf2 : f'.2.2.2.2.2 ≤ s0 + R.slots) (hl : (Jvm.Cond.methodLink (xon o) idx Lib.Math.max.name).before args s = true) (hdg : decode cc pc = .ok (.invokestatic idx, 3)) (hop : xmax pc L st w = some (.inl f')) (hk : xnx p l e R s m args below meth c Q D tA A s0 nL f') : xnx p l e R s m args below meth c Q D tA A s0 nL (pc, L, st, w) := by
  unfold xmax at hop
  split at hop
  · rename_i y x r
    split at hop
    · rename_i hc
      cases hop
      intro H locs cells slots ls hR hL
      have hc : (r.map fun v => v.category).sum ≤ 8 := hc
      have hcell : s.heap.size + cells = w.2.1 := hR.2.2.2.2.1
      have hslot : s0 + slots = w.2.2 := hR.2.2.2.2.2
      have hf1 : w.2.1 ≤ s.heap.size + R.cells := hf1
      have hf2 : w.2.2 ≤ s0 + R.slots := hf2
      exact va_mmax hx hb (by rw [hml]; exact hL.2.1.symm) hown hl (hK.w _ xw499 rfl args) (hK.w _ xw62 rfl args) (hK.w _ xw500 rfl args) hR1 (by omega) (by omega) (by omega) hdg (hk H locs cells slots ls hR hL)
    · cases hop
  · cases hop
theorem xs_min (hx : p.tables.exec = Jvm.exec) (hb : c.code = cc) (hml : c.maxLocals = nL) (hK : xK D tA s) (hown : s.vm.findClass (xon o) = some m.cls) {idx : Nat} (hR1 : 1 ≤ R.frames) (hR2 : 64 ≤ R.locals) (hf1 : f'.2.2.2.2.1 ≤ s.heap.size + R.cells) (hf2 : f'.2.2.2.2.2 ≤ s0 + R.slots) (hl : (Jvm.Cond.methodLink (xon o) idx Lib.Math.min.name).before args s = true) (hdg : decode cc pc = .ok (.invokestatic idx, 3)) (hop : xmin pc L st w = some (.inl f')) (hk : xnx p l e R s m args below meth c Q D tA A s0 nL f') : xnx p l e R s m args below meth c Q D tA A s0 nL (pc, L, st, w) := by
  unfold xmin at hop
  split at hop
  · rename_i y x r
    split at hop
    · rename_i hc
      cases hop
      intro H locs cells slots ls hR hL
      have hc : (r.map fun v => v.category).sum ≤ 8 := hc
      have hcell : s.heap.size + cells = w.2.1 := hR.2.2.2.2.1
      have hslot : s0 + slots = w.2.2 := hR.2.2.2.2.2
      have hf1 : w.2.1 ≤ s.heap.size + R.cells := hf1
      have hf2 : w.2.2 ≤ s0 + R.slots := hf2
      exact va_mmin hx hb (by rw [hml]; exact hL.2.1.symm) hown hl (hK.w _ xw457 rfl args) (hK.w _ xw62 rfl args) (hK.w _ xw458 rfl args) hR1 (by omega) (by omega) (by omega) hdg (hk H locs cells slots ls hR hL)
    · cases hop
  · cases hop
theorem xs_minl (hx : p.tables.exec = Jvm.exec) (hb : c.code = cc) (hml : c.maxLocals = nL) (hK : xK D tA s) (hown : s.vm.findClass (xon o) = some m.cls) {idx : Nat} (hR1 : 1 ≤ R.frames) (hR2 : 64 ≤ R.locals) (hf1 : f'.2.2.2.2.1 ≤ s.heap.size + R.cells) (hf2 : f'.2.2.2.2.2 ≤ s0 + R.slots) (hl : (Jvm.Cond.methodLink (xon o) idx Lib.MathLoose.min_long.x).before args s = true) (hdg : decode cc pc = .ok (.invokestatic idx, 3)) (hop : xminl pc L st w = some (.inl f')) (hk : xnx p l e R s m args below meth c Q D tA A s0 nL f') : xnx p l e R s m args below meth c Q D tA A s0 nL (pc, L, st, w) := by
  unfold xminl at hop
  split at hop
  · rename_i y x r
    split at hop
    · rename_i hc
      cases hop
      intro H locs cells slots ls hR hL
      have hc : (r.map fun v => v.category).sum ≤ 8 := hc
      have hcell : s.heap.size + cells = w.2.1 := hR.2.2.2.2.1
      have hslot : s0 + slots = w.2.2 := hR.2.2.2.2.2
      have hf1 : w.2.1 ≤ s.heap.size + R.cells := hf1
      have hf2 : w.2.2 ≤ s0 + R.slots := hf2
      exact va_mmin_long hx hb (by rw [hml]; exact hL.2.1.symm) hown hl (hK.w _ xw846 rfl args) (hK.w _ xw62 rfl args) (hK.w _ xw847 rfl args) hR1 (by omega) (by omega) (by omega) hdg (hk H locs cells slots ls hR hL)
    · cases hop
  · cases hop
theorem xrep_puts {H H1 : Heap} {locs locs1 : List Loc} {cells slots a : Nat} {e0 e1 : xE} (h : xrep D tA A s.heap s0 w H locs cells slots) (ha : w.1 a = some e0) (he : va_at D xcl (a, xte tA e1) H1) (z : H1.size = H.size) (oq : ∀ q : Nat, q ≠ a → H1[q]? = H[q]?) (hl : ∀ q ∈ locs1, q.base = a) : xrep D tA A s.heap s0 (xup w.1 a e1, w.2) H1 (locs ++ locs1) cells slots := by
  have h2 := xrep_put (k := 0) h ha he z oq
  obtain ⟨g1, g2, g3, g4, g5, g6⟩ := h2
  refine ⟨g1, g2, ⟨g3.1, g3.2.1, fun q hq => ?_⟩, g4, g5, g6⟩
  rcases List.mem_append.mp hq with hq | hq
  · exact h.2.2.1.2.2 q hq
  · rw [hl q hq]
    exact (h.1 a e0 ha).2
theorem xs_copy (hx : p.tables.exec = Jvm.exec) (hb : c.code = cc) (hml : c.maxLocals = nL) (hK : xK D tA s) (hown : s.vm.findClass (xon o) = some m.cls) {idx : Nat} (hR1 : 1 ≤ R.frames) (hR2 : 64 ≤ R.locals) (hl : (Jvm.Cond.methodLink (xon o) idx arraycopyName).before args s = true) (hdg : decode cc pc = .ok (.invokestatic idx, 3)) (hop : xcopy pc L st w = some (.inl f')) (hk : xnx p l e R s m args below meth c Q D tA A s0 nL f') : xnx p l e R s m args below meth c Q D tA A s0 nL (pc, L, st, w) := by
  unfold xcopy at hop
  split at hop
  · rename_i n dp b sp a r
    split at hop
    · rename_i n0 f n1 g ha hb1
      split at hop
      · cases hop
      · rename_i hc
        cases hop
        simp only [not_or] at hc
        obtain ⟨hc8, h1, h2, h3, h4, h5⟩ := hc
        intro H locs cells slots ls hR hL T hT X
        have hc0 : H[a]? = some (vp_cell (tA 0) (n0, .inl f)) := (hR.1 a _ ha).1
        have hc1 : H[b]? = some (vp_cell (tA 0) (n1, .inl g)) := (hR.1 b _ hb1).1
        obtain ⟨-, k0, hk0, cm0, hkk0⟩ := (hK.2.2.1.2 0 _ rfl).1 n0 (fun j => .int (f j))
        have hc8 : (r.map fun v => v.category).sum ≤ 8 := by unfold xcats at hc8; omega
        have hnat : nativeFrameWords "java/lang/System" "arraycopy" 5 ≤ 40 := by decide
        obtain ⟨vm', X', step⟩ := X.arraycopy hx hown hl (hK.w _ xw461 rfl args) (hK.w _ xw460 rfl args) (hK.w _ xw63 rfl args) (src := a) (dst := b) (cs := vp_cell (tA 0) (n0, .inl f)) (cd := vp_cell (tA 0) (n1, .inl g)) (srcPos := sp) (destPos := dp) (n := n) (by rw [hT]; exact hc0) (by rw [hT]; exact hc1)
          (fun _ h => by cases h) (fun _ h => by cases h) (fun h => by cases h) (fun h => by cases h) hk0 hk0 hkk0 hkk0 (by simp [refKind]) h1 h2 h3
          (by rw [xcl_nn h1, xcl_nn h3]; show ¬ _ > ((arrV (tA 0) n0 (fun j => .int (f j))).slots.size : Int); rw [arrV_size]; omega)
          (by rw [xcl_nn h2, xcl_nn h3]; show ¬ _ > ((arrV (tA 0) n1 (fun j => .int (g j))).slots.size : Int); rw [arrV_size]; omega)
          (fun vm₁ _ i hi => by
            have e9 : (vp_cell (tA 0) (n0, .inl f)).slots.getD (sp.toNatClampNeg + i) .null = .int (f (sp.toNatClampNeg + i)) := by
              show (arrV (tA 0) n0 (fun j => .int (f j))).slots.getD _ _ = _
              rw [Array.getD_eq_getD_getElem?, arrV_read _ _ (by omega)]
              rfl
            rw [e9]
            exact ⟨rfl, trivial⟩)
          (g := F0 m pc ls (.int n :: .int dp :: .ref b :: .int sp :: .ref a :: r)) rfl (by rw [hml]; exact hL.2.1) (rest := r) rfl (by rw [hb]; exact hdg) hR1 (by show 2 * 0 + (r.map fun v => v.category).sum + (nativeFrameWords "java/lang/System" "arraycopy" 5 + 11) ≤ R.locals; omega)
        have e1 : copied (vp_cell (tA 0) (n0, .inl f)) (vp_cell (tA 0) (n1, .inl g)) sp dp n = vp_cell (tA 0) (n1, .inl (va_cpy f g sp.toNatClampNeg dp.toNatClampNeg n.toNatClampNeg)) := va_copied (fun z => .int z) (tA 0) (tA 0) f g (by omega)
        rw [e1] at X' step
        have hlt : b < H.size := (Array.getElem?_eq_some_iff.mp hc1).1
        have hheap : ((T.setVm vm').setCell b (vp_cell (tA 0) (n1, .inl (va_cpy f g sp.toNatClampNeg dp.toNatClampNeg n.toNatClampNeg)))).heap = H.setIfInBounds b (vp_cell (tA 0) (n1, .inl (va_cpy f g sp.toNatClampNeg dp.toNatClampNeg n.toNatClampNeg))) := by rw [← hT]; rfl
        have oq : ∀ q : Nat, q ≠ b → (H.setIfInBounds b (vp_cell (tA 0) (n1, .inl (va_cpy f g sp.toNatClampNeg dp.toNatClampNeg n.toNatClampNeg))))[q]? = H[q]? := fun q hq => by simp [Array.getElem?_setIfInBounds, Ne.symm hq]
        obtain ⟨t, a1, b1⟩ := hk _ _ cells slots ls (xrep_puts (e1 := .inl (0, n1, .inl (va_cpy f g sp.toNatClampNeg dp.toNatClampNeg n.toNatClampNeg))) hR hb1 (show (H.setIfInBounds b _)[b]? = some _ by simp [Array.getElem?_setIfInBounds, hlt]) (by simp) oq (fun q hq => by
          obtain ⟨z, -, hz⟩ := List.mem_map.mp hq
          rw [← hz])) hL _ hheap X'
        exact ⟨t, step t a1, b1⟩
    · cases hop
  · cases hop
/-- behind a call of the claim's own methods -/
theorem xs_after {H : Heap} {locs : List Loc} {cells slots mc ms : Nat} {ls : Array Slot} {v1 : Option Value} {w1 : xW} {A1 : Nat → Prop} {a : Array Value} {rest st0 : List Value} (hr : va_Run p l e R s m args below meth c H locs cells slots mc ms (F0 m pc ls st0) rest (xQ D tA A1 v1 w1 a) A1) (hR : xrep D tA A s.heap s0 w H locs cells slots) (hL : xlr ls nL L) (hA1 : ∀ q, A1 q → A q) (hmc : w.2.1 + mc = w1.2.1) (hms : w.2.2 + ms = w1.2.2)
    (hk : xnx p l e R s m args below meth c Q D tA A s0 nL (pc + 3, L, v1.toList ++ rest, w1)) : W p l e R s m args below meth c H locs cells slots Q (F0 m pc ls st0) := by
  intro T hT X
  obtain ⟨v, st₀, t, T', L', h0, X', hL', e1, e2, ⟨hv, hw, hz, hF⟩, step⟩ := hr T hT X
  cases hv
  obtain ⟨g1, g2, g3, g4, g5, g6⟩ := hR
  have hrep : xrep D tA A s.heap s0 w1 T'.heap (locs ++ L') (cells + mc) (slots + ms) := by
    refine ⟨fun b e' hb => ?_, by rw [e1]; exact hz, ⟨Nat.le_trans g3.1 (by rw [e1, ← h0]; exact hF.1), fun q h1 h2 => ?_, fun q hq => ?_⟩, g4, by omega, by omega⟩
    · rw [e1]
      exact ⟨(hw b e' hb).1, hA1 _ (hw b e' hb).2⟩
    · have hq : q < st₀.heap.size := by rw [h0]; exact Nat.lt_of_lt_of_le h1 g3.1
      rw [e1, hF.2 q hq (fun z => h2 (hA1 q z)), h0]
      exact g3.2.1 q h1 h2
    · rcases List.mem_append.mp hq with h | h
      · exact g3.2.2 q h
      · exact hA1 _ (hL' q h)
  obtain ⟨t2, a1, b1⟩ := hk T'.heap (locs ++ L') (cells + mc) (slots + ms) ls hrep hL T' rfl X'
  exact ⟨t2, step t2 a1, b1⟩
end XB
end
section
/-! ===== open rows of the small machine: texts, arrays of arrays ===== -/
section XO
variable {p : Program} {l : Launch} {e : Env} {R : Room} {s : State} {m : MethodId} {args : Array Value} {below : List Frame} {meth : Method} {c : Code} {Q : State → Prop} {D : va_G} {tA : Nat → ClassId} {A : Nat → Prop} {s0 nL : Nat} {cc : ByteArray} {pc : Nat} {L : xL} {st : List Value} {w : xW} {f' : xF} {G : xG} {adV : Nat → Nat} {o : Nat}
theorem xs_slen (hx : p.tables.exec = Jvm.exec) (hb : c.code = cc) (hml : c.maxLocals = nL) (hK : xK D tA s) (hro : xro G adV A s s.heap) (hown : s.vm.findClass (xon o) = some m.cls) {idx : Nat} (hR1 : 1 ≤ R.frames) (hR2 : 64 ≤ R.locals) (hf1 : f'.2.2.2.2.1 ≤ s.heap.size + R.cells) (hf2 : f'.2.2.2.2.2 ≤ s0 + R.slots) (hl : (Jvm.Cond.methodLink (xon o) idx ⟨"java/lang/String", "length", "()I"⟩).before args s = true) (hdg : decode cc pc = .ok (.invokevirtual idx, 3)) (hop : xslen G pc L st w = some (.inl f')) (hk : xnx p l e R s m args below meth c Q D tA A s0 nL f') : xnx p l e R s m args below meth c Q D tA A s0 nL (pc, L, st, w) := by
  sorry
theorem xs_sat (hx : p.tables.exec = Jvm.exec) (hb : c.code = cc) (hml : c.maxLocals = nL) (hK : xK D tA s) (hro : xro G adV A s s.heap) (hown : s.vm.findClass (xon o) = some m.cls) {idx : Nat} (hR1 : 1 ≤ R.frames) (hR2 : 64 ≤ R.locals) (hf1 : f'.2.2.2.2.1 ≤ s.heap.size + R.cells) (hf2 : f'.2.2.2.2.2 ≤ s0 + R.slots) (hl : (Jvm.Cond.methodLink (xon o) idx ⟨"java/lang/String", "charAt", "(I)C"⟩).before args s = true) (hdg : decode cc pc = .ok (.invokevirtual idx, 3)) (hop : xsat G pc L st w = some (.inl f')) (hk : xnx p l e R s m args below meth c Q D tA A s0 nL f') : xnx p l e R s m args below meth c Q D tA A s0 nL (pc, L, st, w) := by
  sorry
theorem xs_multi (hx : p.tables.exec = Jvm.exec) (hb : c.code = cc) (hK : xK D tA s) (hown : s.vm.findClass (xon o) = some m.cls) {idx dims : Nat} (hf1 : f'.2.2.2.2.1 ≤ s.heap.size + R.cells) (hf2 : f'.2.2.2.2.2 ≤ s0 + R.slots) (hdg : decode cc pc = .ok (.multianewarray idx dims, 4)) (hop : xmulti o idx dims pc L st w = some (.inl f')) (hk : xnx p l e R s m args below meth c Q D tA A s0 nL f') : xnx p l e R s m args below meth c Q D tA A s0 nL (pc, L, st, w) := by
  sorry
end XO
end
section
/-! ===== THE SMALL MACHINE IS RIGHT (wip/gen/lay14.py) ===== -/
section XS
variable {p : Program} {l : Launch} {e : Env} {R : Room} {s : State} {m : MethodId} {args : Array Value} {below : List Frame} {meth : Method} {c : Code} {Q : State → Prop} {D : va_G} {tA : Nat → ClassId} {A : Nat → Prop} {s0 : Nat} {pc mi d : Nat} {L : xL} {st : List Value} {w : xW} {f' : xF} {G : xG} {adV : Nat → Nat}
theorem xs_inv {op idx : Nat} (hC : xCtx mi p s m meth c) (hK : xK D tA s) (hro : xro G adV A s s.heap) (hd1 : d ≤ R.frames) (hd2 : 64 * d ≤ R.locals) (hf1 : f'.2.2.2.2.1 ≤ s.heap.size + R.cells) (hf2 : f'.2.2.2.2.2 ≤ s0 + R.slots) (hdg : decode (xB mi) pc = .ok ((if op = 0 then .invokevirtual idx else if op = 1 then .invokespecial idx else .invokestatic idx), 3)) (hop : xinv G op (xO mi) idx d pc L st w = some (.inl f')) (hk : xnx p l e R s m args below meth c Q D tA A s0 (xM mi) f') : xnx p l e R s m args below meth c Q D tA A s0 (xM mi) (pc, L, st, w) := by
  obtain ⟨hx, hb, hml, hr, hown, hlocks, hnm⟩ := hC
  unfold xinv at hop
  split at hop
  · rename_i q hq
    split at hop
    · cases hop
    · rename_i hd
      have hR1 : 1 ≤ R.frames := by omega
      have hR2 : 64 ≤ R.locals := by omega
      split at hop
      · rename_i hkind
        obtain ⟨ho, hi, hok⟩ := xCl_some hq
        unfold xCok at hok
        rw [ho, hi] at hok
        unfold xcall at hop
        by_cases h0 : q.2.2.1 = 0
        · rw [if_pos h0] at hop
          unfold xcV at hop
          repeat' (split at hop)
          all_goals cases hop
        rw [if_neg h0] at hop hok
        by_cases h1 : q.2.2.1 = 1
        · rw [if_pos (Or.inl h1)] at hop
          unfold xcS at hop
          repeat' (split at hop)
          all_goals cases hop
        rw [if_neg h1] at hok
        by_cases h2 : q.2.2.1 = 2
        · rw [if_neg (by omega), if_pos (Or.inl h2)] at hop
          unfold xcI at hop
          repeat' (split at hop)
          all_goals cases hop
        rw [if_neg h2] at hok
        by_cases h3 : q.2.2.1 = 3
        · rw [if_neg (by omega), if_pos (Or.inr h3)] at hop
          unfold xcI at hop
          repeat' (split at hop)
          all_goals cases hop
        rw [if_neg h3] at hok
        by_cases h4 : q.2.2.1 = 4
        · rw [if_pos (Or.inr h4)] at hop
          unfold xcS at hop
          repeat' (split at hop)
          all_goals cases hop
        rw [if_neg h4] at hok
        rw [if_neg (by omega), if_neg (by omega)] at hop
        by_cases h5 : q.2.2.1 = 5
        · rw [if_pos h5] at hop hok
          have hop1 : op = 1 := by omega
          subst hop1
          exact xs_obj hx hb hml hK hown hR1 hR2 (hK.w _ (of_decide_eq_true hok) rfl args) hdg hop hk
        rw [if_neg h5] at hop hok
        by_cases h6 : q.2.2.1 = 6
        · rw [if_pos h6] at hop hok
          have hop1 : op = 2 := by omega
          subst hop1
          exact xs_max hx hb hml hK hown hR1 hR2 hf1 hf2 (hK.w _ (of_decide_eq_true hok) rfl args) hdg hop hk
        rw [if_neg h6] at hop hok
        by_cases h7 : q.2.2.1 = 7
        · rw [if_pos h7] at hop hok
          have hop1 : op = 2 := by omega
          subst hop1
          exact xs_min hx hb hml hK hown hR1 hR2 hf1 hf2 (hK.w _ (of_decide_eq_true hok) rfl args) hdg hop hk
        rw [if_neg h7] at hop hok
        by_cases h8 : q.2.2.1 = 8
        · rw [if_pos h8] at hop hok
          have hop1 : op = 2 := by omega
          subst hop1
          exact xs_minl hx hb hml hK hown hR1 hR2 hf1 hf2 (hK.w _ (of_decide_eq_true hok) rfl args) hdg hop hk
        rw [if_neg h8] at hop hok
        by_cases h9 : q.2.2.1 = 9
        · rw [if_pos h9] at hop hok
          have hop1 : op = 2 := by omega
          subst hop1
          exact xs_copy hx hb hml hK hown hR1 hR2 (hK.w _ (of_decide_eq_true hok) rfl args) hdg hop hk
        rw [if_neg h9] at hop hok
        by_cases h10 : q.2.2.1 = 10
        · rw [if_pos h10] at hop hok
          have hop1 : op = 0 := by omega
          subst hop1
          exact xs_slen hx hb hml hK hro hown hR1 hR2 hf1 hf2 (hK.w _ (of_decide_eq_true hok) rfl args) hdg hop hk
        rw [if_neg h10] at hop hok
        by_cases h11 : q.2.2.1 = 11
        · rw [if_pos h11] at hop hok
          have hop1 : op = 0 := by omega
          subst hop1
          exact xs_sat hx hb hml hK hro hown hR1 hR2 hf1 hf2 (hK.w _ (of_decide_eq_true hok) rfl args) hdg hop hk
        rw [if_neg h11] at hop hok
        cases hop
      · cases hop
  · cases hop
theorem xnoret {ins : Instr} (hi : ins = .ireturn ∨ ins = .lreturn ∨ ins = .areturn ∨ ins = .return_) : ¬ xop G mi d ins pc L st w = some (.inl f') := by
  intro h
  rcases hi with rfl | rfl | rfl | rfl
  · change xiret (xT mi) st w = _ at h
    unfold xiret at h
    repeat' (split at h)
    all_goals cases h
  · change xlret (xT mi) st w = _ at h
    unfold xlret at h
    repeat' (split at h)
    all_goals cases h
  · change xaret (xT mi) st w = _ at h
    unfold xaret at h
    repeat' (split at h)
    all_goals cases h
  · change xvret (xT mi) st w = _ at h
    unfold xvret at h
    repeat' (split at h)
    all_goals cases h
/-- one instruction -/
theorem xs_step {ins : Instr} {len : Nat} (hC : xCtx mi p s m meth c) (hK : xK D tA s) (hro : xro G adV A s s.heap) (hd1 : d ≤ R.frames) (hd2 : 64 * d ≤ R.locals) (hf1 : f'.2.2.2.2.1 ≤ s.heap.size + R.cells) (hf2 : f'.2.2.2.2.2 ≤ s0 + R.slots) (hdg : decode (xB mi) pc = .ok (ins, len)) (hlen : len = xlen ins ∨ xsw ins = true) (hop : xop G mi d ins pc L st w = some (.inl f')) (hk : xnx p l e R s m args below meth c Q D tA A s0 (xM mi) f') : xnx p l e R s m args below meth c Q D tA A s0 (xM mi) (pc, L, st, w) := by
  have hC0 := hC
  obtain ⟨hx, hb, hml, hr, hown, hlocks, hnm⟩ := hC
  cases ins with
  | aconst_null =>
    obtain rfl : len = 1 := by simpa [xlen, xsw] using hlen
    exact xs_aconst_null hx hb hdg hop hk
  | iconst n =>
    obtain rfl : len = 1 := by simpa [xlen, xsw] using hlen
    exact xs_iconst hx hb hdg hop hk
  | lconst n =>
    obtain rfl : len = 1 := by simpa [xlen, xsw] using hlen
    exact xs_lconst hx hb hdg hop hk
  | bipush n =>
    obtain rfl : len = 2 := by simpa [xlen, xsw] using hlen
    exact xs_bipush hx hb hdg hop hk
  | sipush n =>
    obtain rfl : len = 3 := by simpa [xlen, xsw] using hlen
    exact xs_sipush hx hb hdg hop hk
  | iload i =>
    obtain rfl : len = 2 := by simpa [xlen, xsw] using hlen
    exact xs_iload hx hb hdg hop hk
  | iload_n i =>
    obtain rfl : len = 1 := by simpa [xlen, xsw] using hlen
    exact xs_iload_n hx hb hdg hop hk
  | lload i =>
    obtain rfl : len = 2 := by simpa [xlen, xsw] using hlen
    exact xs_lload hx hb hdg hop hk
  | lload_n i =>
    obtain rfl : len = 1 := by simpa [xlen, xsw] using hlen
    exact xs_lload_n hx hb hdg hop hk
  | aload i =>
    obtain rfl : len = 2 := by simpa [xlen, xsw] using hlen
    exact xs_aload hx hb hdg hop hk
  | aload_n i =>
    obtain rfl : len = 1 := by simpa [xlen, xsw] using hlen
    exact xs_aload_n hx hb hdg hop hk
  | istore i =>
    obtain rfl : len = 2 := by simpa [xlen, xsw] using hlen
    exact xs_istore hx hb hdg hop hk
  | istore_n i =>
    obtain rfl : len = 1 := by simpa [xlen, xsw] using hlen
    exact xs_istore_n hx hb hdg hop hk
  | lstore_n i =>
    obtain rfl : len = 1 := by simpa [xlen, xsw] using hlen
    exact xs_lstore_n hx hb hdg hop hk
  | astore i =>
    obtain rfl : len = 2 := by simpa [xlen, xsw] using hlen
    exact xs_astore hx hb hdg hop hk
  | astore_n i =>
    obtain rfl : len = 1 := by simpa [xlen, xsw] using hlen
    exact xs_astore_n hx hb hdg hop hk
  | iinc i k =>
    obtain rfl : len = 3 := by simpa [xlen, xsw] using hlen
    exact xs_iinc hx hb hdg hop hk
  | iadd =>
    obtain rfl : len = 1 := by simpa [xlen, xsw] using hlen
    exact xs_iadd hx hb hdg hop hk
  | isub =>
    obtain rfl : len = 1 := by simpa [xlen, xsw] using hlen
    exact xs_isub hx hb hdg hop hk
  | imul =>
    obtain rfl : len = 1 := by simpa [xlen, xsw] using hlen
    exact xs_imul hx hb hdg hop hk
  | iand =>
    obtain rfl : len = 1 := by simpa [xlen, xsw] using hlen
    exact xs_iand hx hb hdg hop hk
  | ior =>
    obtain rfl : len = 1 := by simpa [xlen, xsw] using hlen
    exact xs_ior hx hb hdg hop hk
  | ishl =>
    obtain rfl : len = 1 := by simpa [xlen, xsw] using hlen
    exact xs_ishl hx hb hdg hop hk
  | ishr =>
    obtain rfl : len = 1 := by simpa [xlen, xsw] using hlen
    exact xs_ishr hx hb hdg hop hk
  | iushr =>
    obtain rfl : len = 1 := by simpa [xlen, xsw] using hlen
    exact xs_iushr hx hb hdg hop hk
  | idiv =>
    obtain rfl : len = 1 := by simpa [xlen, xsw] using hlen
    exact xs_idiv hx hb hdg hop hk
  | irem =>
    obtain rfl : len = 1 := by simpa [xlen, xsw] using hlen
    exact xs_irem hx hb hdg hop hk
  | ladd =>
    obtain rfl : len = 1 := by simpa [xlen, xsw] using hlen
    exact xs_ladd hx hb hdg hop hk
  | lsub =>
    obtain rfl : len = 1 := by simpa [xlen, xsw] using hlen
    exact xs_lsub hx hb hdg hop hk
  | lmul =>
    obtain rfl : len = 1 := by simpa [xlen, xsw] using hlen
    exact xs_lmul hx hb hdg hop hk
  | i2l =>
    obtain rfl : len = 1 := by simpa [xlen, xsw] using hlen
    exact xs_i2l hx hb hdg hop hk
  | i2b =>
    obtain rfl : len = 1 := by simpa [xlen, xsw] using hlen
    exact xs_i2b hx hb hdg hop hk
  | i2c =>
    obtain rfl : len = 1 := by simpa [xlen, xsw] using hlen
    exact xs_i2c hx hb hdg hop hk
  | l2i =>
    obtain rfl : len = 1 := by simpa [xlen, xsw] using hlen
    exact xs_l2i hx hb hdg hop hk
  | lcmp =>
    obtain rfl : len = 1 := by simpa [xlen, xsw] using hlen
    exact xs_lcmp hx hb hdg hop hk
  | dup =>
    obtain rfl : len = 1 := by simpa [xlen, xsw] using hlen
    exact xs_dup hx hb hdg hop hk
  | dup2 =>
    obtain rfl : len = 1 := by simpa [xlen, xsw] using hlen
    exact xs_dup2 hx hb hdg hop hk
  | pop =>
    obtain rfl : len = 1 := by simpa [xlen, xsw] using hlen
    exact xs_pop hx hb hdg hop hk
  | if_icmp cnd off =>
    obtain rfl : len = 3 := by simpa [xlen, xsw] using hlen
    exact xs_icmp hx hb hdg hop hk
  | ifCond cnd off =>
    obtain rfl : len = 3 := by simpa [xlen, xsw] using hlen
    exact xs_if hx hb hdg hop hk
  | goto off =>
    obtain rfl : len = 3 := by simpa [xlen, xsw] using hlen
    exact xs_goto hx hb hdg hop hk
  | ifnonnull off =>
    obtain rfl : len = 3 := by simpa [xlen, xsw] using hlen
    exact xs_ifnonnull hx hb hdg hop hk
  | tableswitch df lo hi offs =>
    exact xs_tsw hx hb hdg hop hk
  | lookupswitch df ps =>
    exact xs_lsw hx hb hdg hop hk
  | iaload =>
    obtain rfl : len = 1 := by simpa [xlen, xsw] using hlen
    exact xs_iaload hx hb hK hro hdg hop hk
  | baload =>
    obtain rfl : len = 1 := by simpa [xlen, xsw] using hlen
    exact xs_baload hx hb hK hdg hop hk
  | aaload =>
    obtain rfl : len = 1 := by simpa [xlen, xsw] using hlen
    exact xs_aaload hx hb hK hdg hop hk
  | arraylength =>
    obtain rfl : len = 1 := by simpa [xlen, xsw] using hlen
    exact xs_arraylength hx hb hK hro hdg hop hk
  | iastore =>
    obtain rfl : len = 1 := by simpa [xlen, xsw] using hlen
    exact xs_iastore hx hb hK hdg hop hk
  | bastore =>
    obtain rfl : len = 1 := by simpa [xlen, xsw] using hlen
    exact xs_bastore hx hb hK hdg hop hk
  | aastore =>
    obtain rfl : len = 1 := by simpa [xlen, xsw] using hlen
    exact xs_aastore hx hb hK hdg hop hk
  | newarray t =>
    obtain rfl : len = 2 := by simpa [xlen, xsw] using hlen
    exact xs_newarray hx hb hK hf1 hf2 hdg hop hk
  | anewarray i =>
    obtain rfl : len = 3 := by simpa [xlen, xsw] using hlen
    exact xs_anewarray hx hb hK hown hf1 hf2 hdg hop hk
  | multianewarray i dims =>
    obtain rfl : len = 4 := by simpa [xlen, xsw] using hlen
    exact xs_multi hx hb hK hown hf1 hf2 hdg hop hk
  | new i =>
    obtain rfl : len = 3 := by simpa [xlen, xsw] using hlen
    exact xs_new hx hb hK hown hf1 hf2 hdg hop hk
  | getfield i =>
    obtain rfl : len = 3 := by simpa [xlen, xsw] using hlen
    exact xs_getfield hx hb hK hown hdg hop hk
  | putfield i =>
    obtain rfl : len = 3 := by simpa [xlen, xsw] using hlen
    exact xs_putfield hx hb hK hown (fun h => hnm (beq_iff_eq.mp h)) hdg hop hk
  | ldc i =>
    obtain rfl : len = 2 := by simpa [xlen, xsw] using hlen
    exact xs_ldc hx hb hK hro hown hdg hop hk
  | ldc2_w i =>
    obtain rfl : len = 3 := by simpa [xlen, xsw] using hlen
    exact xs_ldc2 hx hb hK hown hdg hop hk
  | invokevirtual i =>
    obtain rfl : len = 3 := by simpa [xlen, xsw] using hlen
    exact xs_inv (op := 0) hC0 hK hro hd1 hd2 hf1 hf2 hdg hop hk
  | invokespecial i =>
    obtain rfl : len = 3 := by simpa [xlen, xsw] using hlen
    exact xs_inv (op := 1) hC0 hK hro hd1 hd2 hf1 hf2 hdg hop hk
  | invokestatic i =>
    obtain rfl : len = 3 := by simpa [xlen, xsw] using hlen
    exact xs_inv (op := 2) hC0 hK hro hd1 hd2 hf1 hf2 hdg hop hk
  | ireturn => exact absurd hop (xnoret (by first | exact Or.inl rfl | exact Or.inr (Or.inl rfl) | exact Or.inr (Or.inr (Or.inl rfl)) | exact Or.inr (Or.inr (Or.inr rfl))))
  | lreturn => exact absurd hop (xnoret (by first | exact Or.inl rfl | exact Or.inr (Or.inl rfl) | exact Or.inr (Or.inr (Or.inl rfl)) | exact Or.inr (Or.inr (Or.inr rfl))))
  | areturn => exact absurd hop (xnoret (by first | exact Or.inl rfl | exact Or.inr (Or.inl rfl) | exact Or.inr (Or.inr (Or.inl rfl)) | exact Or.inr (Or.inr (Or.inr rfl))))
  | return_ => exact absurd hop (xnoret (by first | exact Or.inl rfl | exact Or.inr (Or.inl rfl) | exact Or.inr (Or.inr (Or.inl rfl)) | exact Or.inr (Or.inr (Or.inr rfl))))
  | _ => cases hop
end XS
end
section
/-! ===== a run of the small machine is a run of the machine ===== -/
/-- a callee's world -/
def xAw (w : xW) : Nat → Prop := fun q => w.1 q ≠ none ∨ w.2.1 ≤ q
def xPc (G : xG) (adV : Nat → Nat) (D : va_G) (tA : Nat → ClassId) (w : xW) (as : List Value) : Array Value → State → Prop := va_Pc as (fun U => xK D tA U ∧ xro G adV (xAw w) U U.heap ∧ (∀ a e, w.1 a = some e → va_at D xcl (a, xte tA e) U.heap) ∧ w.2.1 = U.heap.size)
theorem xPc_blind {G : xG} {adV : Nat → Nat} {D : va_G} {tA : Nat → ClassId} {w : xW} {as : List Value} : FrameBlind (xPc G adV D tA w as) := by
  intro a U g mk h
  obtain ⟨h0, h1, h2, h3, h4⟩ := h
  exact ⟨h0, xK_same h1 rfl, xro_same h2 rfl rfl, h3, h4⟩
/-- what a run says of a method: a contract -/
def xMet (G : xG) (adV : Nat → Nat) (D : va_G) (tA : Nat → ClassId) (l : Launch) (mi d : Nat) (as : List Value) (w : xW) (v : Option Value) (w' : xW) : Prop :=
  Met l (xY mi) [Jvm.Cond.code (xY mi) (xB mi) (xM mi) (xT mi)] { frames := d, cells := w'.2.1 - w.2.1, slots := w'.2.2 - w.2.2, locals := 64 * d } (xPc G adV D tA w as) (xQ D tA (xAw w) v w') (w'.2.1 - w.2.1) (w'.2.2 - w.2.2) (xAw w)
section XR
variable {p : Program} {l : Launch} {e : Env} {R : Room} {s : State} {m : MethodId} {args : Array Value} {below : List Frame} {meth : Method} {c : Code} {Q : State → Prop} {D : va_G} {tA : Nat → ClassId} {A : Nat → Prop} {s0 : Nat} {pc mi d : Nat} {L : xL} {st : List Value} {w : xW} {f' : xF} {G : xG} {adV : Nat → Nat}
theorem xs_ret {ins : Instr} {len : Nat} {v : Option Value} {w' : xW} (hC : xCtx mi p s m meth c) (hf1 : w.2.1 ≤ s.heap.size + R.cells) (hf2 : w.2.2 ≤ s0 + R.slots) (hdg : decode (xB mi) pc = .ok (ins, len)) (hlen : len = xlen ins ∨ xsw ins = true) (hop : xop G mi d ins pc L st w = some (.inr (.inl (v, w')))) : xnx p l e R s m args below meth c (MQ below (xQ D tA A v w') args s R.cells R.slots A) D tA A s0 (xM mi) (pc, L, st, w) := by
  obtain ⟨hx, hb, hml, hr, hown, hlocks, hnm⟩ := hC
  cases ins with
  | ireturn =>
    obtain rfl : len = 1 := by simpa [xlen, xsw] using hlen
    exact xs_ireturn hx hb hr hlocks hf1 hf2 hdg hop
  | lreturn =>
    obtain rfl : len = 1 := by simpa [xlen, xsw] using hlen
    exact xs_lreturn hx hb hr hlocks hf1 hf2 hdg hop
  | areturn =>
    obtain rfl : len = 1 := by simpa [xlen, xsw] using hlen
    exact xs_areturn hx hb hr hlocks hf1 hf2 hdg hop
  | return_ =>
    obtain rfl : len = 1 := by simpa [xlen, xsw] using hlen
    exact xs_return hx hb hr hlocks hf1 hf2 hdg hop
  | invokevirtual i => exact (xn_inv hop).elim
  | invokespecial i => exact (xn_inv hop).elim
  | invokestatic i => exact (xn_inv hop).elim
  | istore i =>
    change xistore 2 i pc L st w = _ at hop
    unfold xistore at hop
    split at hop
    · obtain ⟨L', hs, he⟩ := Option.map_eq_some_iff.mp hop; cases he
    · cases hop
  | istore_n i =>
    change xistore 1 i pc L st w = _ at hop
    unfold xistore at hop
    split at hop
    · obtain ⟨L', hs, he⟩ := Option.map_eq_some_iff.mp hop; cases he
    · cases hop
  | astore i =>
    change xastore 2 i pc L st w = _ at hop
    unfold xastore at hop
    split at hop
    · obtain ⟨L', hs, he⟩ := Option.map_eq_some_iff.mp hop; cases he
    · cases hop
  | astore_n i =>
    change xastore 1 i pc L st w = _ at hop
    unfold xastore at hop
    split at hop
    · obtain ⟨L', hs, he⟩ := Option.map_eq_some_iff.mp hop; cases he
    · cases hop
  | lstore_n i =>
    change xlstore 1 i pc L st w = _ at hop
    unfold xlstore at hop
    split at hop
    · obtain ⟨L', hs, he⟩ := Option.map_eq_some_iff.mp hop; cases he
    · cases hop
  | iinc i k =>
    change xiinc i k pc L st w = _ at hop
    unfold xiinc at hop
    split at hop
    · obtain ⟨L', hs, he⟩ := Option.map_eq_some_iff.mp hop; cases he
    · cases hop
  | _ =>
    first
      | (cases hop; done)
      | (simp only [xop, xpush, xiload, xlload, xaload, xbin, xdiv, xlbin, xun, xl2i, xlcmp, xdup, xdup2, xpop, xiald, xbald, xaald, xalen, xiast, xbast, xaast, xgetf, xputf, xldc, xldc2, xgo, xbr, xicmp, xif, xnonnull, xtsw, xlsw, xnewa, xanew, xnew, xmulti] at hop
         repeat' (split at hop)
         all_goals (cases hop; done))
theorem xn_prim {k : Nat} {cq : Nat × List Value × List Value} (hk : 4 < k) : ¬ (if k = 5 then xobj pc L st w else if k = 6 then xmax pc L st w else if k = 7 then xmin pc L st w else if k = 8 then xminl pc L st w else if k = 9 then xcopy pc L st w else if k = 10 then xslen G pc L st w else if k = 11 then xsat G pc L st w else none) = some (.inr (.inr cq)) := by
  intro h
  split at h
  · unfold xobj at h
    repeat' (split at h)
    all_goals cases h
  split at h
  · unfold xmax at h
    repeat' (split at h)
    all_goals cases h
  split at h
  · unfold xmin at h
    repeat' (split at h)
    all_goals cases h
  split at h
  · unfold xminl at h
    repeat' (split at h)
    all_goals cases h
  split at h
  · unfold xcopy at h
    repeat' (split at h)
    all_goals cases h
  split at h
  · unfold xslen at h
    repeat' (split at h)
    all_goals cases h
  split at h
  · unfold xsat at h
    repeat' (split at h)
    all_goals cases h
  cases h
/-- a call of the claim's own methods -/
theorem xs_callm {op idx cm : Nat} {as rest : List Value} {v1 : Option Value} {w1 : xW} (hC : xCtx mi p s m meth c) (hK : xK D tA s) (hro : xro G adV A s s.heap) (hd1 : d ≤ R.frames) (hd2 : 64 * d ≤ R.locals) (hcm : cm < 123) (hf1 : w1.2.1 ≤ s.heap.size + R.cells) (hf2 : w1.2.2 ≤ s0 + R.slots) (hle : xle w w1) (hdg : decode (xB mi) pc = .ok ((if op = 0 then .invokevirtual idx else if op = 1 then .invokespecial idx else .invokestatic idx), 3)) (hop : xinv G op (xO mi) idx d pc L st w = some (.inr (.inr (cm, as, rest)))) (hM : xMet G adV D tA l cm (d - 1) as w v1 w1) (hk : xnx p l e R s m args below meth c Q D tA A s0 (xM mi) (pc + 3, L, v1.toList ++ rest, w1)) : xnx p l e R s m args below meth c Q D tA A s0 (xM mi) (pc, L, st, w) := by
  obtain ⟨hx, hb, hml, hr, hown, hlocks, hnm⟩ := hC
  intro H locs cells slots ls hR hL
  have hcell : s.heap.size + cells = w.2.1 := hR.2.2.2.2.1
  have hslot : s0 + slots = w.2.2 := hR.2.2.2.2.2
  have hA1 : ∀ q, xAw w q → A q := fun q hq => by
    rcases hq with hq | hq
    · cases hz : w.1 q with
      | none => exact absurd hz hq
      | some e9 => exact (hR.1 q e9 hz).2
    · exact hR.2.2.2.1 q (by omega)
  have hfit : cells + (w1.2.1 - w.2.1) ≤ R.cells ∧ slots + (w1.2.2 - w.2.2) ≤ R.slots := by
    obtain ⟨g1, g2⟩ := hle
    omega
  have hPre : ∀ U : State, U.heap = H → s.WarmedH U.vm → xPc G adV D tA w as as.toArray U := fun U hU hW =>
    ⟨rfl, xK_warm hK hW, xro_call hro hR.2.2.1 hW hU hA1, fun a e9 h9 => by rw [hU]; exact (hR.1 a e9 h9).1, by rw [hU]; exact hR.2.1⟩
  have hafter : ∀ {a : Array Value}, va_Run p l e R s m args below meth c H locs cells slots (w1.2.1 - w.2.1) (w1.2.2 - w.2.2) (F0 m pc ls st) rest (xQ D tA (xAw w) v1 w1 a) (xAw w) → W p l e R s m args below meth c H locs cells slots Q (F0 m pc ls st) := fun hrun =>
    xs_after (w := w) hrun hR hL hA1 (Nat.add_sub_cancel' hle.1) (Nat.add_sub_cancel' hle.2) hk
  have hsize : ls.size = xM mi := hL.2.1
  have hroom : ∀ r : List Value, xcats r ≤ 8 → 2 * (F0 m pc ls st).monitorRoom + (r.map fun v => v.category).sum ≤ 8 := fun r hr => by
    show 2 * 0 + xcats r ≤ 8
    omega
  unfold xinv at hop
  split at hop
  · rename_i q hq
    split at hop
    · cases hop
    · rename_i hd
      split at hop
      · rename_i hkind
        obtain ⟨ho, hi, hok⟩ := xCl_some hq
        unfold xCok at hok
        rw [ho, hi] at hok
        unfold xcall at hop
        have base : ∀ id, id < 123 → (lw_tbl[xP id]? = some (Jvm.Cond.code (xY id) (xB id) (xM id) (xT id)) ∧ lw_tbl[xinL.getD (xO id) 0]? = some (Jvm.Cond.initialized (xY id).cls) ∧ ((xY id).cls ≠ "java/lang/invoke/MethodHandle" ∧ (xY id).cls ≠ "java/lang/invoke/VarHandle") ∧ (∀ sig, parseMethodDescriptor (xY id).desc = some sig → xA id = sig.parameters.length) ∧ (d - 1) + 1 ≤ R.frames ∧ 8 + (xM id + 11) + 64 * (d - 1) ≤ R.locals) := fun id hid => by
          obtain ⟨m1, m2, m3, m4, m5, m6, m7, m8⟩ := xM_some hid
          refine ⟨m1, m2, ⟨m6, m7⟩, fun sig h => ?_, by omega, by omega⟩
          rw [h] at m4
          exact (Option.some.inj m4).symm
        have hwsC : ∀ id, id < 123 → ∀ w9 ∈ [Jvm.Cond.code (xY id) (xB id) (xM id) (xT id)], ∀ (a' : Array Value) (U : State), s.WarmedH U.vm → w9.before a' U = true := fun id hid w9 hw9 a' U hW => by
          rw [List.mem_singleton.mp hw9]
          exact word_at (args := #[]) hW (Or.inl rfl) (hK.w _ (base id hid).1 rfl #[])
        by_cases h0 : q.2.2.1 = 0
        · rw [if_pos h0] at hop hok
          have hop0 : op = 0 := by omega
          subst hop0
          simp only [Bool.and_eq_true, decide_eq_true_eq] at hok
          unfold xcV at hop
          split at hop
          · rename_i b r hst
            split at hop
            · rename_i ci fs hb9
              split at hop
              · rename_i hc
                cases hop
                obtain ⟨b1, b2, b3, b4, b5, b6⟩ := base _ hcm
                have hstk : st = ((st.take (xA q.2.2.2.1)).reverse).reverse ++ .ref b :: rest := by rw [List.reverse_reverse, ← hst, List.take_append_drop]
                have hlen : (st.take (xA q.2.2.2.1)).reverse.length = xA q.2.2.2.1 := by
                  have : (st.drop (xA q.2.2.2.1)).length = (Value.ref b :: rest).length := by rw [hst]
                  simp only [List.length_drop, List.length_cons] at this
                  rw [List.length_reverse, List.length_take]
                  omega
                have hcls : xcl[ci]? = some ((xcl[ci]?).getD ("", xT0, 0)) := by
                  obtain ⟨r9, hr9, -⟩ := (hR.1 b _ hb9).1
                  have : xcl[ci]? = some r9 := hr9
                  rw [this]
                  rfl
                obtain ⟨r9, hr9, cellB, g1, g2, g3, -⟩ := (hR.1 b _ hb9).1
                have hr9 : xcl[ci]? = some r9 := hr9
                have hcid := (hK.2.2.1.1 ci r9 hr9).2.1
                have hcn : r9.1 = (xY q.2.2.2.1).cls := by
                  rw [(xM_some hcm).2.2.1, ← hc.1]
                  have : ∀ (k : Nat) (r : vw_C), xcl[k]? = some r → r.1 = xon k := by
                    intro k r hk9
                    have hk11 : k < 11 := (List.getElem?_eq_some_iff.mp hk9).1
                    have : (List.range 11).all (fun k => decide ((xcl[k]?).map (fun r => r.1) = some (xon k))) = true := by decide +kernel
                    have := List.all_eq_true.mp this k (List.mem_range.mpr hk11)
                    simp only [decide_eq_true_eq] at this
                    rw [hk9] at this
                    exact Option.some.inj this
                  exact this ci r9 hr9
                refine hafter (va_runV (C := (xY q.2.2.2.1).cls) (cc := xB mi) (nL := xM mi) (Ts := []) (own := xon (xO mi)) (bytes := xB q.2.2.2.1) (maxL := xM q.2.2.2.1) (ret := xT q.2.2.2.1) (n := xA q.2.2.2.1) ⟨hx, hb, hml, hown, fun _ h => by cases h⟩ hM ⟨⟨rfl, rfl, b5, b6, hwsC _ hcm, List.mem_singleton.mpr rfl, hK.w _ b1 rfl args, hK.w _ b2 rfl args, b3, b4, hK.w _ hok.1.1 rfl args⟩, hK.w _ hok.1.2 rfl args, hK.w _ hok.2 rfl args⟩ ⟨xPc_blind, ⟨cellB, g1, by rw [g3]; rfl, by rw [g2, ← hcn]; exact hcid⟩, hPre⟩ rfl hlen hsize hstk (hroom _ hc.2) hdg hfit)
              · cases hop
            · cases hop
          · cases hop
        rw [if_neg h0] at hop hok
        by_cases h1 : q.2.2.1 = 1
        · rw [if_pos (Or.inl h1)] at hop
          rw [if_pos h1] at hok
          have hop0 : op = 2 := by omega
          subst hop0
          simp only [Bool.and_eq_true, decide_eq_true_eq] at hok
          unfold xcS at hop
          split at hop
          · rename_i hc
            cases hop
            obtain ⟨b1, b2, b3, b4, b5, b6⟩ := base _ hcm
            have hstk : st = ((st.take (xA q.2.2.2.1)).reverse).reverse ++ st.drop (xA q.2.2.2.1) := by rw [List.reverse_reverse, List.take_append_drop]
            have hlen : (st.take (xA q.2.2.2.1)).reverse.length = xA q.2.2.2.1 := by
              rw [List.length_reverse, List.length_take]
              omega
            exact hafter (va_runS (cc := xB mi) (nL := xM mi) (Ts := []) (own := xon (xO mi)) (bytes := xB q.2.2.2.1) (maxL := xM q.2.2.2.1) (ret := xT q.2.2.2.1) (n := xA q.2.2.2.1) ⟨hx, hb, hml, hown, fun _ h => by cases h⟩ hM ⟨⟨rfl, rfl, b5, b6, hwsC _ hcm, List.mem_singleton.mpr rfl, hK.w _ b1 rfl args, hK.w _ b2 rfl args, b3, b4, hK.w _ hok.1 rfl args⟩, hK.w _ hok.2 rfl args⟩ ⟨xPc_blind, hPre⟩ rfl hlen hsize hstk (hroom _ hc.2) hdg hfit)
          · cases hop
        rw [if_neg h1] at hok
        by_cases h2 : q.2.2.1 = 2
        · rw [if_neg (by omega), if_pos (Or.inl h2)] at hop
          rw [if_pos h2] at hok
          have hop0 : op = 1 := by omega
          subst hop0
          simp only [Bool.and_eq_true, decide_eq_true_eq] at hok
          unfold xcI at hop
          split at hop
          · rename_i b r hst
            split at hop
            · rename_i hc
              cases hop
              obtain ⟨b1, b2, b3, b4, b5, b6⟩ := base _ hcm
              have hstk : st = ((st.take (xA q.2.2.2.1)).reverse).reverse ++ .ref b :: rest := by rw [List.reverse_reverse, ← hst, List.take_append_drop]
              have hlen : (st.take (xA q.2.2.2.1)).reverse.length = xA q.2.2.2.1 := by
                have : (st.drop (xA q.2.2.2.1)).length = (Value.ref b :: rest).length := by rw [hst]
                simp only [List.length_drop, List.length_cons] at this
                rw [List.length_reverse, List.length_take]
                omega
              have hws1 := hwsC _ hcm
              unfold xMet at hM
              rw [hc.2] at hM hws1 b1
              exact hafter (va_runI (cc := xB mi) (nL := xM mi) (Ts := []) (own := xon (xO mi)) (bytes := xB q.2.2.2.1) (maxL := xM q.2.2.2.1) (n := xA q.2.2.2.1) ⟨hx, hb, hml, hown, fun _ h => by cases h⟩ hM ⟨⟨rfl, rfl, b5, b6, hws1, List.mem_singleton.mpr rfl, hK.w _ b1 rfl args, hK.w _ b2 rfl args, b3, b4, hK.w _ hok.1.1 rfl args⟩, hok.2, hK.w _ hok.1.2 rfl args⟩ ⟨xPc_blind, hPre⟩ rfl hlen hsize hstk (hroom _ hc.1) hdg hfit)
            · cases hop
          · cases hop
        rw [if_neg h2] at hok
        by_cases h3 : q.2.2.1 = 3
        · rw [if_neg (by omega), if_pos (Or.inr h3)] at hop
          rw [if_pos h3] at hok
          have hop0 : op = 1 := by omega
          subst hop0
          simp only [Bool.and_eq_true, decide_eq_true_eq] at hok
          unfold xcI at hop
          split at hop
          · rename_i b r hst
            split at hop
            · rename_i hc
              cases hop
              obtain ⟨b1, b2, b3, b4, b5, b6⟩ := base _ hcm
              have hstk : st = ((st.take (xA q.2.2.2.1)).reverse).reverse ++ .ref b :: rest := by rw [List.reverse_reverse, ← hst, List.take_append_drop]
              have hlen : (st.take (xA q.2.2.2.1)).reverse.length = xA q.2.2.2.1 := by
                have : (st.drop (xA q.2.2.2.1)).length = (Value.ref b :: rest).length := by rw [hst]
                simp only [List.length_drop, List.length_cons] at this
                rw [List.length_reverse, List.length_take]
                omega
              have hws1 := hwsC _ hcm
              unfold xMet at hM
              rw [hc.2] at hM hws1 b1
              exact hafter (va_runIN (cc := xB mi) (nL := xM mi) (Ts := []) (own := xon (xO mi)) (host := "DriftStore") (bytes := xB q.2.2.2.1) (maxL := xM q.2.2.2.1) (n := xA q.2.2.2.1) ⟨hx, hb, hml, hown, fun _ h => by cases h⟩ hM ⟨⟨⟨rfl, rfl, b5, b6, hws1, List.mem_singleton.mpr rfl⟩, hK.w _ b1 rfl args, hK.w _ b2 rfl args, b3, b4, va_Nw.use rfl (hK.n _ hok.1.1 rfl)⟩, hok.2, hK.w _ hok.1.2 rfl args⟩ ⟨xPc_blind, hPre⟩ rfl hlen hsize hstk (hroom _ hc.1) hdg hfit)
            · cases hop
          · cases hop
        rw [if_neg h3] at hok
        by_cases h4 : q.2.2.1 = 4
        · rw [if_pos (Or.inr h4)] at hop
          rw [if_pos h4] at hok
          have hop0 : op = 2 := by omega
          subst hop0
          simp only [Bool.and_eq_true, decide_eq_true_eq] at hok
          unfold xcS at hop
          split at hop
          · rename_i hc
            cases hop
            obtain ⟨b1, b2, b3, b4, b5, b6⟩ := base _ hcm
            have hstk : st = ((st.take (xA q.2.2.2.1)).reverse).reverse ++ st.drop (xA q.2.2.2.1) := by rw [List.reverse_reverse, List.take_append_drop]
            have hlen : (st.take (xA q.2.2.2.1)).reverse.length = xA q.2.2.2.1 := by
              rw [List.length_reverse, List.length_take]
              omega
            exact hafter (va_runSN (cc := xB mi) (nL := xM mi) (Ts := []) (own := xon (xO mi)) (host := "DriftStore") (bytes := xB q.2.2.2.1) (maxL := xM q.2.2.2.1) (ret := xT q.2.2.2.1) (n := xA q.2.2.2.1) ⟨hx, hb, hml, hown, fun _ h => by cases h⟩ hM ⟨⟨⟨rfl, rfl, b5, b6, hwsC _ hcm, List.mem_singleton.mpr rfl⟩, hK.w _ b1 rfl args, hK.w _ b2 rfl args, b3, b4, va_Nw.use rfl (hK.n _ hok.1 rfl)⟩, hK.w _ hok.2 rfl args, trivial⟩ ⟨xPc_blind, hPre⟩ rfl hlen hsize hstk (hroom _ hc.2) hdg hfit)
          · cases hop
        rw [if_neg (by omega), if_neg (by omega)] at hop
        exact absurd hop (xn_prim (by omega))
      · cases hop
  · cases hop
end XR
theorem xg_run {G : xG} : ∀ (n d mi : Nat) (f : xF) (r : Option Value × xW), xrun G n d mi f = some r → xle f.2.2.2 r.2 := by
  intro n
  induction n with
  | zero => intro d mi f r h; cases h
  | succ n ih =>
    intro d mi f r h
    unfold xrun at h
    split at h
    · cases h
    · split at h
      · cases h
      · rename_i hop
        exact xle.trans (xg_op hop) (ih _ _ _ _ h)
      · rename_i hop
        cases h
        rw [xg_ret hop]
        exact xle.refl _
      · rename_i hop
        split at h
        · split at h
          · cases h
          · rename_i r1 h1
            have g1 := ih _ _ _ _ h1
            have g2 := ih _ _ _ _ h
            exact xle.trans g1 g2
        · cases h
theorem xnocall {G : xG} {mi d pc : Nat} {L : xL} {st : List Value} {w : xW} {ins : Instr} {cq : Nat × List Value × List Value} (h : xop G mi d ins pc L st w = some (.inr (.inr cq))) : ∃ op idx, ins = (if op = 0 then Instr.invokevirtual idx else if op = 1 then .invokespecial idx else .invokestatic idx) ∧ xinv G op (xO mi) idx d pc L st w = some (.inr (.inr cq)) := by
  cases ins with
  | invokevirtual i => exact ⟨0, i, rfl, h⟩
  | invokespecial i => exact ⟨1, i, rfl, h⟩
  | invokestatic i => exact ⟨2, i, rfl, h⟩
  | istore i =>
    change xistore 2 i pc L st w = _ at h
    unfold xistore at h
    split at h
    · obtain ⟨L', hs, he⟩ := Option.map_eq_some_iff.mp h; cases he
    · cases h
  | istore_n i =>
    change xistore 1 i pc L st w = _ at h
    unfold xistore at h
    split at h
    · obtain ⟨L', hs, he⟩ := Option.map_eq_some_iff.mp h; cases he
    · cases h
  | astore i =>
    change xastore 2 i pc L st w = _ at h
    unfold xastore at h
    split at h
    · obtain ⟨L', hs, he⟩ := Option.map_eq_some_iff.mp h; cases he
    · cases h
  | astore_n i =>
    change xastore 1 i pc L st w = _ at h
    unfold xastore at h
    split at h
    · obtain ⟨L', hs, he⟩ := Option.map_eq_some_iff.mp h; cases he
    · cases h
  | lstore_n i =>
    change xlstore 1 i pc L st w = _ at h
    unfold xlstore at h
    split at h
    · obtain ⟨L', hs, he⟩ := Option.map_eq_some_iff.mp h; cases he
    · cases h
  | iinc i k =>
    change xiinc i k pc L st w = _ at h
    unfold xiinc at h
    split at h
    · obtain ⟨L', hs, he⟩ := Option.map_eq_some_iff.mp h; cases he
    · cases h
  | _ =>
    first
      | (cases h; done)
      | (simp only [xop, xpush, xiload, xlload, xaload, xbin, xdiv, xlbin, xun, xl2i, xlcmp, xdup, xdup2, xpop, xiald, xbald, xaald, xalen, xiast, xbast, xaast, xgetf, xputf, xldc, xldc2, xgo, xbr, xicmp, xif, xnonnull, xtsw, xlsw, xnewa, xanew, xnew, xmulti, xiret, xlret, xaret, xvret] at h
         repeat' (split at h)
         all_goals (cases h; done))
/-- THE SMALL MACHINE IS RIGHT -/
theorem xsound (G : xG) (adV : Nat → Nat) (D : va_G) (tA : Nat → ClassId) (l : Launch) : ∀ (n d mi : Nat) (f : xF) (v : Option Value) (w' : xW), xrun G n d mi f = some (v, w') →
    ∀ {p : Program} {e : Env} {R : Room} {s : State} {m : MethodId} {args : Array Value} {below : List Frame} {meth : Method} {c : Code} {A : Nat → Prop} {s0 : Nat}, xCtx mi p s m meth c → xK D tA s → xro G adV A s s.heap → d ≤ R.frames → 64 * d ≤ R.locals → w'.2.1 ≤ s.heap.size + R.cells → w'.2.2 ≤ s0 + R.slots →
    xnx p l e R s m args below meth c (MQ below (xQ D tA A v w') args s R.cells R.slots A) D tA A s0 (xM mi) f := by
  intro n
  induction n with
  | zero => intro d mi f v w' h; cases h
  | succ n ih =>
    intro d mi f v w' h p e R s m args below meth c A s0 hC hK hro hd1 hd2 hf1 hf2
    obtain ⟨pc, L, st, w⟩ := f
    unfold xrun at h
    split at h
    · cases h
    · rename_i ins hins
      obtain ⟨len, hdg, hlen⟩ := xI_dec hins
      split at h
      · cases h
      · rename_i f' hop
        have hle := xg_run _ _ _ _ _ h
        exact xs_step hC hK hro hd1 hd2 (Nat.le_trans hle.1 hf1) (Nat.le_trans hle.2 hf2) hdg hlen hop (ih d mi f' v w' h hC hK hro hd1 hd2 hf1 hf2)
      · rename_i r hop
        cases h
        have hw : w' = w := xg_ret hop
        subst hw
        exact xs_ret hC hf1 hf2 hdg hlen hop
      · rename_i cq hop
        split at h
        · rename_i hcm
          split at h
          · cases h
          · rename_i r h1
            obtain ⟨cm, as, rest⟩ := cq
            obtain ⟨v1, w1⟩ := r
            have hle1 := xg_run _ _ _ _ _ h1
            have hle2 := xg_run _ _ _ _ _ h
            obtain ⟨op, idx, rfl, hop2⟩ := xnocall hop
            obtain rfl : len = 3 := by
              rcases hlen with hlen | hlen
              · rw [hlen]
                split
                · rfl
                · split <;> rfl
              · exfalso
                revert hlen
                split
                · exact fun h => by cases h
                · split
                  · exact fun h => by cases h
                  · exact fun h => by cases h
            refine xs_callm hC hK hro hd1 hd2 hcm.2 (Nat.le_trans hle2.1 hf1) (Nat.le_trans hle2.2 hf2) hle1 hdg hop2 ?_ (ih d mi _ v w' h hC hK hro hd1 hd2 hf1 hf2)
            refine Met.ofW (cc := xB cm) (maxL := xM cm) (ret := xT cm) (xM_some hcm.2).2.2.2.2.1 rfl ?_
            intro p2 e2 s2 m2 args2 below2 meth2 c2 s12 B hml hv
            obtain ⟨rfl, hK2, hro2, hw2, hsz2⟩ := hv
            rw [lg_entry_eq]
            have hC2 : xCtx cm p2 s2 m2 meth2 c2 := ⟨B.exec, B.bytes, hml, B.returns, by rw [← (xM_some hcm.2).2.2.1]; exact findClass_of_methodNamed B.named, B.notSynchronized, fun h => (name_of_methodNamed B.named B.method).1.trans h⟩
            have hz : w.2.1 = s2.heap.size := hsz2
            refine ih (d - 1) cm (0, xloc cm as, [], w) v1 w1 h1 (R := { frames := d - 1, cells := w1.2.1 - w.2.1, slots := w1.2.2 - w.2.2, locals := 64 * (d - 1) }) (A := xAw w) (s0 := w.2.2) hC2 hK2 hro2 (Nat.le_refl _) (Nat.le_refl _) (by rw [← hz]; exact Nat.le_of_eq (Nat.add_sub_cancel' hle1.1).symm) (Nat.le_of_eq (Nat.add_sub_cancel' hle1.2).symm) s2.heap [] 0 0 _ ⟨fun a e9 h9 => ⟨hw2 a e9 h9, Or.inl (by rw [h9]; exact fun z => by cases z)⟩, hz, va_S.rf, fun q hq => Or.inr (by rw [hz]; exact hq), hz.symm, rfl⟩ (xlr_entry hcm.1)
        · cases h
end
section
/-! ===== which instruction stands where (wip/gen/lay16.py) ===== -/
-- 0 D_init
theorem i0_0 : xI 0 0 = some (.aload_n 0) := by decide +kernel
theorem i0_1 : xI 0 1 = some (.invokespecial 3) := by decide +kernel
theorem i0_4 : xI 0 4 = some (.aload_n 0) := by decide +kernel
theorem i0_5 : xI 0 5 = some (.new 9) := by decide +kernel
theorem i0_8 : xI 0 8 = some (.dup) := by decide +kernel
theorem i0_9 : xI 0 9 = some (.invokespecial 11) := by decide +kernel
theorem i0_12 : xI 0 12 = some (.putfield 12) := by decide +kernel
theorem i0_15 : xI 0 15 = some (.aload_n 0) := by decide +kernel
theorem i0_16 : xI 0 16 = some (.new 16) := by decide +kernel
theorem i0_19 : xI 0 19 = some (.dup) := by decide +kernel
theorem i0_20 : xI 0 20 = some (.aload_n 0) := by decide +kernel
theorem i0_21 : xI 0 21 = some (.getfield 12) := by decide +kernel
theorem i0_24 : xI 0 24 = some (.invokespecial 18) := by decide +kernel
theorem i0_27 : xI 0 27 = some (.putfield 21) := by decide +kernel
theorem i0_30 : xI 0 30 = some (.aload_n 0) := by decide +kernel
theorem i0_31 : xI 0 31 = some (.new 25) := by decide +kernel
theorem i0_34 : xI 0 34 = some (.dup) := by decide +kernel
theorem i0_35 : xI 0 35 = some (.invokespecial 27) := by decide +kernel
theorem i0_38 : xI 0 38 = some (.putfield 28) := by decide +kernel
theorem i0_41 : xI 0 41 = some (.new 32) := by decide +kernel
theorem i0_44 : xI 0 44 = some (.dup) := by decide +kernel
theorem i0_45 : xI 0 45 = some (.invokespecial 34) := by decide +kernel
theorem i0_48 : xI 0 48 = some (.astore_n 1) := by decide +kernel
theorem i0_49 : xI 0 49 = some (.aload_n 0) := by decide +kernel
theorem i0_50 : xI 0 50 = some (.iconst 5) := by decide +kernel
theorem i0_51 : xI 0 51 = some (.anewarray 35) := by decide +kernel
theorem i0_54 : xI 0 54 = some (.putfield 37) := by decide +kernel
theorem i0_57 : xI 0 57 = some (.iconst 0) := by decide +kernel
theorem i0_58 : xI 0 58 = some (.istore_n 2) := by decide +kernel
theorem i0_59 : xI 0 59 = some (.iload_n 2) := by decide +kernel
theorem i0_60 : xI 0 60 = some (.iconst 5) := by decide +kernel
theorem i0_61 : xI 0 61 = some (.if_icmp .ge 27) := by decide +kernel
theorem i0_64 : xI 0 64 = some (.aload_n 0) := by decide +kernel
theorem i0_65 : xI 0 65 = some (.getfield 37) := by decide +kernel
theorem i0_68 : xI 0 68 = some (.iload_n 2) := by decide +kernel
theorem i0_69 : xI 0 69 = some (.new 35) := by decide +kernel
theorem i0_72 : xI 0 72 = some (.dup) := by decide +kernel
theorem i0_73 : xI 0 73 = some (.aload_n 0) := by decide +kernel
theorem i0_74 : xI 0 74 = some (.getfield 28) := by decide +kernel
theorem i0_77 : xI 0 77 = some (.aload_n 1) := by decide +kernel
theorem i0_78 : xI 0 78 = some (.invokespecial 41) := by decide +kernel
theorem i0_81 : xI 0 81 = some (.aastore) := by decide +kernel
theorem i0_82 : xI 0 82 = some (.iinc 2 1) := by decide +kernel
theorem i0_85 : xI 0 85 = some (.goto (-26)) := by decide +kernel
theorem i0_88 : xI 0 88 = some (.aload_n 0) := by decide +kernel
theorem i0_89 : xI 0 89 = some (.bipush 8) := by decide +kernel
theorem i0_91 : xI 0 91 = some (.anewarray 44) := by decide +kernel
theorem i0_94 : xI 0 94 = some (.putfield 46) := by decide +kernel
theorem i0_97 : xI 0 97 = some (.iconst 0) := by decide +kernel
theorem i0_98 : xI 0 98 = some (.istore_n 2) := by decide +kernel
theorem i0_99 : xI 0 99 = some (.iload_n 2) := by decide +kernel
theorem i0_100 : xI 0 100 = some (.bipush 8) := by decide +kernel
theorem i0_102 : xI 0 102 = some (.if_icmp .ge 22) := by decide +kernel
theorem i0_105 : xI 0 105 = some (.aload_n 0) := by decide +kernel
theorem i0_106 : xI 0 106 = some (.getfield 46) := by decide +kernel
theorem i0_109 : xI 0 109 = some (.iload_n 2) := by decide +kernel
theorem i0_110 : xI 0 110 = some (.new 44) := by decide +kernel
theorem i0_113 : xI 0 113 = some (.dup) := by decide +kernel
theorem i0_114 : xI 0 114 = some (.invokespecial 50) := by decide +kernel
theorem i0_117 : xI 0 117 = some (.aastore) := by decide +kernel
theorem i0_118 : xI 0 118 = some (.iinc 2 1) := by decide +kernel
theorem i0_121 : xI 0 121 = some (.goto (-22)) := by decide +kernel
theorem i0_124 : xI 0 124 = some (.aload_n 0) := by decide +kernel
theorem i0_125 : xI 0 125 = some (.aconst_null) := by decide +kernel
theorem i0_126 : xI 0 126 = some (.putfield 51) := by decide +kernel
theorem i0_129 : xI 0 129 = some (.return_) := by decide +kernel
-- 1 D_feed
theorem i1_0 : xI 1 0 = some (.aload_n 0) := by decide +kernel
theorem i1_1 : xI 1 1 = some (.getfield 12) := by decide +kernel
theorem i1_4 : xI 1 4 = some (.getfield 55) := by decide +kernel
theorem i1_7 : xI 1 7 = some (.sipush 380) := by decide +kernel
theorem i1_10 : xI 1 10 = some (.if_icmp .le 6) := by decide +kernel
theorem i1_13 : xI 1 13 = some (.bipush (-3)) := by decide +kernel
theorem i1_15 : xI 1 15 = some (.ireturn) := by decide +kernel
theorem i1_16 : xI 1 16 = some (.aload_n 0) := by decide +kernel
theorem i1_17 : xI 1 17 = some (.getfield 12) := by decide +kernel
theorem i1_20 : xI 1 20 = some (.iload_n 1) := by decide +kernel
theorem i1_21 : xI 1 21 = some (.invokevirtual 59) := by decide +kernel
theorem i1_24 : xI 1 24 = some (.aload_n 0) := by decide +kernel
theorem i1_25 : xI 1 25 = some (.getfield 12) := by decide +kernel
theorem i1_28 : xI 1 28 = some (.iload_n 2) := by decide +kernel
theorem i1_29 : xI 1 29 = some (.invokevirtual 59) := by decide +kernel
theorem i1_32 : xI 1 32 = some (.aload_n 0) := by decide +kernel
theorem i1_33 : xI 1 33 = some (.getfield 12) := by decide +kernel
theorem i1_36 : xI 1 36 = some (.iload_n 3) := by decide +kernel
theorem i1_37 : xI 1 37 = some (.invokevirtual 59) := by decide +kernel
theorem i1_40 : xI 1 40 = some (.aload_n 0) := by decide +kernel
theorem i1_41 : xI 1 41 = some (.getfield 12) := by decide +kernel
theorem i1_44 : xI 1 44 = some (.iload 4) := by decide +kernel
theorem i1_46 : xI 1 46 = some (.invokevirtual 59) := by decide +kernel
theorem i1_49 : xI 1 49 = some (.aload_n 0) := by decide +kernel
theorem i1_50 : xI 1 50 = some (.getfield 12) := by decide +kernel
theorem i1_53 : xI 1 53 = some (.iload 5) := by decide +kernel
theorem i1_55 : xI 1 55 = some (.invokevirtual 59) := by decide +kernel
theorem i1_58 : xI 1 58 = some (.aload_n 0) := by decide +kernel
theorem i1_59 : xI 1 59 = some (.getfield 12) := by decide +kernel
theorem i1_62 : xI 1 62 = some (.getfield 55) := by decide +kernel
theorem i1_65 : xI 1 65 = some (.ireturn) := by decide +kernel
-- 2 D_end
theorem i2_0 : xI 2 0 = some (.iload_n 1) := by decide +kernel
theorem i2_1 : xI 2 1 = some (.ifCond .lt 14) := by decide +kernel
theorem i2_4 : xI 2 4 = some (.iload_n 1) := by decide +kernel
theorem i2_5 : xI 2 5 = some (.aload_n 0) := by decide +kernel
theorem i2_6 : xI 2 6 = some (.getfield 12) := by decide +kernel
theorem i2_9 : xI 2 9 = some (.getfield 55) := by decide +kernel
theorem i2_12 : xI 2 12 = some (.if_icmp .le 5) := by decide +kernel
theorem i2_15 : xI 2 15 = some (.iconst (-1)) := by decide +kernel
theorem i2_16 : xI 2 16 = some (.ireturn) := by decide +kernel
theorem i2_17 : xI 2 17 = some (.aload_n 0) := by decide +kernel
theorem i2_18 : xI 2 18 = some (.getfield 12) := by decide +kernel
theorem i2_21 : xI 2 21 = some (.iload_n 1) := by decide +kernel
theorem i2_22 : xI 2 22 = some (.putfield 55) := by decide +kernel
theorem i2_25 : xI 2 25 = some (.iload_n 1) := by decide +kernel
theorem i2_26 : xI 2 26 = some (.ireturn) := by decide +kernel
-- 3 D_program
theorem i3_0 : xI 3 0 = some (.aload_n 0) := by decide +kernel
theorem i3_1 : xI 3 1 = some (.getfield 21) := by decide +kernel
theorem i3_4 : xI 3 4 = some (.invokevirtual 63) := by decide +kernel
theorem i3_7 : xI 3 7 = some (.istore_n 1) := by decide +kernel
theorem i3_8 : xI 3 8 = some (.aload_n 0) := by decide +kernel
theorem i3_9 : xI 3 9 = some (.getfield 12) := by decide +kernel
theorem i3_12 : xI 3 12 = some (.iconst 0) := by decide +kernel
theorem i3_13 : xI 3 13 = some (.putfield 55) := by decide +kernel
theorem i3_16 : xI 3 16 = some (.iload_n 1) := by decide +kernel
theorem i3_17 : xI 3 17 = some (.bipush (-2)) := by decide +kernel
theorem i3_19 : xI 3 19 = some (.if_icmp .ne 14) := by decide +kernel
theorem i3_22 : xI 3 22 = some (.aload_n 0) := by decide +kernel
theorem i3_23 : xI 3 23 = some (.aload_n 0) := by decide +kernel
theorem i3_24 : xI 3 24 = some (.getfield 21) := by decide +kernel
theorem i3_27 : xI 3 27 = some (.invokevirtual 67) := by decide +kernel
theorem i3_30 : xI 3 30 = some (.putfield 51) := by decide +kernel
theorem i3_33 : xI 3 33 = some (.iload_n 1) := by decide +kernel
theorem i3_34 : xI 3 34 = some (.ireturn) := by decide +kernel
-- 4 D_isCell
theorem i4_0 : xI 4 0 = some (.iload_n 0) := by decide +kernel
theorem i4_1 : xI 4 1 = some (.ifCond .lt 13) := by decide +kernel
theorem i4_4 : xI 4 4 = some (.iload_n 0) := by decide +kernel
theorem i4_5 : xI 4 5 = some (.bipush 32) := by decide +kernel
theorem i4_7 : xI 4 7 = some (.if_icmp .ge 7) := by decide +kernel
theorem i4_10 : xI 4 10 = some (.iconst 1) := by decide +kernel
theorem i4_11 : xI 4 11 = some (.goto 4) := by decide +kernel
theorem i4_14 : xI 4 14 = some (.iconst 0) := by decide +kernel
theorem i4_15 : xI 4 15 = some (.ireturn) := by decide +kernel
-- 5 D_write
theorem i5_0 : xI 5 0 = some (.iload_n 1) := by decide +kernel
theorem i5_1 : xI 5 1 = some (.invokestatic 71) := by decide +kernel
theorem i5_4 : xI 5 4 = some (.ifCond .eq 20) := by decide +kernel
theorem i5_7 : xI 5 7 = some (.iload_n 2) := by decide +kernel
theorem i5_8 : xI 5 8 = some (.invokestatic 75) := by decide +kernel
theorem i5_11 : xI 5 11 = some (.ifCond .eq 13) := by decide +kernel
theorem i5_14 : xI 5 14 = some (.iload_n 3) := by decide +kernel
theorem i5_15 : xI 5 15 = some (.ifCond .lt 9) := by decide +kernel
theorem i5_18 : xI 5 18 = some (.iload_n 3) := by decide +kernel
theorem i5_19 : xI 5 19 = some (.ldc 78) := by decide +kernel
theorem i5_21 : xI 5 21 = some (.if_icmp .le 5) := by decide +kernel
theorem i5_24 : xI 5 24 = some (.iconst (-1)) := by decide +kernel
theorem i5_25 : xI 5 25 = some (.ireturn) := by decide +kernel
theorem i5_26 : xI 5 26 = some (.aload_n 0) := by decide +kernel
theorem i5_27 : xI 5 27 = some (.getfield 51) := by decide +kernel
theorem i5_30 : xI 5 30 = some (.ifnonnull 6) := by decide +kernel
theorem i5_33 : xI 5 33 = some (.bipush (-2)) := by decide +kernel
theorem i5_35 : xI 5 35 = some (.ireturn) := by decide +kernel
theorem i5_36 : xI 5 36 = some (.aload_n 0) := by decide +kernel
theorem i5_37 : xI 5 37 = some (.getfield 28) := by decide +kernel
theorem i5_40 : xI 5 40 = some (.getfield 79) := by decide +kernel
theorem i5_43 : xI 5 43 = some (.sipush 500) := by decide +kernel
theorem i5_46 : xI 5 46 = some (.if_icmp .lt 6) := by decide +kernel
theorem i5_49 : xI 5 49 = some (.bipush (-3)) := by decide +kernel
theorem i5_51 : xI 5 51 = some (.ireturn) := by decide +kernel
theorem i5_52 : xI 5 52 = some (.aload_n 0) := by decide +kernel
theorem i5_53 : xI 5 53 = some (.getfield 37) := by decide +kernel
theorem i5_56 : xI 5 56 = some (.iload_n 1) := by decide +kernel
theorem i5_57 : xI 5 57 = some (.aaload) := by decide +kernel
theorem i5_58 : xI 5 58 = some (.astore 4) := by decide +kernel
theorem i5_60 : xI 5 60 = some (.aload_n 0) := by decide +kernel
theorem i5_61 : xI 5 61 = some (.getfield 46) := by decide +kernel
theorem i5_64 : xI 5 64 = some (.iload_n 2) := by decide +kernel
theorem i5_65 : xI 5 65 = some (.aaload) := by decide +kernel
theorem i5_66 : xI 5 66 = some (.astore 5) := by decide +kernel
theorem i5_68 : xI 5 68 = some (.aload 5) := by decide +kernel
theorem i5_70 : xI 5 70 = some (.aload 4) := by decide +kernel
theorem i5_72 : xI 5 72 = some (.invokevirtual 82) := by decide +kernel
theorem i5_75 : xI 5 75 = some (.ifCond .ne 6) := by decide +kernel
theorem i5_78 : xI 5 78 = some (.bipush (-4)) := by decide +kernel
theorem i5_80 : xI 5 80 = some (.ireturn) := by decide +kernel
theorem i5_81 : xI 5 81 = some (.aload 4) := by decide +kernel
theorem i5_83 : xI 5 83 = some (.getfield 86) := by decide +kernel
theorem i5_86 : xI 5 86 = some (.iconst 1) := by decide +kernel
theorem i5_87 : xI 5 87 = some (.iadd) := by decide +kernel
theorem i5_88 : xI 5 88 = some (.iload_n 3) := by decide +kernel
theorem i5_89 : xI 5 89 = some (.invokestatic 89) := by decide +kernel
theorem i5_92 : xI 5 92 = some (.istore 6) := by decide +kernel
theorem i5_94 : xI 5 94 = some (.aload_n 0) := by decide +kernel
theorem i5_95 : xI 5 95 = some (.getfield 28) := by decide +kernel
theorem i5_98 : xI 5 98 = some (.new 95) := by decide +kernel
theorem i5_101 : xI 5 101 = some (.dup) := by decide +kernel
theorem i5_102 : xI 5 102 = some (.iload_n 1) := by decide +kernel
theorem i5_103 : xI 5 103 = some (.iload 6) := by decide +kernel
theorem i5_105 : xI 5 105 = some (.aload_n 0) := by decide +kernel
theorem i5_106 : xI 5 106 = some (.getfield 51) := by decide +kernel
theorem i5_109 : xI 5 109 = some (.invokespecial 97) := by decide +kernel
theorem i5_112 : xI 5 112 = some (.invokevirtual 100) := by decide +kernel
theorem i5_115 : xI 5 115 = some (.istore 7) := by decide +kernel
theorem i5_117 : xI 5 117 = some (.aload 4) := by decide +kernel
theorem i5_119 : xI 5 119 = some (.iload 7) := by decide +kernel
theorem i5_121 : xI 5 121 = some (.invokevirtual 104) := by decide +kernel
theorem i5_124 : xI 5 124 = some (.aload 5) := by decide +kernel
theorem i5_126 : xI 5 126 = some (.getfield 107) := by decide +kernel
theorem i5_129 : xI 5 129 = some (.iload_n 1) := by decide +kernel
theorem i5_130 : xI 5 130 = some (.iload 6) := by decide +kernel
theorem i5_132 : xI 5 132 = some (.iastore) := by decide +kernel
theorem i5_133 : xI 5 133 = some (.iload 7) := by decide +kernel
theorem i5_135 : xI 5 135 = some (.ireturn) := by decide +kernel
-- 6 D_isServer
theorem i6_0 : xI 6 0 = some (.iload_n 0) := by decide +kernel
theorem i6_1 : xI 6 1 = some (.ifCond .lt 12) := by decide +kernel
theorem i6_4 : xI 6 4 = some (.iload_n 0) := by decide +kernel
theorem i6_5 : xI 6 5 = some (.iconst 5) := by decide +kernel
theorem i6_6 : xI 6 6 = some (.if_icmp .ge 7) := by decide +kernel
theorem i6_9 : xI 6 9 = some (.iconst 1) := by decide +kernel
theorem i6_10 : xI 6 10 = some (.goto 4) := by decide +kernel
theorem i6_13 : xI 6 13 = some (.iconst 0) := by decide +kernel
theorem i6_14 : xI 6 14 = some (.ireturn) := by decide +kernel
-- 7 D_isSession
theorem i7_0 : xI 7 0 = some (.iload_n 0) := by decide +kernel
theorem i7_1 : xI 7 1 = some (.ifCond .lt 13) := by decide +kernel
theorem i7_4 : xI 7 4 = some (.iload_n 0) := by decide +kernel
theorem i7_5 : xI 7 5 = some (.bipush 8) := by decide +kernel
theorem i7_7 : xI 7 7 = some (.if_icmp .ge 7) := by decide +kernel
theorem i7_10 : xI 7 10 = some (.iconst 1) := by decide +kernel
theorem i7_11 : xI 7 11 = some (.goto 4) := by decide +kernel
theorem i7_14 : xI 7 14 = some (.iconst 0) := by decide +kernel
theorem i7_15 : xI 7 15 = some (.ireturn) := by decide +kernel
-- 8 D_read
theorem i8_0 : xI 8 0 = some (.iload_n 1) := by decide +kernel
theorem i8_1 : xI 8 1 = some (.invokestatic 71) := by decide +kernel
theorem i8_4 : xI 8 4 = some (.ifCond .eq 17) := by decide +kernel
theorem i8_7 : xI 8 7 = some (.iload_n 2) := by decide +kernel
theorem i8_8 : xI 8 8 = some (.invokestatic 75) := by decide +kernel
theorem i8_11 : xI 8 11 = some (.ifCond .eq 10) := by decide +kernel
theorem i8_14 : xI 8 14 = some (.iload_n 3) := by decide +kernel
theorem i8_15 : xI 8 15 = some (.invokestatic 111) := by decide +kernel
theorem i8_18 : xI 8 18 = some (.ifCond .ne 7) := by decide +kernel
theorem i8_21 : xI 8 21 = some (.ldc2_w 114) := by decide +kernel
theorem i8_24 : xI 8 24 = some (.lreturn) := by decide +kernel
theorem i8_25 : xI 8 25 = some (.aload_n 0) := by decide +kernel
theorem i8_26 : xI 8 26 = some (.getfield 37) := by decide +kernel
theorem i8_29 : xI 8 29 = some (.iload_n 1) := by decide +kernel
theorem i8_30 : xI 8 30 = some (.aaload) := by decide +kernel
theorem i8_31 : xI 8 31 = some (.astore 5) := by decide +kernel
theorem i8_33 : xI 8 33 = some (.aload_n 0) := by decide +kernel
theorem i8_34 : xI 8 34 = some (.getfield 46) := by decide +kernel
theorem i8_37 : xI 8 37 = some (.iload_n 2) := by decide +kernel
theorem i8_38 : xI 8 38 = some (.aaload) := by decide +kernel
theorem i8_39 : xI 8 39 = some (.astore 6) := by decide +kernel
theorem i8_41 : xI 8 41 = some (.aload 6) := by decide +kernel
theorem i8_43 : xI 8 43 = some (.aload 5) := by decide +kernel
theorem i8_45 : xI 8 45 = some (.invokevirtual 116) := by decide +kernel
theorem i8_48 : xI 8 48 = some (.ifCond .ne 7) := by decide +kernel
theorem i8_51 : xI 8 51 = some (.ldc2_w 119) := by decide +kernel
theorem i8_54 : xI 8 54 = some (.lreturn) := by decide +kernel
theorem i8_55 : xI 8 55 = some (.aload 6) := by decide +kernel
theorem i8_57 : xI 8 57 = some (.aload 5) := by decide +kernel
theorem i8_59 : xI 8 59 = some (.invokevirtual 121) := by decide +kernel
theorem i8_62 : xI 8 62 = some (.aload 5) := by decide +kernel
theorem i8_64 : xI 8 64 = some (.iload_n 3) := by decide +kernel
theorem i8_65 : xI 8 65 = some (.iload 4) := by decide +kernel
theorem i8_67 : xI 8 67 = some (.invokevirtual 125) := by decide +kernel
theorem i8_70 : xI 8 70 = some (.i2l) := by decide +kernel
theorem i8_71 : xI 8 71 = some (.lreturn) := by decide +kernel
-- 9 D_assure
theorem i9_0 : xI 9 0 = some (.iload_n 1) := by decide +kernel
theorem i9_1 : xI 9 1 = some (.invokestatic 75) := by decide +kernel
theorem i9_4 : xI 9 4 = some (.ifCond .eq 10) := by decide +kernel
theorem i9_7 : xI 9 7 = some (.iload_n 2) := by decide +kernel
theorem i9_8 : xI 9 8 = some (.bipush (-16)) := by decide +kernel
theorem i9_10 : xI 9 10 = some (.iand) := by decide +kernel
theorem i9_11 : xI 9 11 = some (.ifCond .eq 5) := by decide +kernel
theorem i9_14 : xI 9 14 = some (.iconst (-1)) := by decide +kernel
theorem i9_15 : xI 9 15 = some (.ireturn) := by decide +kernel
theorem i9_16 : xI 9 16 = some (.aload_n 0) := by decide +kernel
theorem i9_17 : xI 9 17 = some (.getfield 46) := by decide +kernel
theorem i9_20 : xI 9 20 = some (.iload_n 1) := by decide +kernel
theorem i9_21 : xI 9 21 = some (.aaload) := by decide +kernel
theorem i9_22 : xI 9 22 = some (.astore 4) := by decide +kernel
theorem i9_24 : xI 9 24 = some (.aload 4) := by decide +kernel
theorem i9_26 : xI 9 26 = some (.getfield 129) := by decide +kernel
theorem i9_29 : xI 9 29 = some (.istore 5) := by decide +kernel
theorem i9_31 : xI 9 31 = some (.aload 4) := by decide +kernel
theorem i9_33 : xI 9 33 = some (.iload_n 2) := by decide +kernel
theorem i9_34 : xI 9 34 = some (.putfield 129) := by decide +kernel
theorem i9_37 : xI 9 37 = some (.iload_n 3) := by decide +kernel
theorem i9_38 : xI 9 38 = some (.ifCond .eq 8) := by decide +kernel
theorem i9_41 : xI 9 41 = some (.aload 4) := by decide +kernel
theorem i9_43 : xI 9 43 = some (.invokevirtual 132) := by decide +kernel
theorem i9_46 : xI 9 46 = some (.iload 5) := by decide +kernel
theorem i9_48 : xI 9 48 = some (.ireturn) := by decide +kernel
-- 10 D_commit
theorem i10_0 : xI 10 0 = some (.iload_n 1) := by decide +kernel
theorem i10_1 : xI 10 1 = some (.ifCond .ge 5) := by decide +kernel
theorem i10_4 : xI 10 4 = some (.iconst (-1)) := by decide +kernel
theorem i10_5 : xI 10 5 = some (.ireturn) := by decide +kernel
theorem i10_6 : xI 10 6 = some (.aload_n 0) := by decide +kernel
theorem i10_7 : xI 10 7 = some (.getfield 37) := by decide +kernel
theorem i10_10 : xI 10 10 = some (.iconst 0) := by decide +kernel
theorem i10_11 : xI 10 11 = some (.aaload) := by decide +kernel
theorem i10_12 : xI 10 12 = some (.astore_n 2) := by decide +kernel
theorem i10_13 : xI 10 13 = some (.iload_n 1) := by decide +kernel
theorem i10_14 : xI 10 14 = some (.aload_n 2) := by decide +kernel
theorem i10_15 : xI 10 15 = some (.getfield 135) := by decide +kernel
theorem i10_18 : xI 10 18 = some (.invokestatic 138) := by decide +kernel
theorem i10_21 : xI 10 21 = some (.istore_n 3) := by decide +kernel
theorem i10_22 : xI 10 22 = some (.iconst 0) := by decide +kernel
theorem i10_23 : xI 10 23 = some (.istore 4) := by decide +kernel
theorem i10_25 : xI 10 25 = some (.iload 4) := by decide +kernel
theorem i10_27 : xI 10 27 = some (.iload_n 3) := by decide +kernel
theorem i10_28 : xI 10 28 = some (.if_icmp .ge 26) := by decide +kernel
theorem i10_31 : xI 10 31 = some (.aload_n 0) := by decide +kernel
theorem i10_32 : xI 10 32 = some (.getfield 28) := by decide +kernel
theorem i10_35 : xI 10 35 = some (.aload_n 2) := by decide +kernel
theorem i10_36 : xI 10 36 = some (.getfield 141) := by decide +kernel
theorem i10_39 : xI 10 39 = some (.iconst 0) := by decide +kernel
theorem i10_40 : xI 10 40 = some (.iaload) := by decide +kernel
theorem i10_41 : xI 10 41 = some (.invokevirtual 144) := by decide +kernel
theorem i10_44 : xI 10 44 = some (.aload_n 2) := by decide +kernel
theorem i10_45 : xI 10 45 = some (.invokevirtual 147) := by decide +kernel
theorem i10_48 : xI 10 48 = some (.iinc 4 1) := by decide +kernel
theorem i10_51 : xI 10 51 = some (.goto (-26)) := by decide +kernel
theorem i10_54 : xI 10 54 = some (.iload_n 3) := by decide +kernel
theorem i10_55 : xI 10 55 = some (.ireturn) := by decide +kernel
-- 11 D_meet
theorem i11_0 : xI 11 0 = some (.iload_n 1) := by decide +kernel
theorem i11_1 : xI 11 1 = some (.invokestatic 71) := by decide +kernel
theorem i11_4 : xI 11 4 = some (.ifCond .eq 19) := by decide +kernel
theorem i11_7 : xI 11 7 = some (.iload_n 2) := by decide +kernel
theorem i11_8 : xI 11 8 = some (.invokestatic 71) := by decide +kernel
theorem i11_11 : xI 11 11 = some (.ifCond .eq 12) := by decide +kernel
theorem i11_14 : xI 11 14 = some (.iload_n 1) := by decide +kernel
theorem i11_15 : xI 11 15 = some (.iload_n 2) := by decide +kernel
theorem i11_16 : xI 11 16 = some (.if_icmp .eq 7) := by decide +kernel
theorem i11_19 : xI 11 19 = some (.iload_n 3) := by decide +kernel
theorem i11_20 : xI 11 20 = some (.ifCond .ge 5) := by decide +kernel
theorem i11_23 : xI 11 23 = some (.iconst (-1)) := by decide +kernel
theorem i11_24 : xI 11 24 = some (.ireturn) := by decide +kernel
theorem i11_25 : xI 11 25 = some (.aload_n 0) := by decide +kernel
theorem i11_26 : xI 11 26 = some (.getfield 37) := by decide +kernel
theorem i11_29 : xI 11 29 = some (.iload_n 1) := by decide +kernel
theorem i11_30 : xI 11 30 = some (.aaload) := by decide +kernel
theorem i11_31 : xI 11 31 = some (.astore 4) := by decide +kernel
theorem i11_33 : xI 11 33 = some (.aload_n 0) := by decide +kernel
theorem i11_34 : xI 11 34 = some (.getfield 37) := by decide +kernel
theorem i11_37 : xI 11 37 = some (.iload_n 2) := by decide +kernel
theorem i11_38 : xI 11 38 = some (.aaload) := by decide +kernel
theorem i11_39 : xI 11 39 = some (.astore 5) := by decide +kernel
theorem i11_41 : xI 11 41 = some (.iload_n 3) := by decide +kernel
theorem i11_42 : xI 11 42 = some (.istore 6) := by decide +kernel
theorem i11_44 : xI 11 44 = some (.iload 6) := by decide +kernel
theorem i11_46 : xI 11 46 = some (.ifCond .le 29) := by decide +kernel
theorem i11_49 : xI 11 49 = some (.aload 4) := by decide +kernel
theorem i11_51 : xI 11 51 = some (.getfield 150) := by decide +kernel
theorem i11_54 : xI 11 54 = some (.aload 5) := by decide +kernel
theorem i11_56 : xI 11 56 = some (.getfield 153) := by decide +kernel
theorem i11_59 : xI 11 59 = some (.if_icmp .le 16) := by decide +kernel
theorem i11_62 : xI 11 62 = some (.aload 5) := by decide +kernel
theorem i11_64 : xI 11 64 = some (.aload 4) := by decide +kernel
theorem i11_66 : xI 11 66 = some (.getfield 150) := by decide +kernel
theorem i11_69 : xI 11 69 = some (.invokevirtual 156) := by decide +kernel
theorem i11_72 : xI 11 72 = some (.iinc 6 (-1)) := by decide +kernel
theorem i11_75 : xI 11 75 = some (.iload 6) := by decide +kernel
theorem i11_77 : xI 11 77 = some (.aload 5) := by decide +kernel
theorem i11_79 : xI 11 79 = some (.aload 4) := by decide +kernel
theorem i11_81 : xI 11 81 = some (.iload 6) := by decide +kernel
theorem i11_83 : xI 11 83 = some (.invokevirtual 159) := by decide +kernel
theorem i11_86 : xI 11 86 = some (.isub) := by decide +kernel
theorem i11_87 : xI 11 87 = some (.istore 6) := by decide +kernel
theorem i11_89 : xI 11 89 = some (.iload 6) := by decide +kernel
theorem i11_91 : xI 11 91 = some (.aload 5) := by decide +kernel
theorem i11_93 : xI 11 93 = some (.aload 4) := by decide +kernel
theorem i11_95 : xI 11 95 = some (.iload 6) := by decide +kernel
theorem i11_97 : xI 11 97 = some (.invokevirtual 163) := by decide +kernel
theorem i11_100 : xI 11 100 = some (.isub) := by decide +kernel
theorem i11_101 : xI 11 101 = some (.istore 6) := by decide +kernel
theorem i11_103 : xI 11 103 = some (.iload_n 3) := by decide +kernel
theorem i11_104 : xI 11 104 = some (.iload 6) := by decide +kernel
theorem i11_106 : xI 11 106 = some (.isub) := by decide +kernel
theorem i11_107 : xI 11 107 = some (.ireturn) := by decide +kernel
-- 12 D_forget
theorem i12_0 : xI 12 0 = some (.iload_n 1) := by decide +kernel
theorem i12_1 : xI 12 1 = some (.invokestatic 71) := by decide +kernel
theorem i12_4 : xI 12 4 = some (.ifCond .eq 7) := by decide +kernel
theorem i12_7 : xI 12 7 = some (.iload_n 2) := by decide +kernel
theorem i12_8 : xI 12 8 = some (.ifCond .ge 5) := by decide +kernel
theorem i12_11 : xI 12 11 = some (.iconst (-1)) := by decide +kernel
theorem i12_12 : xI 12 12 = some (.ireturn) := by decide +kernel
theorem i12_13 : xI 12 13 = some (.aload_n 0) := by decide +kernel
theorem i12_14 : xI 12 14 = some (.getfield 37) := by decide +kernel
theorem i12_17 : xI 12 17 = some (.iload_n 1) := by decide +kernel
theorem i12_18 : xI 12 18 = some (.aaload) := by decide +kernel
theorem i12_19 : xI 12 19 = some (.astore_n 3) := by decide +kernel
theorem i12_20 : xI 12 20 = some (.aload_n 3) := by decide +kernel
theorem i12_21 : xI 12 21 = some (.dup) := by decide +kernel
theorem i12_22 : xI 12 22 = some (.getfield 150) := by decide +kernel
theorem i12_25 : xI 12 25 = some (.iload_n 2) := by decide +kernel
theorem i12_26 : xI 12 26 = some (.aload_n 3) := by decide +kernel
theorem i12_27 : xI 12 27 = some (.getfield 153) := by decide +kernel
theorem i12_30 : xI 12 30 = some (.aload_n 3) := by decide +kernel
theorem i12_31 : xI 12 31 = some (.getfield 150) := by decide +kernel
theorem i12_34 : xI 12 34 = some (.isub) := by decide +kernel
theorem i12_35 : xI 12 35 = some (.invokestatic 138) := by decide +kernel
theorem i12_38 : xI 12 38 = some (.iadd) := by decide +kernel
theorem i12_39 : xI 12 39 = some (.putfield 150) := by decide +kernel
theorem i12_42 : xI 12 42 = some (.aload_n 3) := by decide +kernel
theorem i12_43 : xI 12 43 = some (.getfield 150) := by decide +kernel
theorem i12_46 : xI 12 46 = some (.ireturn) := by decide +kernel
-- 13 D_cell
theorem i13_0 : xI 13 0 = some (.iload_n 1) := by decide +kernel
theorem i13_1 : xI 13 1 = some (.invokestatic 71) := by decide +kernel
theorem i13_4 : xI 13 4 = some (.ifCond .eq 10) := by decide +kernel
theorem i13_7 : xI 13 7 = some (.iload_n 2) := by decide +kernel
theorem i13_8 : xI 13 8 = some (.invokestatic 111) := by decide +kernel
theorem i13_11 : xI 13 11 = some (.ifCond .ne 7) := by decide +kernel
theorem i13_14 : xI 13 14 = some (.ldc2_w 114) := by decide +kernel
theorem i13_17 : xI 13 17 = some (.lreturn) := by decide +kernel
theorem i13_18 : xI 13 18 = some (.aload_n 0) := by decide +kernel
theorem i13_19 : xI 13 19 = some (.getfield 37) := by decide +kernel
theorem i13_22 : xI 13 22 = some (.iload_n 1) := by decide +kernel
theorem i13_23 : xI 13 23 = some (.aaload) := by decide +kernel
theorem i13_24 : xI 13 24 = some (.iload_n 2) := by decide +kernel
theorem i13_25 : xI 13 25 = some (.iload_n 3) := by decide +kernel
theorem i13_26 : xI 13 26 = some (.invokevirtual 125) := by decide +kernel
theorem i13_29 : xI 13 29 = some (.i2l) := by decide +kernel
theorem i13_30 : xI 13 30 = some (.lreturn) := by decide +kernel
-- 14 D_order
theorem i14_0 : xI 14 0 = some (.iload_n 1) := by decide +kernel
theorem i14_1 : xI 14 1 = some (.invokestatic 71) := by decide +kernel
theorem i14_4 : xI 14 4 = some (.ifCond .ne 5) := by decide +kernel
theorem i14_7 : xI 14 7 = some (.iconst (-1)) := by decide +kernel
theorem i14_8 : xI 14 8 = some (.ireturn) := by decide +kernel
theorem i14_9 : xI 14 9 = some (.aload_n 0) := by decide +kernel
theorem i14_10 : xI 14 10 = some (.getfield 37) := by decide +kernel
theorem i14_13 : xI 14 13 = some (.iload_n 1) := by decide +kernel
theorem i14_14 : xI 14 14 = some (.aaload) := by decide +kernel
theorem i14_15 : xI 14 15 = some (.iload_n 2) := by decide +kernel
theorem i14_16 : xI 14 16 = some (.invokevirtual 166) := by decide +kernel
theorem i14_19 : xI 14 19 = some (.ireturn) := by decide +kernel
-- 15 D_outcome
theorem i15_0 : xI 15 0 = some (.iload_n 1) := by decide +kernel
theorem i15_1 : xI 15 1 = some (.invokestatic 71) := by decide +kernel
theorem i15_4 : xI 15 4 = some (.ifCond .ne 5) := by decide +kernel
theorem i15_7 : xI 15 7 = some (.iconst (-1)) := by decide +kernel
theorem i15_8 : xI 15 8 = some (.ireturn) := by decide +kernel
theorem i15_9 : xI 15 9 = some (.aload_n 0) := by decide +kernel
theorem i15_10 : xI 15 10 = some (.getfield 28) := by decide +kernel
theorem i15_13 : xI 15 13 = some (.iload_n 2) := by decide +kernel
theorem i15_14 : xI 15 14 = some (.invokevirtual 170) := by decide +kernel
theorem i15_17 : xI 15 17 = some (.ifCond .ne 6) := by decide +kernel
theorem i15_20 : xI 15 20 = some (.bipush (-2)) := by decide +kernel
theorem i15_22 : xI 15 22 = some (.ireturn) := by decide +kernel
theorem i15_23 : xI 15 23 = some (.aload_n 0) := by decide +kernel
theorem i15_24 : xI 15 24 = some (.getfield 37) := by decide +kernel
theorem i15_27 : xI 15 27 = some (.iload_n 1) := by decide +kernel
theorem i15_28 : xI 15 28 = some (.aaload) := by decide +kernel
theorem i15_29 : xI 15 29 = some (.iload_n 2) := by decide +kernel
theorem i15_30 : xI 15 30 = some (.invokevirtual 173) := by decide +kernel
theorem i15_33 : xI 15 33 = some (.ireturn) := by decide +kernel
-- 16 D_look
theorem i16_0 : xI 16 0 = some (.iload_n 2) := by decide +kernel
theorem i16_1 : xI 16 1 = some (.ifCond .lt 8) := by decide +kernel
theorem i16_4 : xI 16 4 = some (.iload_n 2) := by decide +kernel
theorem i16_5 : xI 16 5 = some (.iconst 2) := by decide +kernel
theorem i16_6 : xI 16 6 = some (.if_icmp .le 5) := by decide +kernel
theorem i16_9 : xI 16 9 = some (.iconst (-1)) := by decide +kernel
theorem i16_10 : xI 16 10 = some (.ireturn) := by decide +kernel
theorem i16_11 : xI 16 11 = some (.aload_n 0) := by decide +kernel
theorem i16_12 : xI 16 12 = some (.getfield 28) := by decide +kernel
theorem i16_15 : xI 16 15 = some (.iload_n 1) := by decide +kernel
theorem i16_16 : xI 16 16 = some (.invokevirtual 170) := by decide +kernel
theorem i16_19 : xI 16 19 = some (.ifCond .ne 6) := by decide +kernel
theorem i16_22 : xI 16 22 = some (.bipush (-2)) := by decide +kernel
theorem i16_24 : xI 16 24 = some (.ireturn) := by decide +kernel
theorem i16_25 : xI 16 25 = some (.aload_n 0) := by decide +kernel
theorem i16_26 : xI 16 26 = some (.getfield 28) := by decide +kernel
theorem i16_29 : xI 16 29 = some (.getfield 176) := by decide +kernel
theorem i16_32 : xI 16 32 = some (.iload_n 1) := by decide +kernel
theorem i16_33 : xI 16 33 = some (.aaload) := by decide +kernel
theorem i16_34 : xI 16 34 = some (.astore_n 3) := by decide +kernel
theorem i16_35 : xI 16 35 = some (.iload_n 2) := by decide +kernel
theorem i16_36 : xI 16 36 = some (.lookupswitch 38 #[(0, 28), (1, 33)]) := by decide +kernel
theorem i16_64 : xI 16 64 = some (.aload_n 3) := by decide +kernel
theorem i16_65 : xI 16 65 = some (.getfield 180) := by decide +kernel
theorem i16_68 : xI 16 68 = some (.ireturn) := by decide +kernel
theorem i16_69 : xI 16 69 = some (.aload_n 3) := by decide +kernel
theorem i16_70 : xI 16 70 = some (.getfield 183) := by decide +kernel
theorem i16_73 : xI 16 73 = some (.ireturn) := by decide +kernel
theorem i16_74 : xI 16 74 = some (.aload_n 3) := by decide +kernel
theorem i16_75 : xI 16 75 = some (.getfield 186) := by decide +kernel
theorem i16_78 : xI 16 78 = some (.ireturn) := by decide +kernel
-- 17 D_stamp
theorem i17_0 : xI 17 0 = some (.iload_n 3) := by decide +kernel
theorem i17_1 : xI 17 1 = some (.invokestatic 71) := by decide +kernel
theorem i17_4 : xI 17 4 = some (.ifCond .ne 5) := by decide +kernel
theorem i17_7 : xI 17 7 = some (.iconst (-1)) := by decide +kernel
theorem i17_8 : xI 17 8 = some (.ireturn) := by decide +kernel
theorem i17_9 : xI 17 9 = some (.iload_n 1) := by decide +kernel
theorem i17_10 : xI 17 10 = some (.ifCond .ne 22) := by decide +kernel
theorem i17_13 : xI 17 13 = some (.iload_n 2) := by decide +kernel
theorem i17_14 : xI 17 14 = some (.invokestatic 71) := by decide +kernel
theorem i17_17 : xI 17 17 = some (.ifCond .eq 15) := by decide +kernel
theorem i17_20 : xI 17 20 = some (.aload_n 0) := by decide +kernel
theorem i17_21 : xI 17 21 = some (.getfield 37) := by decide +kernel
theorem i17_24 : xI 17 24 = some (.iload_n 2) := by decide +kernel
theorem i17_25 : xI 17 25 = some (.aaload) := by decide +kernel
theorem i17_26 : xI 17 26 = some (.getfield 189) := by decide +kernel
theorem i17_29 : xI 17 29 = some (.iload_n 3) := by decide +kernel
theorem i17_30 : xI 17 30 = some (.iaload) := by decide +kernel
theorem i17_31 : xI 17 31 = some (.ireturn) := by decide +kernel
theorem i17_32 : xI 17 32 = some (.iload_n 1) := by decide +kernel
theorem i17_33 : xI 17 33 = some (.iconst 1) := by decide +kernel
theorem i17_34 : xI 17 34 = some (.if_icmp .ne 22) := by decide +kernel
theorem i17_37 : xI 17 37 = some (.iload_n 2) := by decide +kernel
theorem i17_38 : xI 17 38 = some (.invokestatic 75) := by decide +kernel
theorem i17_41 : xI 17 41 = some (.ifCond .eq 15) := by decide +kernel
theorem i17_44 : xI 17 44 = some (.aload_n 0) := by decide +kernel
theorem i17_45 : xI 17 45 = some (.getfield 46) := by decide +kernel
theorem i17_48 : xI 17 48 = some (.iload_n 2) := by decide +kernel
theorem i17_49 : xI 17 49 = some (.aaload) := by decide +kernel
theorem i17_50 : xI 17 50 = some (.getfield 192) := by decide +kernel
theorem i17_53 : xI 17 53 = some (.iload_n 3) := by decide +kernel
theorem i17_54 : xI 17 54 = some (.iaload) := by decide +kernel
theorem i17_55 : xI 17 55 = some (.ireturn) := by decide +kernel
theorem i17_56 : xI 17 56 = some (.iload_n 1) := by decide +kernel
theorem i17_57 : xI 17 57 = some (.iconst 2) := by decide +kernel
theorem i17_58 : xI 17 58 = some (.if_icmp .ne 22) := by decide +kernel
theorem i17_61 : xI 17 61 = some (.iload_n 2) := by decide +kernel
theorem i17_62 : xI 17 62 = some (.invokestatic 75) := by decide +kernel
theorem i17_65 : xI 17 65 = some (.ifCond .eq 15) := by decide +kernel
theorem i17_68 : xI 17 68 = some (.aload_n 0) := by decide +kernel
theorem i17_69 : xI 17 69 = some (.getfield 46) := by decide +kernel
theorem i17_72 : xI 17 72 = some (.iload_n 2) := by decide +kernel
theorem i17_73 : xI 17 73 = some (.aaload) := by decide +kernel
theorem i17_74 : xI 17 74 = some (.getfield 107) := by decide +kernel
theorem i17_77 : xI 17 77 = some (.iload_n 3) := by decide +kernel
theorem i17_78 : xI 17 78 = some (.iaload) := by decide +kernel
theorem i17_79 : xI 17 79 = some (.ireturn) := by decide +kernel
theorem i17_80 : xI 17 80 = some (.iconst (-1)) := by decide +kernel
theorem i17_81 : xI 17 81 = some (.ireturn) := by decide +kernel
-- 18 D_count
theorem i18_0 : xI 18 0 = some (.iload_n 1) := by decide +kernel
theorem i18_1 : xI 18 1 = some (.invokestatic 71) := by decide +kernel
theorem i18_4 : xI 18 4 = some (.ifCond .ne 5) := by decide +kernel
theorem i18_7 : xI 18 7 = some (.iconst (-1)) := by decide +kernel
theorem i18_8 : xI 18 8 = some (.ireturn) := by decide +kernel
theorem i18_9 : xI 18 9 = some (.aload_n 0) := by decide +kernel
theorem i18_10 : xI 18 10 = some (.getfield 37) := by decide +kernel
theorem i18_13 : xI 18 13 = some (.iload_n 1) := by decide +kernel
theorem i18_14 : xI 18 14 = some (.aaload) := by decide +kernel
theorem i18_15 : xI 18 15 = some (.astore_n 3) := by decide +kernel
theorem i18_16 : xI 18 16 = some (.iload_n 2) := by decide +kernel
theorem i18_17 : xI 18 17 = some (.tableswitch 56 0 3 #[31, 41, 46, 51]) := by decide +kernel
theorem i18_48 : xI 18 48 = some (.aload_n 3) := by decide +kernel
theorem i18_49 : xI 18 49 = some (.getfield 153) := by decide +kernel
theorem i18_52 : xI 18 52 = some (.aload_n 3) := by decide +kernel
theorem i18_53 : xI 18 53 = some (.getfield 135) := by decide +kernel
theorem i18_56 : xI 18 56 = some (.iadd) := by decide +kernel
theorem i18_57 : xI 18 57 = some (.ireturn) := by decide +kernel
theorem i18_58 : xI 18 58 = some (.aload_n 3) := by decide +kernel
theorem i18_59 : xI 18 59 = some (.getfield 153) := by decide +kernel
theorem i18_62 : xI 18 62 = some (.ireturn) := by decide +kernel
theorem i18_63 : xI 18 63 = some (.aload_n 3) := by decide +kernel
theorem i18_64 : xI 18 64 = some (.getfield 150) := by decide +kernel
theorem i18_67 : xI 18 67 = some (.ireturn) := by decide +kernel
theorem i18_68 : xI 18 68 = some (.aload_n 3) := by decide +kernel
theorem i18_69 : xI 18 69 = some (.getfield 86) := by decide +kernel
theorem i18_72 : xI 18 72 = some (.ireturn) := by decide +kernel
theorem i18_73 : xI 18 73 = some (.iconst (-1)) := by decide +kernel
theorem i18_74 : xI 18 74 = some (.ireturn) := by decide +kernel
-- 19 D_writes
theorem i19_0 : xI 19 0 = some (.aload_n 0) := by decide +kernel
theorem i19_1 : xI 19 1 = some (.getfield 28) := by decide +kernel
theorem i19_4 : xI 19 4 = some (.getfield 79) := by decide +kernel
theorem i19_7 : xI 19 7 = some (.ireturn) := by decide +kernel
-- 20 Ta_init
theorem i20_0 : xI 20 0 = some (.aload_n 0) := by decide +kernel
theorem i20_1 : xI 20 1 = some (.invokespecial 3) := by decide +kernel
theorem i20_4 : xI 20 4 = some (.aload_n 0) := by decide +kernel
theorem i20_5 : xI 20 5 = some (.sipush 400) := by decide +kernel
theorem i20_8 : xI 20 8 = some (.newarray .int) := by decide +kernel
theorem i20_10 : xI 20 10 = some (.putfield 9) := by decide +kernel
theorem i20_13 : xI 20 13 = some (.aload_n 0) := by decide +kernel
theorem i20_14 : xI 20 14 = some (.iconst 0) := by decide +kernel
theorem i20_15 : xI 20 15 = some (.putfield 15) := by decide +kernel
theorem i20_18 : xI 20 18 = some (.return_) := by decide +kernel
-- 21 Ta_addInt
theorem i21_0 : xI 21 0 = some (.bipush 24) := by decide +kernel
theorem i21_2 : xI 21 2 = some (.istore_n 2) := by decide +kernel
theorem i21_3 : xI 21 3 = some (.iload_n 2) := by decide +kernel
theorem i21_4 : xI 21 4 = some (.ifCond .lt 45) := by decide +kernel
theorem i21_7 : xI 21 7 = some (.aload_n 0) := by decide +kernel
theorem i21_8 : xI 21 8 = some (.getfield 15) := by decide +kernel
theorem i21_11 : xI 21 11 = some (.sipush 400) := by decide +kernel
theorem i21_14 : xI 21 14 = some (.if_icmp .ge 35) := by decide +kernel
theorem i21_17 : xI 21 17 = some (.aload_n 0) := by decide +kernel
theorem i21_18 : xI 21 18 = some (.getfield 9) := by decide +kernel
theorem i21_21 : xI 21 21 = some (.aload_n 0) := by decide +kernel
theorem i21_22 : xI 21 22 = some (.getfield 15) := by decide +kernel
theorem i21_25 : xI 21 25 = some (.iload_n 1) := by decide +kernel
theorem i21_26 : xI 21 26 = some (.iload_n 2) := by decide +kernel
theorem i21_27 : xI 21 27 = some (.iushr) := by decide +kernel
theorem i21_28 : xI 21 28 = some (.sipush 255) := by decide +kernel
theorem i21_31 : xI 21 31 = some (.iand) := by decide +kernel
theorem i21_32 : xI 21 32 = some (.iastore) := by decide +kernel
theorem i21_33 : xI 21 33 = some (.aload_n 0) := by decide +kernel
theorem i21_34 : xI 21 34 = some (.dup) := by decide +kernel
theorem i21_35 : xI 21 35 = some (.getfield 15) := by decide +kernel
theorem i21_38 : xI 21 38 = some (.iconst 1) := by decide +kernel
theorem i21_39 : xI 21 39 = some (.iadd) := by decide +kernel
theorem i21_40 : xI 21 40 = some (.putfield 15) := by decide +kernel
theorem i21_43 : xI 21 43 = some (.iinc 2 (-8)) := by decide +kernel
theorem i21_46 : xI 21 46 = some (.goto (-43)) := by decide +kernel
theorem i21_49 : xI 21 49 = some (.return_) := by decide +kernel
-- 22 Co_init
theorem i22_0 : xI 22 0 = some (.aload_n 0) := by decide +kernel
theorem i22_1 : xI 22 1 = some (.invokespecial 5) := by decide +kernel
theorem i22_4 : xI 22 4 = some (.aload_n 0) := by decide +kernel
theorem i22_5 : xI 22 5 = some (.new 11) := by decide +kernel
theorem i22_8 : xI 22 8 = some (.dup) := by decide +kernel
theorem i22_9 : xI 22 9 = some (.invokespecial 13) := by decide +kernel
theorem i22_12 : xI 22 12 = some (.putfield 14) := by decide +kernel
theorem i22_15 : xI 22 15 = some (.aload_n 0) := by decide +kernel
theorem i22_16 : xI 22 16 = some (.sipush 406) := by decide +kernel
theorem i22_19 : xI 22 19 = some (.newarray .int) := by decide +kernel
theorem i22_21 : xI 22 21 = some (.putfield 18) := by decide +kernel
theorem i22_24 : xI 22 24 = some (.aload_n 0) := by decide +kernel
theorem i22_25 : xI 22 25 = some (.sipush 406) := by decide +kernel
theorem i22_28 : xI 22 28 = some (.newarray .int) := by decide +kernel
theorem i22_30 : xI 22 30 = some (.putfield 22) := by decide +kernel
theorem i22_33 : xI 22 33 = some (.aload_n 0) := by decide +kernel
theorem i22_34 : xI 22 34 = some (.iconst 0) := by decide +kernel
theorem i22_35 : xI 22 35 = some (.putfield 25) := by decide +kernel
theorem i22_38 : xI 22 38 = some (.aload_n 0) := by decide +kernel
theorem i22_39 : xI 22 39 = some (.iconst 0) := by decide +kernel
theorem i22_40 : xI 22 40 = some (.putfield 29) := by decide +kernel
theorem i22_43 : xI 22 43 = some (.aload_n 0) := by decide +kernel
theorem i22_44 : xI 22 44 = some (.iconst 0) := by decide +kernel
theorem i22_45 : xI 22 45 = some (.putfield 32) := by decide +kernel
theorem i22_48 : xI 22 48 = some (.aload_n 0) := by decide +kernel
theorem i22_49 : xI 22 49 = some (.bipush (-2)) := by decide +kernel
theorem i22_51 : xI 22 51 = some (.putfield 35) := by decide +kernel
theorem i22_54 : xI 22 54 = some (.aload_n 0) := by decide +kernel
theorem i22_55 : xI 22 55 = some (.aload_n 1) := by decide +kernel
theorem i22_56 : xI 22 56 = some (.putfield 38) := by decide +kernel
theorem i22_59 : xI 22 59 = some (.return_) := by decide +kernel
-- 23 Co_compile
theorem i23_0 : xI 23 0 = some (.aload_n 0) := by decide +kernel
theorem i23_1 : xI 23 1 = some (.getfield 14) := by decide +kernel
theorem i23_4 : xI 23 4 = some (.aload_n 0) := by decide +kernel
theorem i23_5 : xI 23 5 = some (.getfield 38) := by decide +kernel
theorem i23_8 : xI 23 8 = some (.invokevirtual 42) := by decide +kernel
theorem i23_11 : xI 23 11 = some (.aload_n 0) := by decide +kernel
theorem i23_12 : xI 23 12 = some (.iconst 0) := by decide +kernel
theorem i23_13 : xI 23 13 = some (.putfield 25) := by decide +kernel
theorem i23_16 : xI 23 16 = some (.aload_n 0) := by decide +kernel
theorem i23_17 : xI 23 17 = some (.iconst 0) := by decide +kernel
theorem i23_18 : xI 23 18 = some (.putfield 29) := by decide +kernel
theorem i23_21 : xI 23 21 = some (.aload_n 0) := by decide +kernel
theorem i23_22 : xI 23 22 = some (.iconst 0) := by decide +kernel
theorem i23_23 : xI 23 23 = some (.putfield 32) := by decide +kernel
theorem i23_26 : xI 23 26 = some (.aload_n 0) := by decide +kernel
theorem i23_27 : xI 23 27 = some (.bipush (-2)) := by decide +kernel
theorem i23_29 : xI 23 29 = some (.putfield 35) := by decide +kernel
theorem i23_32 : xI 23 32 = some (.iconst 1) := by decide +kernel
theorem i23_33 : xI 23 33 = some (.istore_n 1) := by decide +kernel
theorem i23_34 : xI 23 34 = some (.iconst 1) := by decide +kernel
theorem i23_35 : xI 23 35 = some (.istore_n 2) := by decide +kernel
theorem i23_36 : xI 23 36 = some (.iload_n 1) := by decide +kernel
theorem i23_37 : xI 23 37 = some (.ifCond .eq 43) := by decide +kernel
theorem i23_40 : xI 23 40 = some (.iload_n 2) := by decide +kernel
theorem i23_41 : xI 23 41 = some (.bipush 6) := by decide +kernel
theorem i23_43 : xI 23 43 = some (.if_icmp .gt 37) := by decide +kernel
theorem i23_46 : xI 23 46 = some (.aload_n 0) := by decide +kernel
theorem i23_47 : xI 23 47 = some (.iconst 2) := by decide +kernel
theorem i23_48 : xI 23 48 = some (.invokevirtual 48) := by decide +kernel
theorem i23_51 : xI 23 51 = some (.ifCond .eq 7) := by decide +kernel
theorem i23_54 : xI 23 54 = some (.aload_n 0) := by decide +kernel
theorem i23_55 : xI 23 55 = some (.invokevirtual 52) := by decide +kernel
theorem i23_58 : xI 23 58 = some (.aload_n 0) := by decide +kernel
theorem i23_59 : xI 23 59 = some (.invokevirtual 55) := by decide +kernel
theorem i23_62 : xI 23 62 = some (.aload_n 0) := by decide +kernel
theorem i23_63 : xI 23 63 = some (.iconst (-1)) := by decide +kernel
theorem i23_64 : xI 23 64 = some (.iload_n 2) := by decide +kernel
theorem i23_65 : xI 23 65 = some (.invokevirtual 60) := by decide +kernel
theorem i23_68 : xI 23 68 = some (.aload_n 0) := by decide +kernel
theorem i23_69 : xI 23 69 = some (.iconst 4) := by decide +kernel
theorem i23_70 : xI 23 70 = some (.invokevirtual 48) := by decide +kernel
theorem i23_73 : xI 23 73 = some (.istore_n 1) := by decide +kernel
theorem i23_74 : xI 23 74 = some (.iinc 2 1) := by decide +kernel
theorem i23_77 : xI 23 77 = some (.goto (-41)) := by decide +kernel
theorem i23_80 : xI 23 80 = some (.iload_n 1) := by decide +kernel
theorem i23_81 : xI 23 81 = some (.ifCond .ne 10) := by decide +kernel
theorem i23_84 : xI 23 84 = some (.aload_n 0) := by decide +kernel
theorem i23_85 : xI 23 85 = some (.invokevirtual 64) := by decide +kernel
theorem i23_88 : xI 23 88 = some (.ifCond .eq 7) := by decide +kernel
theorem i23_91 : xI 23 91 = some (.aload_n 0) := by decide +kernel
theorem i23_92 : xI 23 92 = some (.invokevirtual 68) := by decide +kernel
theorem i23_95 : xI 23 95 = some (.aload_n 0) := by decide +kernel
theorem i23_96 : xI 23 96 = some (.getfield 35) := by decide +kernel
theorem i23_99 : xI 23 99 = some (.ireturn) := by decide +kernel
-- 24 Co_accept
theorem i24_0 : xI 24 0 = some (.aload_n 0) := by decide +kernel
theorem i24_1 : xI 24 1 = some (.getfield 35) := by decide +kernel
theorem i24_4 : xI 24 4 = some (.bipush (-2)) := by decide +kernel
theorem i24_6 : xI 24 6 = some (.if_icmp .ne 35) := by decide +kernel
theorem i24_9 : xI 24 9 = some (.aload_n 0) := by decide +kernel
theorem i24_10 : xI 24 10 = some (.getfield 14) := by decide +kernel
theorem i24_13 : xI 24 13 = some (.getfield 104) := by decide +kernel
theorem i24_16 : xI 24 16 = some (.aload_n 0) := by decide +kernel
theorem i24_17 : xI 24 17 = some (.getfield 29) := by decide +kernel
theorem i24_20 : xI 24 20 = some (.iaload) := by decide +kernel
theorem i24_21 : xI 24 21 = some (.iload_n 1) := by decide +kernel
theorem i24_22 : xI 24 22 = some (.if_icmp .ne 19) := by decide +kernel
theorem i24_25 : xI 24 25 = some (.aload_n 0) := by decide +kernel
theorem i24_26 : xI 24 26 = some (.getfield 29) := by decide +kernel
theorem i24_29 : xI 24 29 = some (.iconst 1) := by decide +kernel
theorem i24_30 : xI 24 30 = some (.iadd) := by decide +kernel
theorem i24_31 : xI 24 31 = some (.aload_n 0) := by decide +kernel
theorem i24_32 : xI 24 32 = some (.getfield 14) := by decide +kernel
theorem i24_35 : xI 24 35 = some (.getfield 107) := by decide +kernel
theorem i24_38 : xI 24 38 = some (.if_icmp .lt 5) := by decide +kernel
theorem i24_41 : xI 24 41 = some (.iconst 0) := by decide +kernel
theorem i24_42 : xI 24 42 = some (.ireturn) := by decide +kernel
theorem i24_43 : xI 24 43 = some (.aload_n 0) := by decide +kernel
theorem i24_44 : xI 24 44 = some (.dup) := by decide +kernel
theorem i24_45 : xI 24 45 = some (.getfield 29) := by decide +kernel
theorem i24_48 : xI 24 48 = some (.iconst 1) := by decide +kernel
theorem i24_49 : xI 24 49 = some (.iadd) := by decide +kernel
theorem i24_50 : xI 24 50 = some (.putfield 29) := by decide +kernel
theorem i24_53 : xI 24 53 = some (.iconst 1) := by decide +kernel
theorem i24_54 : xI 24 54 = some (.ireturn) := by decide +kernel
-- 25 Co_parseTest
theorem i25_0 : xI 25 0 = some (.iconst 1) := by decide +kernel
theorem i25_1 : xI 25 1 = some (.istore_n 1) := by decide +kernel
theorem i25_2 : xI 25 2 = some (.iconst 0) := by decide +kernel
theorem i25_3 : xI 25 3 = some (.istore_n 2) := by decide +kernel
theorem i25_4 : xI 25 4 = some (.iload_n 1) := by decide +kernel
theorem i25_5 : xI 25 5 = some (.ifCond .eq 80) := by decide +kernel
theorem i25_8 : xI 25 8 = some (.iload_n 2) := by decide +kernel
theorem i25_9 : xI 25 9 = some (.sipush 400) := by decide +kernel
theorem i25_12 : xI 25 12 = some (.if_icmp .ge 73) := by decide +kernel
theorem i25_15 : xI 25 15 = some (.aload_n 0) := by decide +kernel
theorem i25_16 : xI 25 16 = some (.iconst 0) := by decide +kernel
theorem i25_17 : xI 25 17 = some (.invokevirtual 80) := by decide +kernel
theorem i25_20 : xI 25 20 = some (.aload_n 0) := by decide +kernel
theorem i25_21 : xI 25 21 = some (.invokevirtual 64) := by decide +kernel
theorem i25_24 : xI 25 24 = some (.istore_n 3) := by decide +kernel
theorem i25_25 : xI 25 25 = some (.iload_n 3) := by decide +kernel
theorem i25_26 : xI 25 26 = some (.bipush 10) := by decide +kernel
theorem i25_28 : xI 25 28 = some (.if_icmp .eq 21) := by decide +kernel
theorem i25_31 : xI 25 31 = some (.iload_n 3) := by decide +kernel
theorem i25_32 : xI 25 32 = some (.bipush 11) := by decide +kernel
theorem i25_34 : xI 25 34 = some (.if_icmp .eq 15) := by decide +kernel
theorem i25_37 : xI 25 37 = some (.iload_n 3) := by decide +kernel
theorem i25_38 : xI 25 38 = some (.bipush 12) := by decide +kernel
theorem i25_40 : xI 25 40 = some (.if_icmp .eq 9) := by decide +kernel
theorem i25_43 : xI 25 43 = some (.iload_n 3) := by decide +kernel
theorem i25_44 : xI 25 44 = some (.bipush 13) := by decide +kernel
theorem i25_46 : xI 25 46 = some (.if_icmp .ne 12) := by decide +kernel
theorem i25_49 : xI 25 49 = some (.aload_n 0) := by decide +kernel
theorem i25_50 : xI 25 50 = some (.iload_n 3) := by decide +kernel
theorem i25_51 : xI 25 51 = some (.invokevirtual 48) := by decide +kernel
theorem i25_54 : xI 25 54 = some (.pop) := by decide +kernel
theorem i25_55 : xI 25 55 = some (.goto 7) := by decide +kernel
theorem i25_58 : xI 25 58 = some (.aload_n 0) := by decide +kernel
theorem i25_59 : xI 25 59 = some (.invokevirtual 68) := by decide +kernel
theorem i25_62 : xI 25 62 = some (.aload_n 0) := by decide +kernel
theorem i25_63 : xI 25 63 = some (.iconst 0) := by decide +kernel
theorem i25_64 : xI 25 64 = some (.invokevirtual 80) := by decide +kernel
theorem i25_67 : xI 25 67 = some (.aload_n 0) := by decide +kernel
theorem i25_68 : xI 25 68 = some (.iload_n 3) := by decide +kernel
theorem i25_69 : xI 25 69 = some (.iconst 0) := by decide +kernel
theorem i25_70 : xI 25 70 = some (.invokevirtual 60) := by decide +kernel
theorem i25_73 : xI 25 73 = some (.aload_n 0) := by decide +kernel
theorem i25_74 : xI 25 74 = some (.iconst 5) := by decide +kernel
theorem i25_75 : xI 25 75 = some (.invokevirtual 48) := by decide +kernel
theorem i25_78 : xI 25 78 = some (.istore_n 1) := by decide +kernel
theorem i25_79 : xI 25 79 = some (.iinc 2 1) := by decide +kernel
theorem i25_82 : xI 25 82 = some (.goto (-78)) := by decide +kernel
theorem i25_85 : xI 25 85 = some (.aload_n 0) := by decide +kernel
theorem i25_86 : xI 25 86 = some (.iconst 3) := by decide +kernel
theorem i25_87 : xI 25 87 = some (.invokevirtual 84) := by decide +kernel
theorem i25_90 : xI 25 90 = some (.return_) := by decide +kernel
-- 26 Co_parseSum
theorem i26_0 : xI 26 0 = some (.aload_n 0) := by decide +kernel
theorem i26_1 : xI 26 1 = some (.iload_n 1) := by decide +kernel
theorem i26_2 : xI 26 2 = some (.invokevirtual 92) := by decide +kernel
theorem i26_5 : xI 26 5 = some (.iconst 1) := by decide +kernel
theorem i26_6 : xI 26 6 = some (.istore_n 2) := by decide +kernel
theorem i26_7 : xI 26 7 = some (.iconst 0) := by decide +kernel
theorem i26_8 : xI 26 8 = some (.istore_n 3) := by decide +kernel
theorem i26_9 : xI 26 9 = some (.iload_n 2) := by decide +kernel
theorem i26_10 : xI 26 10 = some (.ifCond .eq 67) := by decide +kernel
theorem i26_13 : xI 26 13 = some (.iload_n 3) := by decide +kernel
theorem i26_14 : xI 26 14 = some (.sipush 400) := by decide +kernel
theorem i26_17 : xI 26 17 = some (.if_icmp .ge 60) := by decide +kernel
theorem i26_20 : xI 26 20 = some (.aload_n 0) := by decide +kernel
theorem i26_21 : xI 26 21 = some (.invokevirtual 64) := by decide +kernel
theorem i26_24 : xI 26 24 = some (.istore 4) := by decide +kernel
theorem i26_26 : xI 26 26 = some (.iload 4) := by decide +kernel
theorem i26_28 : xI 26 28 = some (.bipush 14) := by decide +kernel
theorem i26_30 : xI 26 30 = some (.if_icmp .eq 10) := by decide +kernel
theorem i26_33 : xI 26 33 = some (.iload 4) := by decide +kernel
theorem i26_35 : xI 26 35 = some (.bipush 15) := by decide +kernel
theorem i26_37 : xI 26 37 = some (.if_icmp .ne 16) := by decide +kernel
theorem i26_40 : xI 26 40 = some (.aload_n 0) := by decide +kernel
theorem i26_41 : xI 26 41 = some (.iload 4) := by decide +kernel
theorem i26_43 : xI 26 43 = some (.invokevirtual 48) := by decide +kernel
theorem i26_46 : xI 26 46 = some (.ifCond .eq 7) := by decide +kernel
theorem i26_49 : xI 26 49 = some (.iconst 1) := by decide +kernel
theorem i26_50 : xI 26 50 = some (.goto 4) := by decide +kernel
theorem i26_53 : xI 26 53 = some (.iconst 0) := by decide +kernel
theorem i26_54 : xI 26 54 = some (.istore_n 2) := by decide +kernel
theorem i26_55 : xI 26 55 = some (.iload_n 2) := by decide +kernel
theorem i26_56 : xI 26 56 = some (.ifCond .eq 15) := by decide +kernel
theorem i26_59 : xI 26 59 = some (.aload_n 0) := by decide +kernel
theorem i26_60 : xI 26 60 = some (.iload_n 1) := by decide +kernel
theorem i26_61 : xI 26 61 = some (.invokevirtual 92) := by decide +kernel
theorem i26_64 : xI 26 64 = some (.aload_n 0) := by decide +kernel
theorem i26_65 : xI 26 65 = some (.iload 4) := by decide +kernel
theorem i26_67 : xI 26 67 = some (.iconst 0) := by decide +kernel
theorem i26_68 : xI 26 68 = some (.invokevirtual 60) := by decide +kernel
theorem i26_71 : xI 26 71 = some (.iinc 3 1) := by decide +kernel
theorem i26_74 : xI 26 74 = some (.goto (-65)) := by decide +kernel
theorem i26_77 : xI 26 77 = some (.return_) := by decide +kernel
-- 27 Co_parseTerm
theorem i27_0 : xI 27 0 = some (.aload_n 0) := by decide +kernel
theorem i27_1 : xI 27 1 = some (.iload_n 1) := by decide +kernel
theorem i27_2 : xI 27 2 = some (.invokevirtual 95) := by decide +kernel
theorem i27_5 : xI 27 5 = some (.iconst 1) := by decide +kernel
theorem i27_6 : xI 27 6 = some (.istore_n 2) := by decide +kernel
theorem i27_7 : xI 27 7 = some (.iconst 0) := by decide +kernel
theorem i27_8 : xI 27 8 = some (.istore_n 3) := by decide +kernel
theorem i27_9 : xI 27 9 = some (.iload_n 2) := by decide +kernel
theorem i27_10 : xI 27 10 = some (.ifCond .eq 39) := by decide +kernel
theorem i27_13 : xI 27 13 = some (.iload_n 3) := by decide +kernel
theorem i27_14 : xI 27 14 = some (.sipush 400) := by decide +kernel
theorem i27_17 : xI 27 17 = some (.if_icmp .ge 32) := by decide +kernel
theorem i27_20 : xI 27 20 = some (.aload_n 0) := by decide +kernel
theorem i27_21 : xI 27 21 = some (.bipush 16) := by decide +kernel
theorem i27_23 : xI 27 23 = some (.invokevirtual 48) := by decide +kernel
theorem i27_26 : xI 27 26 = some (.istore_n 2) := by decide +kernel
theorem i27_27 : xI 27 27 = some (.iload_n 2) := by decide +kernel
theorem i27_28 : xI 27 28 = some (.ifCond .eq 15) := by decide +kernel
theorem i27_31 : xI 27 31 = some (.aload_n 0) := by decide +kernel
theorem i27_32 : xI 27 32 = some (.iload_n 1) := by decide +kernel
theorem i27_33 : xI 27 33 = some (.invokevirtual 95) := by decide +kernel
theorem i27_36 : xI 27 36 = some (.aload_n 0) := by decide +kernel
theorem i27_37 : xI 27 37 = some (.bipush 16) := by decide +kernel
theorem i27_39 : xI 27 39 = some (.iconst 0) := by decide +kernel
theorem i27_40 : xI 27 40 = some (.invokevirtual 60) := by decide +kernel
theorem i27_43 : xI 27 43 = some (.iinc 3 1) := by decide +kernel
theorem i27_46 : xI 27 46 = some (.goto (-37)) := by decide +kernel
theorem i27_49 : xI 27 49 = some (.return_) := by decide +kernel
-- 28 Co_parsePart
theorem i28_0 : xI 28 0 = some (.iload_n 1) := by decide +kernel
theorem i28_1 : xI 28 1 = some (.bipush 6) := by decide +kernel
theorem i28_3 : xI 28 3 = some (.if_icmp .ge 26) := by decide +kernel
theorem i28_6 : xI 28 6 = some (.aload_n 0) := by decide +kernel
theorem i28_7 : xI 28 7 = some (.bipush 19) := by decide +kernel
theorem i28_9 : xI 28 9 = some (.invokevirtual 48) := by decide +kernel
theorem i28_12 : xI 28 12 = some (.ifCond .eq 17) := by decide +kernel
theorem i28_15 : xI 28 15 = some (.aload_n 0) := by decide +kernel
theorem i28_16 : xI 28 16 = some (.iload_n 1) := by decide +kernel
theorem i28_17 : xI 28 17 = some (.iconst 1) := by decide +kernel
theorem i28_18 : xI 28 18 = some (.iadd) := by decide +kernel
theorem i28_19 : xI 28 19 = some (.invokevirtual 80) := by decide +kernel
theorem i28_22 : xI 28 22 = some (.aload_n 0) := by decide +kernel
theorem i28_23 : xI 28 23 = some (.bipush 20) := by decide +kernel
theorem i28_25 : xI 28 25 = some (.invokevirtual 84) := by decide +kernel
theorem i28_28 : xI 28 28 = some (.return_) := by decide +kernel
theorem i28_29 : xI 28 29 = some (.aload_n 0) := by decide +kernel
theorem i28_30 : xI 28 30 = some (.invokevirtual 64) := by decide +kernel
theorem i28_33 : xI 28 33 = some (.istore_n 2) := by decide +kernel
theorem i28_34 : xI 28 34 = some (.aload_n 0) := by decide +kernel
theorem i28_35 : xI 28 35 = some (.getfield 32) := by decide +kernel
theorem i28_38 : xI 28 38 = some (.bipush 80) := by decide +kernel
theorem i28_40 : xI 28 40 = some (.if_icmp .lt 8) := by decide +kernel
theorem i28_43 : xI 28 43 = some (.aload_n 0) := by decide +kernel
theorem i28_44 : xI 28 44 = some (.invokevirtual 68) := by decide +kernel
theorem i28_47 : xI 28 47 = some (.return_) := by decide +kernel
theorem i28_48 : xI 28 48 = some (.aload_n 0) := by decide +kernel
theorem i28_49 : xI 28 49 = some (.dup) := by decide +kernel
theorem i28_50 : xI 28 50 = some (.getfield 32) := by decide +kernel
theorem i28_53 : xI 28 53 = some (.iconst 1) := by decide +kernel
theorem i28_54 : xI 28 54 = some (.iadd) := by decide +kernel
theorem i28_55 : xI 28 55 = some (.putfield 32) := by decide +kernel
theorem i28_58 : xI 28 58 = some (.iload_n 2) := by decide +kernel
theorem i28_59 : xI 28 59 = some (.bipush 8) := by decide +kernel
theorem i28_61 : xI 28 61 = some (.if_icmp .ne 23) := by decide +kernel
theorem i28_64 : xI 28 64 = some (.aload_n 0) := by decide +kernel
theorem i28_65 : xI 28 65 = some (.bipush 8) := by decide +kernel
end
section
/-! ===== which instruction stands where (wip/gen/lay16.py) ===== -/
theorem i28_67 : xI 28 67 = some (.invokevirtual 48) := by decide +kernel
theorem i28_70 : xI 28 70 = some (.pop) := by decide +kernel
theorem i28_71 : xI 28 71 = some (.aload_n 0) := by decide +kernel
theorem i28_72 : xI 28 72 = some (.bipush 8) := by decide +kernel
theorem i28_74 : xI 28 74 = some (.aload_n 0) := by decide +kernel
theorem i28_75 : xI 28 75 = some (.invokevirtual 89) := by decide +kernel
theorem i28_78 : xI 28 78 = some (.invokevirtual 60) := by decide +kernel
theorem i28_81 : xI 28 81 = some (.goto 51) := by decide +kernel
theorem i28_84 : xI 28 84 = some (.iload_n 2) := by decide +kernel
theorem i28_85 : xI 28 85 = some (.bipush 9) := by decide +kernel
theorem i28_87 : xI 28 87 = some (.if_icmp .eq 15) := by decide +kernel
theorem i28_90 : xI 28 90 = some (.iload_n 2) := by decide +kernel
theorem i28_91 : xI 28 91 = some (.bipush 6) := by decide +kernel
theorem i28_93 : xI 28 93 = some (.if_icmp .eq 9) := by decide +kernel
theorem i28_96 : xI 28 96 = some (.iload_n 2) := by decide +kernel
theorem i28_97 : xI 28 97 = some (.bipush 7) := by decide +kernel
theorem i28_99 : xI 28 99 = some (.if_icmp .ne 29) := by decide +kernel
theorem i28_102 : xI 28 102 = some (.aload_n 0) := by decide +kernel
theorem i28_103 : xI 28 103 = some (.iload_n 2) := by decide +kernel
theorem i28_104 : xI 28 104 = some (.aload_n 0) := by decide +kernel
theorem i28_105 : xI 28 105 = some (.getfield 14) := by decide +kernel
theorem i28_108 : xI 28 108 = some (.getfield 98) := by decide +kernel
theorem i28_111 : xI 28 111 = some (.aload_n 0) := by decide +kernel
theorem i28_112 : xI 28 112 = some (.getfield 29) := by decide +kernel
theorem i28_115 : xI 28 115 = some (.iaload) := by decide +kernel
theorem i28_116 : xI 28 116 = some (.invokevirtual 60) := by decide +kernel
theorem i28_119 : xI 28 119 = some (.aload_n 0) := by decide +kernel
theorem i28_120 : xI 28 120 = some (.iload_n 2) := by decide +kernel
theorem i28_121 : xI 28 121 = some (.invokevirtual 48) := by decide +kernel
theorem i28_124 : xI 28 124 = some (.pop) := by decide +kernel
theorem i28_125 : xI 28 125 = some (.goto 7) := by decide +kernel
theorem i28_128 : xI 28 128 = some (.aload_n 0) := by decide +kernel
theorem i28_129 : xI 28 129 = some (.invokevirtual 68) := by decide +kernel
theorem i28_132 : xI 28 132 = some (.return_) := by decide +kernel
-- 29 Co_require
theorem i29_0 : xI 29 0 = some (.aload_n 0) := by decide +kernel
theorem i29_1 : xI 29 1 = some (.iload_n 1) := by decide +kernel
theorem i29_2 : xI 29 2 = some (.invokevirtual 48) := by decide +kernel
theorem i29_5 : xI 29 5 = some (.ifCond .ne 7) := by decide +kernel
theorem i29_8 : xI 29 8 = some (.aload_n 0) := by decide +kernel
theorem i29_9 : xI 29 9 = some (.invokevirtual 68) := by decide +kernel
theorem i29_12 : xI 29 12 = some (.return_) := by decide +kernel
-- 30 Co_fail
theorem i30_0 : xI 30 0 = some (.aload_n 0) := by decide +kernel
theorem i30_1 : xI 30 1 = some (.getfield 35) := by decide +kernel
theorem i30_4 : xI 30 4 = some (.bipush (-2)) := by decide +kernel
theorem i30_6 : xI 30 6 = some (.if_icmp .ne 19) := by decide +kernel
theorem i30_9 : xI 30 9 = some (.aload_n 0) := by decide +kernel
theorem i30_10 : xI 30 10 = some (.aload_n 0) := by decide +kernel
theorem i30_11 : xI 30 11 = some (.getfield 14) := by decide +kernel
theorem i30_14 : xI 30 14 = some (.getfield 108) := by decide +kernel
theorem i30_17 : xI 30 17 = some (.aload_n 0) := by decide +kernel
theorem i30_18 : xI 30 18 = some (.getfield 29) := by decide +kernel
theorem i30_21 : xI 30 21 = some (.iaload) := by decide +kernel
theorem i30_22 : xI 30 22 = some (.putfield 35) := by decide +kernel
theorem i30_25 : xI 30 25 = some (.return_) := by decide +kernel
-- 31 Co_kind
theorem i31_0 : xI 31 0 = some (.aload_n 0) := by decide +kernel
theorem i31_1 : xI 31 1 = some (.getfield 14) := by decide +kernel
theorem i31_4 : xI 31 4 = some (.getfield 104) := by decide +kernel
theorem i31_7 : xI 31 7 = some (.aload_n 0) := by decide +kernel
theorem i31_8 : xI 31 8 = some (.getfield 29) := by decide +kernel
theorem i31_11 : xI 31 11 = some (.iaload) := by decide +kernel
theorem i31_12 : xI 31 12 = some (.ireturn) := by decide +kernel
-- 32 Co_parseCellNumber
theorem i32_0 : xI 32 0 = some (.aload_n 0) := by decide +kernel
theorem i32_1 : xI 32 1 = some (.getfield 14) := by decide +kernel
theorem i32_4 : xI 32 4 = some (.getfield 98) := by decide +kernel
theorem i32_7 : xI 32 7 = some (.aload_n 0) := by decide +kernel
theorem i32_8 : xI 32 8 = some (.getfield 29) := by decide +kernel
theorem i32_11 : xI 32 11 = some (.iaload) := by decide +kernel
theorem i32_12 : xI 32 12 = some (.istore_n 1) := by decide +kernel
theorem i32_13 : xI 32 13 = some (.iload_n 1) := by decide +kernel
theorem i32_14 : xI 32 14 = some (.invokestatic 101) := by decide +kernel
theorem i32_17 : xI 32 17 = some (.ifCond .eq 12) := by decide +kernel
theorem i32_20 : xI 32 20 = some (.aload_n 0) := by decide +kernel
theorem i32_21 : xI 32 21 = some (.bipush 9) := by decide +kernel
theorem i32_23 : xI 32 23 = some (.invokevirtual 48) := by decide +kernel
theorem i32_26 : xI 32 26 = some (.ifCond .ne 9) := by decide +kernel
theorem i32_29 : xI 32 29 = some (.aload_n 0) := by decide +kernel
theorem i32_30 : xI 32 30 = some (.invokevirtual 68) := by decide +kernel
theorem i32_33 : xI 32 33 = some (.iconst 0) := by decide +kernel
theorem i32_34 : xI 32 34 = some (.ireturn) := by decide +kernel
theorem i32_35 : xI 32 35 = some (.iload_n 1) := by decide +kernel
theorem i32_36 : xI 32 36 = some (.ireturn) := by decide +kernel
-- 33 Co_emit
theorem i33_0 : xI 33 0 = some (.aload_n 0) := by decide +kernel
theorem i33_1 : xI 33 1 = some (.getfield 35) := by decide +kernel
theorem i33_4 : xI 33 4 = some (.bipush (-2)) := by decide +kernel
theorem i33_6 : xI 33 6 = some (.if_icmp .ne 43) := by decide +kernel
theorem i33_9 : xI 33 9 = some (.aload_n 0) := by decide +kernel
theorem i33_10 : xI 33 10 = some (.getfield 25) := by decide +kernel
theorem i33_13 : xI 33 13 = some (.sipush 406) := by decide +kernel
theorem i33_16 : xI 33 16 = some (.if_icmp .ge 33) := by decide +kernel
theorem i33_19 : xI 33 19 = some (.aload_n 0) := by decide +kernel
theorem i33_20 : xI 33 20 = some (.getfield 18) := by decide +kernel
theorem i33_23 : xI 33 23 = some (.aload_n 0) := by decide +kernel
theorem i33_24 : xI 33 24 = some (.getfield 25) := by decide +kernel
theorem i33_27 : xI 33 27 = some (.iload_n 1) := by decide +kernel
theorem i33_28 : xI 33 28 = some (.iastore) := by decide +kernel
theorem i33_29 : xI 33 29 = some (.aload_n 0) := by decide +kernel
theorem i33_30 : xI 33 30 = some (.getfield 22) := by decide +kernel
theorem i33_33 : xI 33 33 = some (.aload_n 0) := by decide +kernel
theorem i33_34 : xI 33 34 = some (.getfield 25) := by decide +kernel
theorem i33_37 : xI 33 37 = some (.iload_n 2) := by decide +kernel
theorem i33_38 : xI 33 38 = some (.iastore) := by decide +kernel
theorem i33_39 : xI 33 39 = some (.aload_n 0) := by decide +kernel
theorem i33_40 : xI 33 40 = some (.dup) := by decide +kernel
theorem i33_41 : xI 33 41 = some (.getfield 25) := by decide +kernel
theorem i33_44 : xI 33 44 = some (.iconst 1) := by decide +kernel
theorem i33_45 : xI 33 45 = some (.iadd) := by decide +kernel
theorem i33_46 : xI 33 46 = some (.putfield 25) := by decide +kernel
theorem i33_49 : xI 33 49 = some (.return_) := by decide +kernel
-- 34 Co_parseEffects
theorem i34_0 : xI 34 0 = some (.iconst 1) := by decide +kernel
theorem i34_1 : xI 34 1 = some (.istore_n 1) := by decide +kernel
theorem i34_2 : xI 34 2 = some (.iconst 0) := by decide +kernel
theorem i34_3 : xI 34 3 = some (.istore_n 2) := by decide +kernel
theorem i34_4 : xI 34 4 = some (.iload_n 1) := by decide +kernel
theorem i34_5 : xI 34 5 = some (.ifCond .eq 51) := by decide +kernel
theorem i34_8 : xI 34 8 = some (.iload_n 2) := by decide +kernel
theorem i34_9 : xI 34 9 = some (.bipush 8) := by decide +kernel
theorem i34_11 : xI 34 11 = some (.if_icmp .ge 45) := by decide +kernel
theorem i34_14 : xI 34 14 = some (.aload_n 0) := by decide +kernel
theorem i34_15 : xI 34 15 = some (.bipush 8) := by decide +kernel
theorem i34_17 : xI 34 17 = some (.invokevirtual 84) := by decide +kernel
theorem i34_20 : xI 34 20 = some (.aload_n 0) := by decide +kernel
theorem i34_21 : xI 34 21 = some (.invokevirtual 89) := by decide +kernel
theorem i34_24 : xI 34 24 = some (.istore_n 3) := by decide +kernel
theorem i34_25 : xI 34 25 = some (.aload_n 0) := by decide +kernel
theorem i34_26 : xI 34 26 = some (.bipush 17) := by decide +kernel
theorem i34_28 : xI 34 28 = some (.invokevirtual 84) := by decide +kernel
theorem i34_31 : xI 34 31 = some (.aload_n 0) := by decide +kernel
theorem i34_32 : xI 34 32 = some (.iconst 0) := by decide +kernel
theorem i34_33 : xI 34 33 = some (.invokevirtual 80) := by decide +kernel
theorem i34_36 : xI 34 36 = some (.aload_n 0) := by decide +kernel
theorem i34_37 : xI 34 37 = some (.bipush 17) := by decide +kernel
theorem i34_39 : xI 34 39 = some (.iload_n 3) := by decide +kernel
theorem i34_40 : xI 34 40 = some (.invokevirtual 60) := by decide +kernel
theorem i34_43 : xI 34 43 = some (.aload_n 0) := by decide +kernel
theorem i34_44 : xI 34 44 = some (.bipush 18) := by decide +kernel
theorem i34_46 : xI 34 46 = some (.invokevirtual 48) := by decide +kernel
theorem i34_49 : xI 34 49 = some (.istore_n 1) := by decide +kernel
theorem i34_50 : xI 34 50 = some (.iinc 2 1) := by decide +kernel
theorem i34_53 : xI 34 53 = some (.goto (-49)) := by decide +kernel
theorem i34_56 : xI 34 56 = some (.iload_n 1) := by decide +kernel
theorem i34_57 : xI 34 57 = some (.ifCond .eq 7) := by decide +kernel
theorem i34_60 : xI 34 60 = some (.aload_n 0) := by decide +kernel
theorem i34_61 : xI 34 61 = some (.invokevirtual 68) := by decide +kernel
theorem i34_64 : xI 34 64 = some (.return_) := by decide +kernel
-- 35 Co_compiled
theorem i35_0 : xI 35 0 = some (.new 58) := by decide +kernel
theorem i35_3 : xI 35 3 = some (.dup) := by decide +kernel
theorem i35_4 : xI 35 4 = some (.aload_n 0) := by decide +kernel
theorem i35_5 : xI 35 5 = some (.getfield 18) := by decide +kernel
theorem i35_8 : xI 35 8 = some (.aload_n 0) := by decide +kernel
theorem i35_9 : xI 35 9 = some (.getfield 25) := by decide +kernel
theorem i35_12 : xI 35 12 = some (.invokestatic 71) := by decide +kernel
theorem i35_15 : xI 35 15 = some (.aload_n 0) := by decide +kernel
theorem i35_16 : xI 35 16 = some (.getfield 22) := by decide +kernel
theorem i35_19 : xI 35 19 = some (.aload_n 0) := by decide +kernel
theorem i35_20 : xI 35 20 = some (.getfield 25) := by decide +kernel
theorem i35_23 : xI 35 23 = some (.invokestatic 71) := by decide +kernel
theorem i35_26 : xI 35 26 = some (.invokespecial 77) := by decide +kernel
theorem i35_29 : xI 35 29 = some (.areturn) := by decide +kernel
-- 36 To_init
theorem i36_0 : xI 36 0 = some (.aload_n 0) := by decide +kernel
theorem i36_1 : xI 36 1 = some (.invokespecial 3) := by decide +kernel
theorem i36_4 : xI 36 4 = some (.aload_n 0) := by decide +kernel
theorem i36_5 : xI 36 5 = some (.sipush 401) := by decide +kernel
theorem i36_8 : xI 36 8 = some (.newarray .int) := by decide +kernel
theorem i36_10 : xI 36 10 = some (.putfield 9) := by decide +kernel
theorem i36_13 : xI 36 13 = some (.aload_n 0) := by decide +kernel
theorem i36_14 : xI 36 14 = some (.sipush 401) := by decide +kernel
theorem i36_17 : xI 36 17 = some (.newarray .int) := by decide +kernel
theorem i36_19 : xI 36 19 = some (.putfield 15) := by decide +kernel
theorem i36_22 : xI 36 22 = some (.aload_n 0) := by decide +kernel
theorem i36_23 : xI 36 23 = some (.sipush 401) := by decide +kernel
theorem i36_26 : xI 36 26 = some (.newarray .int) := by decide +kernel
theorem i36_28 : xI 36 28 = some (.putfield 18) := by decide +kernel
theorem i36_31 : xI 36 31 = some (.aload_n 0) := by decide +kernel
theorem i36_32 : xI 36 32 = some (.iconst 0) := by decide +kernel
theorem i36_33 : xI 36 33 = some (.putfield 21) := by decide +kernel
theorem i36_36 : xI 36 36 = some (.return_) := by decide +kernel
-- 37 To_scan
theorem i37_0 : xI 37 0 = some (.iconst 0) := by decide +kernel
theorem i37_1 : xI 37 1 = some (.istore_n 2) := by decide +kernel
theorem i37_2 : xI 37 2 = some (.iconst 1) := by decide +kernel
theorem i37_3 : xI 37 3 = some (.istore_n 3) := by decide +kernel
theorem i37_4 : xI 37 4 = some (.aload_n 0) := by decide +kernel
theorem i37_5 : xI 37 5 = some (.iconst 0) := by decide +kernel
theorem i37_6 : xI 37 6 = some (.putfield 21) := by decide +kernel
theorem i37_9 : xI 37 9 = some (.iload_n 3) := by decide +kernel
theorem i37_10 : xI 37 10 = some (.ifCond .eq 83) := by decide +kernel
theorem i37_13 : xI 37 13 = some (.aload_n 0) := by decide +kernel
theorem i37_14 : xI 37 14 = some (.getfield 21) := by decide +kernel
theorem i37_17 : xI 37 17 = some (.sipush 400) := by decide +kernel
theorem i37_20 : xI 37 20 = some (.if_icmp .gt 73) := by decide +kernel
theorem i37_23 : xI 37 23 = some (.aload_n 1) := by decide +kernel
theorem i37_24 : xI 37 24 = some (.iload_n 2) := by decide +kernel
theorem i37_25 : xI 37 25 = some (.invokestatic 25) := by decide +kernel
theorem i37_28 : xI 37 28 = some (.istore 4) := by decide +kernel
theorem i37_30 : xI 37 30 = some (.aload_n 0) := by decide +kernel
theorem i37_31 : xI 37 31 = some (.aload_n 1) := by decide +kernel
theorem i37_32 : xI 37 32 = some (.iload 4) := by decide +kernel
theorem i37_34 : xI 37 34 = some (.invokevirtual 29) := by decide +kernel
theorem i37_37 : xI 37 37 = some (.istore_n 2) := by decide +kernel
theorem i37_38 : xI 37 38 = some (.aload_n 0) := by decide +kernel
theorem i37_39 : xI 37 39 = some (.getfield 15) := by decide +kernel
theorem i37_42 : xI 37 42 = some (.aload_n 0) := by decide +kernel
theorem i37_43 : xI 37 43 = some (.getfield 21) := by decide +kernel
theorem i37_46 : xI 37 46 = some (.iload 4) := by decide +kernel
theorem i37_48 : xI 37 48 = some (.iastore) := by decide +kernel
theorem i37_49 : xI 37 49 = some (.aload_n 0) := by decide +kernel
theorem i37_50 : xI 37 50 = some (.getfield 9) := by decide +kernel
theorem i37_53 : xI 37 53 = some (.aload_n 0) := by decide +kernel
theorem i37_54 : xI 37 54 = some (.getfield 21) := by decide +kernel
theorem i37_57 : xI 37 57 = some (.iaload) := by decide +kernel
theorem i37_58 : xI 37 58 = some (.ifCond .eq 20) := by decide +kernel
theorem i37_61 : xI 37 61 = some (.aload_n 0) := by decide +kernel
theorem i37_62 : xI 37 62 = some (.getfield 9) := by decide +kernel
theorem i37_65 : xI 37 65 = some (.aload_n 0) := by decide +kernel
theorem i37_66 : xI 37 66 = some (.getfield 21) := by decide +kernel
theorem i37_69 : xI 37 69 = some (.iaload) := by decide +kernel
theorem i37_70 : xI 37 70 = some (.iconst 1) := by decide +kernel
theorem i37_71 : xI 37 71 = some (.if_icmp .eq 7) := by decide +kernel
theorem i37_74 : xI 37 74 = some (.iconst 1) := by decide +kernel
theorem i37_75 : xI 37 75 = some (.goto 4) := by decide +kernel
theorem i37_78 : xI 37 78 = some (.iconst 0) := by decide +kernel
theorem i37_79 : xI 37 79 = some (.istore_n 3) := by decide +kernel
theorem i37_80 : xI 37 80 = some (.aload_n 0) := by decide +kernel
theorem i37_81 : xI 37 81 = some (.dup) := by decide +kernel
theorem i37_82 : xI 37 82 = some (.getfield 21) := by decide +kernel
theorem i37_85 : xI 37 85 = some (.iconst 1) := by decide +kernel
theorem i37_86 : xI 37 86 = some (.iadd) := by decide +kernel
theorem i37_87 : xI 37 87 = some (.putfield 21) := by decide +kernel
theorem i37_90 : xI 37 90 = some (.goto (-81)) := by decide +kernel
theorem i37_93 : xI 37 93 = some (.return_) := by decide +kernel
-- 38 To_skipBlanks
theorem i38_0 : xI 38 0 = some (.iload_n 1) := by decide +kernel
theorem i38_1 : xI 38 1 = some (.istore_n 2) := by decide +kernel
theorem i38_2 : xI 38 2 = some (.iload_n 2) := by decide +kernel
theorem i38_3 : xI 38 3 = some (.aload_n 0) := by decide +kernel
theorem i38_4 : xI 38 4 = some (.getfield 34) := by decide +kernel
theorem i38_7 : xI 38 7 = some (.if_icmp .ge 20) := by decide +kernel
theorem i38_10 : xI 38 10 = some (.aload_n 0) := by decide +kernel
theorem i38_11 : xI 38 11 = some (.getfield 39) := by decide +kernel
theorem i38_14 : xI 38 14 = some (.iload_n 2) := by decide +kernel
theorem i38_15 : xI 38 15 = some (.iaload) := by decide +kernel
theorem i38_16 : xI 38 16 = some (.bipush 32) := by decide +kernel
theorem i38_18 : xI 38 18 = some (.if_icmp .ne 9) := by decide +kernel
theorem i38_21 : xI 38 21 = some (.iinc 2 1) := by decide +kernel
theorem i38_24 : xI 38 24 = some (.goto (-22)) := by decide +kernel
theorem i38_27 : xI 38 27 = some (.iload_n 2) := by decide +kernel
theorem i38_28 : xI 38 28 = some (.ireturn) := by decide +kernel
-- 39 To_scanToken
theorem i39_0 : xI 39 0 = some (.aload_n 0) := by decide +kernel
theorem i39_1 : xI 39 1 = some (.getfield 18) := by decide +kernel
theorem i39_4 : xI 39 4 = some (.aload_n 0) := by decide +kernel
theorem i39_5 : xI 39 5 = some (.getfield 21) := by decide +kernel
theorem i39_8 : xI 39 8 = some (.iconst 0) := by decide +kernel
theorem i39_9 : xI 39 9 = some (.iastore) := by decide +kernel
theorem i39_10 : xI 39 10 = some (.iload_n 2) := by decide +kernel
theorem i39_11 : xI 39 11 = some (.aload_n 1) := by decide +kernel
theorem i39_12 : xI 39 12 = some (.getfield 34) := by decide +kernel
theorem i39_15 : xI 39 15 = some (.if_icmp .lt 15) := by decide +kernel
theorem i39_18 : xI 39 18 = some (.aload_n 0) := by decide +kernel
theorem i39_19 : xI 39 19 = some (.getfield 9) := by decide +kernel
theorem i39_22 : xI 39 22 = some (.aload_n 0) := by decide +kernel
theorem i39_23 : xI 39 23 = some (.getfield 21) := by decide +kernel
theorem i39_26 : xI 39 26 = some (.iconst 0) := by decide +kernel
theorem i39_27 : xI 39 27 = some (.iastore) := by decide +kernel
theorem i39_28 : xI 39 28 = some (.iload_n 2) := by decide +kernel
theorem i39_29 : xI 39 29 = some (.ireturn) := by decide +kernel
theorem i39_30 : xI 39 30 = some (.aload_n 1) := by decide +kernel
theorem i39_31 : xI 39 31 = some (.getfield 39) := by decide +kernel
theorem i39_34 : xI 39 34 = some (.iload_n 2) := by decide +kernel
theorem i39_35 : xI 39 35 = some (.iaload) := by decide +kernel
theorem i39_36 : xI 39 36 = some (.istore_n 3) := by decide +kernel
theorem i39_37 : xI 39 37 = some (.iload_n 3) := by decide +kernel
theorem i39_38 : xI 39 38 = some (.bipush 97) := by decide +kernel
theorem i39_40 : xI 39 40 = some (.if_icmp .lt 16) := by decide +kernel
theorem i39_43 : xI 39 43 = some (.iload_n 3) := by decide +kernel
theorem i39_44 : xI 39 44 = some (.bipush 122) := by decide +kernel
theorem i39_46 : xI 39 46 = some (.if_icmp .gt 10) := by decide +kernel
theorem i39_49 : xI 39 49 = some (.aload_n 0) := by decide +kernel
theorem i39_50 : xI 39 50 = some (.aload_n 1) := by decide +kernel
theorem i39_51 : xI 39 51 = some (.iload_n 2) := by decide +kernel
theorem i39_52 : xI 39 52 = some (.invokevirtual 42) := by decide +kernel
theorem i39_55 : xI 39 55 = some (.ireturn) := by decide +kernel
theorem i39_56 : xI 39 56 = some (.iload_n 3) := by decide +kernel
theorem i39_57 : xI 39 57 = some (.bipush 48) := by decide +kernel
theorem i39_59 : xI 39 59 = some (.if_icmp .lt 16) := by decide +kernel
theorem i39_62 : xI 39 62 = some (.iload_n 3) := by decide +kernel
theorem i39_63 : xI 39 63 = some (.bipush 57) := by decide +kernel
theorem i39_65 : xI 39 65 = some (.if_icmp .gt 10) := by decide +kernel
theorem i39_68 : xI 39 68 = some (.aload_n 0) := by decide +kernel
theorem i39_69 : xI 39 69 = some (.aload_n 1) := by decide +kernel
theorem i39_70 : xI 39 70 = some (.iload_n 2) := by decide +kernel
theorem i39_71 : xI 39 71 = some (.invokevirtual 45) := by decide +kernel
theorem i39_74 : xI 39 74 = some (.ireturn) := by decide +kernel
theorem i39_75 : xI 39 75 = some (.iload_n 3) := by decide +kernel
theorem i39_76 : xI 39 76 = some (.bipush 58) := by decide +kernel
theorem i39_78 : xI 39 78 = some (.if_icmp .ne 30) := by decide +kernel
theorem i39_81 : xI 39 81 = some (.iload_n 2) := by decide +kernel
theorem i39_82 : xI 39 82 = some (.iconst 1) := by decide +kernel
theorem i39_83 : xI 39 83 = some (.iadd) := by decide +kernel
theorem i39_84 : xI 39 84 = some (.aload_n 1) := by decide +kernel
theorem i39_85 : xI 39 85 = some (.getfield 34) := by decide +kernel
theorem i39_88 : xI 39 88 = some (.if_icmp .ge 20) := by decide +kernel
theorem i39_91 : xI 39 91 = some (.aload_n 1) := by decide +kernel
theorem i39_92 : xI 39 92 = some (.getfield 39) := by decide +kernel
theorem i39_95 : xI 39 95 = some (.iload_n 2) := by decide +kernel
theorem i39_96 : xI 39 96 = some (.iconst 1) := by decide +kernel
theorem i39_97 : xI 39 97 = some (.iadd) := by decide +kernel
theorem i39_98 : xI 39 98 = some (.iaload) := by decide +kernel
theorem i39_99 : xI 39 99 = some (.bipush 61) := by decide +kernel
theorem i39_101 : xI 39 101 = some (.if_icmp .ne 7) := by decide +kernel
theorem i39_104 : xI 39 104 = some (.iconst 1) := by decide +kernel
theorem i39_105 : xI 39 105 = some (.goto 4) := by decide +kernel
theorem i39_108 : xI 39 108 = some (.iconst 0) := by decide +kernel
theorem i39_109 : xI 39 109 = some (.istore 4) := by decide +kernel
theorem i39_111 : xI 39 111 = some (.aload_n 0) := by decide +kernel
theorem i39_112 : xI 39 112 = some (.getfield 9) := by decide +kernel
theorem i39_115 : xI 39 115 = some (.aload_n 0) := by decide +kernel
theorem i39_116 : xI 39 116 = some (.getfield 21) := by decide +kernel
theorem i39_119 : xI 39 119 = some (.iload 4) := by decide +kernel
theorem i39_121 : xI 39 121 = some (.ifCond .eq 8) := by decide +kernel
theorem i39_124 : xI 39 124 = some (.bipush 17) := by decide +kernel
theorem i39_126 : xI 39 126 = some (.goto 7) := by decide +kernel
theorem i39_129 : xI 39 129 = some (.iload_n 3) := by decide +kernel
theorem i39_130 : xI 39 130 = some (.invokestatic 48) := by decide +kernel
theorem i39_133 : xI 39 133 = some (.iastore) := by decide +kernel
theorem i39_134 : xI 39 134 = some (.iload 4) := by decide +kernel
theorem i39_136 : xI 39 136 = some (.ifCond .eq 9) := by decide +kernel
theorem i39_139 : xI 39 139 = some (.iload_n 2) := by decide +kernel
theorem i39_140 : xI 39 140 = some (.iconst 2) := by decide +kernel
theorem i39_141 : xI 39 141 = some (.iadd) := by decide +kernel
theorem i39_142 : xI 39 142 = some (.goto 6) := by decide +kernel
theorem i39_145 : xI 39 145 = some (.iload_n 2) := by decide +kernel
theorem i39_146 : xI 39 146 = some (.iconst 1) := by decide +kernel
theorem i39_147 : xI 39 147 = some (.iadd) := by decide +kernel
theorem i39_148 : xI 39 148 = some (.ireturn) := by decide +kernel
-- 40 To_scanWord
theorem i40_0 : xI 40 0 = some (.iload_n 2) := by decide +kernel
theorem i40_1 : xI 40 1 = some (.istore_n 3) := by decide +kernel
theorem i40_2 : xI 40 2 = some (.iload_n 3) := by decide +kernel
theorem i40_3 : xI 40 3 = some (.aload_n 1) := by decide +kernel
theorem i40_4 : xI 40 4 = some (.getfield 34) := by decide +kernel
theorem i40_7 : xI 40 7 = some (.if_icmp .ge 31) := by decide +kernel
theorem i40_10 : xI 40 10 = some (.aload_n 1) := by decide +kernel
theorem i40_11 : xI 40 11 = some (.getfield 39) := by decide +kernel
theorem i40_14 : xI 40 14 = some (.iload_n 3) := by decide +kernel
theorem i40_15 : xI 40 15 = some (.iaload) := by decide +kernel
theorem i40_16 : xI 40 16 = some (.bipush 97) := by decide +kernel
theorem i40_18 : xI 40 18 = some (.if_icmp .lt 20) := by decide +kernel
theorem i40_21 : xI 40 21 = some (.aload_n 1) := by decide +kernel
theorem i40_22 : xI 40 22 = some (.getfield 39) := by decide +kernel
theorem i40_25 : xI 40 25 = some (.iload_n 3) := by decide +kernel
theorem i40_26 : xI 40 26 = some (.iaload) := by decide +kernel
theorem i40_27 : xI 40 27 = some (.bipush 122) := by decide +kernel
theorem i40_29 : xI 40 29 = some (.if_icmp .gt 9) := by decide +kernel
theorem i40_32 : xI 40 32 = some (.iinc 3 1) := by decide +kernel
theorem i40_35 : xI 40 35 = some (.goto (-33)) := by decide +kernel
theorem i40_38 : xI 40 38 = some (.aload_n 0) := by decide +kernel
theorem i40_39 : xI 40 39 = some (.getfield 9) := by decide +kernel
theorem i40_42 : xI 40 42 = some (.aload_n 0) := by decide +kernel
theorem i40_43 : xI 40 43 = some (.getfield 21) := by decide +kernel
theorem i40_46 : xI 40 46 = some (.aload_n 1) := by decide +kernel
theorem i40_47 : xI 40 47 = some (.iload_n 2) := by decide +kernel
theorem i40_48 : xI 40 48 = some (.iload_n 3) := by decide +kernel
theorem i40_49 : xI 40 49 = some (.invokestatic 52) := by decide +kernel
theorem i40_52 : xI 40 52 = some (.iastore) := by decide +kernel
theorem i40_53 : xI 40 53 = some (.iload_n 3) := by decide +kernel
theorem i40_54 : xI 40 54 = some (.ireturn) := by decide +kernel
-- 41 To_kindOfWord
theorem i41_0 : xI 41 0 = some (.aload_n 0) := by decide +kernel
theorem i41_1 : xI 41 1 = some (.iload_n 1) := by decide +kernel
theorem i41_2 : xI 41 2 = some (.iload_n 2) := by decide +kernel
theorem i41_3 : xI 41 3 = some (.ldc 62) := by decide +kernel
theorem i41_5 : xI 41 5 = some (.invokestatic 64) := by decide +kernel
theorem i41_8 : xI 41 8 = some (.ifCond .eq 6) := by decide +kernel
theorem i41_11 : xI 41 11 = some (.bipush 8) := by decide +kernel
theorem i41_13 : xI 41 13 = some (.ireturn) := by decide +kernel
theorem i41_14 : xI 41 14 = some (.aload_n 0) := by decide +kernel
theorem i41_15 : xI 41 15 = some (.iload_n 1) := by decide +kernel
theorem i41_16 : xI 41 16 = some (.iload_n 2) := by decide +kernel
theorem i41_17 : xI 41 17 = some (.ldc 68) := by decide +kernel
theorem i41_19 : xI 41 19 = some (.invokestatic 64) := by decide +kernel
theorem i41_22 : xI 41 22 = some (.ifCond .eq 5) := by decide +kernel
theorem i41_25 : xI 41 25 = some (.iconst 2) := by decide +kernel
theorem i41_26 : xI 41 26 = some (.ireturn) := by decide +kernel
theorem i41_27 : xI 41 27 = some (.aload_n 0) := by decide +kernel
theorem i41_28 : xI 41 28 = some (.iload_n 1) := by decide +kernel
theorem i41_29 : xI 41 29 = some (.iload_n 2) := by decide +kernel
theorem i41_30 : xI 41 30 = some (.ldc 70) := by decide +kernel
theorem i41_32 : xI 41 32 = some (.invokestatic 64) := by decide +kernel
theorem i41_35 : xI 41 35 = some (.ifCond .eq 5) := by decide +kernel
theorem i41_38 : xI 41 38 = some (.iconst 3) := by decide +kernel
theorem i41_39 : xI 41 39 = some (.ireturn) := by decide +kernel
theorem i41_40 : xI 41 40 = some (.aload_n 0) := by decide +kernel
theorem i41_41 : xI 41 41 = some (.iload_n 1) := by decide +kernel
theorem i41_42 : xI 41 42 = some (.iload_n 2) := by decide +kernel
theorem i41_43 : xI 41 43 = some (.ldc 72) := by decide +kernel
theorem i41_45 : xI 41 45 = some (.invokestatic 64) := by decide +kernel
theorem i41_48 : xI 41 48 = some (.ifCond .eq 5) := by decide +kernel
theorem i41_51 : xI 41 51 = some (.iconst 4) := by decide +kernel
theorem i41_52 : xI 41 52 = some (.ireturn) := by decide +kernel
theorem i41_53 : xI 41 53 = some (.aload_n 0) := by decide +kernel
theorem i41_54 : xI 41 54 = some (.iload_n 1) := by decide +kernel
theorem i41_55 : xI 41 55 = some (.iload_n 2) := by decide +kernel
theorem i41_56 : xI 41 56 = some (.ldc 74) := by decide +kernel
theorem i41_58 : xI 41 58 = some (.invokestatic 64) := by decide +kernel
theorem i41_61 : xI 41 61 = some (.ifCond .eq 5) := by decide +kernel
theorem i41_64 : xI 41 64 = some (.iconst 5) := by decide +kernel
theorem i41_65 : xI 41 65 = some (.ireturn) := by decide +kernel
theorem i41_66 : xI 41 66 = some (.aload_n 0) := by decide +kernel
theorem i41_67 : xI 41 67 = some (.iload_n 1) := by decide +kernel
theorem i41_68 : xI 41 68 = some (.iload_n 2) := by decide +kernel
theorem i41_69 : xI 41 69 = some (.ldc 76) := by decide +kernel
theorem i41_71 : xI 41 71 = some (.invokestatic 64) := by decide +kernel
theorem i41_74 : xI 41 74 = some (.ifCond .eq 6) := by decide +kernel
theorem i41_77 : xI 41 77 = some (.bipush 6) := by decide +kernel
theorem i41_79 : xI 41 79 = some (.ireturn) := by decide +kernel
theorem i41_80 : xI 41 80 = some (.aload_n 0) := by decide +kernel
theorem i41_81 : xI 41 81 = some (.iload_n 1) := by decide +kernel
theorem i41_82 : xI 41 82 = some (.iload_n 2) := by decide +kernel
theorem i41_83 : xI 41 83 = some (.ldc 78) := by decide +kernel
theorem i41_85 : xI 41 85 = some (.invokestatic 64) := by decide +kernel
theorem i41_88 : xI 41 88 = some (.ifCond .eq 6) := by decide +kernel
theorem i41_91 : xI 41 91 = some (.bipush 7) := by decide +kernel
theorem i41_93 : xI 41 93 = some (.ireturn) := by decide +kernel
theorem i41_94 : xI 41 94 = some (.iconst 1) := by decide +kernel
theorem i41_95 : xI 41 95 = some (.ireturn) := by decide +kernel
-- 42 To_spells
theorem i42_0 : xI 42 0 = some (.iload_n 2) := by decide +kernel
theorem i42_1 : xI 42 1 = some (.iload_n 1) := by decide +kernel
theorem i42_2 : xI 42 2 = some (.isub) := by decide +kernel
theorem i42_3 : xI 42 3 = some (.aload_n 3) := by decide +kernel
theorem i42_4 : xI 42 4 = some (.invokevirtual 80) := by decide +kernel
theorem i42_7 : xI 42 7 = some (.if_icmp .eq 5) := by decide +kernel
theorem i42_10 : xI 42 10 = some (.iconst 0) := by decide +kernel
theorem i42_11 : xI 42 11 = some (.ireturn) := by decide +kernel
theorem i42_12 : xI 42 12 = some (.iconst 0) := by decide +kernel
theorem i42_13 : xI 42 13 = some (.istore 4) := by decide +kernel
theorem i42_15 : xI 42 15 = some (.iload 4) := by decide +kernel
theorem i42_17 : xI 42 17 = some (.aload_n 3) := by decide +kernel
theorem i42_18 : xI 42 18 = some (.invokevirtual 80) := by decide +kernel
theorem i42_21 : xI 42 21 = some (.if_icmp .ge 29) := by decide +kernel
theorem i42_24 : xI 42 24 = some (.aload_n 0) := by decide +kernel
theorem i42_25 : xI 42 25 = some (.getfield 39) := by decide +kernel
theorem i42_28 : xI 42 28 = some (.iload_n 1) := by decide +kernel
theorem i42_29 : xI 42 29 = some (.iload 4) := by decide +kernel
theorem i42_31 : xI 42 31 = some (.iadd) := by decide +kernel
theorem i42_32 : xI 42 32 = some (.iaload) := by decide +kernel
theorem i42_33 : xI 42 33 = some (.aload_n 3) := by decide +kernel
theorem i42_34 : xI 42 34 = some (.iload 4) := by decide +kernel
theorem i42_36 : xI 42 36 = some (.invokevirtual 85) := by decide +kernel
theorem i42_39 : xI 42 39 = some (.if_icmp .eq 5) := by decide +kernel
theorem i42_42 : xI 42 42 = some (.iconst 0) := by decide +kernel
theorem i42_43 : xI 42 43 = some (.ireturn) := by decide +kernel
theorem i42_44 : xI 42 44 = some (.iinc 4 1) := by decide +kernel
theorem i42_47 : xI 42 47 = some (.goto (-32)) := by decide +kernel
theorem i42_50 : xI 42 50 = some (.iconst 1) := by decide +kernel
theorem i42_51 : xI 42 51 = some (.ireturn) := by decide +kernel
-- 43 To_scanNumber
theorem i43_0 : xI 43 0 = some (.lconst 0) := by decide +kernel
theorem i43_1 : xI 43 1 = some (.lstore_n 3) := by decide +kernel
theorem i43_2 : xI 43 2 = some (.iload_n 2) := by decide +kernel
theorem i43_3 : xI 43 3 = some (.istore 5) := by decide +kernel
theorem i43_5 : xI 43 5 = some (.iload 5) := by decide +kernel
theorem i43_7 : xI 43 7 = some (.aload_n 1) := by decide +kernel
theorem i43_8 : xI 43 8 = some (.getfield 34) := by decide +kernel
theorem i43_11 : xI 43 11 = some (.if_icmp .ge 59) := by decide +kernel
theorem i43_14 : xI 43 14 = some (.aload_n 1) := by decide +kernel
theorem i43_15 : xI 43 15 = some (.getfield 39) := by decide +kernel
theorem i43_18 : xI 43 18 = some (.iload 5) := by decide +kernel
theorem i43_20 : xI 43 20 = some (.iaload) := by decide +kernel
theorem i43_21 : xI 43 21 = some (.bipush 48) := by decide +kernel
theorem i43_23 : xI 43 23 = some (.if_icmp .lt 47) := by decide +kernel
theorem i43_26 : xI 43 26 = some (.aload_n 1) := by decide +kernel
theorem i43_27 : xI 43 27 = some (.getfield 39) := by decide +kernel
theorem i43_30 : xI 43 30 = some (.iload 5) := by decide +kernel
theorem i43_32 : xI 43 32 = some (.iaload) := by decide +kernel
theorem i43_33 : xI 43 33 = some (.bipush 57) := by decide +kernel
theorem i43_35 : xI 43 35 = some (.if_icmp .gt 35) := by decide +kernel
theorem i43_38 : xI 43 38 = some (.lload_n 3) := by decide +kernel
theorem i43_39 : xI 43 39 = some (.ldc2_w 58) := by decide +kernel
theorem i43_42 : xI 43 42 = some (.lcmp) := by decide +kernel
theorem i43_43 : xI 43 43 = some (.ifCond .gt 21) := by decide +kernel
theorem i43_46 : xI 43 46 = some (.lload_n 3) := by decide +kernel
theorem i43_47 : xI 43 47 = some (.ldc2_w 60) := by decide +kernel
theorem i43_50 : xI 43 50 = some (.lmul) := by decide +kernel
theorem i43_51 : xI 43 51 = some (.aload_n 1) := by decide +kernel
theorem i43_52 : xI 43 52 = some (.getfield 39) := by decide +kernel
theorem i43_55 : xI 43 55 = some (.iload 5) := by decide +kernel
theorem i43_57 : xI 43 57 = some (.iaload) := by decide +kernel
theorem i43_58 : xI 43 58 = some (.bipush 48) := by decide +kernel
theorem i43_60 : xI 43 60 = some (.isub) := by decide +kernel
theorem i43_61 : xI 43 61 = some (.i2l) := by decide +kernel
theorem i43_62 : xI 43 62 = some (.ladd) := by decide +kernel
theorem i43_63 : xI 43 63 = some (.lstore_n 3) := by decide +kernel
theorem i43_64 : xI 43 64 = some (.iinc 5 1) := by decide +kernel
theorem i43_67 : xI 43 67 = some (.goto (-62)) := by decide +kernel
theorem i43_70 : xI 43 70 = some (.lload_n 3) := by decide +kernel
theorem i43_71 : xI 43 71 = some (.ldc2_w 58) := by decide +kernel
theorem i43_74 : xI 43 74 = some (.lcmp) := by decide +kernel
theorem i43_75 : xI 43 75 = some (.ifCond .gt 7) := by decide +kernel
theorem i43_78 : xI 43 78 = some (.iconst 1) := by decide +kernel
theorem i43_79 : xI 43 79 = some (.goto 4) := by decide +kernel
theorem i43_82 : xI 43 82 = some (.iconst 0) := by decide +kernel
theorem i43_83 : xI 43 83 = some (.istore 6) := by decide +kernel
theorem i43_85 : xI 43 85 = some (.aload_n 0) := by decide +kernel
theorem i43_86 : xI 43 86 = some (.getfield 9) := by decide +kernel
theorem i43_89 : xI 43 89 = some (.aload_n 0) := by decide +kernel
theorem i43_90 : xI 43 90 = some (.getfield 21) := by decide +kernel
theorem i43_93 : xI 43 93 = some (.iload 6) := by decide +kernel
theorem i43_95 : xI 43 95 = some (.ifCond .eq 8) := by decide +kernel
theorem i43_98 : xI 43 98 = some (.bipush 9) := by decide +kernel
theorem i43_100 : xI 43 100 = some (.goto 4) := by decide +kernel
theorem i43_103 : xI 43 103 = some (.iconst 1) := by decide +kernel
theorem i43_104 : xI 43 104 = some (.iastore) := by decide +kernel
theorem i43_105 : xI 43 105 = some (.aload_n 0) := by decide +kernel
theorem i43_106 : xI 43 106 = some (.getfield 18) := by decide +kernel
theorem i43_109 : xI 43 109 = some (.aload_n 0) := by decide +kernel
theorem i43_110 : xI 43 110 = some (.getfield 21) := by decide +kernel
theorem i43_113 : xI 43 113 = some (.iload 6) := by decide +kernel
theorem i43_115 : xI 43 115 = some (.ifCond .eq 8) := by decide +kernel
theorem i43_118 : xI 43 118 = some (.lload_n 3) := by decide +kernel
theorem i43_119 : xI 43 119 = some (.l2i) := by decide +kernel
theorem i43_120 : xI 43 120 = some (.goto 4) := by decide +kernel
theorem i43_123 : xI 43 123 = some (.iconst 0) := by decide +kernel
theorem i43_124 : xI 43 124 = some (.iastore) := by decide +kernel
theorem i43_125 : xI 43 125 = some (.iload 5) := by decide +kernel
theorem i43_127 : xI 43 127 = some (.ireturn) := by decide +kernel
-- 44 To_kindOfSign
theorem i44_0 : xI 44 0 = some (.iload_n 0) := by decide +kernel
theorem i44_1 : xI 44 1 = some (.tableswitch 157 35 62 #[130, 157, 157, 157, 157, 151, 154, 145, 139, 148, 142, 157, 157, 157, 157, 157, 157, 157, 157, 157, 157, 157, 157, 157, 157, 133, 127, 136]) := by decide +kernel
theorem i44_128 : xI 44 128 = some (.bipush 10) := by decide +kernel
theorem i44_130 : xI 44 130 = some (.ireturn) := by decide +kernel
theorem i44_131 : xI 44 131 = some (.bipush 11) := by decide +kernel
theorem i44_133 : xI 44 133 = some (.ireturn) := by decide +kernel
theorem i44_134 : xI 44 134 = some (.bipush 12) := by decide +kernel
theorem i44_136 : xI 44 136 = some (.ireturn) := by decide +kernel
theorem i44_137 : xI 44 137 = some (.bipush 13) := by decide +kernel
theorem i44_139 : xI 44 139 = some (.ireturn) := by decide +kernel
theorem i44_140 : xI 44 140 = some (.bipush 14) := by decide +kernel
theorem i44_142 : xI 44 142 = some (.ireturn) := by decide +kernel
theorem i44_143 : xI 44 143 = some (.bipush 15) := by decide +kernel
theorem i44_145 : xI 44 145 = some (.ireturn) := by decide +kernel
theorem i44_146 : xI 44 146 = some (.bipush 16) := by decide +kernel
theorem i44_148 : xI 44 148 = some (.ireturn) := by decide +kernel
theorem i44_149 : xI 44 149 = some (.bipush 18) := by decide +kernel
theorem i44_151 : xI 44 151 = some (.ireturn) := by decide +kernel
theorem i44_152 : xI 44 152 = some (.bipush 19) := by decide +kernel
theorem i44_154 : xI 44 154 = some (.ireturn) := by decide +kernel
theorem i44_155 : xI 44 155 = some (.bipush 20) := by decide +kernel
theorem i44_157 : xI 44 157 = some (.ireturn) := by decide +kernel
theorem i44_158 : xI 44 158 = some (.iconst 1) := by decide +kernel
theorem i44_159 : xI 44 159 = some (.ireturn) := by decide +kernel
-- 45 Hi_init
theorem i45_0 : xI 45 0 = some (.aload_n 0) := by decide +kernel
theorem i45_1 : xI 45 1 = some (.invokespecial 3) := by decide +kernel
theorem i45_4 : xI 45 4 = some (.aload_n 0) := by decide +kernel
theorem i45_5 : xI 45 5 = some (.sipush 500) := by decide +kernel
theorem i45_8 : xI 45 8 = some (.anewarray 9) := by decide +kernel
theorem i45_11 : xI 45 11 = some (.putfield 11) := by decide +kernel
theorem i45_14 : xI 45 14 = some (.aload_n 0) := by decide +kernel
theorem i45_15 : xI 45 15 = some (.sipush 500) := by decide +kernel
theorem i45_18 : xI 45 18 = some (.newarray .int) := by decide +kernel
theorem i45_20 : xI 45 20 = some (.putfield 17) := by decide +kernel
theorem i45_23 : xI 45 23 = some (.aload_n 0) := by decide +kernel
theorem i45_24 : xI 45 24 = some (.iconst 0) := by decide +kernel
theorem i45_25 : xI 45 25 = some (.putfield 21) := by decide +kernel
theorem i45_28 : xI 45 28 = some (.aload_n 0) := by decide +kernel
theorem i45_29 : xI 45 29 = some (.iconst 0) := by decide +kernel
theorem i45_30 : xI 45 30 = some (.putfield 25) := by decide +kernel
theorem i45_33 : xI 45 33 = some (.return_) := by decide +kernel
-- 46 Hi_add
theorem i46_0 : xI 46 0 = some (.aload_n 0) := by decide +kernel
theorem i46_1 : xI 46 1 = some (.getfield 11) := by decide +kernel
theorem i46_4 : xI 46 4 = some (.aload_n 0) := by decide +kernel
theorem i46_5 : xI 46 5 = some (.getfield 21) := by decide +kernel
theorem i46_8 : xI 46 8 = some (.aload_n 1) := by decide +kernel
theorem i46_9 : xI 46 9 = some (.aastore) := by decide +kernel
theorem i46_10 : xI 46 10 = some (.aload_n 0) := by decide +kernel
theorem i46_11 : xI 46 11 = some (.dup) := by decide +kernel
theorem i46_12 : xI 46 12 = some (.getfield 21) := by decide +kernel
theorem i46_15 : xI 46 15 = some (.iconst 1) := by decide +kernel
theorem i46_16 : xI 46 16 = some (.iadd) := by decide +kernel
theorem i46_17 : xI 46 17 = some (.putfield 21) := by decide +kernel
theorem i46_20 : xI 46 20 = some (.aload_n 0) := by decide +kernel
theorem i46_21 : xI 46 21 = some (.getfield 21) := by decide +kernel
theorem i46_24 : xI 46 24 = some (.iconst 1) := by decide +kernel
theorem i46_25 : xI 46 25 = some (.isub) := by decide +kernel
theorem i46_26 : xI 46 26 = some (.ireturn) := by decide +kernel
-- 47 Hi_commitNext
theorem i47_0 : xI 47 0 = some (.aload_n 0) := by decide +kernel
theorem i47_1 : xI 47 1 = some (.getfield 17) := by decide +kernel
theorem i47_4 : xI 47 4 = some (.aload_n 0) := by decide +kernel
theorem i47_5 : xI 47 5 = some (.getfield 25) := by decide +kernel
theorem i47_8 : xI 47 8 = some (.iload_n 1) := by decide +kernel
theorem i47_9 : xI 47 9 = some (.iastore) := by decide +kernel
theorem i47_10 : xI 47 10 = some (.aload_n 0) := by decide +kernel
theorem i47_11 : xI 47 11 = some (.dup) := by decide +kernel
theorem i47_12 : xI 47 12 = some (.getfield 25) := by decide +kernel
theorem i47_15 : xI 47 15 = some (.iconst 1) := by decide +kernel
theorem i47_16 : xI 47 16 = some (.iadd) := by decide +kernel
theorem i47_17 : xI 47 17 = some (.putfield 25) := by decide +kernel
theorem i47_20 : xI 47 20 = some (.aload_n 0) := by decide +kernel
theorem i47_21 : xI 47 21 = some (.getfield 11) := by decide +kernel
theorem i47_24 : xI 47 24 = some (.iload_n 1) := by decide +kernel
theorem i47_25 : xI 47 25 = some (.aaload) := by decide +kernel
theorem i47_26 : xI 47 26 = some (.aload_n 0) := by decide +kernel
theorem i47_27 : xI 47 27 = some (.getfield 25) := by decide +kernel
theorem i47_30 : xI 47 30 = some (.putfield 28) := by decide +kernel
theorem i47_33 : xI 47 33 = some (.return_) := by decide +kernel
-- 48 Hi_has
theorem i48_0 : xI 48 0 = some (.iload_n 1) := by decide +kernel
theorem i48_1 : xI 48 1 = some (.ifCond .lt 15) := by decide +kernel
theorem i48_4 : xI 48 4 = some (.iload_n 1) := by decide +kernel
theorem i48_5 : xI 48 5 = some (.aload_n 0) := by decide +kernel
theorem i48_6 : xI 48 6 = some (.getfield 21) := by decide +kernel
theorem i48_9 : xI 48 9 = some (.if_icmp .ge 7) := by decide +kernel
theorem i48_12 : xI 48 12 = some (.iconst 1) := by decide +kernel
theorem i48_13 : xI 48 13 = some (.goto 4) := by decide +kernel
theorem i48_16 : xI 48 16 = some (.iconst 0) := by decide +kernel
theorem i48_17 : xI 48 17 = some (.ireturn) := by decide +kernel
-- 49 Ma_init
theorem i49_0 : xI 49 0 = some (.aload_n 0) := by decide +kernel
theorem i49_1 : xI 49 1 = some (.invokespecial 1) := by decide +kernel
theorem i49_4 : xI 49 4 = some (.aload_n 0) := by decide +kernel
theorem i49_5 : xI 49 5 = some (.bipush 16) := by decide +kernel
theorem i49_7 : xI 49 7 = some (.newarray .int) := by decide +kernel
theorem i49_9 : xI 49 9 = some (.putfield 9) := by decide +kernel
theorem i49_12 : xI 49 12 = some (.aload_n 0) := by decide +kernel
theorem i49_13 : xI 49 13 = some (.bipush 8) := by decide +kernel
theorem i49_15 : xI 49 15 = some (.newarray .int) := by decide +kernel
theorem i49_17 : xI 49 17 = some (.putfield 13) := by decide +kernel
theorem i49_20 : xI 49 20 = some (.aload_n 0) := by decide +kernel
theorem i49_21 : xI 49 21 = some (.bipush 8) := by decide +kernel
theorem i49_23 : xI 49 23 = some (.newarray .int) := by decide +kernel
theorem i49_25 : xI 49 25 = some (.putfield 16) := by decide +kernel
theorem i49_28 : xI 49 28 = some (.aload_n 0) := by decide +kernel
theorem i49_29 : xI 49 29 = some (.iconst 0) := by decide +kernel
theorem i49_30 : xI 49 30 = some (.putfield 19) := by decide +kernel
theorem i49_33 : xI 49 33 = some (.aload_n 0) := by decide +kernel
theorem i49_34 : xI 49 34 = some (.iconst 0) := by decide +kernel
theorem i49_35 : xI 49 35 = some (.putfield 23) := by decide +kernel
theorem i49_38 : xI 49 38 = some (.aload_n 0) := by decide +kernel
theorem i49_39 : xI 49 39 = some (.iconst 1) := by decide +kernel
theorem i49_40 : xI 49 40 = some (.putfield 26) := by decide +kernel
theorem i49_43 : xI 49 43 = some (.return_) := by decide +kernel
-- 50 Ma_perform
theorem i50_0 : xI 50 0 = some (.aload_n 1) := by decide +kernel
theorem i50_1 : xI 50 1 = some (.getfield 30) := by decide +kernel
theorem i50_4 : xI 50 4 = some (.astore_n 3) := by decide +kernel
theorem i50_5 : xI 50 5 = some (.aload_n 0) := by decide +kernel
theorem i50_6 : xI 50 6 = some (.invokevirtual 36) := by decide +kernel
theorem i50_9 : xI 50 9 = some (.iconst 0) := by decide +kernel
theorem i50_10 : xI 50 10 = some (.istore 4) := by decide +kernel
theorem i50_12 : xI 50 12 = some (.iload 4) := by decide +kernel
theorem i50_14 : xI 50 14 = some (.aload_n 3) := by decide +kernel
theorem i50_15 : xI 50 15 = some (.getfield 39) := by decide +kernel
theorem i50_18 : xI 50 18 = some (.arraylength) := by decide +kernel
theorem i50_19 : xI 50 19 = some (.if_icmp .ge 73) := by decide +kernel
theorem i50_22 : xI 50 22 = some (.aload_n 3) := by decide +kernel
theorem i50_23 : xI 50 23 = some (.getfield 39) := by decide +kernel
theorem i50_26 : xI 50 26 = some (.iload 4) := by decide +kernel
theorem i50_28 : xI 50 28 = some (.iaload) := by decide +kernel
theorem i50_29 : xI 50 29 = some (.istore 5) := by decide +kernel
theorem i50_31 : xI 50 31 = some (.iload 5) := by decide +kernel
theorem i50_33 : xI 50 33 = some (.iconst (-1)) := by decide +kernel
theorem i50_34 : xI 50 34 = some (.if_icmp .eq 28) := by decide +kernel
theorem i50_37 : xI 50 37 = some (.aload_n 0) := by decide +kernel
theorem i50_38 : xI 50 38 = some (.getfield 26) := by decide +kernel
theorem i50_41 : xI 50 41 = some (.ifCond .eq 45) := by decide +kernel
theorem i50_44 : xI 50 44 = some (.aload_n 0) := by decide +kernel
theorem i50_45 : xI 50 45 = some (.iload 5) := by decide +kernel
theorem i50_47 : xI 50 47 = some (.aload_n 3) := by decide +kernel
theorem i50_48 : xI 50 48 = some (.getfield 44) := by decide +kernel
theorem i50_51 : xI 50 51 = some (.iload 4) := by decide +kernel
theorem i50_53 : xI 50 53 = some (.iaload) := by decide +kernel
theorem i50_54 : xI 50 54 = some (.aload_n 1) := by decide +kernel
theorem i50_55 : xI 50 55 = some (.aload_n 2) := by decide +kernel
theorem i50_56 : xI 50 56 = some (.invokevirtual 47) := by decide +kernel
theorem i50_59 : xI 50 59 = some (.goto 27) := by decide +kernel
theorem i50_62 : xI 50 62 = some (.aload_n 0) := by decide +kernel
theorem i50_63 : xI 50 63 = some (.getfield 26) := by decide +kernel
theorem i50_66 : xI 50 66 = some (.ifCond .eq 16) := by decide +kernel
theorem i50_69 : xI 50 69 = some (.aload_n 0) := by decide +kernel
theorem i50_70 : xI 50 70 = some (.aload_n 2) := by decide +kernel
theorem i50_71 : xI 50 71 = some (.invokevirtual 51) := by decide +kernel
theorem i50_74 : xI 50 74 = some (.aload_n 3) := by decide +kernel
theorem i50_75 : xI 50 75 = some (.getfield 44) := by decide +kernel
theorem i50_78 : xI 50 78 = some (.iload 4) := by decide +kernel
theorem i50_80 : xI 50 80 = some (.iaload) := by decide +kernel
theorem i50_81 : xI 50 81 = some (.ireturn) := by decide +kernel
theorem i50_82 : xI 50 82 = some (.aload_n 0) := by decide +kernel
theorem i50_83 : xI 50 83 = some (.invokevirtual 36) := by decide +kernel
theorem i50_86 : xI 50 86 = some (.iinc 4 1) := by decide +kernel
theorem i50_89 : xI 50 89 = some (.goto (-77)) := by decide +kernel
theorem i50_92 : xI 50 92 = some (.iconst 0) := by decide +kernel
theorem i50_93 : xI 50 93 = some (.ireturn) := by decide +kernel
-- 51 Ma_beginRule
theorem i51_0 : xI 51 0 = some (.aload_n 0) := by decide +kernel
theorem i51_1 : xI 51 1 = some (.iconst 0) := by decide +kernel
theorem i51_2 : xI 51 2 = some (.putfield 19) := by decide +kernel
theorem i51_5 : xI 51 5 = some (.aload_n 0) := by decide +kernel
theorem i51_6 : xI 51 6 = some (.iconst 0) := by decide +kernel
theorem i51_7 : xI 51 7 = some (.putfield 23) := by decide +kernel
theorem i51_10 : xI 51 10 = some (.aload_n 0) := by decide +kernel
theorem i51_11 : xI 51 11 = some (.iconst 1) := by decide +kernel
theorem i51_12 : xI 51 12 = some (.putfield 26) := by decide +kernel
theorem i51_15 : xI 51 15 = some (.return_) := by decide +kernel
-- 52 Ma_doStep
theorem i52_0 : xI 52 0 = some (.iload_n 1) := by decide +kernel
theorem i52_1 : xI 52 1 = some (.tableswitch 112 6 17 #[82, 93, 71, 63, 112, 112, 112, 112, 112, 112, 112, 104]) := by decide +kernel
theorem i52_64 : xI 52 64 = some (.aload_n 0) := by decide +kernel
theorem i52_65 : xI 52 65 = some (.iload_n 2) := by decide +kernel
theorem i52_66 : xI 52 66 = some (.invokevirtual 55) := by decide +kernel
theorem i52_69 : xI 52 69 = some (.goto 49) := by decide +kernel
theorem i52_72 : xI 52 72 = some (.aload_n 0) := by decide +kernel
theorem i52_73 : xI 52 73 = some (.aload 4) := by decide +kernel
theorem i52_75 : xI 52 75 = some (.iload_n 2) := by decide +kernel
theorem i52_76 : xI 52 76 = some (.iaload) := by decide +kernel
theorem i52_77 : xI 52 77 = some (.invokevirtual 55) := by decide +kernel
theorem i52_80 : xI 52 80 = some (.goto 38) := by decide +kernel
theorem i52_83 : xI 52 83 = some (.aload_n 0) := by decide +kernel
theorem i52_84 : xI 52 84 = some (.aload_n 3) := by decide +kernel
theorem i52_85 : xI 52 85 = some (.getfield 59) := by decide +kernel
theorem i52_88 : xI 52 88 = some (.invokevirtual 55) := by decide +kernel
theorem i52_91 : xI 52 91 = some (.goto 27) := by decide +kernel
theorem i52_94 : xI 52 94 = some (.aload_n 0) := by decide +kernel
theorem i52_95 : xI 52 95 = some (.aload_n 3) := by decide +kernel
theorem i52_96 : xI 52 96 = some (.getfield 62) := by decide +kernel
theorem i52_99 : xI 52 99 = some (.invokevirtual 55) := by decide +kernel
theorem i52_102 : xI 52 102 = some (.goto 16) := by decide +kernel
theorem i52_105 : xI 52 105 = some (.aload_n 0) := by decide +kernel
theorem i52_106 : xI 52 106 = some (.iload_n 2) := by decide +kernel
theorem i52_107 : xI 52 107 = some (.invokevirtual 65) := by decide +kernel
theorem i52_110 : xI 52 110 = some (.goto 8) := by decide +kernel
theorem i52_113 : xI 52 113 = some (.aload_n 0) := by decide +kernel
theorem i52_114 : xI 52 114 = some (.iload_n 1) := by decide +kernel
theorem i52_115 : xI 52 115 = some (.invokevirtual 68) := by decide +kernel
theorem i52_118 : xI 52 118 = some (.return_) := by decide +kernel
-- 53 Ma_push
theorem i53_0 : xI 53 0 = some (.aload_n 0) := by decide +kernel
theorem i53_1 : xI 53 1 = some (.getfield 19) := by decide +kernel
theorem i53_4 : xI 53 4 = some (.bipush 16) := by decide +kernel
theorem i53_6 : xI 53 6 = some (.if_icmp .ge 23) := by decide +kernel
theorem i53_9 : xI 53 9 = some (.aload_n 0) := by decide +kernel
theorem i53_10 : xI 53 10 = some (.getfield 9) := by decide +kernel
theorem i53_13 : xI 53 13 = some (.aload_n 0) := by decide +kernel
theorem i53_14 : xI 53 14 = some (.getfield 19) := by decide +kernel
theorem i53_17 : xI 53 17 = some (.iload_n 1) := by decide +kernel
theorem i53_18 : xI 53 18 = some (.iastore) := by decide +kernel
theorem i53_19 : xI 53 19 = some (.aload_n 0) := by decide +kernel
theorem i53_20 : xI 53 20 = some (.dup) := by decide +kernel
theorem i53_21 : xI 53 21 = some (.getfield 19) := by decide +kernel
theorem i53_24 : xI 53 24 = some (.iconst 1) := by decide +kernel
theorem i53_25 : xI 53 25 = some (.iadd) := by decide +kernel
theorem i53_26 : xI 53 26 = some (.putfield 19) := by decide +kernel
theorem i53_29 : xI 53 29 = some (.return_) := by decide +kernel
-- 54 Ma_keepEffect
theorem i54_0 : xI 54 0 = some (.aload_n 0) := by decide +kernel
theorem i54_1 : xI 54 1 = some (.invokevirtual 71) := by decide +kernel
theorem i54_4 : xI 54 4 = some (.istore_n 2) := by decide +kernel
theorem i54_5 : xI 54 5 = some (.aload_n 0) := by decide +kernel
theorem i54_6 : xI 54 6 = some (.getfield 23) := by decide +kernel
theorem i54_9 : xI 54 9 = some (.bipush 8) := by decide +kernel
theorem i54_11 : xI 54 11 = some (.if_icmp .ge 33) := by decide +kernel
theorem i54_14 : xI 54 14 = some (.aload_n 0) := by decide +kernel
theorem i54_15 : xI 54 15 = some (.getfield 13) := by decide +kernel
theorem i54_18 : xI 54 18 = some (.aload_n 0) := by decide +kernel
theorem i54_19 : xI 54 19 = some (.getfield 23) := by decide +kernel
theorem i54_22 : xI 54 22 = some (.iload_n 1) := by decide +kernel
theorem i54_23 : xI 54 23 = some (.iastore) := by decide +kernel
theorem i54_24 : xI 54 24 = some (.aload_n 0) := by decide +kernel
theorem i54_25 : xI 54 25 = some (.getfield 16) := by decide +kernel
theorem i54_28 : xI 54 28 = some (.aload_n 0) := by decide +kernel
theorem i54_29 : xI 54 29 = some (.getfield 23) := by decide +kernel
theorem i54_32 : xI 54 32 = some (.iload_n 2) := by decide +kernel
theorem i54_33 : xI 54 33 = some (.iastore) := by decide +kernel
theorem i54_34 : xI 54 34 = some (.aload_n 0) := by decide +kernel
theorem i54_35 : xI 54 35 = some (.dup) := by decide +kernel
theorem i54_36 : xI 54 36 = some (.getfield 23) := by decide +kernel
theorem i54_39 : xI 54 39 = some (.iconst 1) := by decide +kernel
theorem i54_40 : xI 54 40 = some (.iadd) := by decide +kernel
theorem i54_41 : xI 54 41 = some (.putfield 23) := by decide +kernel
theorem i54_44 : xI 54 44 = some (.return_) := by decide +kernel
-- 55 Ma_pop
theorem i55_0 : xI 55 0 = some (.aload_n 0) := by decide +kernel
theorem i55_1 : xI 55 1 = some (.getfield 19) := by decide +kernel
theorem i55_4 : xI 55 4 = some (.ifCond .ne 5) := by decide +kernel
theorem i55_7 : xI 55 7 = some (.iconst 0) := by decide +kernel
theorem i55_8 : xI 55 8 = some (.ireturn) := by decide +kernel
theorem i55_9 : xI 55 9 = some (.aload_n 0) := by decide +kernel
theorem i55_10 : xI 55 10 = some (.dup) := by decide +kernel
theorem i55_11 : xI 55 11 = some (.getfield 19) := by decide +kernel
theorem i55_14 : xI 55 14 = some (.iconst 1) := by decide +kernel
theorem i55_15 : xI 55 15 = some (.isub) := by decide +kernel
theorem i55_16 : xI 55 16 = some (.putfield 19) := by decide +kernel
theorem i55_19 : xI 55 19 = some (.aload_n 0) := by decide +kernel
theorem i55_20 : xI 55 20 = some (.getfield 9) := by decide +kernel
theorem i55_23 : xI 55 23 = some (.aload_n 0) := by decide +kernel
theorem i55_24 : xI 55 24 = some (.getfield 19) := by decide +kernel
theorem i55_27 : xI 55 27 = some (.iaload) := by decide +kernel
theorem i55_28 : xI 55 28 = some (.ireturn) := by decide +kernel
-- 56 Ma_combine
theorem i56_0 : xI 56 0 = some (.aload_n 0) := by decide +kernel
theorem i56_1 : xI 56 1 = some (.invokevirtual 71) := by decide +kernel
theorem i56_4 : xI 56 4 = some (.istore_n 2) := by decide +kernel
theorem i56_5 : xI 56 5 = some (.aload_n 0) := by decide +kernel
theorem i56_6 : xI 56 6 = some (.invokevirtual 71) := by decide +kernel
theorem i56_9 : xI 56 9 = some (.istore_n 3) := by decide +kernel
theorem i56_10 : xI 56 10 = some (.iload_n 1) := by decide +kernel
theorem i56_11 : xI 56 11 = some (.tableswitch 122 10 16 #[71, 88, 105, 122, 41, 51, 61]) := by decide +kernel
theorem i56_52 : xI 56 52 = some (.aload_n 0) := by decide +kernel
theorem i56_53 : xI 56 53 = some (.iload_n 3) := by decide +kernel
theorem i56_54 : xI 56 54 = some (.iload_n 2) := by decide +kernel
theorem i56_55 : xI 56 55 = some (.iadd) := by decide +kernel
theorem i56_56 : xI 56 56 = some (.invokevirtual 55) := by decide +kernel
theorem i56_59 : xI 56 59 = some (.goto 88) := by decide +kernel
theorem i56_62 : xI 56 62 = some (.aload_n 0) := by decide +kernel
theorem i56_63 : xI 56 63 = some (.iload_n 3) := by decide +kernel
theorem i56_64 : xI 56 64 = some (.iload_n 2) := by decide +kernel
theorem i56_65 : xI 56 65 = some (.isub) := by decide +kernel
theorem i56_66 : xI 56 66 = some (.invokevirtual 55) := by decide +kernel
theorem i56_69 : xI 56 69 = some (.goto 78) := by decide +kernel
theorem i56_72 : xI 56 72 = some (.aload_n 0) := by decide +kernel
theorem i56_73 : xI 56 73 = some (.iload_n 3) := by decide +kernel
theorem i56_74 : xI 56 74 = some (.iload_n 2) := by decide +kernel
theorem i56_75 : xI 56 75 = some (.imul) := by decide +kernel
theorem i56_76 : xI 56 76 = some (.invokevirtual 55) := by decide +kernel
theorem i56_79 : xI 56 79 = some (.goto 68) := by decide +kernel
theorem i56_82 : xI 56 82 = some (.aload_n 0) := by decide +kernel
theorem i56_83 : xI 56 83 = some (.iload_n 3) := by decide +kernel
theorem i56_84 : xI 56 84 = some (.iload_n 2) := by decide +kernel
theorem i56_85 : xI 56 85 = some (.if_icmp .ne 7) := by decide +kernel
theorem i56_88 : xI 56 88 = some (.iconst 1) := by decide +kernel
theorem i56_89 : xI 56 89 = some (.goto 4) := by decide +kernel
theorem i56_92 : xI 56 92 = some (.iconst 0) := by decide +kernel
theorem i56_93 : xI 56 93 = some (.putfield 26) := by decide +kernel
theorem i56_96 : xI 56 96 = some (.goto 51) := by decide +kernel
theorem i56_99 : xI 56 99 = some (.aload_n 0) := by decide +kernel
theorem i56_100 : xI 56 100 = some (.iload_n 3) := by decide +kernel
theorem i56_101 : xI 56 101 = some (.iload_n 2) := by decide +kernel
theorem i56_102 : xI 56 102 = some (.if_icmp .eq 7) := by decide +kernel
theorem i56_105 : xI 56 105 = some (.iconst 1) := by decide +kernel
theorem i56_106 : xI 56 106 = some (.goto 4) := by decide +kernel
theorem i56_109 : xI 56 109 = some (.iconst 0) := by decide +kernel
theorem i56_110 : xI 56 110 = some (.putfield 26) := by decide +kernel
theorem i56_113 : xI 56 113 = some (.goto 34) := by decide +kernel
theorem i56_116 : xI 56 116 = some (.aload_n 0) := by decide +kernel
theorem i56_117 : xI 56 117 = some (.iload_n 3) := by decide +kernel
theorem i56_118 : xI 56 118 = some (.iload_n 2) := by decide +kernel
theorem i56_119 : xI 56 119 = some (.if_icmp .ge 7) := by decide +kernel
theorem i56_122 : xI 56 122 = some (.iconst 1) := by decide +kernel
theorem i56_123 : xI 56 123 = some (.goto 4) := by decide +kernel
theorem i56_126 : xI 56 126 = some (.iconst 0) := by decide +kernel
theorem i56_127 : xI 56 127 = some (.putfield 26) := by decide +kernel
theorem i56_130 : xI 56 130 = some (.goto 17) := by decide +kernel
theorem i56_133 : xI 56 133 = some (.aload_n 0) := by decide +kernel
theorem i56_134 : xI 56 134 = some (.iload_n 3) := by decide +kernel
theorem i56_135 : xI 56 135 = some (.iload_n 2) := by decide +kernel
theorem i56_136 : xI 56 136 = some (.if_icmp .le 7) := by decide +kernel
theorem i56_139 : xI 56 139 = some (.iconst 1) := by decide +kernel
theorem i56_140 : xI 56 140 = some (.goto 4) := by decide +kernel
theorem i56_143 : xI 56 143 = some (.iconst 0) := by decide +kernel
theorem i56_144 : xI 56 144 = some (.putfield 26) := by decide +kernel
theorem i56_147 : xI 56 147 = some (.return_) := by decide +kernel
-- 57 Ma_changeCells
theorem i57_0 : xI 57 0 = some (.iconst 0) := by decide +kernel
theorem i57_1 : xI 57 1 = some (.istore_n 2) := by decide +kernel
theorem i57_2 : xI 57 2 = some (.iload_n 2) := by decide +kernel
theorem i57_3 : xI 57 3 = some (.aload_n 0) := by decide +kernel
theorem i57_4 : xI 57 4 = some (.getfield 23) := by decide +kernel
theorem i57_7 : xI 57 7 = some (.if_icmp .ge 23) := by decide +kernel
theorem i57_10 : xI 57 10 = some (.aload_n 1) := by decide +kernel
theorem i57_11 : xI 57 11 = some (.aload_n 0) := by decide +kernel
theorem i57_12 : xI 57 12 = some (.getfield 13) := by decide +kernel
theorem i57_15 : xI 57 15 = some (.iload_n 2) := by decide +kernel
theorem i57_16 : xI 57 16 = some (.iaload) := by decide +kernel
theorem i57_17 : xI 57 17 = some (.aload_n 0) := by decide +kernel
theorem i57_18 : xI 57 18 = some (.getfield 16) := by decide +kernel
theorem i57_21 : xI 57 21 = some (.iload_n 2) := by decide +kernel
theorem i57_22 : xI 57 22 = some (.iaload) := by decide +kernel
theorem i57_23 : xI 57 23 = some (.iastore) := by decide +kernel
theorem i57_24 : xI 57 24 = some (.iinc 2 1) := by decide +kernel
theorem i57_27 : xI 57 27 = some (.goto (-25)) := by decide +kernel
theorem i57_30 : xI 57 30 = some (.return_) := by decide +kernel
-- 58 Sv_init
theorem i58_0 : xI 58 0 = some (.aload_n 0) := by decide +kernel
theorem i58_1 : xI 58 1 = some (.invokespecial 3) := by decide +kernel
theorem i58_4 : xI 58 4 = some (.aload_n 0) := by decide +kernel
theorem i58_5 : xI 58 5 = some (.iconst 5) := by decide +kernel
theorem i58_6 : xI 58 6 = some (.newarray .int) := by decide +kernel
theorem i58_8 : xI 58 8 = some (.putfield 9) := by decide +kernel
theorem i58_11 : xI 58 11 = some (.aload_n 0) := by decide +kernel
end
section
/-! ===== which instruction stands where (wip/gen/lay16.py) ===== -/
theorem i58_12 : xI 58 12 = some (.sipush 500) := by decide +kernel
theorem i58_15 : xI 58 15 = some (.newarray .boolean) := by decide +kernel
theorem i58_17 : xI 58 17 = some (.putfield 15) := by decide +kernel
theorem i58_20 : xI 58 20 = some (.aload_n 0) := by decide +kernel
theorem i58_21 : xI 58 21 = some (.sipush 500) := by decide +kernel
theorem i58_24 : xI 58 24 = some (.newarray .int) := by decide +kernel
theorem i58_26 : xI 58 26 = some (.putfield 19) := by decide +kernel
theorem i58_29 : xI 58 29 = some (.aload_n 0) := by decide +kernel
theorem i58_30 : xI 58 30 = some (.bipush 32) := by decide +kernel
theorem i58_32 : xI 58 32 = some (.newarray .int) := by decide +kernel
theorem i58_34 : xI 58 34 = some (.putfield 22) := by decide +kernel
theorem i58_37 : xI 58 37 = some (.aload_n 0) := by decide +kernel
theorem i58_38 : xI 58 38 = some (.bipush 32) := by decide +kernel
theorem i58_40 : xI 58 40 = some (.newarray .int) := by decide +kernel
theorem i58_42 : xI 58 42 = some (.putfield 25) := by decide +kernel
theorem i58_45 : xI 58 45 = some (.aload_n 0) := by decide +kernel
theorem i58_46 : xI 58 46 = some (.sipush 500) := by decide +kernel
theorem i58_49 : xI 58 49 = some (.newarray .int) := by decide +kernel
theorem i58_51 : xI 58 51 = some (.putfield 28) := by decide +kernel
theorem i58_54 : xI 58 54 = some (.aload_n 0) := by decide +kernel
theorem i58_55 : xI 58 55 = some (.iconst 0) := by decide +kernel
theorem i58_56 : xI 58 56 = some (.putfield 31) := by decide +kernel
theorem i58_59 : xI 58 59 = some (.aload_n 0) := by decide +kernel
theorem i58_60 : xI 58 60 = some (.iconst 0) := by decide +kernel
theorem i58_61 : xI 58 61 = some (.putfield 35) := by decide +kernel
theorem i58_64 : xI 58 64 = some (.aload_n 0) := by decide +kernel
theorem i58_65 : xI 58 65 = some (.iconst 0) := by decide +kernel
theorem i58_66 : xI 58 66 = some (.putfield 38) := by decide +kernel
theorem i58_69 : xI 58 69 = some (.aload_n 0) := by decide +kernel
theorem i58_70 : xI 58 70 = some (.iconst 0) := by decide +kernel
theorem i58_71 : xI 58 71 = some (.putfield 41) := by decide +kernel
theorem i58_74 : xI 58 74 = some (.aload_n 0) := by decide +kernel
theorem i58_75 : xI 58 75 = some (.iconst 0) := by decide +kernel
theorem i58_76 : xI 58 76 = some (.putfield 44) := by decide +kernel
theorem i58_79 : xI 58 79 = some (.aload_n 0) := by decide +kernel
theorem i58_80 : xI 58 80 = some (.aload_n 1) := by decide +kernel
theorem i58_81 : xI 58 81 = some (.putfield 47) := by decide +kernel
theorem i58_84 : xI 58 84 = some (.aload_n 0) := by decide +kernel
theorem i58_85 : xI 58 85 = some (.aload_n 2) := by decide +kernel
theorem i58_86 : xI 58 86 = some (.putfield 51) := by decide +kernel
theorem i58_89 : xI 58 89 = some (.return_) := by decide +kernel
-- 59 Sv_learn
theorem i59_0 : xI 59 0 = some (.aload_n 0) := by decide +kernel
theorem i59_1 : xI 59 1 = some (.getfield 47) := by decide +kernel
theorem i59_4 : xI 59 4 = some (.getfield 55) := by decide +kernel
theorem i59_7 : xI 59 7 = some (.iload_n 1) := by decide +kernel
theorem i59_8 : xI 59 8 = some (.aaload) := by decide +kernel
theorem i59_9 : xI 59 9 = some (.astore_n 2) := by decide +kernel
theorem i59_10 : xI 59 10 = some (.aload_n 0) := by decide +kernel
theorem i59_11 : xI 59 11 = some (.getfield 15) := by decide +kernel
theorem i59_14 : xI 59 14 = some (.iload_n 1) := by decide +kernel
theorem i59_15 : xI 59 15 = some (.iconst 1) := by decide +kernel
theorem i59_16 : xI 59 16 = some (.bastore) := by decide +kernel
theorem i59_17 : xI 59 17 = some (.aload_n 0) := by decide +kernel
theorem i59_18 : xI 59 18 = some (.aload_n 0) := by decide +kernel
theorem i59_19 : xI 59 19 = some (.getfield 31) := by decide +kernel
theorem i59_22 : xI 59 22 = some (.aload_n 2) := by decide +kernel
theorem i59_23 : xI 59 23 = some (.getfield 61) := by decide +kernel
theorem i59_26 : xI 59 26 = some (.invokestatic 66) := by decide +kernel
theorem i59_29 : xI 59 29 = some (.putfield 31) := by decide +kernel
theorem i59_32 : xI 59 32 = some (.aload_n 0) := by decide +kernel
theorem i59_33 : xI 59 33 = some (.getfield 9) := by decide +kernel
theorem i59_36 : xI 59 36 = some (.aload_n 2) := by decide +kernel
theorem i59_37 : xI 59 37 = some (.getfield 72) := by decide +kernel
theorem i59_40 : xI 59 40 = some (.aload_n 0) := by decide +kernel
theorem i59_41 : xI 59 41 = some (.getfield 9) := by decide +kernel
theorem i59_44 : xI 59 44 = some (.aload_n 2) := by decide +kernel
theorem i59_45 : xI 59 45 = some (.getfield 72) := by decide +kernel
theorem i59_48 : xI 59 48 = some (.iaload) := by decide +kernel
theorem i59_49 : xI 59 49 = some (.aload_n 2) := by decide +kernel
theorem i59_50 : xI 59 50 = some (.getfield 61) := by decide +kernel
theorem i59_53 : xI 59 53 = some (.invokestatic 66) := by decide +kernel
theorem i59_56 : xI 59 56 = some (.iastore) := by decide +kernel
theorem i59_57 : xI 59 57 = some (.aload_n 0) := by decide +kernel
theorem i59_58 : xI 59 58 = some (.getfield 41) := by decide +kernel
theorem i59_61 : xI 59 61 = some (.istore_n 3) := by decide +kernel
theorem i59_62 : xI 59 62 = some (.iload_n 3) := by decide +kernel
theorem i59_63 : xI 59 63 = some (.ifCond .le 46) := by decide +kernel
theorem i59_66 : xI 59 66 = some (.aload_n 2) := by decide +kernel
theorem i59_67 : xI 59 67 = some (.aload_n 0) := by decide +kernel
theorem i59_68 : xI 59 68 = some (.getfield 47) := by decide +kernel
theorem i59_71 : xI 59 71 = some (.getfield 55) := by decide +kernel
theorem i59_74 : xI 59 74 = some (.aload_n 0) := by decide +kernel
theorem i59_75 : xI 59 75 = some (.getfield 19) := by decide +kernel
theorem i59_78 : xI 59 78 = some (.iload_n 3) := by decide +kernel
theorem i59_79 : xI 59 79 = some (.iconst 1) := by decide +kernel
theorem i59_80 : xI 59 80 = some (.isub) := by decide +kernel
theorem i59_81 : xI 59 81 = some (.iaload) := by decide +kernel
theorem i59_82 : xI 59 82 = some (.aaload) := by decide +kernel
theorem i59_83 : xI 59 83 = some (.invokevirtual 75) := by decide +kernel
theorem i59_86 : xI 59 86 = some (.ifCond .eq 23) := by decide +kernel
theorem i59_89 : xI 59 89 = some (.aload_n 0) := by decide +kernel
theorem i59_90 : xI 59 90 = some (.getfield 19) := by decide +kernel
theorem i59_93 : xI 59 93 = some (.iload_n 3) := by decide +kernel
theorem i59_94 : xI 59 94 = some (.aload_n 0) := by decide +kernel
theorem i59_95 : xI 59 95 = some (.getfield 19) := by decide +kernel
theorem i59_98 : xI 59 98 = some (.iload_n 3) := by decide +kernel
theorem i59_99 : xI 59 99 = some (.iconst 1) := by decide +kernel
theorem i59_100 : xI 59 100 = some (.isub) := by decide +kernel
theorem i59_101 : xI 59 101 = some (.iaload) := by decide +kernel
theorem i59_102 : xI 59 102 = some (.iastore) := by decide +kernel
theorem i59_103 : xI 59 103 = some (.iinc 3 (-1)) := by decide +kernel
theorem i59_106 : xI 59 106 = some (.goto (-44)) := by decide +kernel
theorem i59_109 : xI 59 109 = some (.aload_n 0) := by decide +kernel
theorem i59_110 : xI 59 110 = some (.getfield 19) := by decide +kernel
theorem i59_113 : xI 59 113 = some (.iload_n 3) := by decide +kernel
theorem i59_114 : xI 59 114 = some (.iload_n 1) := by decide +kernel
theorem i59_115 : xI 59 115 = some (.iastore) := by decide +kernel
theorem i59_116 : xI 59 116 = some (.aload_n 0) := by decide +kernel
theorem i59_117 : xI 59 117 = some (.dup) := by decide +kernel
theorem i59_118 : xI 59 118 = some (.getfield 41) := by decide +kernel
theorem i59_121 : xI 59 121 = some (.iconst 1) := by decide +kernel
theorem i59_122 : xI 59 122 = some (.iadd) := by decide +kernel
theorem i59_123 : xI 59 123 = some (.putfield 41) := by decide +kernel
theorem i59_126 : xI 59 126 = some (.iload_n 3) := by decide +kernel
theorem i59_127 : xI 59 127 = some (.aload_n 0) := by decide +kernel
theorem i59_128 : xI 59 128 = some (.getfield 44) := by decide +kernel
theorem i59_131 : xI 59 131 = some (.if_icmp .ge 8) := by decide +kernel
theorem i59_134 : xI 59 134 = some (.aload_n 0) := by decide +kernel
theorem i59_135 : xI 59 135 = some (.iconst 0) := by decide +kernel
theorem i59_136 : xI 59 136 = some (.putfield 44) := by decide +kernel
theorem i59_139 : xI 59 139 = some (.return_) := by decide +kernel
-- 60 Sv_valueOf
theorem i60_0 : xI 60 0 = some (.iload_n 2) := by decide +kernel
theorem i60_1 : xI 60 1 = some (.ifCond .eq 10) := by decide +kernel
theorem i60_4 : xI 60 4 = some (.aload_n 0) := by decide +kernel
theorem i60_5 : xI 60 5 = some (.getfield 22) := by decide +kernel
theorem i60_8 : xI 60 8 = some (.iload_n 1) := by decide +kernel
theorem i60_9 : xI 60 9 = some (.iaload) := by decide +kernel
theorem i60_10 : xI 60 10 = some (.ireturn) := by decide +kernel
theorem i60_11 : xI 60 11 = some (.aload_n 0) := by decide +kernel
theorem i60_12 : xI 60 12 = some (.invokevirtual 101) := by decide +kernel
theorem i60_15 : xI 60 15 = some (.aload_n 0) := by decide +kernel
theorem i60_16 : xI 60 16 = some (.getfield 25) := by decide +kernel
theorem i60_19 : xI 60 19 = some (.iload_n 1) := by decide +kernel
theorem i60_20 : xI 60 20 = some (.iaload) := by decide +kernel
theorem i60_21 : xI 60 21 = some (.ireturn) := by decide +kernel
-- 61 Sv_catchUp
theorem i61_0 : xI 61 0 = some (.aload_n 0) := by decide +kernel
theorem i61_1 : xI 61 1 = some (.getfield 44) := by decide +kernel
theorem i61_4 : xI 61 4 = some (.ifCond .ne 18) := by decide +kernel
theorem i61_7 : xI 61 7 = some (.aload_n 0) := by decide +kernel
theorem i61_8 : xI 61 8 = some (.getfield 22) := by decide +kernel
theorem i61_11 : xI 61 11 = some (.iconst 0) := by decide +kernel
theorem i61_12 : xI 61 12 = some (.aload_n 0) := by decide +kernel
theorem i61_13 : xI 61 13 = some (.getfield 25) := by decide +kernel
theorem i61_16 : xI 61 16 = some (.iconst 0) := by decide +kernel
theorem i61_17 : xI 61 17 = some (.bipush 32) := by decide +kernel
theorem i61_19 : xI 61 19 = some (.invokestatic 104) := by decide +kernel
theorem i61_22 : xI 61 22 = some (.aload_n 0) := by decide +kernel
theorem i61_23 : xI 61 23 = some (.getfield 44) := by decide +kernel
theorem i61_26 : xI 61 26 = some (.istore_n 1) := by decide +kernel
theorem i61_27 : xI 61 27 = some (.iload_n 1) := by decide +kernel
theorem i61_28 : xI 61 28 = some (.aload_n 0) := by decide +kernel
theorem i61_29 : xI 61 29 = some (.getfield 41) := by decide +kernel
theorem i61_32 : xI 61 32 = some (.if_icmp .ge 42) := by decide +kernel
theorem i61_35 : xI 61 35 = some (.aload_n 0) := by decide +kernel
theorem i61_36 : xI 61 36 = some (.getfield 19) := by decide +kernel
theorem i61_39 : xI 61 39 = some (.iload_n 1) := by decide +kernel
theorem i61_40 : xI 61 40 = some (.iaload) := by decide +kernel
theorem i61_41 : xI 61 41 = some (.istore_n 2) := by decide +kernel
theorem i61_42 : xI 61 42 = some (.aload_n 0) := by decide +kernel
theorem i61_43 : xI 61 43 = some (.getfield 28) := by decide +kernel
theorem i61_46 : xI 61 46 = some (.iload_n 2) := by decide +kernel
theorem i61_47 : xI 61 47 = some (.aload_n 0) := by decide +kernel
theorem i61_48 : xI 61 48 = some (.getfield 51) := by decide +kernel
theorem i61_51 : xI 61 51 = some (.aload_n 0) := by decide +kernel
theorem i61_52 : xI 61 52 = some (.getfield 47) := by decide +kernel
theorem i61_55 : xI 61 55 = some (.getfield 55) := by decide +kernel
theorem i61_58 : xI 61 58 = some (.iload_n 2) := by decide +kernel
theorem i61_59 : xI 61 59 = some (.aaload) := by decide +kernel
theorem i61_60 : xI 61 60 = some (.aload_n 0) := by decide +kernel
theorem i61_61 : xI 61 61 = some (.getfield 25) := by decide +kernel
theorem i61_64 : xI 61 64 = some (.invokevirtual 89) := by decide +kernel
theorem i61_67 : xI 61 67 = some (.iastore) := by decide +kernel
theorem i61_68 : xI 61 68 = some (.iinc 1 1) := by decide +kernel
theorem i61_71 : xI 61 71 = some (.goto (-44)) := by decide +kernel
theorem i61_74 : xI 61 74 = some (.aload_n 0) := by decide +kernel
theorem i61_75 : xI 61 75 = some (.aload_n 0) := by decide +kernel
theorem i61_76 : xI 61 76 = some (.getfield 41) := by decide +kernel
theorem i61_79 : xI 61 79 = some (.putfield 44) := by decide +kernel
theorem i61_82 : xI 61 82 = some (.return_) := by decide +kernel
-- 62 Sv_learnNextCommit
theorem i62_0 : xI 62 0 = some (.aload_n 0) := by decide +kernel
theorem i62_1 : xI 62 1 = some (.getfield 47) := by decide +kernel
theorem i62_4 : xI 62 4 = some (.getfield 79) := by decide +kernel
theorem i62_7 : xI 62 7 = some (.aload_n 0) := by decide +kernel
theorem i62_8 : xI 62 8 = some (.getfield 35) := by decide +kernel
theorem i62_11 : xI 62 11 = some (.iaload) := by decide +kernel
theorem i62_12 : xI 62 12 = some (.istore_n 1) := by decide +kernel
theorem i62_13 : xI 62 13 = some (.aload_n 0) := by decide +kernel
theorem i62_14 : xI 62 14 = some (.getfield 15) := by decide +kernel
theorem i62_17 : xI 62 17 = some (.iload_n 1) := by decide +kernel
theorem i62_18 : xI 62 18 = some (.baload) := by decide +kernel
theorem i62_19 : xI 62 19 = some (.ifCond .ne 8) := by decide +kernel
theorem i62_22 : xI 62 22 = some (.aload_n 0) := by decide +kernel
theorem i62_23 : xI 62 23 = some (.iload_n 1) := by decide +kernel
theorem i62_24 : xI 62 24 = some (.invokevirtual 82) := by decide +kernel
theorem i62_27 : xI 62 27 = some (.aload_n 0) := by decide +kernel
theorem i62_28 : xI 62 28 = some (.iload_n 1) := by decide +kernel
theorem i62_29 : xI 62 29 = some (.invokevirtual 86) := by decide +kernel
theorem i62_32 : xI 62 32 = some (.aload_n 0) := by decide +kernel
theorem i62_33 : xI 62 33 = some (.dup) := by decide +kernel
theorem i62_34 : xI 62 34 = some (.getfield 35) := by decide +kernel
theorem i62_37 : xI 62 37 = some (.iconst 1) := by decide +kernel
theorem i62_38 : xI 62 38 = some (.iadd) := by decide +kernel
theorem i62_39 : xI 62 39 = some (.putfield 35) := by decide +kernel
theorem i62_42 : xI 62 42 = some (.aload_n 0) := by decide +kernel
theorem i62_43 : xI 62 43 = some (.getfield 28) := by decide +kernel
theorem i62_46 : xI 62 46 = some (.iload_n 1) := by decide +kernel
theorem i62_47 : xI 62 47 = some (.aload_n 0) := by decide +kernel
theorem i62_48 : xI 62 48 = some (.getfield 51) := by decide +kernel
theorem i62_51 : xI 62 51 = some (.aload_n 0) := by decide +kernel
theorem i62_52 : xI 62 52 = some (.getfield 47) := by decide +kernel
theorem i62_55 : xI 62 55 = some (.getfield 55) := by decide +kernel
theorem i62_58 : xI 62 58 = some (.iload_n 1) := by decide +kernel
theorem i62_59 : xI 62 59 = some (.aaload) := by decide +kernel
theorem i62_60 : xI 62 60 = some (.aload_n 0) := by decide +kernel
theorem i62_61 : xI 62 61 = some (.getfield 22) := by decide +kernel
theorem i62_64 : xI 62 64 = some (.invokevirtual 89) := by decide +kernel
theorem i62_67 : xI 62 67 = some (.iastore) := by decide +kernel
theorem i62_68 : xI 62 68 = some (.aload_n 0) := by decide +kernel
theorem i62_69 : xI 62 69 = some (.iconst 0) := by decide +kernel
theorem i62_70 : xI 62 70 = some (.putfield 44) := by decide +kernel
theorem i62_73 : xI 62 73 = some (.return_) := by decide +kernel
-- 63 Sv_removeTentative
theorem i63_0 : xI 63 0 = some (.iconst 0) := by decide +kernel
theorem i63_1 : xI 63 1 = some (.istore_n 2) := by decide +kernel
theorem i63_2 : xI 63 2 = some (.iload_n 2) := by decide +kernel
theorem i63_3 : xI 63 3 = some (.aload_n 0) := by decide +kernel
theorem i63_4 : xI 63 4 = some (.getfield 41) := by decide +kernel
theorem i63_7 : xI 63 7 = some (.if_icmp .ge 19) := by decide +kernel
theorem i63_10 : xI 63 10 = some (.aload_n 0) := by decide +kernel
theorem i63_11 : xI 63 11 = some (.getfield 19) := by decide +kernel
theorem i63_14 : xI 63 14 = some (.iload_n 2) := by decide +kernel
theorem i63_15 : xI 63 15 = some (.iaload) := by decide +kernel
theorem i63_16 : xI 63 16 = some (.iload_n 1) := by decide +kernel
theorem i63_17 : xI 63 17 = some (.if_icmp .eq 9) := by decide +kernel
theorem i63_20 : xI 63 20 = some (.iinc 2 1) := by decide +kernel
theorem i63_23 : xI 63 23 = some (.goto (-21)) := by decide +kernel
theorem i63_26 : xI 63 26 = some (.iload_n 2) := by decide +kernel
theorem i63_27 : xI 63 27 = some (.aload_n 0) := by decide +kernel
theorem i63_28 : xI 63 28 = some (.getfield 41) := by decide +kernel
theorem i63_31 : xI 63 31 = some (.if_icmp .ge 34) := by decide +kernel
theorem i63_34 : xI 63 34 = some (.aload_n 0) := by decide +kernel
theorem i63_35 : xI 63 35 = some (.dup) := by decide +kernel
theorem i63_36 : xI 63 36 = some (.getfield 41) := by decide +kernel
theorem i63_39 : xI 63 39 = some (.iconst 1) := by decide +kernel
theorem i63_40 : xI 63 40 = some (.isub) := by decide +kernel
theorem i63_41 : xI 63 41 = some (.putfield 41) := by decide +kernel
theorem i63_44 : xI 63 44 = some (.aload_n 0) := by decide +kernel
theorem i63_45 : xI 63 45 = some (.getfield 19) := by decide +kernel
theorem i63_48 : xI 63 48 = some (.iload_n 2) := by decide +kernel
theorem i63_49 : xI 63 49 = some (.iconst 1) := by decide +kernel
theorem i63_50 : xI 63 50 = some (.iadd) := by decide +kernel
theorem i63_51 : xI 63 51 = some (.aload_n 0) := by decide +kernel
theorem i63_52 : xI 63 52 = some (.getfield 19) := by decide +kernel
theorem i63_55 : xI 63 55 = some (.iload_n 2) := by decide +kernel
theorem i63_56 : xI 63 56 = some (.aload_n 0) := by decide +kernel
theorem i63_57 : xI 63 57 = some (.getfield 41) := by decide +kernel
theorem i63_60 : xI 63 60 = some (.iload_n 2) := by decide +kernel
theorem i63_61 : xI 63 61 = some (.isub) := by decide +kernel
theorem i63_62 : xI 63 62 = some (.invokestatic 104) := by decide +kernel
theorem i63_65 : xI 63 65 = some (.return_) := by decide +kernel
-- 64 Sv_learnForgotten
theorem i64_0 : xI 64 0 = some (.aload_n 0) := by decide +kernel
theorem i64_1 : xI 64 1 = some (.getfield 35) := by decide +kernel
theorem i64_4 : xI 64 4 = some (.istore_n 2) := by decide +kernel
theorem i64_5 : xI 64 5 = some (.iload_n 2) := by decide +kernel
theorem i64_6 : xI 64 6 = some (.iload_n 1) := by decide +kernel
theorem i64_7 : xI 64 7 = some (.if_icmp .ge 13) := by decide +kernel
theorem i64_10 : xI 64 10 = some (.aload_n 0) := by decide +kernel
theorem i64_11 : xI 64 11 = some (.invokevirtual 95) := by decide +kernel
theorem i64_14 : xI 64 14 = some (.iinc 2 1) := by decide +kernel
theorem i64_17 : xI 64 17 = some (.goto (-12)) := by decide +kernel
theorem i64_20 : xI 64 20 = some (.aload_n 0) := by decide +kernel
theorem i64_21 : xI 64 21 = some (.iload_n 1) := by decide +kernel
theorem i64_22 : xI 64 22 = some (.putfield 38) := by decide +kernel
theorem i64_25 : xI 64 25 = some (.return_) := by decide +kernel
-- 65 Sv_learnCommits
theorem i65_0 : xI 65 0 = some (.iconst 0) := by decide +kernel
theorem i65_1 : xI 65 1 = some (.iload_n 2) := by decide +kernel
theorem i65_2 : xI 65 2 = some (.aload_n 1) := by decide +kernel
theorem i65_3 : xI 65 3 = some (.getfield 35) := by decide +kernel
theorem i65_6 : xI 65 6 = some (.aload_n 0) := by decide +kernel
theorem i65_7 : xI 65 7 = some (.getfield 35) := by decide +kernel
theorem i65_10 : xI 65 10 = some (.isub) := by decide +kernel
theorem i65_11 : xI 65 11 = some (.invokestatic 98) := by decide +kernel
theorem i65_14 : xI 65 14 = some (.invokestatic 66) := by decide +kernel
theorem i65_17 : xI 65 17 = some (.istore_n 3) := by decide +kernel
theorem i65_18 : xI 65 18 = some (.iconst 0) := by decide +kernel
theorem i65_19 : xI 65 19 = some (.istore 4) := by decide +kernel
theorem i65_21 : xI 65 21 = some (.iload 4) := by decide +kernel
theorem i65_23 : xI 65 23 = some (.iload_n 3) := by decide +kernel
theorem i65_24 : xI 65 24 = some (.if_icmp .ge 13) := by decide +kernel
theorem i65_27 : xI 65 27 = some (.aload_n 0) := by decide +kernel
theorem i65_28 : xI 65 28 = some (.invokevirtual 95) := by decide +kernel
theorem i65_31 : xI 65 31 = some (.iinc 4 1) := by decide +kernel
theorem i65_34 : xI 65 34 = some (.goto (-13)) := by decide +kernel
theorem i65_37 : xI 65 37 = some (.iload_n 3) := by decide +kernel
theorem i65_38 : xI 65 38 = some (.ireturn) := by decide +kernel
-- 66 Sv_learnTentative
theorem i66_0 : xI 66 0 = some (.iconst 0) := by decide +kernel
theorem i66_1 : xI 66 1 = some (.istore_n 3) := by decide +kernel
theorem i66_2 : xI 66 2 = some (.iconst 0) := by decide +kernel
theorem i66_3 : xI 66 3 = some (.istore 4) := by decide +kernel
theorem i66_5 : xI 66 5 = some (.iload 4) := by decide +kernel
theorem i66_7 : xI 66 7 = some (.aload_n 1) := by decide +kernel
theorem i66_8 : xI 66 8 = some (.getfield 41) := by decide +kernel
theorem i66_11 : xI 66 11 = some (.if_icmp .ge 43) := by decide +kernel
theorem i66_14 : xI 66 14 = some (.iload_n 3) := by decide +kernel
theorem i66_15 : xI 66 15 = some (.iload_n 2) := by decide +kernel
theorem i66_16 : xI 66 16 = some (.if_icmp .ge 38) := by decide +kernel
theorem i66_19 : xI 66 19 = some (.aload_n 0) := by decide +kernel
theorem i66_20 : xI 66 20 = some (.getfield 15) := by decide +kernel
theorem i66_23 : xI 66 23 = some (.aload_n 1) := by decide +kernel
theorem i66_24 : xI 66 24 = some (.getfield 19) := by decide +kernel
theorem i66_27 : xI 66 27 = some (.iload 4) := by decide +kernel
theorem i66_29 : xI 66 29 = some (.iaload) := by decide +kernel
theorem i66_30 : xI 66 30 = some (.baload) := by decide +kernel
theorem i66_31 : xI 66 31 = some (.ifCond .ne 17) := by decide +kernel
theorem i66_34 : xI 66 34 = some (.aload_n 0) := by decide +kernel
theorem i66_35 : xI 66 35 = some (.aload_n 1) := by decide +kernel
theorem i66_36 : xI 66 36 = some (.getfield 19) := by decide +kernel
theorem i66_39 : xI 66 39 = some (.iload 4) := by decide +kernel
theorem i66_41 : xI 66 41 = some (.iaload) := by decide +kernel
theorem i66_42 : xI 66 42 = some (.invokevirtual 82) := by decide +kernel
theorem i66_45 : xI 66 45 = some (.iinc 3 1) := by decide +kernel
theorem i66_48 : xI 66 48 = some (.iinc 4 1) := by decide +kernel
theorem i66_51 : xI 66 51 = some (.goto (-46)) := by decide +kernel
theorem i66_54 : xI 66 54 = some (.iload_n 3) := by decide +kernel
theorem i66_55 : xI 66 55 = some (.ireturn) := by decide +kernel
-- 67 Sv_writeAt
theorem i67_0 : xI 67 0 = some (.iload_n 1) := by decide +kernel
theorem i67_1 : xI 67 1 = some (.ifCond .lt 16) := by decide +kernel
theorem i67_4 : xI 67 4 = some (.iload_n 1) := by decide +kernel
theorem i67_5 : xI 67 5 = some (.aload_n 0) := by decide +kernel
theorem i67_6 : xI 67 6 = some (.getfield 35) := by decide +kernel
theorem i67_9 : xI 67 9 = some (.aload_n 0) := by decide +kernel
theorem i67_10 : xI 67 10 = some (.getfield 41) := by decide +kernel
theorem i67_13 : xI 67 13 = some (.iadd) := by decide +kernel
theorem i67_14 : xI 67 14 = some (.if_icmp .lt 6) := by decide +kernel
theorem i67_17 : xI 67 17 = some (.bipush (-2)) := by decide +kernel
theorem i67_19 : xI 67 19 = some (.ireturn) := by decide +kernel
theorem i67_20 : xI 67 20 = some (.iload_n 1) := by decide +kernel
theorem i67_21 : xI 67 21 = some (.aload_n 0) := by decide +kernel
theorem i67_22 : xI 67 22 = some (.getfield 35) := by decide +kernel
theorem i67_25 : xI 67 25 = some (.if_icmp .ge 15) := by decide +kernel
theorem i67_28 : xI 67 28 = some (.aload_n 0) := by decide +kernel
theorem i67_29 : xI 67 29 = some (.getfield 47) := by decide +kernel
theorem i67_32 : xI 67 32 = some (.getfield 79) := by decide +kernel
theorem i67_35 : xI 67 35 = some (.iload_n 1) := by decide +kernel
theorem i67_36 : xI 67 36 = some (.iaload) := by decide +kernel
theorem i67_37 : xI 67 37 = some (.goto 14) := by decide +kernel
theorem i67_40 : xI 67 40 = some (.aload_n 0) := by decide +kernel
theorem i67_41 : xI 67 41 = some (.getfield 19) := by decide +kernel
theorem i67_44 : xI 67 44 = some (.iload_n 1) := by decide +kernel
theorem i67_45 : xI 67 45 = some (.aload_n 0) := by decide +kernel
theorem i67_46 : xI 67 46 = some (.getfield 35) := by decide +kernel
theorem i67_49 : xI 67 49 = some (.isub) := by decide +kernel
theorem i67_50 : xI 67 50 = some (.iaload) := by decide +kernel
theorem i67_51 : xI 67 51 = some (.ireturn) := by decide +kernel
-- 68 Sv_outcomeOf
theorem i68_0 : xI 68 0 = some (.aload_n 0) := by decide +kernel
theorem i68_1 : xI 68 1 = some (.getfield 15) := by decide +kernel
theorem i68_4 : xI 68 4 = some (.iload_n 1) := by decide +kernel
theorem i68_5 : xI 68 5 = some (.baload) := by decide +kernel
theorem i68_6 : xI 68 6 = some (.ifCond .ne 6) := by decide +kernel
theorem i68_9 : xI 68 9 = some (.bipush (-2)) := by decide +kernel
theorem i68_11 : xI 68 11 = some (.ireturn) := by decide +kernel
theorem i68_12 : xI 68 12 = some (.aload_n 0) := by decide +kernel
theorem i68_13 : xI 68 13 = some (.invokevirtual 101) := by decide +kernel
theorem i68_16 : xI 68 16 = some (.aload_n 0) := by decide +kernel
theorem i68_17 : xI 68 17 = some (.getfield 28) := by decide +kernel
theorem i68_20 : xI 68 20 = some (.iload_n 1) := by decide +kernel
theorem i68_21 : xI 68 21 = some (.iaload) := by decide +kernel
theorem i68_22 : xI 68 22 = some (.ireturn) := by decide +kernel
-- 69 Se_init
theorem i69_0 : xI 69 0 = some (.aload_n 0) := by decide +kernel
theorem i69_1 : xI 69 1 = some (.invokespecial 3) := by decide +kernel
theorem i69_4 : xI 69 4 = some (.aload_n 0) := by decide +kernel
theorem i69_5 : xI 69 5 = some (.iconst 5) := by decide +kernel
theorem i69_6 : xI 69 6 = some (.newarray .int) := by decide +kernel
theorem i69_8 : xI 69 8 = some (.putfield 9) := by decide +kernel
theorem i69_11 : xI 69 11 = some (.aload_n 0) := by decide +kernel
theorem i69_12 : xI 69 12 = some (.iconst 5) := by decide +kernel
theorem i69_13 : xI 69 13 = some (.newarray .int) := by decide +kernel
theorem i69_15 : xI 69 15 = some (.putfield 15) := by decide +kernel
theorem i69_18 : xI 69 18 = some (.aload_n 0) := by decide +kernel
theorem i69_19 : xI 69 19 = some (.iconst 0) := by decide +kernel
theorem i69_20 : xI 69 20 = some (.putfield 18) := by decide +kernel
theorem i69_23 : xI 69 23 = some (.return_) := by decide +kernel
-- 70 Se_mayWriteAt
theorem i70_0 : xI 70 0 = some (.aload_n 0) := by decide +kernel
theorem i70_1 : xI 70 1 = some (.iconst 4) := by decide +kernel
theorem i70_2 : xI 70 2 = some (.invokevirtual 22) := by decide +kernel
theorem i70_5 : xI 70 5 = some (.ifCond .eq 17) := by decide +kernel
theorem i70_8 : xI 70 8 = some (.aload_n 1) := by decide +kernel
theorem i70_9 : xI 70 9 = some (.getfield 26) := by decide +kernel
theorem i70_12 : xI 70 12 = some (.aload_n 0) := by decide +kernel
theorem i70_13 : xI 70 13 = some (.getfield 9) := by decide +kernel
theorem i70_16 : xI 70 16 = some (.invokestatic 31) := by decide +kernel
theorem i70_19 : xI 70 19 = some (.ifCond .eq 30) := by decide +kernel
theorem i70_22 : xI 70 22 = some (.aload_n 0) := by decide +kernel
theorem i70_23 : xI 70 23 = some (.bipush 8) := by decide +kernel
theorem i70_25 : xI 70 25 = some (.invokevirtual 22) := by decide +kernel
theorem i70_28 : xI 70 28 = some (.ifCond .eq 17) := by decide +kernel
theorem i70_31 : xI 70 31 = some (.aload_n 1) := by decide +kernel
theorem i70_32 : xI 70 32 = some (.getfield 26) := by decide +kernel
theorem i70_35 : xI 70 35 = some (.aload_n 0) := by decide +kernel
theorem i70_36 : xI 70 36 = some (.getfield 15) := by decide +kernel
theorem i70_39 : xI 70 39 = some (.invokestatic 31) := by decide +kernel
theorem i70_42 : xI 70 42 = some (.ifCond .eq 7) := by decide +kernel
theorem i70_45 : xI 70 45 = some (.iconst 1) := by decide +kernel
theorem i70_46 : xI 70 46 = some (.goto 4) := by decide +kernel
theorem i70_49 : xI 70 49 = some (.iconst 0) := by decide +kernel
theorem i70_50 : xI 70 50 = some (.ireturn) := by decide +kernel
-- 71 Se_assures
theorem i71_0 : xI 71 0 = some (.aload_n 0) := by decide +kernel
theorem i71_1 : xI 71 1 = some (.getfield 18) := by decide +kernel
theorem i71_4 : xI 71 4 = some (.iload_n 1) := by decide +kernel
theorem i71_5 : xI 71 5 = some (.iand) := by decide +kernel
theorem i71_6 : xI 71 6 = some (.ifCond .eq 7) := by decide +kernel
theorem i71_9 : xI 71 9 = some (.iconst 1) := by decide +kernel
theorem i71_10 : xI 71 10 = some (.goto 4) := by decide +kernel
theorem i71_13 : xI 71 13 = some (.iconst 0) := by decide +kernel
theorem i71_14 : xI 71 14 = some (.ireturn) := by decide +kernel
-- 72 Se_isAtLeast
theorem i72_0 : xI 72 0 = some (.iconst 0) := by decide +kernel
theorem i72_1 : xI 72 1 = some (.istore_n 2) := by decide +kernel
theorem i72_2 : xI 72 2 = some (.iload_n 2) := by decide +kernel
theorem i72_3 : xI 72 3 = some (.iconst 5) := by decide +kernel
theorem i72_4 : xI 72 4 = some (.if_icmp .ge 20) := by decide +kernel
theorem i72_7 : xI 72 7 = some (.aload_n 0) := by decide +kernel
theorem i72_8 : xI 72 8 = some (.iload_n 2) := by decide +kernel
theorem i72_9 : xI 72 9 = some (.iaload) := by decide +kernel
theorem i72_10 : xI 72 10 = some (.aload_n 1) := by decide +kernel
theorem i72_11 : xI 72 11 = some (.iload_n 2) := by decide +kernel
theorem i72_12 : xI 72 12 = some (.iaload) := by decide +kernel
theorem i72_13 : xI 72 13 = some (.if_icmp .ge 5) := by decide +kernel
theorem i72_16 : xI 72 16 = some (.iconst 0) := by decide +kernel
theorem i72_17 : xI 72 17 = some (.ireturn) := by decide +kernel
theorem i72_18 : xI 72 18 = some (.iinc 2 1) := by decide +kernel
theorem i72_21 : xI 72 21 = some (.goto (-19)) := by decide +kernel
theorem i72_24 : xI 72 24 = some (.iconst 1) := by decide +kernel
theorem i72_25 : xI 72 25 = some (.ireturn) := by decide +kernel
-- 73 Se_mayReadAt
theorem i73_0 : xI 73 0 = some (.aload_n 0) := by decide +kernel
theorem i73_1 : xI 73 1 = some (.iconst 1) := by decide +kernel
theorem i73_2 : xI 73 2 = some (.invokevirtual 22) := by decide +kernel
theorem i73_5 : xI 73 5 = some (.ifCond .eq 17) := by decide +kernel
theorem i73_8 : xI 73 8 = some (.aload_n 1) := by decide +kernel
theorem i73_9 : xI 73 9 = some (.getfield 26) := by decide +kernel
theorem i73_12 : xI 73 12 = some (.aload_n 0) := by decide +kernel
theorem i73_13 : xI 73 13 = some (.getfield 15) := by decide +kernel
theorem i73_16 : xI 73 16 = some (.invokestatic 31) := by decide +kernel
theorem i73_19 : xI 73 19 = some (.ifCond .eq 29) := by decide +kernel
theorem i73_22 : xI 73 22 = some (.aload_n 0) := by decide +kernel
theorem i73_23 : xI 73 23 = some (.iconst 2) := by decide +kernel
theorem i73_24 : xI 73 24 = some (.invokevirtual 22) := by decide +kernel
theorem i73_27 : xI 73 27 = some (.ifCond .eq 17) := by decide +kernel
theorem i73_30 : xI 73 30 = some (.aload_n 1) := by decide +kernel
theorem i73_31 : xI 73 31 = some (.getfield 26) := by decide +kernel
theorem i73_34 : xI 73 34 = some (.aload_n 0) := by decide +kernel
theorem i73_35 : xI 73 35 = some (.getfield 9) := by decide +kernel
theorem i73_38 : xI 73 38 = some (.invokestatic 31) := by decide +kernel
theorem i73_41 : xI 73 41 = some (.ifCond .eq 7) := by decide +kernel
theorem i73_44 : xI 73 44 = some (.iconst 1) := by decide +kernel
theorem i73_45 : xI 73 45 = some (.goto 4) := by decide +kernel
theorem i73_48 : xI 73 48 = some (.iconst 0) := by decide +kernel
theorem i73_49 : xI 73 49 = some (.ireturn) := by decide +kernel
-- 74 Se_hasReadAt
theorem i74_0 : xI 74 0 = some (.iconst 0) := by decide +kernel
theorem i74_1 : xI 74 1 = some (.istore_n 2) := by decide +kernel
theorem i74_2 : xI 74 2 = some (.iload_n 2) := by decide +kernel
theorem i74_3 : xI 74 3 = some (.iconst 5) := by decide +kernel
theorem i74_4 : xI 74 4 = some (.if_icmp .ge 30) := by decide +kernel
theorem i74_7 : xI 74 7 = some (.aload_n 0) := by decide +kernel
theorem i74_8 : xI 74 8 = some (.getfield 9) := by decide +kernel
theorem i74_11 : xI 74 11 = some (.iload_n 2) := by decide +kernel
theorem i74_12 : xI 74 12 = some (.aload_n 0) := by decide +kernel
theorem i74_13 : xI 74 13 = some (.getfield 9) := by decide +kernel
theorem i74_16 : xI 74 16 = some (.iload_n 2) := by decide +kernel
theorem i74_17 : xI 74 17 = some (.iaload) := by decide +kernel
theorem i74_18 : xI 74 18 = some (.aload_n 1) := by decide +kernel
theorem i74_19 : xI 74 19 = some (.getfield 26) := by decide +kernel
theorem i74_22 : xI 74 22 = some (.iload_n 2) := by decide +kernel
theorem i74_23 : xI 74 23 = some (.iaload) := by decide +kernel
theorem i74_24 : xI 74 24 = some (.invokestatic 35) := by decide +kernel
theorem i74_27 : xI 74 27 = some (.iastore) := by decide +kernel
theorem i74_28 : xI 74 28 = some (.iinc 2 1) := by decide +kernel
theorem i74_31 : xI 74 31 = some (.goto (-29)) := by decide +kernel
theorem i74_34 : xI 74 34 = some (.return_) := by decide +kernel
-- 75 Se_clearVectors
theorem i75_0 : xI 75 0 = some (.aload_n 0) := by decide +kernel
theorem i75_1 : xI 75 1 = some (.getfield 9) := by decide +kernel
theorem i75_4 : xI 75 4 = some (.iconst 0) := by decide +kernel
theorem i75_5 : xI 75 5 = some (.invokestatic 41) := by decide +kernel
theorem i75_8 : xI 75 8 = some (.aload_n 0) := by decide +kernel
theorem i75_9 : xI 75 9 = some (.getfield 15) := by decide +kernel
theorem i75_12 : xI 75 12 = some (.iconst 0) := by decide +kernel
theorem i75_13 : xI 75 13 = some (.invokestatic 41) := by decide +kernel
theorem i75_16 : xI 75 16 = some (.return_) := by decide +kernel
-- 76 Pr_init
theorem i76_0 : xI 76 0 = some (.aload_n 0) := by decide +kernel
theorem i76_1 : xI 76 1 = some (.invokespecial 1) := by decide +kernel
theorem i76_4 : xI 76 4 = some (.aload_n 0) := by decide +kernel
theorem i76_5 : xI 76 5 = some (.aload_n 1) := by decide +kernel
theorem i76_6 : xI 76 6 = some (.putfield 7) := by decide +kernel
theorem i76_9 : xI 76 9 = some (.aload_n 0) := by decide +kernel
theorem i76_10 : xI 76 10 = some (.aload_n 2) := by decide +kernel
theorem i76_11 : xI 76 11 = some (.putfield 13) := by decide +kernel
theorem i76_14 : xI 76 14 = some (.return_) := by decide +kernel
-- 77 Wr_init
theorem i77_0 : xI 77 0 = some (.aload_n 0) := by decide +kernel
theorem i77_1 : xI 77 1 = some (.invokespecial 1) := by decide +kernel
theorem i77_4 : xI 77 4 = some (.aload_n 0) := by decide +kernel
theorem i77_5 : xI 77 5 = some (.iconst 0) := by decide +kernel
theorem i77_6 : xI 77 6 = some (.putfield 7) := by decide +kernel
theorem i77_9 : xI 77 9 = some (.aload_n 0) := by decide +kernel
theorem i77_10 : xI 77 10 = some (.iload_n 1) := by decide +kernel
theorem i77_11 : xI 77 11 = some (.putfield 13) := by decide +kernel
theorem i77_14 : xI 77 14 = some (.aload_n 0) := by decide +kernel
theorem i77_15 : xI 77 15 = some (.iload_n 2) := by decide +kernel
theorem i77_16 : xI 77 16 = some (.putfield 16) := by decide +kernel
theorem i77_19 : xI 77 19 = some (.aload_n 0) := by decide +kernel
theorem i77_20 : xI 77 20 = some (.aload_n 3) := by decide +kernel
theorem i77_21 : xI 77 21 = some (.putfield 19) := by decide +kernel
theorem i77_24 : xI 77 24 = some (.return_) := by decide +kernel
-- 78 Wr_comesBefore
theorem i78_0 : xI 78 0 = some (.aload_n 0) := by decide +kernel
theorem i78_1 : xI 78 1 = some (.getfield 16) := by decide +kernel
theorem i78_4 : xI 78 4 = some (.aload_n 1) := by decide +kernel
theorem i78_5 : xI 78 5 = some (.getfield 16) := by decide +kernel
theorem i78_8 : xI 78 8 = some (.if_icmp .lt 25) := by decide +kernel
theorem i78_11 : xI 78 11 = some (.aload_n 0) := by decide +kernel
theorem i78_12 : xI 78 12 = some (.getfield 16) := by decide +kernel
theorem i78_15 : xI 78 15 = some (.aload_n 1) := by decide +kernel
theorem i78_16 : xI 78 16 = some (.getfield 16) := by decide +kernel
theorem i78_19 : xI 78 19 = some (.if_icmp .ne 18) := by decide +kernel
theorem i78_22 : xI 78 22 = some (.aload_n 0) := by decide +kernel
theorem i78_23 : xI 78 23 = some (.getfield 13) := by decide +kernel
theorem i78_26 : xI 78 26 = some (.aload_n 1) := by decide +kernel
theorem i78_27 : xI 78 27 = some (.getfield 13) := by decide +kernel
theorem i78_30 : xI 78 30 = some (.if_icmp .ge 7) := by decide +kernel
theorem i78_33 : xI 78 33 = some (.iconst 1) := by decide +kernel
theorem i78_34 : xI 78 34 = some (.goto 4) := by decide +kernel
theorem i78_37 : xI 78 37 = some (.iconst 0) := by decide +kernel
theorem i78_38 : xI 78 38 = some (.ireturn) := by decide +kernel
-- 79 M_init
theorem i79_0 : xI 79 0 = some (.aload_n 0) := by decide +kernel
theorem i79_1 : xI 79 1 = some (.invokespecial 1) := by decide +kernel
theorem i79_4 : xI 79 4 = some (.aload_n 0) := by decide +kernel
theorem i79_5 : xI 79 5 = some (.sipush 400) := by decide +kernel
theorem i79_8 : xI 79 8 = some (.newarray .byte) := by decide +kernel
theorem i79_10 : xI 79 10 = some (.putfield 9) := by decide +kernel
theorem i79_13 : xI 79 13 = some (.aload_n 0) := by decide +kernel
theorem i79_14 : xI 79 14 = some (.sipush 500) := by decide +kernel
theorem i79_17 : xI 79 17 = some (.newarray .int) := by decide +kernel
theorem i79_19 : xI 79 19 = some (.putfield 13) := by decide +kernel
theorem i79_22 : xI 79 22 = some (.aload_n 0) := by decide +kernel
theorem i79_23 : xI 79 23 = some (.sipush 500) := by decide +kernel
theorem i79_26 : xI 79 26 = some (.newarray .int) := by decide +kernel
theorem i79_28 : xI 79 28 = some (.putfield 17) := by decide +kernel
theorem i79_31 : xI 79 31 = some (.aload_n 0) := by decide +kernel
theorem i79_32 : xI 79 32 = some (.sipush 500) := by decide +kernel
theorem i79_35 : xI 79 35 = some (.newarray .int) := by decide +kernel
theorem i79_37 : xI 79 37 = some (.putfield 20) := by decide +kernel
theorem i79_40 : xI 79 40 = some (.aload_n 0) := by decide +kernel
theorem i79_41 : xI 79 41 = some (.sipush 501) := by decide +kernel
theorem i79_44 : xI 79 44 = some (.newarray .int) := by decide +kernel
theorem i79_46 : xI 79 46 = some (.putfield 23) := by decide +kernel
theorem i79_49 : xI 79 49 = some (.aload_n 0) := by decide +kernel
theorem i79_50 : xI 79 50 = some (.sipush 500) := by decide +kernel
theorem i79_53 : xI 79 53 = some (.anewarray 26) := by decide +kernel
theorem i79_56 : xI 79 56 = some (.putfield 27) := by decide +kernel
theorem i79_59 : xI 79 59 = some (.aload_n 0) := by decide +kernel
theorem i79_60 : xI 79 60 = some (.iconst 5) := by decide +kernel
theorem i79_61 : xI 79 61 = some (.sipush 500) := by decide +kernel
theorem i79_64 : xI 79 64 = some (.multianewarray 31 2) := by decide +kernel
theorem i79_68 : xI 79 68 = some (.putfield 33) := by decide +kernel
theorem i79_71 : xI 79 71 = some (.aload_n 0) := by decide +kernel
theorem i79_72 : xI 79 72 = some (.iconst 5) := by decide +kernel
theorem i79_73 : xI 79 73 = some (.newarray .int) := by decide +kernel
theorem i79_75 : xI 79 75 = some (.putfield 36) := by decide +kernel
theorem i79_78 : xI 79 78 = some (.aload_n 0) := by decide +kernel
theorem i79_79 : xI 79 79 = some (.iconst 5) := by decide +kernel
theorem i79_80 : xI 79 80 = some (.newarray .int) := by decide +kernel
theorem i79_82 : xI 79 82 = some (.putfield 39) := by decide +kernel
theorem i79_85 : xI 79 85 = some (.aload_n 0) := by decide +kernel
theorem i79_86 : xI 79 86 = some (.iconst 5) := by decide +kernel
theorem i79_87 : xI 79 87 = some (.newarray .int) := by decide +kernel
theorem i79_89 : xI 79 89 = some (.putfield 42) := by decide +kernel
theorem i79_92 : xI 79 92 = some (.aload_n 0) := by decide +kernel
theorem i79_93 : xI 79 93 = some (.bipush 8) := by decide +kernel
theorem i79_95 : xI 79 95 = some (.newarray .int) := by decide +kernel
theorem i79_97 : xI 79 97 = some (.putfield 45) := by decide +kernel
theorem i79_100 : xI 79 100 = some (.aload_n 0) := by decide +kernel
theorem i79_101 : xI 79 101 = some (.bipush 8) := by decide +kernel
theorem i79_103 : xI 79 103 = some (.iconst 5) := by decide +kernel
theorem i79_104 : xI 79 104 = some (.multianewarray 48 2) := by decide +kernel
theorem i79_108 : xI 79 108 = some (.putfield 49) := by decide +kernel
theorem i79_111 : xI 79 111 = some (.aload_n 0) := by decide +kernel
theorem i79_112 : xI 79 112 = some (.bipush 8) := by decide +kernel
theorem i79_114 : xI 79 114 = some (.iconst 5) := by decide +kernel
theorem i79_115 : xI 79 115 = some (.multianewarray 48 2) := by decide +kernel
theorem i79_119 : xI 79 119 = some (.putfield 52) := by decide +kernel
theorem i79_122 : xI 79 122 = some (.aload_n 0) := by decide +kernel
theorem i79_123 : xI 79 123 = some (.sipush 1600) := by decide +kernel
theorem i79_126 : xI 79 126 = some (.newarray .int) := by decide +kernel
theorem i79_128 : xI 79 128 = some (.putfield 55) := by decide +kernel
theorem i79_131 : xI 79 131 = some (.aload_n 0) := by decide +kernel
theorem i79_132 : xI 79 132 = some (.bipush 32) := by decide +kernel
theorem i79_134 : xI 79 134 = some (.newarray .int) := by decide +kernel
theorem i79_136 : xI 79 136 = some (.putfield 58) := by decide +kernel
theorem i79_139 : xI 79 139 = some (.aload_n 0) := by decide +kernel
theorem i79_140 : xI 79 140 = some (.sipush 160) := by decide +kernel
theorem i79_143 : xI 79 143 = some (.newarray .int) := by decide +kernel
theorem i79_145 : xI 79 145 = some (.putfield 61) := by decide +kernel
theorem i79_148 : xI 79 148 = some (.aload_n 0) := by decide +kernel
theorem i79_149 : xI 79 149 = some (.bipush 8) := by decide +kernel
theorem i79_151 : xI 79 151 = some (.newarray .int) := by decide +kernel
theorem i79_153 : xI 79 153 = some (.putfield 64) := by decide +kernel
theorem i79_156 : xI 79 156 = some (.aload_n 0) := by decide +kernel
theorem i79_157 : xI 79 157 = some (.bipush 8) := by decide +kernel
theorem i79_159 : xI 79 159 = some (.newarray .int) := by decide +kernel
theorem i79_161 : xI 79 161 = some (.putfield 67) := by decide +kernel
theorem i79_164 : xI 79 164 = some (.aload_n 0) := by decide +kernel
theorem i79_165 : xI 79 165 = some (.sipush 500) := by decide +kernel
theorem i79_168 : xI 79 168 = some (.newarray .int) := by decide +kernel
theorem i79_170 : xI 79 170 = some (.putfield 70) := by decide +kernel
theorem i79_173 : xI 79 173 = some (.return_) := by decide +kernel
-- 80 M_feed
theorem i80_0 : xI 80 0 = some (.aload_n 0) := by decide +kernel
theorem i80_1 : xI 80 1 = some (.getfield 73) := by decide +kernel
theorem i80_4 : xI 80 4 = some (.bipush 20) := by decide +kernel
theorem i80_6 : xI 80 6 = some (.iadd) := by decide +kernel
theorem i80_7 : xI 80 7 = some (.sipush 400) := by decide +kernel
theorem i80_10 : xI 80 10 = some (.if_icmp .le 6) := by decide +kernel
theorem i80_13 : xI 80 13 = some (.bipush (-3)) := by decide +kernel
theorem i80_15 : xI 80 15 = some (.ireturn) := by decide +kernel
theorem i80_16 : xI 80 16 = some (.iconst 5) := by decide +kernel
theorem i80_17 : xI 80 17 = some (.newarray .int) := by decide +kernel
theorem i80_19 : xI 80 19 = some (.dup) := by decide +kernel
theorem i80_20 : xI 80 20 = some (.iconst 0) := by decide +kernel
theorem i80_21 : xI 80 21 = some (.iload_n 1) := by decide +kernel
theorem i80_22 : xI 80 22 = some (.iastore) := by decide +kernel
theorem i80_23 : xI 80 23 = some (.dup) := by decide +kernel
theorem i80_24 : xI 80 24 = some (.iconst 1) := by decide +kernel
theorem i80_25 : xI 80 25 = some (.iload_n 2) := by decide +kernel
theorem i80_26 : xI 80 26 = some (.iastore) := by decide +kernel
theorem i80_27 : xI 80 27 = some (.dup) := by decide +kernel
theorem i80_28 : xI 80 28 = some (.iconst 2) := by decide +kernel
theorem i80_29 : xI 80 29 = some (.iload_n 3) := by decide +kernel
theorem i80_30 : xI 80 30 = some (.iastore) := by decide +kernel
theorem i80_31 : xI 80 31 = some (.dup) := by decide +kernel
theorem i80_32 : xI 80 32 = some (.iconst 3) := by decide +kernel
theorem i80_33 : xI 80 33 = some (.iload 4) := by decide +kernel
theorem i80_35 : xI 80 35 = some (.iastore) := by decide +kernel
theorem i80_36 : xI 80 36 = some (.dup) := by decide +kernel
theorem i80_37 : xI 80 37 = some (.iconst 4) := by decide +kernel
theorem i80_38 : xI 80 38 = some (.iload 5) := by decide +kernel
theorem i80_40 : xI 80 40 = some (.iastore) := by decide +kernel
theorem i80_41 : xI 80 41 = some (.astore 6) := by decide +kernel
theorem i80_43 : xI 80 43 = some (.iconst 0) := by decide +kernel
theorem i80_44 : xI 80 44 = some (.istore 7) := by decide +kernel
theorem i80_46 : xI 80 46 = some (.iload 7) := by decide +kernel
theorem i80_48 : xI 80 48 = some (.bipush 20) := by decide +kernel
theorem i80_50 : xI 80 50 = some (.if_icmp .ge 40) := by decide +kernel
theorem i80_53 : xI 80 53 = some (.aload_n 0) := by decide +kernel
theorem i80_54 : xI 80 54 = some (.getfield 9) := by decide +kernel
theorem i80_57 : xI 80 57 = some (.aload_n 0) := by decide +kernel
theorem i80_58 : xI 80 58 = some (.getfield 73) := by decide +kernel
theorem i80_61 : xI 80 61 = some (.iload 7) := by decide +kernel
theorem i80_63 : xI 80 63 = some (.iadd) := by decide +kernel
theorem i80_64 : xI 80 64 = some (.aload 6) := by decide +kernel
theorem i80_66 : xI 80 66 = some (.iload 7) := by decide +kernel
theorem i80_68 : xI 80 68 = some (.iconst 4) := by decide +kernel
theorem i80_69 : xI 80 69 = some (.idiv) := by decide +kernel
theorem i80_70 : xI 80 70 = some (.iaload) := by decide +kernel
theorem i80_71 : xI 80 71 = some (.bipush 24) := by decide +kernel
theorem i80_73 : xI 80 73 = some (.bipush 8) := by decide +kernel
theorem i80_75 : xI 80 75 = some (.iload 7) := by decide +kernel
theorem i80_77 : xI 80 77 = some (.iconst 4) := by decide +kernel
theorem i80_78 : xI 80 78 = some (.irem) := by decide +kernel
theorem i80_79 : xI 80 79 = some (.imul) := by decide +kernel
theorem i80_80 : xI 80 80 = some (.isub) := by decide +kernel
theorem i80_81 : xI 80 81 = some (.ishr) := by decide +kernel
theorem i80_82 : xI 80 82 = some (.i2b) := by decide +kernel
theorem i80_83 : xI 80 83 = some (.bastore) := by decide +kernel
theorem i80_84 : xI 80 84 = some (.iinc 7 1) := by decide +kernel
theorem i80_87 : xI 80 87 = some (.goto (-41)) := by decide +kernel
theorem i80_90 : xI 80 90 = some (.aload_n 0) := by decide +kernel
theorem i80_91 : xI 80 91 = some (.dup) := by decide +kernel
theorem i80_92 : xI 80 92 = some (.getfield 73) := by decide +kernel
theorem i80_95 : xI 80 95 = some (.bipush 20) := by decide +kernel
theorem i80_97 : xI 80 97 = some (.iadd) := by decide +kernel
theorem i80_98 : xI 80 98 = some (.putfield 73) := by decide +kernel
theorem i80_101 : xI 80 101 = some (.aload_n 0) := by decide +kernel
theorem i80_102 : xI 80 102 = some (.getfield 73) := by decide +kernel
theorem i80_105 : xI 80 105 = some (.ireturn) := by decide +kernel
-- 81 M_end
theorem i81_0 : xI 81 0 = some (.iload_n 1) := by decide +kernel
theorem i81_1 : xI 81 1 = some (.i2l) := by decide +kernel
theorem i81_2 : xI 81 2 = some (.lconst 0) := by decide +kernel
theorem i81_3 : xI 81 3 = some (.aload_n 0) := by decide +kernel
theorem i81_4 : xI 81 4 = some (.getfield 73) := by decide +kernel
theorem i81_7 : xI 81 7 = some (.i2l) := by decide +kernel
theorem i81_8 : xI 81 8 = some (.invokestatic 77) := by decide +kernel
theorem i81_11 : xI 81 11 = some (.ifCond .ne 5) := by decide +kernel
theorem i81_14 : xI 81 14 = some (.iconst (-1)) := by decide +kernel
theorem i81_15 : xI 81 15 = some (.ireturn) := by decide +kernel
theorem i81_16 : xI 81 16 = some (.aload_n 0) := by decide +kernel
theorem i81_17 : xI 81 17 = some (.iload_n 1) := by decide +kernel
theorem i81_18 : xI 81 18 = some (.putfield 73) := by decide +kernel
theorem i81_21 : xI 81 21 = some (.iload_n 1) := by decide +kernel
theorem i81_22 : xI 81 22 = some (.ireturn) := by decide +kernel
-- 82 M_in
theorem i82_0 : xI 82 0 = some (.lload_n 0) := by decide +kernel
theorem i82_1 : xI 82 1 = some (.lload_n 2) := by decide +kernel
theorem i82_2 : xI 82 2 = some (.lcmp) := by decide +kernel
theorem i82_3 : xI 82 3 = some (.ifCond .lt 14) := by decide +kernel
theorem i82_6 : xI 82 6 = some (.lload_n 0) := by decide +kernel
theorem i82_7 : xI 82 7 = some (.lload 4) := by decide +kernel
theorem i82_9 : xI 82 9 = some (.lcmp) := by decide +kernel
theorem i82_10 : xI 82 10 = some (.ifCond .gt 7) := by decide +kernel
theorem i82_13 : xI 82 13 = some (.iconst 1) := by decide +kernel
theorem i82_14 : xI 82 14 = some (.goto 4) := by decide +kernel
theorem i82_17 : xI 82 17 = some (.iconst 0) := by decide +kernel
theorem i82_18 : xI 82 18 = some (.ireturn) := by decide +kernel
-- 83 M_program
theorem i83_0 : xI 83 0 = some (.aload_n 0) := by decide +kernel
theorem i83_1 : xI 83 1 = some (.aload_n 0) := by decide +kernel
theorem i83_2 : xI 83 2 = some (.getfield 73) := by decide +kernel
theorem i83_5 : xI 83 5 = some (.putfield 84) := by decide +kernel
theorem i83_8 : xI 83 8 = some (.aload_n 0) := by decide +kernel
theorem i83_9 : xI 83 9 = some (.iconst 0) := by decide +kernel
theorem i83_10 : xI 83 10 = some (.putfield 73) := by decide +kernel
theorem i83_13 : xI 83 13 = some (.aload_n 0) := by decide +kernel
theorem i83_14 : xI 83 14 = some (.iconst 0) := by decide +kernel
theorem i83_15 : xI 83 15 = some (.putfield 81) := by decide +kernel
theorem i83_18 : xI 83 18 = some (.aload_n 0) := by decide +kernel
theorem i83_19 : xI 83 19 = some (.iconst (-1)) := by decide +kernel
theorem i83_20 : xI 83 20 = some (.putfield 149) := by decide +kernel
theorem i83_23 : xI 83 23 = some (.aload_n 0) := by decide +kernel
theorem i83_24 : xI 83 24 = some (.iconst 0) := by decide +kernel
theorem i83_25 : xI 83 25 = some (.putfield 162) := by decide +kernel
theorem i83_28 : xI 83 28 = some (.aload_n 0) := by decide +kernel
theorem i83_29 : xI 83 29 = some (.bipush 7) := by decide +kernel
theorem i83_31 : xI 83 31 = some (.putfield 159) := by decide +kernel
theorem i83_34 : xI 83 34 = some (.aload_n 0) := by decide +kernel
theorem i83_35 : xI 83 35 = some (.getfield 55) := by decide +kernel
theorem i83_38 : xI 83 38 = some (.iconst 0) := by decide +kernel
theorem i83_39 : xI 83 39 = some (.iconst 0) := by decide +kernel
theorem i83_40 : xI 83 40 = some (.iastore) := by decide +kernel
theorem i83_41 : xI 83 41 = some (.aload_n 0) := by decide +kernel
theorem i83_42 : xI 83 42 = some (.invokevirtual 156) := by decide +kernel
theorem i83_45 : xI 83 45 = some (.aload_n 0) := by decide +kernel
theorem i83_46 : xI 83 46 = some (.invokevirtual 165) := by decide +kernel
theorem i83_49 : xI 83 49 = some (.istore_n 1) := by decide +kernel
theorem i83_50 : xI 83 50 = some (.iload_n 1) := by decide +kernel
theorem i83_51 : xI 83 51 = some (.ifCond .eq 24) := by decide +kernel
theorem i83_54 : xI 83 54 = some (.aload_n 0) := by decide +kernel
theorem i83_55 : xI 83 55 = some (.ldc 108) := by decide +kernel
theorem i83_57 : xI 83 57 = some (.invokevirtual 102) := by decide +kernel
theorem i83_60 : xI 83 60 = some (.ifCond .eq 15) := by decide +kernel
theorem i83_63 : xI 83 63 = some (.aload_n 0) := by decide +kernel
theorem i83_64 : xI 83 64 = some (.invokevirtual 156) := by decide +kernel
theorem i83_67 : xI 83 67 = some (.aload_n 0) := by decide +kernel
theorem i83_68 : xI 83 68 = some (.invokevirtual 165) := by decide +kernel
theorem i83_71 : xI 83 71 = some (.istore_n 1) := by decide +kernel
theorem i83_72 : xI 83 72 = some (.goto (-22)) := by decide +kernel
theorem i83_75 : xI 83 75 = some (.iload_n 1) := by decide +kernel
theorem i83_76 : xI 83 76 = some (.ifCond .eq 15) := by decide +kernel
theorem i83_79 : xI 83 79 = some (.aload_n 0) := by decide +kernel
theorem i83_80 : xI 83 80 = some (.getfield 90) := by decide +kernel
theorem i83_83 : xI 83 83 = some (.ifCond .eq 8) := by decide +kernel
theorem i83_86 : xI 83 86 = some (.aload_n 0) := by decide +kernel
theorem i83_87 : xI 83 87 = some (.invokevirtual 152) := by decide +kernel
theorem i83_90 : xI 83 90 = some (.pop) := by decide +kernel
theorem i83_91 : xI 83 91 = some (.aload_n 0) := by decide +kernel
theorem i83_92 : xI 83 92 = some (.getfield 149) := by decide +kernel
theorem i83_95 : xI 83 95 = some (.ifCond .lt 8) := by decide +kernel
theorem i83_98 : xI 83 98 = some (.aload_n 0) := by decide +kernel
theorem i83_99 : xI 83 99 = some (.getfield 149) := by decide +kernel
theorem i83_102 : xI 83 102 = some (.ireturn) := by decide +kernel
theorem i83_103 : xI 83 103 = some (.aload_n 0) := by decide +kernel
theorem i83_104 : xI 83 104 = some (.aload_n 0) := by decide +kernel
theorem i83_105 : xI 83 105 = some (.getfield 55) := by decide +kernel
theorem i83_108 : xI 83 108 = some (.aload_n 0) := by decide +kernel
theorem i83_109 : xI 83 109 = some (.getfield 159) := by decide +kernel
theorem i83_112 : xI 83 112 = some (.invokestatic 168) := by decide +kernel
theorem i83_115 : xI 83 115 = some (.putfield 174) := by decide +kernel
theorem i83_118 : xI 83 118 = some (.bipush (-2)) := by decide +kernel
theorem i83_120 : xI 83 120 = some (.ireturn) := by decide +kernel
-- 84 M_step
theorem i84_0 : xI 84 0 = some (.aload_n 0) := by decide +kernel
theorem i84_1 : xI 84 1 = some (.getfield 81) := by decide +kernel
theorem i84_4 : xI 84 4 = some (.aload_n 0) := by decide +kernel
theorem i84_5 : xI 84 5 = some (.getfield 84) := by decide +kernel
theorem i84_8 : xI 84 8 = some (.if_icmp .ge 30) := by decide +kernel
theorem i84_11 : xI 84 11 = some (.aload_n 0) := by decide +kernel
theorem i84_12 : xI 84 12 = some (.getfield 9) := by decide +kernel
theorem i84_15 : xI 84 15 = some (.aload_n 0) := by decide +kernel
theorem i84_16 : xI 84 16 = some (.getfield 81) := by decide +kernel
theorem i84_19 : xI 84 19 = some (.baload) := by decide +kernel
theorem i84_20 : xI 84 20 = some (.bipush 32) := by decide +kernel
theorem i84_22 : xI 84 22 = some (.if_icmp .ne 16) := by decide +kernel
theorem i84_25 : xI 84 25 = some (.aload_n 0) := by decide +kernel
theorem i84_26 : xI 84 26 = some (.dup) := by decide +kernel
theorem i84_27 : xI 84 27 = some (.getfield 81) := by decide +kernel
theorem i84_30 : xI 84 30 = some (.iconst 1) := by decide +kernel
theorem i84_31 : xI 84 31 = some (.iadd) := by decide +kernel
theorem i84_32 : xI 84 32 = some (.putfield 81) := by decide +kernel
theorem i84_35 : xI 84 35 = some (.goto (-35)) := by decide +kernel
theorem i84_38 : xI 84 38 = some (.aload_n 0) := by decide +kernel
theorem i84_39 : xI 84 39 = some (.aload_n 0) := by decide +kernel
theorem i84_40 : xI 84 40 = some (.getfield 81) := by decide +kernel
theorem i84_43 : xI 84 43 = some (.putfield 87) := by decide +kernel
theorem i84_46 : xI 84 46 = some (.aload_n 0) := by decide +kernel
theorem i84_47 : xI 84 47 = some (.getfield 81) := by decide +kernel
theorem i84_50 : xI 84 50 = some (.aload_n 0) := by decide +kernel
theorem i84_51 : xI 84 51 = some (.getfield 84) := by decide +kernel
theorem i84_54 : xI 84 54 = some (.if_icmp .ne 11) := by decide +kernel
theorem i84_57 : xI 84 57 = some (.aload_n 0) := by decide +kernel
theorem i84_58 : xI 84 58 = some (.iconst 0) := by decide +kernel
theorem i84_59 : xI 84 59 = some (.putfield 90) := by decide +kernel
theorem i84_62 : xI 84 62 = some (.goto 398) := by decide +kernel
theorem i84_65 : xI 84 65 = some (.aload_n 0) := by decide +kernel
theorem i84_66 : xI 84 66 = some (.getfield 9) := by decide +kernel
theorem i84_69 : xI 84 69 = some (.aload_n 0) := by decide +kernel
theorem i84_70 : xI 84 70 = some (.getfield 81) := by decide +kernel
theorem i84_73 : xI 84 73 = some (.baload) := by decide +kernel
theorem i84_74 : xI 84 74 = some (.invokestatic 93) := by decide +kernel
theorem i84_77 : xI 84 77 = some (.ifCond .eq 126) := by decide +kernel
theorem i84_80 : xI 84 80 = some (.aload_n 0) := by decide +kernel
theorem i84_81 : xI 84 81 = some (.getfield 81) := by decide +kernel
theorem i84_84 : xI 84 84 = some (.aload_n 0) := by decide +kernel
theorem i84_85 : xI 84 85 = some (.getfield 84) := by decide +kernel
theorem i84_88 : xI 84 88 = some (.if_icmp .ge 31) := by decide +kernel
theorem i84_91 : xI 84 91 = some (.aload_n 0) := by decide +kernel
theorem i84_92 : xI 84 92 = some (.getfield 9) := by decide +kernel
theorem i84_95 : xI 84 95 = some (.aload_n 0) := by decide +kernel
theorem i84_96 : xI 84 96 = some (.getfield 81) := by decide +kernel
theorem i84_99 : xI 84 99 = some (.baload) := by decide +kernel
theorem i84_100 : xI 84 100 = some (.invokestatic 93) := by decide +kernel
theorem i84_103 : xI 84 103 = some (.ifCond .eq 16) := by decide +kernel
theorem i84_106 : xI 84 106 = some (.aload_n 0) := by decide +kernel
theorem i84_107 : xI 84 107 = some (.dup) := by decide +kernel
theorem i84_108 : xI 84 108 = some (.getfield 81) := by decide +kernel
theorem i84_111 : xI 84 111 = some (.iconst 1) := by decide +kernel
theorem i84_112 : xI 84 112 = some (.iadd) := by decide +kernel
theorem i84_113 : xI 84 113 = some (.putfield 81) := by decide +kernel
theorem i84_116 : xI 84 116 = some (.goto (-36)) := by decide +kernel
theorem i84_119 : xI 84 119 = some (.aload_n 0) := by decide +kernel
theorem i84_120 : xI 84 120 = some (.aload_n 0) := by decide +kernel
theorem i84_121 : xI 84 121 = some (.getfield 81) := by decide +kernel
theorem i84_124 : xI 84 124 = some (.putfield 97) := by decide +kernel
theorem i84_127 : xI 84 127 = some (.aload_n 0) := by decide +kernel
theorem i84_128 : xI 84 128 = some (.iconst 1) := by decide +kernel
theorem i84_129 : xI 84 129 = some (.putfield 90) := by decide +kernel
theorem i84_132 : xI 84 132 = some (.aload_n 0) := by decide +kernel
theorem i84_133 : xI 84 133 = some (.ldc 100) := by decide +kernel
theorem i84_135 : xI 84 135 = some (.invokevirtual 102) := by decide +kernel
theorem i84_138 : xI 84 138 = some (.ifCond .ne 322) := by decide +kernel
theorem i84_141 : xI 84 141 = some (.aload_n 0) := by decide +kernel
theorem i84_142 : xI 84 142 = some (.ldc 106) := by decide +kernel
theorem i84_144 : xI 84 144 = some (.invokevirtual 102) := by decide +kernel
theorem i84_147 : xI 84 147 = some (.ifCond .ne 313) := by decide +kernel
theorem i84_150 : xI 84 150 = some (.aload_n 0) := by decide +kernel
theorem i84_151 : xI 84 151 = some (.ldc 108) := by decide +kernel
theorem i84_153 : xI 84 153 = some (.invokevirtual 102) := by decide +kernel
theorem i84_156 : xI 84 156 = some (.ifCond .ne 304) := by decide +kernel
theorem i84_159 : xI 84 159 = some (.aload_n 0) := by decide +kernel
theorem i84_160 : xI 84 160 = some (.ldc 110) := by decide +kernel
theorem i84_162 : xI 84 162 = some (.invokevirtual 102) := by decide +kernel
theorem i84_165 : xI 84 165 = some (.ifCond .ne 295) := by decide +kernel
theorem i84_168 : xI 84 168 = some (.aload_n 0) := by decide +kernel
theorem i84_169 : xI 84 169 = some (.ldc 112) := by decide +kernel
theorem i84_171 : xI 84 171 = some (.invokevirtual 102) := by decide +kernel
theorem i84_174 : xI 84 174 = some (.ifCond .ne 286) := by decide +kernel
theorem i84_177 : xI 84 177 = some (.aload_n 0) := by decide +kernel
theorem i84_178 : xI 84 178 = some (.ldc 113) := by decide +kernel
theorem i84_180 : xI 84 180 = some (.invokevirtual 102) := by decide +kernel
theorem i84_183 : xI 84 183 = some (.ifCond .ne 277) := by decide +kernel
theorem i84_186 : xI 84 186 = some (.aload_n 0) := by decide +kernel
theorem i84_187 : xI 84 187 = some (.ldc 114) := by decide +kernel
theorem i84_189 : xI 84 189 = some (.invokevirtual 102) := by decide +kernel
theorem i84_192 : xI 84 192 = some (.ifCond .ne 268) := by decide +kernel
theorem i84_195 : xI 84 195 = some (.aload_n 0) := by decide +kernel
theorem i84_196 : xI 84 196 = some (.iconst 4) := by decide +kernel
theorem i84_197 : xI 84 197 = some (.putfield 90) := by decide +kernel
theorem i84_200 : xI 84 200 = some (.goto 260) := by decide +kernel
theorem i84_203 : xI 84 203 = some (.aload_n 0) := by decide +kernel
theorem i84_204 : xI 84 204 = some (.getfield 9) := by decide +kernel
theorem i84_207 : xI 84 207 = some (.aload_n 0) := by decide +kernel
theorem i84_208 : xI 84 208 = some (.getfield 81) := by decide +kernel
theorem i84_211 : xI 84 211 = some (.baload) := by decide +kernel
theorem i84_212 : xI 84 212 = some (.invokestatic 116) := by decide +kernel
theorem i84_215 : xI 84 215 = some (.ifCond .eq 103) := by decide +kernel
end
section
/-! ===== which instruction stands where (wip/gen/lay16.py) ===== -/
theorem i84_218 : xI 84 218 = some (.aload_n 0) := by decide +kernel
theorem i84_219 : xI 84 219 = some (.lconst 0) := by decide +kernel
theorem i84_220 : xI 84 220 = some (.putfield 119) := by decide +kernel
theorem i84_223 : xI 84 223 = some (.aload_n 0) := by decide +kernel
theorem i84_224 : xI 84 224 = some (.getfield 81) := by decide +kernel
theorem i84_227 : xI 84 227 = some (.aload_n 0) := by decide +kernel
theorem i84_228 : xI 84 228 = some (.getfield 84) := by decide +kernel
theorem i84_231 : xI 84 231 = some (.if_icmp .ge 64) := by decide +kernel
theorem i84_234 : xI 84 234 = some (.aload_n 0) := by decide +kernel
theorem i84_235 : xI 84 235 = some (.getfield 9) := by decide +kernel
theorem i84_238 : xI 84 238 = some (.aload_n 0) := by decide +kernel
theorem i84_239 : xI 84 239 = some (.getfield 81) := by decide +kernel
theorem i84_242 : xI 84 242 = some (.baload) := by decide +kernel
theorem i84_243 : xI 84 243 = some (.invokestatic 116) := by decide +kernel
theorem i84_246 : xI 84 246 = some (.ifCond .eq 49) := by decide +kernel
theorem i84_249 : xI 84 249 = some (.aload_n 0) := by decide +kernel
theorem i84_250 : xI 84 250 = some (.ldc2_w 123) := by decide +kernel
theorem i84_253 : xI 84 253 = some (.ldc2_w 125) := by decide +kernel
theorem i84_256 : xI 84 256 = some (.aload_n 0) := by decide +kernel
theorem i84_257 : xI 84 257 = some (.getfield 119) := by decide +kernel
theorem i84_260 : xI 84 260 = some (.lmul) := by decide +kernel
theorem i84_261 : xI 84 261 = some (.aload_n 0) := by decide +kernel
theorem i84_262 : xI 84 262 = some (.getfield 9) := by decide +kernel
theorem i84_265 : xI 84 265 = some (.aload_n 0) := by decide +kernel
theorem i84_266 : xI 84 266 = some (.getfield 81) := by decide +kernel
theorem i84_269 : xI 84 269 = some (.baload) := by decide +kernel
theorem i84_270 : xI 84 270 = some (.i2l) := by decide +kernel
theorem i84_271 : xI 84 271 = some (.ladd) := by decide +kernel
theorem i84_272 : xI 84 272 = some (.ldc2_w 127) := by decide +kernel
theorem i84_275 : xI 84 275 = some (.lsub) := by decide +kernel
theorem i84_276 : xI 84 276 = some (.invokestatic 129) := by decide +kernel
theorem i84_279 : xI 84 279 = some (.putfield 119) := by decide +kernel
theorem i84_282 : xI 84 282 = some (.aload_n 0) := by decide +kernel
theorem i84_283 : xI 84 283 = some (.dup) := by decide +kernel
theorem i84_284 : xI 84 284 = some (.getfield 81) := by decide +kernel
theorem i84_287 : xI 84 287 = some (.iconst 1) := by decide +kernel
theorem i84_288 : xI 84 288 = some (.iadd) := by decide +kernel
theorem i84_289 : xI 84 289 = some (.putfield 81) := by decide +kernel
theorem i84_292 : xI 84 292 = some (.goto (-69)) := by decide +kernel
theorem i84_295 : xI 84 295 = some (.aload_n 0) := by decide +kernel
theorem i84_296 : xI 84 296 = some (.aload_n 0) := by decide +kernel
theorem i84_297 : xI 84 297 = some (.getfield 119) := by decide +kernel
theorem i84_300 : xI 84 300 = some (.ldc2_w 137) := by decide +kernel
theorem i84_303 : xI 84 303 = some (.lcmp) := by decide +kernel
theorem i84_304 : xI 84 304 = some (.ifCond .gt 7) := by decide +kernel
theorem i84_307 : xI 84 307 = some (.iconst 2) := by decide +kernel
theorem i84_308 : xI 84 308 = some (.goto 4) := by decide +kernel
theorem i84_311 : xI 84 311 = some (.iconst 4) := by decide +kernel
theorem i84_312 : xI 84 312 = some (.putfield 90) := by decide +kernel
theorem i84_315 : xI 84 315 = some (.goto 145) := by decide +kernel
theorem i84_318 : xI 84 318 = some (.aload_n 0) := by decide +kernel
theorem i84_319 : xI 84 319 = some (.getfield 9) := by decide +kernel
theorem i84_322 : xI 84 322 = some (.aload_n 0) := by decide +kernel
theorem i84_323 : xI 84 323 = some (.getfield 81) := by decide +kernel
theorem i84_326 : xI 84 326 = some (.baload) := by decide +kernel
theorem i84_327 : xI 84 327 = some (.istore_n 1) := by decide +kernel
theorem i84_328 : xI 84 328 = some (.iload_n 1) := by decide +kernel
theorem i84_329 : xI 84 329 = some (.bipush 58) := by decide +kernel
theorem i84_331 : xI 84 331 = some (.if_icmp .ne 36) := by decide +kernel
theorem i84_334 : xI 84 334 = some (.aload_n 0) := by decide +kernel
theorem i84_335 : xI 84 335 = some (.getfield 81) := by decide +kernel
theorem i84_338 : xI 84 338 = some (.iconst 1) := by decide +kernel
theorem i84_339 : xI 84 339 = some (.iadd) := by decide +kernel
theorem i84_340 : xI 84 340 = some (.aload_n 0) := by decide +kernel
theorem i84_341 : xI 84 341 = some (.getfield 84) := by decide +kernel
theorem i84_344 : xI 84 344 = some (.if_icmp .ge 23) := by decide +kernel
theorem i84_347 : xI 84 347 = some (.aload_n 0) := by decide +kernel
theorem i84_348 : xI 84 348 = some (.getfield 9) := by decide +kernel
theorem i84_351 : xI 84 351 = some (.aload_n 0) := by decide +kernel
theorem i84_352 : xI 84 352 = some (.getfield 81) := by decide +kernel
theorem i84_355 : xI 84 355 = some (.iconst 1) := by decide +kernel
theorem i84_356 : xI 84 356 = some (.iadd) := by decide +kernel
theorem i84_357 : xI 84 357 = some (.baload) := by decide +kernel
theorem i84_358 : xI 84 358 = some (.bipush 61) := by decide +kernel
theorem i84_360 : xI 84 360 = some (.if_icmp .ne 7) := by decide +kernel
theorem i84_363 : xI 84 363 = some (.iconst 1) := by decide +kernel
theorem i84_364 : xI 84 364 = some (.goto 4) := by decide +kernel
theorem i84_367 : xI 84 367 = some (.iconst 0) := by decide +kernel
theorem i84_368 : xI 84 368 = some (.istore_n 2) := by decide +kernel
theorem i84_369 : xI 84 369 = some (.aload_n 0) := by decide +kernel
theorem i84_370 : xI 84 370 = some (.iload_n 2) := by decide +kernel
theorem i84_371 : xI 84 371 = some (.ifCond .ne 63) := by decide +kernel
theorem i84_374 : xI 84 374 = some (.iload_n 1) := by decide +kernel
theorem i84_375 : xI 84 375 = some (.bipush 61) := by decide +kernel
theorem i84_377 : xI 84 377 = some (.if_icmp .eq 57) := by decide +kernel
theorem i84_380 : xI 84 380 = some (.iload_n 1) := by decide +kernel
theorem i84_381 : xI 84 381 = some (.bipush 35) := by decide +kernel
theorem i84_383 : xI 84 383 = some (.if_icmp .eq 51) := by decide +kernel
theorem i84_386 : xI 84 386 = some (.iload_n 1) := by decide +kernel
theorem i84_387 : xI 84 387 = some (.bipush 60) := by decide +kernel
theorem i84_389 : xI 84 389 = some (.if_icmp .eq 45) := by decide +kernel
theorem i84_392 : xI 84 392 = some (.iload_n 1) := by decide +kernel
theorem i84_393 : xI 84 393 = some (.bipush 62) := by decide +kernel
theorem i84_395 : xI 84 395 = some (.if_icmp .eq 39) := by decide +kernel
theorem i84_398 : xI 84 398 = some (.iload_n 1) := by decide +kernel
theorem i84_399 : xI 84 399 = some (.bipush 43) := by decide +kernel
theorem i84_401 : xI 84 401 = some (.if_icmp .eq 33) := by decide +kernel
theorem i84_404 : xI 84 404 = some (.iload_n 1) := by decide +kernel
theorem i84_405 : xI 84 405 = some (.bipush 45) := by decide +kernel
theorem i84_407 : xI 84 407 = some (.if_icmp .eq 27) := by decide +kernel
theorem i84_410 : xI 84 410 = some (.iload_n 1) := by decide +kernel
theorem i84_411 : xI 84 411 = some (.bipush 42) := by decide +kernel
theorem i84_413 : xI 84 413 = some (.if_icmp .eq 21) := by decide +kernel
theorem i84_416 : xI 84 416 = some (.iload_n 1) := by decide +kernel
theorem i84_417 : xI 84 417 = some (.bipush 44) := by decide +kernel
theorem i84_419 : xI 84 419 = some (.if_icmp .eq 15) := by decide +kernel
theorem i84_422 : xI 84 422 = some (.iload_n 1) := by decide +kernel
theorem i84_423 : xI 84 423 = some (.bipush 40) := by decide +kernel
theorem i84_425 : xI 84 425 = some (.if_icmp .eq 9) := by decide +kernel
theorem i84_428 : xI 84 428 = some (.iload_n 1) := by decide +kernel
theorem i84_429 : xI 84 429 = some (.bipush 41) := by decide +kernel
theorem i84_431 : xI 84 431 = some (.if_icmp .ne 7) := by decide +kernel
theorem i84_434 : xI 84 434 = some (.iconst 3) := by decide +kernel
theorem i84_435 : xI 84 435 = some (.goto 4) := by decide +kernel
theorem i84_438 : xI 84 438 = some (.iconst 4) := by decide +kernel
theorem i84_439 : xI 84 439 = some (.putfield 90) := by decide +kernel
theorem i84_442 : xI 84 442 = some (.aload_n 0) := by decide +kernel
theorem i84_443 : xI 84 443 = some (.dup) := by decide +kernel
theorem i84_444 : xI 84 444 = some (.getfield 81) := by decide +kernel
theorem i84_447 : xI 84 447 = some (.iload_n 2) := by decide +kernel
theorem i84_448 : xI 84 448 = some (.ifCond .eq 7) := by decide +kernel
theorem i84_451 : xI 84 451 = some (.iconst 2) := by decide +kernel
theorem i84_452 : xI 84 452 = some (.goto 4) := by decide +kernel
theorem i84_455 : xI 84 455 = some (.iconst 1) := by decide +kernel
theorem i84_456 : xI 84 456 = some (.iadd) := by decide +kernel
theorem i84_457 : xI 84 457 = some (.putfield 81) := by decide +kernel
theorem i84_460 : xI 84 460 = some (.aload_n 0) := by decide +kernel
theorem i84_461 : xI 84 461 = some (.aload_n 0) := by decide +kernel
theorem i84_462 : xI 84 462 = some (.getfield 81) := by decide +kernel
theorem i84_465 : xI 84 465 = some (.putfield 97) := by decide +kernel
theorem i84_468 : xI 84 468 = some (.return_) := by decide +kernel
-- 85 M_isLetter
theorem i85_0 : xI 85 0 = some (.iload_n 0) := by decide +kernel
theorem i85_1 : xI 85 1 = some (.bipush 97) := by decide +kernel
theorem i85_3 : xI 85 3 = some (.if_icmp .lt 13) := by decide +kernel
theorem i85_6 : xI 85 6 = some (.iload_n 0) := by decide +kernel
theorem i85_7 : xI 85 7 = some (.bipush 122) := by decide +kernel
theorem i85_9 : xI 85 9 = some (.if_icmp .gt 7) := by decide +kernel
theorem i85_12 : xI 85 12 = some (.iconst 1) := by decide +kernel
theorem i85_13 : xI 85 13 = some (.goto 4) := by decide +kernel
theorem i85_16 : xI 85 16 = some (.iconst 0) := by decide +kernel
theorem i85_17 : xI 85 17 = some (.ireturn) := by decide +kernel
-- 86 M_is
theorem i86_0 : xI 86 0 = some (.aload_n 0) := by decide +kernel
theorem i86_1 : xI 86 1 = some (.getfield 90) := by decide +kernel
theorem i86_4 : xI 86 4 = some (.iconst 1) := by decide +kernel
theorem i86_5 : xI 86 5 = some (.if_icmp .eq 11) := by decide +kernel
theorem i86_8 : xI 86 8 = some (.aload_n 0) := by decide +kernel
theorem i86_9 : xI 86 9 = some (.getfield 90) := by decide +kernel
theorem i86_12 : xI 86 12 = some (.iconst 3) := by decide +kernel
theorem i86_13 : xI 86 13 = some (.if_icmp .ne 19) := by decide +kernel
theorem i86_16 : xI 86 16 = some (.aload_n 0) := by decide +kernel
theorem i86_17 : xI 86 17 = some (.getfield 97) := by decide +kernel
theorem i86_20 : xI 86 20 = some (.aload_n 0) := by decide +kernel
theorem i86_21 : xI 86 21 = some (.getfield 87) := by decide +kernel
theorem i86_24 : xI 86 24 = some (.isub) := by decide +kernel
theorem i86_25 : xI 86 25 = some (.aload_n 1) := by decide +kernel
theorem i86_26 : xI 86 26 = some (.invokevirtual 139) := by decide +kernel
theorem i86_29 : xI 86 29 = some (.if_icmp .eq 5) := by decide +kernel
theorem i86_32 : xI 86 32 = some (.iconst 0) := by decide +kernel
theorem i86_33 : xI 86 33 = some (.ireturn) := by decide +kernel
theorem i86_34 : xI 86 34 = some (.iconst 0) := by decide +kernel
theorem i86_35 : xI 86 35 = some (.istore_n 2) := by decide +kernel
theorem i86_36 : xI 86 36 = some (.iload_n 2) := by decide +kernel
theorem i86_37 : xI 86 37 = some (.aload_n 1) := by decide +kernel
theorem i86_38 : xI 86 38 = some (.invokevirtual 139) := by decide +kernel
theorem i86_41 : xI 86 41 = some (.if_icmp .ge 30) := by decide +kernel
theorem i86_44 : xI 86 44 = some (.aload_n 0) := by decide +kernel
theorem i86_45 : xI 86 45 = some (.getfield 9) := by decide +kernel
theorem i86_48 : xI 86 48 = some (.aload_n 0) := by decide +kernel
theorem i86_49 : xI 86 49 = some (.getfield 87) := by decide +kernel
theorem i86_52 : xI 86 52 = some (.iload_n 2) := by decide +kernel
theorem i86_53 : xI 86 53 = some (.iadd) := by decide +kernel
theorem i86_54 : xI 86 54 = some (.baload) := by decide +kernel
theorem i86_55 : xI 86 55 = some (.aload_n 1) := by decide +kernel
theorem i86_56 : xI 86 56 = some (.iload_n 2) := by decide +kernel
theorem i86_57 : xI 86 57 = some (.invokevirtual 145) := by decide +kernel
theorem i86_60 : xI 86 60 = some (.if_icmp .eq 5) := by decide +kernel
theorem i86_63 : xI 86 63 = some (.iconst 0) := by decide +kernel
theorem i86_64 : xI 86 64 = some (.ireturn) := by decide +kernel
theorem i86_65 : xI 86 65 = some (.iinc 2 1) := by decide +kernel
theorem i86_68 : xI 86 68 = some (.goto (-32)) := by decide +kernel
theorem i86_71 : xI 86 71 = some (.iconst 1) := by decide +kernel
theorem i86_72 : xI 86 72 = some (.ireturn) := by decide +kernel
-- 87 M_isDigit
theorem i87_0 : xI 87 0 = some (.iload_n 0) := by decide +kernel
theorem i87_1 : xI 87 1 = some (.bipush 48) := by decide +kernel
theorem i87_3 : xI 87 3 = some (.if_icmp .lt 13) := by decide +kernel
theorem i87_6 : xI 87 6 = some (.iload_n 0) := by decide +kernel
theorem i87_7 : xI 87 7 = some (.bipush 57) := by decide +kernel
theorem i87_9 : xI 87 9 = some (.if_icmp .gt 7) := by decide +kernel
theorem i87_12 : xI 87 12 = some (.iconst 1) := by decide +kernel
theorem i87_13 : xI 87 13 = some (.goto 4) := by decide +kernel
theorem i87_16 : xI 87 16 = some (.iconst 0) := by decide +kernel
theorem i87_17 : xI 87 17 = some (.ireturn) := by decide +kernel
-- 88 M_rule
theorem i88_0 : xI 88 0 = some (.aload_n 0) := by decide +kernel
theorem i88_1 : xI 88 1 = some (.getfield 55) := by decide +kernel
theorem i88_4 : xI 88 4 = some (.iconst 0) := by decide +kernel
theorem i88_5 : xI 88 5 = some (.iaload) := by decide +kernel
theorem i88_6 : xI 88 6 = some (.bipush 6) := by decide +kernel
theorem i88_8 : xI 88 8 = some (.if_icmp .ne 8) := by decide +kernel
theorem i88_11 : xI 88 11 = some (.aload_n 0) := by decide +kernel
theorem i88_12 : xI 88 12 = some (.invokevirtual 152) := by decide +kernel
theorem i88_15 : xI 88 15 = some (.ireturn) := by decide +kernel
theorem i88_16 : xI 88 16 = some (.aload_n 0) := by decide +kernel
theorem i88_17 : xI 88 17 = some (.getfield 55) := by decide +kernel
theorem i88_20 : xI 88 20 = some (.iconst 0) := by decide +kernel
theorem i88_21 : xI 88 21 = some (.dup2) := by decide +kernel
theorem i88_22 : xI 88 22 = some (.iaload) := by decide +kernel
theorem i88_23 : xI 88 23 = some (.iconst 1) := by decide +kernel
theorem i88_24 : xI 88 24 = some (.iadd) := by decide +kernel
theorem i88_25 : xI 88 25 = some (.iastore) := by decide +kernel
theorem i88_26 : xI 88 26 = some (.aload_n 0) := by decide +kernel
theorem i88_27 : xI 88 27 = some (.getfield 55) := by decide +kernel
theorem i88_30 : xI 88 30 = some (.aload_n 0) := by decide +kernel
theorem i88_31 : xI 88 31 = some (.getfield 55) := by decide +kernel
theorem i88_34 : xI 88 34 = some (.iconst 0) := by decide +kernel
theorem i88_35 : xI 88 35 = some (.iaload) := by decide +kernel
theorem i88_36 : xI 88 36 = some (.aload_n 0) := by decide +kernel
theorem i88_37 : xI 88 37 = some (.getfield 159) := by decide +kernel
theorem i88_40 : xI 88 40 = some (.iastore) := by decide +kernel
theorem i88_41 : xI 88 41 = some (.aload_n 0) := by decide +kernel
theorem i88_42 : xI 88 42 = some (.getfield 159) := by decide +kernel
theorem i88_45 : xI 88 45 = some (.istore_n 1) := by decide +kernel
theorem i88_46 : xI 88 46 = some (.aload_n 0) := by decide +kernel
theorem i88_47 : xI 88 47 = some (.iconst (-1)) := by decide +kernel
theorem i88_48 : xI 88 48 = some (.invokevirtual 177) := by decide +kernel
theorem i88_51 : xI 88 51 = some (.aload_n 0) := by decide +kernel
theorem i88_52 : xI 88 52 = some (.ldc 100) := by decide +kernel
theorem i88_54 : xI 88 54 = some (.invokevirtual 102) := by decide +kernel
theorem i88_57 : xI 88 57 = some (.ifCond .eq 53) := by decide +kernel
theorem i88_60 : xI 88 60 = some (.aload_n 0) := by decide +kernel
theorem i88_61 : xI 88 61 = some (.getfield 55) := by decide +kernel
theorem i88_64 : xI 88 64 = some (.iload_n 1) := by decide +kernel
theorem i88_65 : xI 88 65 = some (.iconst 0) := by decide +kernel
theorem i88_66 : xI 88 66 = some (.iastore) := by decide +kernel
theorem i88_67 : xI 88 67 = some (.aload_n 0) := by decide +kernel
theorem i88_68 : xI 88 68 = some (.invokevirtual 156) := by decide +kernel
theorem i88_71 : xI 88 71 = some (.aload_n 0) := by decide +kernel
theorem i88_72 : xI 88 72 = some (.getfield 55) := by decide +kernel
theorem i88_75 : xI 88 75 = some (.iload_n 1) := by decide +kernel
theorem i88_76 : xI 88 76 = some (.dup2) := by decide +kernel
theorem i88_77 : xI 88 77 = some (.iaload) := by decide +kernel
theorem i88_78 : xI 88 78 = some (.iconst 1) := by decide +kernel
theorem i88_79 : xI 88 79 = some (.iadd) := by decide +kernel
theorem i88_80 : xI 88 80 = some (.iastore) := by decide +kernel
theorem i88_81 : xI 88 81 = some (.aload_n 0) := by decide +kernel
theorem i88_82 : xI 88 82 = some (.invokevirtual 181) := by decide +kernel
theorem i88_85 : xI 88 85 = some (.ifCond .ne 5) := by decide +kernel
theorem i88_88 : xI 88 88 = some (.iconst 0) := by decide +kernel
theorem i88_89 : xI 88 89 = some (.ireturn) := by decide +kernel
theorem i88_90 : xI 88 90 = some (.aload_n 0) := by decide +kernel
theorem i88_91 : xI 88 91 = some (.ldc 110) := by decide +kernel
theorem i88_93 : xI 88 93 = some (.invokevirtual 102) := by decide +kernel
theorem i88_96 : xI 88 96 = some (.ifCond .ne (-29)) := by decide +kernel
theorem i88_99 : xI 88 99 = some (.aload_n 0) := by decide +kernel
theorem i88_100 : xI 88 100 = some (.ldc 106) := by decide +kernel
theorem i88_102 : xI 88 102 = some (.invokevirtual 184) := by decide +kernel
theorem i88_105 : xI 88 105 = some (.ifCond .ne 5) := by decide +kernel
theorem i88_108 : xI 88 108 = some (.iconst 0) := by decide +kernel
theorem i88_109 : xI 88 109 = some (.ireturn) := by decide +kernel
theorem i88_110 : xI 88 110 = some (.aload_n 0) := by decide +kernel
theorem i88_111 : xI 88 111 = some (.getfield 159) := by decide +kernel
theorem i88_114 : xI 88 114 = some (.istore_n 2) := by decide +kernel
theorem i88_115 : xI 88 115 = some (.aload_n 0) := by decide +kernel
theorem i88_116 : xI 88 116 = some (.iconst 0) := by decide +kernel
theorem i88_117 : xI 88 117 = some (.invokevirtual 177) := by decide +kernel
theorem i88_120 : xI 88 120 = some (.iconst 1) := by decide +kernel
theorem i88_121 : xI 88 121 = some (.istore_n 3) := by decide +kernel
theorem i88_122 : xI 88 122 = some (.iload_n 3) := by decide +kernel
theorem i88_123 : xI 88 123 = some (.ifCond .eq 72) := by decide +kernel
theorem i88_126 : xI 88 126 = some (.aload_n 0) := by decide +kernel
theorem i88_127 : xI 88 127 = some (.getfield 55) := by decide +kernel
theorem i88_130 : xI 88 130 = some (.iload_n 2) := by decide +kernel
theorem i88_131 : xI 88 131 = some (.iaload) := by decide +kernel
theorem i88_132 : xI 88 132 = some (.bipush 8) := by decide +kernel
theorem i88_134 : xI 88 134 = some (.if_icmp .ne 8) := by decide +kernel
theorem i88_137 : xI 88 137 = some (.aload_n 0) := by decide +kernel
theorem i88_138 : xI 88 138 = some (.invokevirtual 152) := by decide +kernel
theorem i88_141 : xI 88 141 = some (.ireturn) := by decide +kernel
theorem i88_142 : xI 88 142 = some (.aload_n 0) := by decide +kernel
theorem i88_143 : xI 88 143 = some (.getfield 55) := by decide +kernel
theorem i88_146 : xI 88 146 = some (.iload_n 2) := by decide +kernel
theorem i88_147 : xI 88 147 = some (.dup2) := by decide +kernel
theorem i88_148 : xI 88 148 = some (.iaload) := by decide +kernel
theorem i88_149 : xI 88 149 = some (.iconst 1) := by decide +kernel
theorem i88_150 : xI 88 150 = some (.iadd) := by decide +kernel
theorem i88_151 : xI 88 151 = some (.iastore) := by decide +kernel
theorem i88_152 : xI 88 152 = some (.aload_n 0) := by decide +kernel
theorem i88_153 : xI 88 153 = some (.invokevirtual 187) := by decide +kernel
theorem i88_156 : xI 88 156 = some (.ifCond .eq 19) := by decide +kernel
theorem i88_159 : xI 88 159 = some (.aload_n 0) := by decide +kernel
theorem i88_160 : xI 88 160 = some (.ldc 190) := by decide +kernel
theorem i88_162 : xI 88 162 = some (.invokevirtual 184) := by decide +kernel
theorem i88_165 : xI 88 165 = some (.ifCond .eq 10) := by decide +kernel
theorem i88_168 : xI 88 168 = some (.aload_n 0) := by decide +kernel
theorem i88_169 : xI 88 169 = some (.invokevirtual 192) := by decide +kernel
theorem i88_172 : xI 88 172 = some (.ifCond .ne 5) := by decide +kernel
theorem i88_175 : xI 88 175 = some (.iconst 0) := by decide +kernel
theorem i88_176 : xI 88 176 = some (.ireturn) := by decide +kernel
theorem i88_177 : xI 88 177 = some (.aload_n 0) := by decide +kernel
theorem i88_178 : xI 88 178 = some (.ldc 195) := by decide +kernel
theorem i88_180 : xI 88 180 = some (.invokevirtual 102) := by decide +kernel
theorem i88_183 : xI 88 183 = some (.istore_n 3) := by decide +kernel
theorem i88_184 : xI 88 184 = some (.iload_n 3) := by decide +kernel
theorem i88_185 : xI 88 185 = some (.ifCond .eq (-63)) := by decide +kernel
theorem i88_188 : xI 88 188 = some (.aload_n 0) := by decide +kernel
theorem i88_189 : xI 88 189 = some (.invokevirtual 156) := by decide +kernel
theorem i88_192 : xI 88 192 = some (.goto (-70)) := by decide +kernel
theorem i88_195 : xI 88 195 = some (.iconst 1) := by decide +kernel
theorem i88_196 : xI 88 196 = some (.ireturn) := by decide +kernel
-- 89 M_bad
theorem i89_0 : xI 89 0 = some (.aload_n 0) := by decide +kernel
theorem i89_1 : xI 89 1 = some (.getfield 149) := by decide +kernel
theorem i89_4 : xI 89 4 = some (.ifCond .ge 11) := by decide +kernel
theorem i89_7 : xI 89 7 = some (.aload_n 0) := by decide +kernel
theorem i89_8 : xI 89 8 = some (.aload_n 0) := by decide +kernel
theorem i89_9 : xI 89 9 = some (.getfield 87) := by decide +kernel
theorem i89_12 : xI 89 12 = some (.putfield 149) := by decide +kernel
theorem i89_15 : xI 89 15 = some (.iconst 0) := by decide +kernel
theorem i89_16 : xI 89 16 = some (.ireturn) := by decide +kernel
-- 90 M_put
theorem i90_0 : xI 90 0 = some (.aload_n 0) := by decide +kernel
theorem i90_1 : xI 90 1 = some (.getfield 55) := by decide +kernel
theorem i90_4 : xI 90 4 = some (.aload_n 0) := by decide +kernel
theorem i90_5 : xI 90 5 = some (.getfield 159) := by decide +kernel
theorem i90_8 : xI 90 8 = some (.iload_n 1) := by decide +kernel
theorem i90_9 : xI 90 9 = some (.iastore) := by decide +kernel
theorem i90_10 : xI 90 10 = some (.aload_n 0) := by decide +kernel
theorem i90_11 : xI 90 11 = some (.dup) := by decide +kernel
theorem i90_12 : xI 90 12 = some (.getfield 159) := by decide +kernel
theorem i90_15 : xI 90 15 = some (.iconst 1) := by decide +kernel
theorem i90_16 : xI 90 16 = some (.iadd) := by decide +kernel
theorem i90_17 : xI 90 17 = some (.putfield 159) := by decide +kernel
theorem i90_20 : xI 90 20 = some (.return_) := by decide +kernel
-- 91 M_compare
theorem i91_0 : xI 91 0 = some (.aload_n 0) := by decide +kernel
theorem i91_1 : xI 91 1 = some (.getfield 159) := by decide +kernel
theorem i91_4 : xI 91 4 = some (.istore_n 1) := by decide +kernel
theorem i91_5 : xI 91 5 = some (.aload_n 0) := by decide +kernel
theorem i91_6 : xI 91 6 = some (.iconst 0) := by decide +kernel
theorem i91_7 : xI 91 7 = some (.invokevirtual 177) := by decide +kernel
theorem i91_10 : xI 91 10 = some (.aload_n 0) := by decide +kernel
theorem i91_11 : xI 91 11 = some (.invokevirtual 192) := by decide +kernel
theorem i91_14 : xI 91 14 = some (.ifCond .ne 5) := by decide +kernel
theorem i91_17 : xI 91 17 = some (.iconst 0) := by decide +kernel
theorem i91_18 : xI 91 18 = some (.ireturn) := by decide +kernel
theorem i91_19 : xI 91 19 = some (.aload_n 0) := by decide +kernel
theorem i91_20 : xI 91 20 = some (.ldc 199) := by decide +kernel
theorem i91_22 : xI 91 22 = some (.invokevirtual 102) := by decide +kernel
theorem i91_25 : xI 91 25 = some (.ifCond .ne 35) := by decide +kernel
theorem i91_28 : xI 91 28 = some (.aload_n 0) := by decide +kernel
theorem i91_29 : xI 91 29 = some (.ldc 201) := by decide +kernel
theorem i91_31 : xI 91 31 = some (.invokevirtual 102) := by decide +kernel
theorem i91_34 : xI 91 34 = some (.ifCond .ne 26) := by decide +kernel
theorem i91_37 : xI 91 37 = some (.aload_n 0) := by decide +kernel
theorem i91_38 : xI 91 38 = some (.ldc 203) := by decide +kernel
theorem i91_40 : xI 91 40 = some (.invokevirtual 102) := by decide +kernel
theorem i91_43 : xI 91 43 = some (.ifCond .ne 17) := by decide +kernel
theorem i91_46 : xI 91 46 = some (.aload_n 0) := by decide +kernel
theorem i91_47 : xI 91 47 = some (.ldc 205) := by decide +kernel
theorem i91_49 : xI 91 49 = some (.invokevirtual 102) := by decide +kernel
theorem i91_52 : xI 91 52 = some (.ifCond .ne 8) := by decide +kernel
theorem i91_55 : xI 91 55 = some (.aload_n 0) := by decide +kernel
theorem i91_56 : xI 91 56 = some (.invokevirtual 152) := by decide +kernel
theorem i91_59 : xI 91 59 = some (.ireturn) := by decide +kernel
theorem i91_60 : xI 91 60 = some (.aload_n 0) := by decide +kernel
theorem i91_61 : xI 91 61 = some (.getfield 55) := by decide +kernel
theorem i91_64 : xI 91 64 = some (.iload_n 1) := by decide +kernel
theorem i91_65 : xI 91 65 = some (.aload_n 0) := by decide +kernel
theorem i91_66 : xI 91 66 = some (.getfield 9) := by decide +kernel
theorem i91_69 : xI 91 69 = some (.aload_n 0) := by decide +kernel
theorem i91_70 : xI 91 70 = some (.getfield 87) := by decide +kernel
theorem i91_73 : xI 91 73 = some (.baload) := by decide +kernel
theorem i91_74 : xI 91 74 = some (.iastore) := by decide +kernel
theorem i91_75 : xI 91 75 = some (.aload_n 0) := by decide +kernel
theorem i91_76 : xI 91 76 = some (.invokevirtual 156) := by decide +kernel
theorem i91_79 : xI 91 79 = some (.aload_n 0) := by decide +kernel
theorem i91_80 : xI 91 80 = some (.invokevirtual 192) := by decide +kernel
theorem i91_83 : xI 91 83 = some (.ireturn) := by decide +kernel
-- 92 M_whole
theorem i92_0 : xI 92 0 = some (.aload_n 0) := by decide +kernel
theorem i92_1 : xI 92 1 = some (.iconst 0) := by decide +kernel
theorem i92_2 : xI 92 2 = some (.invokevirtual 207) := by decide +kernel
theorem i92_5 : xI 92 5 = some (.ifCond .ne 5) := by decide +kernel
theorem i92_8 : xI 92 8 = some (.iconst 0) := by decide +kernel
theorem i92_9 : xI 92 9 = some (.ireturn) := by decide +kernel
theorem i92_10 : xI 92 10 = some (.aload_n 0) := by decide +kernel
theorem i92_11 : xI 92 11 = some (.bipush 7) := by decide +kernel
theorem i92_13 : xI 92 13 = some (.invokevirtual 177) := by decide +kernel
theorem i92_16 : xI 92 16 = some (.iconst 1) := by decide +kernel
theorem i92_17 : xI 92 17 = some (.ireturn) := by decide +kernel
-- 93 M_sum
theorem i93_0 : xI 93 0 = some (.aload_n 0) := by decide +kernel
theorem i93_1 : xI 93 1 = some (.iload_n 1) := by decide +kernel
theorem i93_2 : xI 93 2 = some (.invokevirtual 210) := by decide +kernel
theorem i93_5 : xI 93 5 = some (.ifCond .ne 5) := by decide +kernel
theorem i93_8 : xI 93 8 = some (.iconst 0) := by decide +kernel
theorem i93_9 : xI 93 9 = some (.ireturn) := by decide +kernel
theorem i93_10 : xI 93 10 = some (.aload_n 0) := by decide +kernel
theorem i93_11 : xI 93 11 = some (.ldc 213) := by decide +kernel
theorem i93_13 : xI 93 13 = some (.invokevirtual 102) := by decide +kernel
theorem i93_16 : xI 93 16 = some (.ifCond .ne 12) := by decide +kernel
theorem i93_19 : xI 93 19 = some (.aload_n 0) := by decide +kernel
theorem i93_20 : xI 93 20 = some (.ldc 215) := by decide +kernel
theorem i93_22 : xI 93 22 = some (.invokevirtual 102) := by decide +kernel
theorem i93_25 : xI 93 25 = some (.ifCond .eq 40) := by decide +kernel
theorem i93_28 : xI 93 28 = some (.aload_n 0) := by decide +kernel
theorem i93_29 : xI 93 29 = some (.ldc 213) := by decide +kernel
theorem i93_31 : xI 93 31 = some (.invokevirtual 102) := by decide +kernel
theorem i93_34 : xI 93 34 = some (.ifCond .eq 7) := by decide +kernel
theorem i93_37 : xI 93 37 = some (.iconst 4) := by decide +kernel
theorem i93_38 : xI 93 38 = some (.goto 4) := by decide +kernel
theorem i93_41 : xI 93 41 = some (.iconst 5) := by decide +kernel
theorem i93_42 : xI 93 42 = some (.istore_n 2) := by decide +kernel
theorem i93_43 : xI 93 43 = some (.aload_n 0) := by decide +kernel
theorem i93_44 : xI 93 44 = some (.invokevirtual 156) := by decide +kernel
theorem i93_47 : xI 93 47 = some (.aload_n 0) := by decide +kernel
theorem i93_48 : xI 93 48 = some (.iload_n 1) := by decide +kernel
theorem i93_49 : xI 93 49 = some (.invokevirtual 210) := by decide +kernel
theorem i93_52 : xI 93 52 = some (.ifCond .ne 5) := by decide +kernel
theorem i93_55 : xI 93 55 = some (.iconst 0) := by decide +kernel
theorem i93_56 : xI 93 56 = some (.ireturn) := by decide +kernel
theorem i93_57 : xI 93 57 = some (.aload_n 0) := by decide +kernel
theorem i93_58 : xI 93 58 = some (.iload_n 2) := by decide +kernel
theorem i93_59 : xI 93 59 = some (.invokevirtual 177) := by decide +kernel
theorem i93_62 : xI 93 62 = some (.goto (-52)) := by decide +kernel
theorem i93_65 : xI 93 65 = some (.iconst 1) := by decide +kernel
theorem i93_66 : xI 93 66 = some (.ireturn) := by decide +kernel
-- 94 M_term
theorem i94_0 : xI 94 0 = some (.aload_n 0) := by decide +kernel
theorem i94_1 : xI 94 1 = some (.iload_n 1) := by decide +kernel
theorem i94_2 : xI 94 2 = some (.invokevirtual 217) := by decide +kernel
theorem i94_5 : xI 94 5 = some (.ifCond .ne 5) := by decide +kernel
theorem i94_8 : xI 94 8 = some (.iconst 0) := by decide +kernel
theorem i94_9 : xI 94 9 = some (.ireturn) := by decide +kernel
theorem i94_10 : xI 94 10 = some (.aload_n 0) := by decide +kernel
theorem i94_11 : xI 94 11 = some (.ldc 220) := by decide +kernel
theorem i94_13 : xI 94 13 = some (.invokevirtual 102) := by decide +kernel
theorem i94_16 : xI 94 16 = some (.ifCond .eq 26) := by decide +kernel
theorem i94_19 : xI 94 19 = some (.aload_n 0) := by decide +kernel
theorem i94_20 : xI 94 20 = some (.invokevirtual 156) := by decide +kernel
theorem i94_23 : xI 94 23 = some (.aload_n 0) := by decide +kernel
theorem i94_24 : xI 94 24 = some (.iload_n 1) := by decide +kernel
theorem i94_25 : xI 94 25 = some (.invokevirtual 217) := by decide +kernel
theorem i94_28 : xI 94 28 = some (.ifCond .ne 5) := by decide +kernel
theorem i94_31 : xI 94 31 = some (.iconst 0) := by decide +kernel
theorem i94_32 : xI 94 32 = some (.ireturn) := by decide +kernel
theorem i94_33 : xI 94 33 = some (.aload_n 0) := by decide +kernel
theorem i94_34 : xI 94 34 = some (.bipush 6) := by decide +kernel
theorem i94_36 : xI 94 36 = some (.invokevirtual 177) := by decide +kernel
theorem i94_39 : xI 94 39 = some (.goto (-29)) := by decide +kernel
theorem i94_42 : xI 94 42 = some (.iconst 1) := by decide +kernel
theorem i94_43 : xI 94 43 = some (.ireturn) := by decide +kernel
-- 95 M_part
theorem i95_0 : xI 95 0 = some (.aload_n 0) := by decide +kernel
theorem i95_1 : xI 95 1 = some (.ldc 222) := by decide +kernel
theorem i95_3 : xI 95 3 = some (.invokevirtual 102) := by decide +kernel
theorem i95_6 : xI 95 6 = some (.ifCond .eq 43) := by decide +kernel
theorem i95_9 : xI 95 9 = some (.iload_n 1) := by decide +kernel
theorem i95_10 : xI 95 10 = some (.bipush 6) := by decide +kernel
theorem i95_12 : xI 95 12 = some (.if_icmp .ne 8) := by decide +kernel
theorem i95_15 : xI 95 15 = some (.aload_n 0) := by decide +kernel
theorem i95_16 : xI 95 16 = some (.invokevirtual 152) := by decide +kernel
theorem i95_19 : xI 95 19 = some (.ireturn) := by decide +kernel
theorem i95_20 : xI 95 20 = some (.aload_n 0) := by decide +kernel
theorem i95_21 : xI 95 21 = some (.invokevirtual 156) := by decide +kernel
theorem i95_24 : xI 95 24 = some (.aload_n 0) := by decide +kernel
theorem i95_25 : xI 95 25 = some (.iload_n 1) := by decide +kernel
theorem i95_26 : xI 95 26 = some (.iconst 1) := by decide +kernel
theorem i95_27 : xI 95 27 = some (.iadd) := by decide +kernel
theorem i95_28 : xI 95 28 = some (.invokevirtual 207) := by decide +kernel
theorem i95_31 : xI 95 31 = some (.ifCond .eq 16) := by decide +kernel
theorem i95_34 : xI 95 34 = some (.aload_n 0) := by decide +kernel
theorem i95_35 : xI 95 35 = some (.ldc 224) := by decide +kernel
theorem i95_37 : xI 95 37 = some (.invokevirtual 184) := by decide +kernel
theorem i95_40 : xI 95 40 = some (.ifCond .eq 7) := by decide +kernel
theorem i95_43 : xI 95 43 = some (.iconst 1) := by decide +kernel
theorem i95_44 : xI 95 44 = some (.goto 4) := by decide +kernel
theorem i95_47 : xI 95 47 = some (.iconst 0) := by decide +kernel
theorem i95_48 : xI 95 48 = some (.ireturn) := by decide +kernel
theorem i95_49 : xI 95 49 = some (.aload_n 0) := by decide +kernel
theorem i95_50 : xI 95 50 = some (.getfield 90) := by decide +kernel
theorem i95_53 : xI 95 53 = some (.iconst 2) := by decide +kernel
theorem i95_54 : xI 95 54 = some (.if_icmp .eq 30) := by decide +kernel
theorem i95_57 : xI 95 57 = some (.aload_n 0) := by decide +kernel
theorem i95_58 : xI 95 58 = some (.ldc 114) := by decide +kernel
theorem i95_60 : xI 95 60 = some (.invokevirtual 102) := by decide +kernel
theorem i95_63 : xI 95 63 = some (.ifCond .ne 21) := by decide +kernel
theorem i95_66 : xI 95 66 = some (.aload_n 0) := by decide +kernel
theorem i95_67 : xI 95 67 = some (.ldc 112) := by decide +kernel
theorem i95_69 : xI 95 69 = some (.invokevirtual 102) := by decide +kernel
theorem i95_72 : xI 95 72 = some (.ifCond .ne 12) := by decide +kernel
theorem i95_75 : xI 95 75 = some (.aload_n 0) := by decide +kernel
theorem i95_76 : xI 95 76 = some (.ldc 113) := by decide +kernel
theorem i95_78 : xI 95 78 = some (.invokevirtual 102) := by decide +kernel
theorem i95_81 : xI 95 81 = some (.ifCond .eq 12) := by decide +kernel
theorem i95_84 : xI 95 84 = some (.aload_n 0) := by decide +kernel
theorem i95_85 : xI 95 85 = some (.getfield 162) := by decide +kernel
theorem i95_88 : xI 95 88 = some (.bipush 80) := by decide +kernel
theorem i95_90 : xI 95 90 = some (.if_icmp .ne 8) := by decide +kernel
theorem i95_93 : xI 95 93 = some (.aload_n 0) := by decide +kernel
theorem i95_94 : xI 95 94 = some (.invokevirtual 152) := by decide +kernel
theorem i95_97 : xI 95 97 = some (.ireturn) := by decide +kernel
theorem i95_98 : xI 95 98 = some (.aload_n 0) := by decide +kernel
theorem i95_99 : xI 95 99 = some (.dup) := by decide +kernel
theorem i95_100 : xI 95 100 = some (.getfield 162) := by decide +kernel
theorem i95_103 : xI 95 103 = some (.iconst 1) := by decide +kernel
theorem i95_104 : xI 95 104 = some (.iadd) := by decide +kernel
theorem i95_105 : xI 95 105 = some (.putfield 162) := by decide +kernel
theorem i95_108 : xI 95 108 = some (.aload_n 0) := by decide +kernel
theorem i95_109 : xI 95 109 = some (.ldc 114) := by decide +kernel
theorem i95_111 : xI 95 111 = some (.invokevirtual 102) := by decide +kernel
theorem i95_114 : xI 95 114 = some (.ifCond .eq 13) := by decide +kernel
theorem i95_117 : xI 95 117 = some (.aload_n 0) := by decide +kernel
theorem i95_118 : xI 95 118 = some (.iconst 1) := by decide +kernel
theorem i95_119 : xI 95 119 = some (.invokevirtual 177) := by decide +kernel
theorem i95_122 : xI 95 122 = some (.aload_n 0) := by decide +kernel
theorem i95_123 : xI 95 123 = some (.invokevirtual 187) := by decide +kernel
theorem i95_126 : xI 95 126 = some (.ireturn) := by decide +kernel
theorem i95_127 : xI 95 127 = some (.aload_n 0) := by decide +kernel
theorem i95_128 : xI 95 128 = some (.getfield 90) := by decide +kernel
theorem i95_131 : xI 95 131 = some (.iconst 2) := by decide +kernel
theorem i95_132 : xI 95 132 = some (.if_icmp .ne 20) := by decide +kernel
theorem i95_135 : xI 95 135 = some (.aload_n 0) := by decide +kernel
theorem i95_136 : xI 95 136 = some (.iconst 0) := by decide +kernel
theorem i95_137 : xI 95 137 = some (.invokevirtual 177) := by decide +kernel
theorem i95_140 : xI 95 140 = some (.aload_n 0) := by decide +kernel
theorem i95_141 : xI 95 141 = some (.aload_n 0) := by decide +kernel
theorem i95_142 : xI 95 142 = some (.getfield 119) := by decide +kernel
theorem i95_145 : xI 95 145 = some (.l2i) := by decide +kernel
theorem i95_146 : xI 95 146 = some (.invokevirtual 177) := by decide +kernel
theorem i95_149 : xI 95 149 = some (.goto 21) := by decide +kernel
theorem i95_152 : xI 95 152 = some (.aload_n 0) := by decide +kernel
theorem i95_153 : xI 95 153 = some (.aload_n 0) := by decide +kernel
theorem i95_154 : xI 95 154 = some (.ldc 112) := by decide +kernel
theorem i95_156 : xI 95 156 = some (.invokevirtual 102) := by decide +kernel
theorem i95_159 : xI 95 159 = some (.ifCond .eq 7) := by decide +kernel
theorem i95_162 : xI 95 162 = some (.iconst 2) := by decide +kernel
theorem i95_163 : xI 95 163 = some (.goto 4) := by decide +kernel
theorem i95_166 : xI 95 166 = some (.iconst 3) := by decide +kernel
theorem i95_167 : xI 95 167 = some (.invokevirtual 177) := by decide +kernel
theorem i95_170 : xI 95 170 = some (.aload_n 0) := by decide +kernel
theorem i95_171 : xI 95 171 = some (.invokevirtual 156) := by decide +kernel
theorem i95_174 : xI 95 174 = some (.iconst 1) := by decide +kernel
theorem i95_175 : xI 95 175 = some (.ireturn) := by decide +kernel
-- 96 M_take
theorem i96_0 : xI 96 0 = some (.aload_n 0) := by decide +kernel
theorem i96_1 : xI 96 1 = some (.aload_n 1) := by decide +kernel
theorem i96_2 : xI 96 2 = some (.invokevirtual 102) := by decide +kernel
theorem i96_5 : xI 96 5 = some (.ifCond .ne 8) := by decide +kernel
theorem i96_8 : xI 96 8 = some (.aload_n 0) := by decide +kernel
theorem i96_9 : xI 96 9 = some (.invokevirtual 152) := by decide +kernel
theorem i96_12 : xI 96 12 = some (.ireturn) := by decide +kernel
theorem i96_13 : xI 96 13 = some (.aload_n 0) := by decide +kernel
theorem i96_14 : xI 96 14 = some (.invokevirtual 156) := by decide +kernel
theorem i96_17 : xI 96 17 = some (.iconst 1) := by decide +kernel
theorem i96_18 : xI 96 18 = some (.ireturn) := by decide +kernel
-- 97 M_cell0
theorem i97_0 : xI 97 0 = some (.aload_n 0) := by decide +kernel
theorem i97_1 : xI 97 1 = some (.ldc 114) := by decide +kernel
theorem i97_3 : xI 97 3 = some (.invokevirtual 184) := by decide +kernel
theorem i97_6 : xI 97 6 = some (.ifCond .ne 5) := by decide +kernel
theorem i97_9 : xI 97 9 = some (.iconst 0) := by decide +kernel
theorem i97_10 : xI 97 10 = some (.ireturn) := by decide +kernel
theorem i97_11 : xI 97 11 = some (.aload_n 0) := by decide +kernel
theorem i97_12 : xI 97 12 = some (.getfield 90) := by decide +kernel
theorem i97_15 : xI 97 15 = some (.iconst 2) := by decide +kernel
theorem i97_16 : xI 97 16 = some (.if_icmp .ne 14) := by decide +kernel
theorem i97_19 : xI 97 19 = some (.aload_n 0) := by decide +kernel
theorem i97_20 : xI 97 20 = some (.getfield 119) := by decide +kernel
theorem i97_23 : xI 97 23 = some (.ldc2_w 197) := by decide +kernel
theorem i97_26 : xI 97 26 = some (.lcmp) := by decide +kernel
theorem i97_27 : xI 97 27 = some (.ifCond .lt 8) := by decide +kernel
theorem i97_30 : xI 97 30 = some (.aload_n 0) := by decide +kernel
theorem i97_31 : xI 97 31 = some (.invokevirtual 152) := by decide +kernel
theorem i97_34 : xI 97 34 = some (.ireturn) := by decide +kernel
theorem i97_35 : xI 97 35 = some (.aload_n 0) := by decide +kernel
theorem i97_36 : xI 97 36 = some (.aload_n 0) := by decide +kernel
theorem i97_37 : xI 97 37 = some (.getfield 119) := by decide +kernel
theorem i97_40 : xI 97 40 = some (.l2i) := by decide +kernel
theorem i97_41 : xI 97 41 = some (.invokevirtual 177) := by decide +kernel
theorem i97_44 : xI 97 44 = some (.aload_n 0) := by decide +kernel
theorem i97_45 : xI 97 45 = some (.invokevirtual 156) := by decide +kernel
theorem i97_48 : xI 97 48 = some (.iconst 1) := by decide +kernel
theorem i97_49 : xI 97 49 = some (.ireturn) := by decide +kernel
-- 98 M_write
theorem i98_0 : xI 98 0 = some (.iload_n 1) := by decide +kernel
theorem i98_1 : xI 98 1 = some (.i2l) := by decide +kernel
theorem i98_2 : xI 98 2 = some (.lconst 0) := by decide +kernel
theorem i98_3 : xI 98 3 = some (.ldc2_w 266) := by decide +kernel
theorem i98_6 : xI 98 6 = some (.invokestatic 77) := by decide +kernel
theorem i98_9 : xI 98 9 = some (.ifCond .eq 27) := by decide +kernel
theorem i98_12 : xI 98 12 = some (.iload_n 2) := by decide +kernel
theorem i98_13 : xI 98 13 = some (.i2l) := by decide +kernel
theorem i98_14 : xI 98 14 = some (.lconst 0) := by decide +kernel
theorem i98_15 : xI 98 15 = some (.ldc2_w 268) := by decide +kernel
theorem i98_18 : xI 98 18 = some (.invokestatic 77) := by decide +kernel
theorem i98_21 : xI 98 21 = some (.ifCond .eq 15) := by decide +kernel
theorem i98_24 : xI 98 24 = some (.iload_n 3) := by decide +kernel
theorem i98_25 : xI 98 25 = some (.i2l) := by decide +kernel
theorem i98_26 : xI 98 26 = some (.lconst 0) := by decide +kernel
theorem i98_27 : xI 98 27 = some (.ldc2_w 270) := by decide +kernel
theorem i98_30 : xI 98 30 = some (.invokestatic 77) := by decide +kernel
theorem i98_33 : xI 98 33 = some (.ifCond .ne 5) := by decide +kernel
theorem i98_36 : xI 98 36 = some (.iconst (-1)) := by decide +kernel
theorem i98_37 : xI 98 37 = some (.ireturn) := by decide +kernel
theorem i98_38 : xI 98 38 = some (.aload_n 0) := by decide +kernel
theorem i98_39 : xI 98 39 = some (.getfield 174) := by decide +kernel
theorem i98_42 : xI 98 42 = some (.ifnonnull 6) := by decide +kernel
theorem i98_45 : xI 98 45 = some (.bipush (-2)) := by decide +kernel
theorem i98_47 : xI 98 47 = some (.ireturn) := by decide +kernel
theorem i98_48 : xI 98 48 = some (.aload_n 0) := by decide +kernel
theorem i98_49 : xI 98 49 = some (.getfield 239) := by decide +kernel
theorem i98_52 : xI 98 52 = some (.sipush 500) := by decide +kernel
theorem i98_55 : xI 98 55 = some (.if_icmp .ne 6) := by decide +kernel
theorem i98_58 : xI 98 58 = some (.bipush (-3)) := by decide +kernel
theorem i98_60 : xI 98 60 = some (.ireturn) := by decide +kernel
theorem i98_61 : xI 98 61 = some (.aload_n 0) := by decide +kernel
theorem i98_62 : xI 98 62 = some (.getfield 45) := by decide +kernel
theorem i98_65 : xI 98 65 = some (.iload_n 2) := by decide +kernel
theorem i98_66 : xI 98 66 = some (.iaload) := by decide +kernel
theorem i98_67 : xI 98 67 = some (.iconst 4) := by decide +kernel
theorem i98_68 : xI 98 68 = some (.iand) := by decide +kernel
theorem i98_69 : xI 98 69 = some (.ifCond .eq 17) := by decide +kernel
theorem i98_72 : xI 98 72 = some (.aload_n 0) := by decide +kernel
theorem i98_73 : xI 98 73 = some (.iload_n 1) := by decide +kernel
theorem i98_74 : xI 98 74 = some (.aload_n 0) := by decide +kernel
theorem i98_75 : xI 98 75 = some (.getfield 49) := by decide +kernel
theorem i98_78 : xI 98 78 = some (.iload_n 2) := by decide +kernel
theorem i98_79 : xI 98 79 = some (.aaload) := by decide +kernel
theorem i98_80 : xI 98 80 = some (.invokevirtual 272) := by decide +kernel
theorem i98_83 : xI 98 83 = some (.ifCond .eq 29) := by decide +kernel
theorem i98_86 : xI 98 86 = some (.aload_n 0) := by decide +kernel
theorem i98_87 : xI 98 87 = some (.getfield 45) := by decide +kernel
theorem i98_90 : xI 98 90 = some (.iload_n 2) := by decide +kernel
theorem i98_91 : xI 98 91 = some (.iaload) := by decide +kernel
theorem i98_92 : xI 98 92 = some (.bipush 8) := by decide +kernel
theorem i98_94 : xI 98 94 = some (.iand) := by decide +kernel
theorem i98_95 : xI 98 95 = some (.ifCond .eq 20) := by decide +kernel
theorem i98_98 : xI 98 98 = some (.aload_n 0) := by decide +kernel
theorem i98_99 : xI 98 99 = some (.iload_n 1) := by decide +kernel
theorem i98_100 : xI 98 100 = some (.aload_n 0) := by decide +kernel
theorem i98_101 : xI 98 101 = some (.getfield 52) := by decide +kernel
theorem i98_104 : xI 98 104 = some (.iload_n 2) := by decide +kernel
theorem i98_105 : xI 98 105 = some (.aaload) := by decide +kernel
theorem i98_106 : xI 98 106 = some (.invokevirtual 272) := by decide +kernel
theorem i98_109 : xI 98 109 = some (.ifCond .ne 6) := by decide +kernel
theorem i98_112 : xI 98 112 = some (.bipush (-4)) := by decide +kernel
theorem i98_114 : xI 98 114 = some (.ireturn) := by decide +kernel
theorem i98_115 : xI 98 115 = some (.aload_n 0) := by decide +kernel
theorem i98_116 : xI 98 116 = some (.getfield 36) := by decide +kernel
theorem i98_119 : xI 98 119 = some (.iload_n 1) := by decide +kernel
theorem i98_120 : xI 98 120 = some (.aload_n 0) := by decide +kernel
theorem i98_121 : xI 98 121 = some (.getfield 36) := by decide +kernel
theorem i98_124 : xI 98 124 = some (.iload_n 1) := by decide +kernel
theorem i98_125 : xI 98 125 = some (.iaload) := by decide +kernel
theorem i98_126 : xI 98 126 = some (.iconst 1) := by decide +kernel
theorem i98_127 : xI 98 127 = some (.iadd) := by decide +kernel
theorem i98_128 : xI 98 128 = some (.iload_n 3) := by decide +kernel
theorem i98_129 : xI 98 129 = some (.invokestatic 259) := by decide +kernel
theorem i98_132 : xI 98 132 = some (.iastore) := by decide +kernel
theorem i98_133 : xI 98 133 = some (.aload_n 0) := by decide +kernel
theorem i98_134 : xI 98 134 = some (.getfield 13) := by decide +kernel
theorem i98_137 : xI 98 137 = some (.aload_n 0) := by decide +kernel
theorem i98_138 : xI 98 138 = some (.getfield 239) := by decide +kernel
theorem i98_141 : xI 98 141 = some (.iload_n 1) := by decide +kernel
theorem i98_142 : xI 98 142 = some (.iastore) := by decide +kernel
theorem i98_143 : xI 98 143 = some (.aload_n 0) := by decide +kernel
theorem i98_144 : xI 98 144 = some (.getfield 17) := by decide +kernel
theorem i98_147 : xI 98 147 = some (.aload_n 0) := by decide +kernel
theorem i98_148 : xI 98 148 = some (.getfield 239) := by decide +kernel
theorem i98_151 : xI 98 151 = some (.aload_n 0) := by decide +kernel
theorem i98_152 : xI 98 152 = some (.getfield 36) := by decide +kernel
theorem i98_155 : xI 98 155 = some (.iload_n 1) := by decide +kernel
theorem i98_156 : xI 98 156 = some (.iaload) := by decide +kernel
theorem i98_157 : xI 98 157 = some (.iastore) := by decide +kernel
theorem i98_158 : xI 98 158 = some (.aload_n 0) := by decide +kernel
theorem i98_159 : xI 98 159 = some (.getfield 27) := by decide +kernel
theorem i98_162 : xI 98 162 = some (.aload_n 0) := by decide +kernel
theorem i98_163 : xI 98 163 = some (.getfield 239) := by decide +kernel
theorem i98_166 : xI 98 166 = some (.aload_n 0) := by decide +kernel
theorem i98_167 : xI 98 167 = some (.getfield 174) := by decide +kernel
theorem i98_170 : xI 98 170 = some (.aastore) := by decide +kernel
theorem i98_171 : xI 98 171 = some (.aload_n 0) := by decide +kernel
theorem i98_172 : xI 98 172 = some (.getfield 20) := by decide +kernel
theorem i98_175 : xI 98 175 = some (.aload_n 0) := by decide +kernel
theorem i98_176 : xI 98 176 = some (.getfield 239) := by decide +kernel
theorem i98_179 : xI 98 179 = some (.iconst 0) := by decide +kernel
theorem i98_180 : xI 98 180 = some (.iastore) := by decide +kernel
theorem i98_181 : xI 98 181 = some (.aload_n 0) := by decide +kernel
theorem i98_182 : xI 98 182 = some (.getfield 33) := by decide +kernel
theorem i98_185 : xI 98 185 = some (.iload_n 1) := by decide +kernel
theorem i98_186 : xI 98 186 = some (.aaload) := by decide +kernel
theorem i98_187 : xI 98 187 = some (.aload_n 0) := by decide +kernel
theorem i98_188 : xI 98 188 = some (.getfield 239) := by decide +kernel
theorem i98_191 : xI 98 191 = some (.iconst 1) := by decide +kernel
theorem i98_192 : xI 98 192 = some (.bastore) := by decide +kernel
theorem i98_193 : xI 98 193 = some (.aload_n 0) := by decide +kernel
theorem i98_194 : xI 98 194 = some (.getfield 52) := by decide +kernel
theorem i98_197 : xI 98 197 = some (.iload_n 2) := by decide +kernel
theorem i98_198 : xI 98 198 = some (.aaload) := by decide +kernel
theorem i98_199 : xI 98 199 = some (.iload_n 1) := by decide +kernel
theorem i98_200 : xI 98 200 = some (.aload_n 0) := by decide +kernel
theorem i98_201 : xI 98 201 = some (.getfield 36) := by decide +kernel
theorem i98_204 : xI 98 204 = some (.iload_n 1) := by decide +kernel
theorem i98_205 : xI 98 205 = some (.iaload) := by decide +kernel
theorem i98_206 : xI 98 206 = some (.iastore) := by decide +kernel
theorem i98_207 : xI 98 207 = some (.aload_n 0) := by decide +kernel
theorem i98_208 : xI 98 208 = some (.dup) := by decide +kernel
theorem i98_209 : xI 98 209 = some (.getfield 239) := by decide +kernel
theorem i98_212 : xI 98 212 = some (.iconst 1) := by decide +kernel
theorem i98_213 : xI 98 213 = some (.iadd) := by decide +kernel
theorem i98_214 : xI 98 214 = some (.putfield 239) := by decide +kernel
theorem i98_217 : xI 98 217 = some (.aload_n 0) := by decide +kernel
theorem i98_218 : xI 98 218 = some (.getfield 239) := by decide +kernel
theorem i98_221 : xI 98 221 = some (.iconst 1) := by decide +kernel
theorem i98_222 : xI 98 222 = some (.isub) := by decide +kernel
theorem i98_223 : xI 98 223 = some (.ireturn) := by decide +kernel
-- 99 M_isAtLeast
theorem i99_0 : xI 99 0 = some (.iconst 0) := by decide +kernel
theorem i99_1 : xI 99 1 = some (.istore_n 3) := by decide +kernel
theorem i99_2 : xI 99 2 = some (.iload_n 3) := by decide +kernel
theorem i99_3 : xI 99 3 = some (.iconst 5) := by decide +kernel
theorem i99_4 : xI 99 4 = some (.if_icmp .ge 23) := by decide +kernel
theorem i99_7 : xI 99 7 = some (.aload_n 0) := by decide +kernel
theorem i99_8 : xI 99 8 = some (.iload_n 1) := by decide +kernel
theorem i99_9 : xI 99 9 = some (.iload_n 3) := by decide +kernel
theorem i99_10 : xI 99 10 = some (.invokevirtual 263) := by decide +kernel
theorem i99_13 : xI 99 13 = some (.aload_n 2) := by decide +kernel
theorem i99_14 : xI 99 14 = some (.iload_n 3) := by decide +kernel
theorem i99_15 : xI 99 15 = some (.iaload) := by decide +kernel
theorem i99_16 : xI 99 16 = some (.if_icmp .ge 5) := by decide +kernel
theorem i99_19 : xI 99 19 = some (.iconst 0) := by decide +kernel
theorem i99_20 : xI 99 20 = some (.ireturn) := by decide +kernel
theorem i99_21 : xI 99 21 = some (.iinc 3 1) := by decide +kernel
theorem i99_24 : xI 99 24 = some (.goto (-22)) := by decide +kernel
theorem i99_27 : xI 99 27 = some (.iconst 1) := by decide +kernel
theorem i99_28 : xI 99 28 = some (.ireturn) := by decide +kernel
-- 100 M_vector
theorem i100_0 : xI 100 0 = some (.iconst 0) := by decide +kernel
theorem i100_1 : xI 100 1 = some (.istore_n 3) := by decide +kernel
theorem i100_2 : xI 100 2 = some (.iconst 0) := by decide +kernel
theorem i100_3 : xI 100 3 = some (.istore 4) := by decide +kernel
theorem i100_5 : xI 100 5 = some (.iload 4) := by decide +kernel
theorem i100_7 : xI 100 7 = some (.aload_n 0) := by decide +kernel
theorem i100_8 : xI 100 8 = some (.getfield 239) := by decide +kernel
theorem i100_11 : xI 100 11 = some (.if_icmp .ge 44) := by decide +kernel
theorem i100_14 : xI 100 14 = some (.aload_n 0) := by decide +kernel
theorem i100_15 : xI 100 15 = some (.getfield 33) := by decide +kernel
theorem i100_18 : xI 100 18 = some (.iload_n 1) := by decide +kernel
theorem i100_19 : xI 100 19 = some (.aaload) := by decide +kernel
theorem i100_20 : xI 100 20 = some (.iload 4) := by decide +kernel
theorem i100_22 : xI 100 22 = some (.baload) := by decide +kernel
theorem i100_23 : xI 100 23 = some (.ifCond .eq 26) := by decide +kernel
theorem i100_26 : xI 100 26 = some (.aload_n 0) := by decide +kernel
theorem i100_27 : xI 100 27 = some (.getfield 13) := by decide +kernel
theorem i100_30 : xI 100 30 = some (.iload 4) := by decide +kernel
theorem i100_32 : xI 100 32 = some (.iaload) := by decide +kernel
theorem i100_33 : xI 100 33 = some (.iload_n 2) := by decide +kernel
theorem i100_34 : xI 100 34 = some (.if_icmp .ne 15) := by decide +kernel
theorem i100_37 : xI 100 37 = some (.iload_n 3) := by decide +kernel
theorem i100_38 : xI 100 38 = some (.aload_n 0) := by decide +kernel
theorem i100_39 : xI 100 39 = some (.getfield 17) := by decide +kernel
theorem i100_42 : xI 100 42 = some (.iload 4) := by decide +kernel
theorem i100_44 : xI 100 44 = some (.iaload) := by decide +kernel
theorem i100_45 : xI 100 45 = some (.invokestatic 259) := by decide +kernel
theorem i100_48 : xI 100 48 = some (.istore_n 3) := by decide +kernel
theorem i100_49 : xI 100 49 = some (.iinc 4 1) := by decide +kernel
theorem i100_52 : xI 100 52 = some (.goto (-47)) := by decide +kernel
theorem i100_55 : xI 100 55 = some (.iload_n 3) := by decide +kernel
theorem i100_56 : xI 100 56 = some (.ireturn) := by decide +kernel
-- 101 M_read
theorem i101_0 : xI 101 0 = some (.iload_n 1) := by decide +kernel
theorem i101_1 : xI 101 1 = some (.i2l) := by decide +kernel
theorem i101_2 : xI 101 2 = some (.lconst 0) := by decide +kernel
theorem i101_3 : xI 101 3 = some (.ldc2_w 266) := by decide +kernel
theorem i101_6 : xI 101 6 = some (.invokestatic 77) := by decide +kernel
theorem i101_9 : xI 101 9 = some (.ifCond .eq 27) := by decide +kernel
theorem i101_12 : xI 101 12 = some (.iload_n 2) := by decide +kernel
theorem i101_13 : xI 101 13 = some (.i2l) := by decide +kernel
theorem i101_14 : xI 101 14 = some (.lconst 0) := by decide +kernel
theorem i101_15 : xI 101 15 = some (.ldc2_w 268) := by decide +kernel
theorem i101_18 : xI 101 18 = some (.invokestatic 77) := by decide +kernel
theorem i101_21 : xI 101 21 = some (.ifCond .eq 15) := by decide +kernel
theorem i101_24 : xI 101 24 = some (.iload_n 3) := by decide +kernel
theorem i101_25 : xI 101 25 = some (.i2l) := by decide +kernel
theorem i101_26 : xI 101 26 = some (.lconst 0) := by decide +kernel
theorem i101_27 : xI 101 27 = some (.ldc2_w 276) := by decide +kernel
theorem i101_30 : xI 101 30 = some (.invokestatic 77) := by decide +kernel
theorem i101_33 : xI 101 33 = some (.ifCond .ne 7) := by decide +kernel
theorem i101_36 : xI 101 36 = some (.ldc2_w 123) := by decide +kernel
theorem i101_39 : xI 101 39 = some (.lreturn) := by decide +kernel
theorem i101_40 : xI 101 40 = some (.aload_n 0) := by decide +kernel
theorem i101_41 : xI 101 41 = some (.getfield 45) := by decide +kernel
theorem i101_44 : xI 101 44 = some (.iload_n 2) := by decide +kernel
theorem i101_45 : xI 101 45 = some (.iaload) := by decide +kernel
theorem i101_46 : xI 101 46 = some (.iconst 1) := by decide +kernel
theorem i101_47 : xI 101 47 = some (.iand) := by decide +kernel
theorem i101_48 : xI 101 48 = some (.ifCond .eq 17) := by decide +kernel
theorem i101_51 : xI 101 51 = some (.aload_n 0) := by decide +kernel
theorem i101_52 : xI 101 52 = some (.iload_n 1) := by decide +kernel
theorem i101_53 : xI 101 53 = some (.aload_n 0) := by decide +kernel
theorem i101_54 : xI 101 54 = some (.getfield 52) := by decide +kernel
theorem i101_57 : xI 101 57 = some (.iload_n 2) := by decide +kernel
theorem i101_58 : xI 101 58 = some (.aaload) := by decide +kernel
theorem i101_59 : xI 101 59 = some (.invokevirtual 272) := by decide +kernel
theorem i101_62 : xI 101 62 = some (.ifCond .eq 28) := by decide +kernel
theorem i101_65 : xI 101 65 = some (.aload_n 0) := by decide +kernel
theorem i101_66 : xI 101 66 = some (.getfield 45) := by decide +kernel
theorem i101_69 : xI 101 69 = some (.iload_n 2) := by decide +kernel
theorem i101_70 : xI 101 70 = some (.iaload) := by decide +kernel
theorem i101_71 : xI 101 71 = some (.iconst 2) := by decide +kernel
theorem i101_72 : xI 101 72 = some (.iand) := by decide +kernel
theorem i101_73 : xI 101 73 = some (.ifCond .eq 21) := by decide +kernel
theorem i101_76 : xI 101 76 = some (.aload_n 0) := by decide +kernel
theorem i101_77 : xI 101 77 = some (.iload_n 1) := by decide +kernel
theorem i101_78 : xI 101 78 = some (.aload_n 0) := by decide +kernel
theorem i101_79 : xI 101 79 = some (.getfield 49) := by decide +kernel
theorem i101_82 : xI 101 82 = some (.iload_n 2) := by decide +kernel
theorem i101_83 : xI 101 83 = some (.aaload) := by decide +kernel
theorem i101_84 : xI 101 84 = some (.invokevirtual 272) := by decide +kernel
theorem i101_87 : xI 101 87 = some (.ifCond .ne 7) := by decide +kernel
theorem i101_90 : xI 101 90 = some (.ldc2_w 278) := by decide +kernel
theorem i101_93 : xI 101 93 = some (.lreturn) := by decide +kernel
theorem i101_94 : xI 101 94 = some (.iconst 0) := by decide +kernel
theorem i101_95 : xI 101 95 = some (.istore 5) := by decide +kernel
theorem i101_97 : xI 101 97 = some (.iload 5) := by decide +kernel
theorem i101_99 : xI 101 99 = some (.iconst 5) := by decide +kernel
theorem i101_100 : xI 101 100 = some (.if_icmp .ge 37) := by decide +kernel
theorem i101_103 : xI 101 103 = some (.aload_n 0) := by decide +kernel
theorem i101_104 : xI 101 104 = some (.getfield 49) := by decide +kernel
theorem i101_107 : xI 101 107 = some (.iload_n 2) := by decide +kernel
theorem i101_108 : xI 101 108 = some (.aaload) := by decide +kernel
theorem i101_109 : xI 101 109 = some (.iload 5) := by decide +kernel
theorem i101_111 : xI 101 111 = some (.aload_n 0) := by decide +kernel
theorem i101_112 : xI 101 112 = some (.getfield 49) := by decide +kernel
theorem i101_115 : xI 101 115 = some (.iload_n 2) := by decide +kernel
theorem i101_116 : xI 101 116 = some (.aaload) := by decide +kernel
theorem i101_117 : xI 101 117 = some (.iload 5) := by decide +kernel
theorem i101_119 : xI 101 119 = some (.iaload) := by decide +kernel
theorem i101_120 : xI 101 120 = some (.aload_n 0) := by decide +kernel
theorem i101_121 : xI 101 121 = some (.iload_n 1) := by decide +kernel
theorem i101_122 : xI 101 122 = some (.iload 5) := by decide +kernel
theorem i101_124 : xI 101 124 = some (.invokevirtual 263) := by decide +kernel
theorem i101_127 : xI 101 127 = some (.invokestatic 259) := by decide +kernel
theorem i101_130 : xI 101 130 = some (.iastore) := by decide +kernel
theorem i101_131 : xI 101 131 = some (.iinc 5 1) := by decide +kernel
theorem i101_134 : xI 101 134 = some (.goto (-37)) := by decide +kernel
theorem i101_137 : xI 101 137 = some (.aload_n 0) := by decide +kernel
theorem i101_138 : xI 101 138 = some (.iload_n 1) := by decide +kernel
theorem i101_139 : xI 101 139 = some (.iload_n 3) := by decide +kernel
theorem i101_140 : xI 101 140 = some (.iload 4) := by decide +kernel
theorem i101_142 : xI 101 142 = some (.invokevirtual 280) := by decide +kernel
theorem i101_145 : xI 101 145 = some (.lreturn) := by decide +kernel
-- 102 M_cell1
theorem i102_0 : xI 102 0 = some (.iload_n 1) := by decide +kernel
theorem i102_1 : xI 102 1 = some (.i2l) := by decide +kernel
theorem i102_2 : xI 102 2 = some (.lconst 0) := by decide +kernel
theorem i102_3 : xI 102 3 = some (.ldc2_w 266) := by decide +kernel
theorem i102_6 : xI 102 6 = some (.invokestatic 77) := by decide +kernel
theorem i102_9 : xI 102 9 = some (.ifCond .eq 15) := by decide +kernel
theorem i102_12 : xI 102 12 = some (.iload_n 2) := by decide +kernel
theorem i102_13 : xI 102 13 = some (.i2l) := by decide +kernel
theorem i102_14 : xI 102 14 = some (.lconst 0) := by decide +kernel
theorem i102_15 : xI 102 15 = some (.ldc2_w 276) := by decide +kernel
theorem i102_18 : xI 102 18 = some (.invokestatic 77) := by decide +kernel
theorem i102_21 : xI 102 21 = some (.ifCond .ne 7) := by decide +kernel
theorem i102_24 : xI 102 24 = some (.ldc2_w 123) := by decide +kernel
theorem i102_27 : xI 102 27 = some (.lreturn) := by decide +kernel
theorem i102_28 : xI 102 28 = some (.aload_n 0) := by decide +kernel
theorem i102_29 : xI 102 29 = some (.iload_n 1) := by decide +kernel
theorem i102_30 : xI 102 30 = some (.iload_n 3) := by decide +kernel
theorem i102_31 : xI 102 31 = some (.invokevirtual 292) := by decide +kernel
theorem i102_34 : xI 102 34 = some (.aload_n 0) := by decide +kernel
theorem i102_35 : xI 102 35 = some (.getfield 58) := by decide +kernel
theorem i102_38 : xI 102 38 = some (.iload_n 2) := by decide +kernel
theorem i102_39 : xI 102 39 = some (.iaload) := by decide +kernel
theorem i102_40 : xI 102 40 = some (.i2l) := by decide +kernel
theorem i102_41 : xI 102 41 = some (.lreturn) := by decide +kernel
-- 103 M_run
theorem i103_0 : xI 103 0 = some (.aload_n 0) := by decide +kernel
theorem i103_1 : xI 103 1 = some (.iload_n 1) := by decide +kernel
theorem i103_2 : xI 103 2 = some (.invokevirtual 249) := by decide +kernel
theorem i103_5 : xI 103 5 = some (.aload_n 0) := by decide +kernel
theorem i103_6 : xI 103 6 = some (.getfield 58) := by decide +kernel
theorem i103_9 : xI 103 9 = some (.iconst 0) := by decide +kernel
theorem i103_10 : xI 103 10 = some (.invokestatic 252) := by decide +kernel
theorem i103_13 : xI 103 13 = some (.iload_n 2) := by decide +kernel
theorem i103_14 : xI 103 14 = some (.ifCond .eq 12) := by decide +kernel
theorem i103_17 : xI 103 17 = some (.aload_n 0) := by decide +kernel
theorem i103_18 : xI 103 18 = some (.getfield 39) := by decide +kernel
theorem i103_21 : xI 103 21 = some (.iload_n 1) := by decide +kernel
theorem i103_22 : xI 103 22 = some (.iaload) := by decide +kernel
theorem i103_23 : xI 103 23 = some (.goto 7) := by decide +kernel
theorem i103_26 : xI 103 26 = some (.aload_n 0) := by decide +kernel
theorem i103_27 : xI 103 27 = some (.getfield 236) := by decide +kernel
theorem i103_30 : xI 103 30 = some (.istore_n 3) := by decide +kernel
theorem i103_31 : xI 103 31 = some (.iconst 0) := by decide +kernel
end
section
/-! ===== which instruction stands where (wip/gen/lay16.py) ===== -/
theorem i103_32 : xI 103 32 = some (.istore 4) := by decide +kernel
theorem i103_34 : xI 103 34 = some (.iload 4) := by decide +kernel
theorem i103_36 : xI 103 36 = some (.iload_n 3) := by decide +kernel
theorem i103_37 : xI 103 37 = some (.if_icmp .ge 21) := by decide +kernel
theorem i103_40 : xI 103 40 = some (.aload_n 0) := by decide +kernel
theorem i103_41 : xI 103 41 = some (.aload_n 0) := by decide +kernel
theorem i103_42 : xI 103 42 = some (.getfield 70) := by decide +kernel
theorem i103_45 : xI 103 45 = some (.iload 4) := by decide +kernel
theorem i103_47 : xI 103 47 = some (.iaload) := by decide +kernel
theorem i103_48 : xI 103 48 = some (.invokevirtual 256) := by decide +kernel
theorem i103_51 : xI 103 51 = some (.pop) := by decide +kernel
theorem i103_52 : xI 103 52 = some (.iinc 4 1) := by decide +kernel
theorem i103_55 : xI 103 55 = some (.goto (-21)) := by decide +kernel
theorem i103_58 : xI 103 58 = some (.return_) := by decide +kernel
-- 104 M_arrange
theorem i104_0 : xI 104 0 = some (.aload_n 0) := by decide +kernel
theorem i104_1 : xI 104 1 = some (.iconst 0) := by decide +kernel
theorem i104_2 : xI 104 2 = some (.putfield 236) := by decide +kernel
theorem i104_5 : xI 104 5 = some (.iconst 1) := by decide +kernel
theorem i104_6 : xI 104 6 = some (.istore_n 2) := by decide +kernel
theorem i104_7 : xI 104 7 = some (.iload_n 2) := by decide +kernel
theorem i104_8 : xI 104 8 = some (.aload_n 0) := by decide +kernel
theorem i104_9 : xI 104 9 = some (.getfield 39) := by decide +kernel
theorem i104_12 : xI 104 12 = some (.iload_n 1) := by decide +kernel
theorem i104_13 : xI 104 13 = some (.iaload) := by decide +kernel
theorem i104_14 : xI 104 14 = some (.if_icmp .gt 34) := by decide +kernel
theorem i104_17 : xI 104 17 = some (.aload_n 0) := by decide +kernel
theorem i104_18 : xI 104 18 = some (.getfield 70) := by decide +kernel
theorem i104_21 : xI 104 21 = some (.aload_n 0) := by decide +kernel
theorem i104_22 : xI 104 22 = some (.getfield 236) := by decide +kernel
theorem i104_25 : xI 104 25 = some (.aload_n 0) := by decide +kernel
theorem i104_26 : xI 104 26 = some (.getfield 23) := by decide +kernel
theorem i104_29 : xI 104 29 = some (.iload_n 2) := by decide +kernel
theorem i104_30 : xI 104 30 = some (.iaload) := by decide +kernel
theorem i104_31 : xI 104 31 = some (.iastore) := by decide +kernel
theorem i104_32 : xI 104 32 = some (.aload_n 0) := by decide +kernel
theorem i104_33 : xI 104 33 = some (.dup) := by decide +kernel
theorem i104_34 : xI 104 34 = some (.getfield 236) := by decide +kernel
theorem i104_37 : xI 104 37 = some (.iconst 1) := by decide +kernel
theorem i104_38 : xI 104 38 = some (.iadd) := by decide +kernel
theorem i104_39 : xI 104 39 = some (.putfield 236) := by decide +kernel
theorem i104_42 : xI 104 42 = some (.iinc 2 1) := by decide +kernel
theorem i104_45 : xI 104 45 = some (.goto (-38)) := by decide +kernel
theorem i104_48 : xI 104 48 = some (.iconst 0) := by decide +kernel
theorem i104_49 : xI 104 49 = some (.istore_n 2) := by decide +kernel
theorem i104_50 : xI 104 50 = some (.iload_n 2) := by decide +kernel
theorem i104_51 : xI 104 51 = some (.aload_n 0) := by decide +kernel
theorem i104_52 : xI 104 52 = some (.getfield 239) := by decide +kernel
theorem i104_55 : xI 104 55 = some (.if_icmp .ge 100) := by decide +kernel
theorem i104_58 : xI 104 58 = some (.aload_n 0) := by decide +kernel
theorem i104_59 : xI 104 59 = some (.getfield 33) := by decide +kernel
theorem i104_62 : xI 104 62 = some (.iload_n 1) := by decide +kernel
theorem i104_63 : xI 104 63 = some (.aaload) := by decide +kernel
theorem i104_64 : xI 104 64 = some (.iload_n 2) := by decide +kernel
theorem i104_65 : xI 104 65 = some (.baload) := by decide +kernel
theorem i104_66 : xI 104 66 = some (.ifCond .eq 83) := by decide +kernel
theorem i104_69 : xI 104 69 = some (.aload_n 0) := by decide +kernel
theorem i104_70 : xI 104 70 = some (.iload_n 1) := by decide +kernel
theorem i104_71 : xI 104 71 = some (.iload_n 2) := by decide +kernel
theorem i104_72 : xI 104 72 = some (.invokevirtual 242) := by decide +kernel
theorem i104_75 : xI 104 75 = some (.ifCond .eq 6) := by decide +kernel
theorem i104_78 : xI 104 78 = some (.goto 71) := by decide +kernel
theorem i104_81 : xI 104 81 = some (.aload_n 0) := by decide +kernel
theorem i104_82 : xI 104 82 = some (.getfield 236) := by decide +kernel
theorem i104_85 : xI 104 85 = some (.istore_n 3) := by decide +kernel
theorem i104_86 : xI 104 86 = some (.iload_n 3) := by decide +kernel
theorem i104_87 : xI 104 87 = some (.aload_n 0) := by decide +kernel
theorem i104_88 : xI 104 88 = some (.getfield 39) := by decide +kernel
theorem i104_91 : xI 104 91 = some (.iload_n 1) := by decide +kernel
theorem i104_92 : xI 104 92 = some (.iaload) := by decide +kernel
theorem i104_93 : xI 104 93 = some (.if_icmp .le 39) := by decide +kernel
theorem i104_96 : xI 104 96 = some (.aload_n 0) := by decide +kernel
theorem i104_97 : xI 104 97 = some (.iload_n 2) := by decide +kernel
theorem i104_98 : xI 104 98 = some (.aload_n 0) := by decide +kernel
theorem i104_99 : xI 104 99 = some (.getfield 70) := by decide +kernel
theorem i104_102 : xI 104 102 = some (.iload_n 3) := by decide +kernel
theorem i104_103 : xI 104 103 = some (.iconst 1) := by decide +kernel
theorem i104_104 : xI 104 104 = some (.isub) := by decide +kernel
theorem i104_105 : xI 104 105 = some (.iaload) := by decide +kernel
theorem i104_106 : xI 104 106 = some (.invokevirtual 246) := by decide +kernel
theorem i104_109 : xI 104 109 = some (.ifCond .eq 23) := by decide +kernel
theorem i104_112 : xI 104 112 = some (.aload_n 0) := by decide +kernel
theorem i104_113 : xI 104 113 = some (.getfield 70) := by decide +kernel
theorem i104_116 : xI 104 116 = some (.iload_n 3) := by decide +kernel
theorem i104_117 : xI 104 117 = some (.aload_n 0) := by decide +kernel
theorem i104_118 : xI 104 118 = some (.getfield 70) := by decide +kernel
theorem i104_121 : xI 104 121 = some (.iload_n 3) := by decide +kernel
theorem i104_122 : xI 104 122 = some (.iconst 1) := by decide +kernel
theorem i104_123 : xI 104 123 = some (.isub) := by decide +kernel
theorem i104_124 : xI 104 124 = some (.iaload) := by decide +kernel
theorem i104_125 : xI 104 125 = some (.iastore) := by decide +kernel
theorem i104_126 : xI 104 126 = some (.iinc 3 (-1)) := by decide +kernel
theorem i104_129 : xI 104 129 = some (.goto (-43)) := by decide +kernel
theorem i104_132 : xI 104 132 = some (.aload_n 0) := by decide +kernel
theorem i104_133 : xI 104 133 = some (.getfield 70) := by decide +kernel
theorem i104_136 : xI 104 136 = some (.iload_n 3) := by decide +kernel
theorem i104_137 : xI 104 137 = some (.iload_n 2) := by decide +kernel
theorem i104_138 : xI 104 138 = some (.iastore) := by decide +kernel
theorem i104_139 : xI 104 139 = some (.aload_n 0) := by decide +kernel
theorem i104_140 : xI 104 140 = some (.dup) := by decide +kernel
theorem i104_141 : xI 104 141 = some (.getfield 236) := by decide +kernel
theorem i104_144 : xI 104 144 = some (.iconst 1) := by decide +kernel
theorem i104_145 : xI 104 145 = some (.iadd) := by decide +kernel
theorem i104_146 : xI 104 146 = some (.putfield 236) := by decide +kernel
theorem i104_149 : xI 104 149 = some (.iinc 2 1) := by decide +kernel
theorem i104_152 : xI 104 152 = some (.goto (-102)) := by decide +kernel
theorem i104_155 : xI 104 155 = some (.return_) := by decide +kernel
-- 105 M_isCommitted
theorem i105_0 : xI 105 0 = some (.aload_n 0) := by decide +kernel
theorem i105_1 : xI 105 1 = some (.getfield 20) := by decide +kernel
theorem i105_4 : xI 105 4 = some (.iload_n 2) := by decide +kernel
theorem i105_5 : xI 105 5 = some (.iaload) := by decide +kernel
theorem i105_6 : xI 105 6 = some (.ifCond .le 22) := by decide +kernel
theorem i105_9 : xI 105 9 = some (.aload_n 0) := by decide +kernel
theorem i105_10 : xI 105 10 = some (.getfield 20) := by decide +kernel
theorem i105_13 : xI 105 13 = some (.iload_n 2) := by decide +kernel
theorem i105_14 : xI 105 14 = some (.iaload) := by decide +kernel
theorem i105_15 : xI 105 15 = some (.aload_n 0) := by decide +kernel
theorem i105_16 : xI 105 16 = some (.getfield 39) := by decide +kernel
theorem i105_19 : xI 105 19 = some (.iload_n 1) := by decide +kernel
theorem i105_20 : xI 105 20 = some (.iaload) := by decide +kernel
theorem i105_21 : xI 105 21 = some (.if_icmp .gt 7) := by decide +kernel
theorem i105_24 : xI 105 24 = some (.iconst 1) := by decide +kernel
theorem i105_25 : xI 105 25 = some (.goto 4) := by decide +kernel
theorem i105_28 : xI 105 28 = some (.iconst 0) := by decide +kernel
theorem i105_29 : xI 105 29 = some (.ireturn) := by decide +kernel
-- 106 M_isBefore
theorem i106_0 : xI 106 0 = some (.aload_n 0) := by decide +kernel
theorem i106_1 : xI 106 1 = some (.getfield 17) := by decide +kernel
theorem i106_4 : xI 106 4 = some (.iload_n 1) := by decide +kernel
theorem i106_5 : xI 106 5 = some (.iaload) := by decide +kernel
theorem i106_6 : xI 106 6 = some (.aload_n 0) := by decide +kernel
theorem i106_7 : xI 106 7 = some (.getfield 17) := by decide +kernel
theorem i106_10 : xI 106 10 = some (.iload_n 2) := by decide +kernel
theorem i106_11 : xI 106 11 = some (.iaload) := by decide +kernel
theorem i106_12 : xI 106 12 = some (.if_icmp .eq 26) := by decide +kernel
theorem i106_15 : xI 106 15 = some (.aload_n 0) := by decide +kernel
theorem i106_16 : xI 106 16 = some (.getfield 17) := by decide +kernel
theorem i106_19 : xI 106 19 = some (.iload_n 1) := by decide +kernel
theorem i106_20 : xI 106 20 = some (.iaload) := by decide +kernel
theorem i106_21 : xI 106 21 = some (.aload_n 0) := by decide +kernel
theorem i106_22 : xI 106 22 = some (.getfield 17) := by decide +kernel
theorem i106_25 : xI 106 25 = some (.iload_n 2) := by decide +kernel
theorem i106_26 : xI 106 26 = some (.iaload) := by decide +kernel
theorem i106_27 : xI 106 27 = some (.if_icmp .ge 7) := by decide +kernel
theorem i106_30 : xI 106 30 = some (.iconst 1) := by decide +kernel
theorem i106_31 : xI 106 31 = some (.goto 27) := by decide +kernel
theorem i106_34 : xI 106 34 = some (.iconst 0) := by decide +kernel
theorem i106_35 : xI 106 35 = some (.goto 23) := by decide +kernel
theorem i106_38 : xI 106 38 = some (.aload_n 0) := by decide +kernel
theorem i106_39 : xI 106 39 = some (.getfield 13) := by decide +kernel
theorem i106_42 : xI 106 42 = some (.iload_n 1) := by decide +kernel
theorem i106_43 : xI 106 43 = some (.iaload) := by decide +kernel
theorem i106_44 : xI 106 44 = some (.aload_n 0) := by decide +kernel
theorem i106_45 : xI 106 45 = some (.getfield 13) := by decide +kernel
theorem i106_48 : xI 106 48 = some (.iload_n 2) := by decide +kernel
theorem i106_49 : xI 106 49 = some (.iaload) := by decide +kernel
theorem i106_50 : xI 106 50 = some (.if_icmp .ge 7) := by decide +kernel
theorem i106_53 : xI 106 53 = some (.iconst 1) := by decide +kernel
theorem i106_54 : xI 106 54 = some (.goto 4) := by decide +kernel
theorem i106_57 : xI 106 57 = some (.iconst 0) := by decide +kernel
theorem i106_58 : xI 106 58 = some (.ireturn) := by decide +kernel
-- 107 M_perform
theorem i107_0 : xI 107 0 = some (.aload_n 0) := by decide +kernel
theorem i107_1 : xI 107 1 = some (.getfield 27) := by decide +kernel
theorem i107_4 : xI 107 4 = some (.iload_n 1) := by decide +kernel
theorem i107_5 : xI 107 5 = some (.aaload) := by decide +kernel
theorem i107_6 : xI 107 6 = some (.astore_n 2) := by decide +kernel
theorem i107_7 : xI 107 7 = some (.iconst 1) := by decide +kernel
theorem i107_8 : xI 107 8 = some (.istore_n 3) := by decide +kernel
theorem i107_9 : xI 107 9 = some (.iload_n 3) := by decide +kernel
theorem i107_10 : xI 107 10 = some (.aload_n 2) := by decide +kernel
theorem i107_11 : xI 107 11 = some (.iconst 0) := by decide +kernel
theorem i107_12 : xI 107 12 = some (.iaload) := by decide +kernel
theorem i107_13 : xI 107 13 = some (.if_icmp .gt 133) := by decide +kernel
theorem i107_16 : xI 107 16 = some (.aload_n 0) := by decide +kernel
theorem i107_17 : xI 107 17 = some (.aload_n 2) := by decide +kernel
theorem i107_18 : xI 107 18 = some (.iload_n 3) := by decide +kernel
theorem i107_19 : xI 107 19 = some (.iaload) := by decide +kernel
theorem i107_20 : xI 107 20 = some (.putfield 226) := by decide +kernel
theorem i107_23 : xI 107 23 = some (.aload_n 0) := by decide +kernel
theorem i107_24 : xI 107 24 = some (.iload_n 1) := by decide +kernel
theorem i107_25 : xI 107 25 = some (.invokevirtual 233) := by decide +kernel
theorem i107_28 : xI 107 28 = some (.ifCond .ne 6) := by decide +kernel
theorem i107_31 : xI 107 31 = some (.goto 109) := by decide +kernel
theorem i107_34 : xI 107 34 = some (.aload_n 2) := by decide +kernel
theorem i107_35 : xI 107 35 = some (.aload_n 0) := by decide +kernel
theorem i107_36 : xI 107 36 = some (.getfield 226) := by decide +kernel
theorem i107_39 : xI 107 39 = some (.iaload) := by decide +kernel
theorem i107_40 : xI 107 40 = some (.istore 4) := by decide +kernel
theorem i107_42 : xI 107 42 = some (.aload_n 0) := by decide +kernel
theorem i107_43 : xI 107 43 = some (.dup) := by decide +kernel
theorem i107_44 : xI 107 44 = some (.getfield 226) := by decide +kernel
theorem i107_47 : xI 107 47 = some (.iconst 1) := by decide +kernel
theorem i107_48 : xI 107 48 = some (.iadd) := by decide +kernel
theorem i107_49 : xI 107 49 = some (.putfield 226) := by decide +kernel
theorem i107_52 : xI 107 52 = some (.iconst 0) := by decide +kernel
theorem i107_53 : xI 107 53 = some (.istore 5) := by decide +kernel
theorem i107_55 : xI 107 55 = some (.iload 5) := by decide +kernel
theorem i107_57 : xI 107 57 = some (.iload 4) := by decide +kernel
theorem i107_59 : xI 107 59 = some (.if_icmp .ge 44) := by decide +kernel
theorem i107_62 : xI 107 62 = some (.aload_n 0) := by decide +kernel
theorem i107_63 : xI 107 63 = some (.getfield 67) := by decide +kernel
theorem i107_66 : xI 107 66 = some (.iload 5) := by decide +kernel
theorem i107_68 : xI 107 68 = some (.aload_n 2) := by decide +kernel
theorem i107_69 : xI 107 69 = some (.aload_n 0) := by decide +kernel
theorem i107_70 : xI 107 70 = some (.getfield 226) := by decide +kernel
theorem i107_73 : xI 107 73 = some (.iaload) := by decide +kernel
theorem i107_74 : xI 107 74 = some (.iastore) := by decide +kernel
theorem i107_75 : xI 107 75 = some (.aload_n 0) := by decide +kernel
theorem i107_76 : xI 107 76 = some (.dup) := by decide +kernel
theorem i107_77 : xI 107 77 = some (.getfield 226) := by decide +kernel
theorem i107_80 : xI 107 80 = some (.iconst 1) := by decide +kernel
theorem i107_81 : xI 107 81 = some (.iadd) := by decide +kernel
theorem i107_82 : xI 107 82 = some (.putfield 226) := by decide +kernel
theorem i107_85 : xI 107 85 = some (.aload_n 0) := by decide +kernel
theorem i107_86 : xI 107 86 = some (.getfield 64) := by decide +kernel
theorem i107_89 : xI 107 89 = some (.iload 5) := by decide +kernel
theorem i107_91 : xI 107 91 = some (.aload_n 0) := by decide +kernel
theorem i107_92 : xI 107 92 = some (.iload_n 1) := by decide +kernel
theorem i107_93 : xI 107 93 = some (.invokevirtual 229) := by decide +kernel
theorem i107_96 : xI 107 96 = some (.iastore) := by decide +kernel
theorem i107_97 : xI 107 97 = some (.iinc 5 1) := by decide +kernel
theorem i107_100 : xI 107 100 = some (.goto (-45)) := by decide +kernel
theorem i107_103 : xI 107 103 = some (.iconst 0) := by decide +kernel
theorem i107_104 : xI 107 104 = some (.istore 5) := by decide +kernel
theorem i107_106 : xI 107 106 = some (.iload 5) := by decide +kernel
theorem i107_108 : xI 107 108 = some (.iload 4) := by decide +kernel
theorem i107_110 : xI 107 110 = some (.if_icmp .ge 28) := by decide +kernel
theorem i107_113 : xI 107 113 = some (.aload_n 0) := by decide +kernel
theorem i107_114 : xI 107 114 = some (.getfield 58) := by decide +kernel
theorem i107_117 : xI 107 117 = some (.aload_n 0) := by decide +kernel
theorem i107_118 : xI 107 118 = some (.getfield 67) := by decide +kernel
theorem i107_121 : xI 107 121 = some (.iload 5) := by decide +kernel
theorem i107_123 : xI 107 123 = some (.iaload) := by decide +kernel
theorem i107_124 : xI 107 124 = some (.aload_n 0) := by decide +kernel
theorem i107_125 : xI 107 125 = some (.getfield 64) := by decide +kernel
theorem i107_128 : xI 107 128 = some (.iload 5) := by decide +kernel
theorem i107_130 : xI 107 130 = some (.iaload) := by decide +kernel
theorem i107_131 : xI 107 131 = some (.iastore) := by decide +kernel
theorem i107_132 : xI 107 132 = some (.iinc 5 1) := by decide +kernel
theorem i107_135 : xI 107 135 = some (.goto (-29)) := by decide +kernel
theorem i107_138 : xI 107 138 = some (.iload_n 3) := by decide +kernel
theorem i107_139 : xI 107 139 = some (.ireturn) := by decide +kernel
theorem i107_140 : xI 107 140 = some (.iinc 3 1) := by decide +kernel
theorem i107_143 : xI 107 143 = some (.goto (-134)) := by decide +kernel
theorem i107_146 : xI 107 146 = some (.iconst 0) := by decide +kernel
theorem i107_147 : xI 107 147 = some (.ireturn) := by decide +kernel
-- 108 M_holds
theorem i108_0 : xI 108 0 = some (.aload_n 0) := by decide +kernel
theorem i108_1 : xI 108 1 = some (.getfield 27) := by decide +kernel
theorem i108_4 : xI 108 4 = some (.iload_n 1) := by decide +kernel
theorem i108_5 : xI 108 5 = some (.aaload) := by decide +kernel
theorem i108_6 : xI 108 6 = some (.astore_n 2) := by decide +kernel
theorem i108_7 : xI 108 7 = some (.aload_n 2) := by decide +kernel
theorem i108_8 : xI 108 8 = some (.aload_n 0) := by decide +kernel
theorem i108_9 : xI 108 9 = some (.getfield 226) := by decide +kernel
theorem i108_12 : xI 108 12 = some (.iaload) := by decide +kernel
theorem i108_13 : xI 108 13 = some (.istore_n 3) := by decide +kernel
theorem i108_14 : xI 108 14 = some (.aload_n 0) := by decide +kernel
theorem i108_15 : xI 108 15 = some (.dup) := by decide +kernel
theorem i108_16 : xI 108 16 = some (.getfield 226) := by decide +kernel
theorem i108_19 : xI 108 19 = some (.iconst 1) := by decide +kernel
theorem i108_20 : xI 108 20 = some (.iadd) := by decide +kernel
theorem i108_21 : xI 108 21 = some (.putfield 226) := by decide +kernel
theorem i108_24 : xI 108 24 = some (.iconst 0) := by decide +kernel
theorem i108_25 : xI 108 25 = some (.istore 4) := by decide +kernel
theorem i108_27 : xI 108 27 = some (.iload 4) := by decide +kernel
theorem i108_29 : xI 108 29 = some (.iload_n 3) := by decide +kernel
theorem i108_30 : xI 108 30 = some (.if_icmp .ge 128) := by decide +kernel
theorem i108_33 : xI 108 33 = some (.aload_n 2) := by decide +kernel
theorem i108_34 : xI 108 34 = some (.aload_n 0) := by decide +kernel
theorem i108_35 : xI 108 35 = some (.getfield 226) := by decide +kernel
theorem i108_38 : xI 108 38 = some (.iaload) := by decide +kernel
theorem i108_39 : xI 108 39 = some (.istore 5) := by decide +kernel
theorem i108_41 : xI 108 41 = some (.aload_n 0) := by decide +kernel
theorem i108_42 : xI 108 42 = some (.dup) := by decide +kernel
theorem i108_43 : xI 108 43 = some (.getfield 226) := by decide +kernel
theorem i108_46 : xI 108 46 = some (.iconst 1) := by decide +kernel
theorem i108_47 : xI 108 47 = some (.iadd) := by decide +kernel
theorem i108_48 : xI 108 48 = some (.putfield 226) := by decide +kernel
theorem i108_51 : xI 108 51 = some (.aload_n 0) := by decide +kernel
theorem i108_52 : xI 108 52 = some (.iload_n 1) := by decide +kernel
theorem i108_53 : xI 108 53 = some (.invokevirtual 229) := by decide +kernel
theorem i108_56 : xI 108 56 = some (.istore 6) := by decide +kernel
theorem i108_58 : xI 108 58 = some (.aload_n 0) := by decide +kernel
theorem i108_59 : xI 108 59 = some (.iload_n 1) := by decide +kernel
theorem i108_60 : xI 108 60 = some (.invokevirtual 229) := by decide +kernel
theorem i108_63 : xI 108 63 = some (.istore 7) := by decide +kernel
theorem i108_65 : xI 108 65 = some (.iload 5) := by decide +kernel
theorem i108_67 : xI 108 67 = some (.bipush 61) := by decide +kernel
theorem i108_69 : xI 108 69 = some (.if_icmp .ne 18) := by decide +kernel
theorem i108_72 : xI 108 72 = some (.iload 6) := by decide +kernel
theorem i108_74 : xI 108 74 = some (.iload 7) := by decide +kernel
theorem i108_76 : xI 108 76 = some (.if_icmp .ne 7) := by decide +kernel
theorem i108_79 : xI 108 79 = some (.iconst 1) := by decide +kernel
theorem i108_80 : xI 108 80 = some (.goto 63) := by decide +kernel
theorem i108_83 : xI 108 83 = some (.iconst 0) := by decide +kernel
theorem i108_84 : xI 108 84 = some (.goto 59) := by decide +kernel
theorem i108_87 : xI 108 87 = some (.iload 5) := by decide +kernel
theorem i108_89 : xI 108 89 = some (.bipush 35) := by decide +kernel
theorem i108_91 : xI 108 91 = some (.if_icmp .ne 18) := by decide +kernel
theorem i108_94 : xI 108 94 = some (.iload 6) := by decide +kernel
theorem i108_96 : xI 108 96 = some (.iload 7) := by decide +kernel
theorem i108_98 : xI 108 98 = some (.if_icmp .eq 7) := by decide +kernel
theorem i108_101 : xI 108 101 = some (.iconst 1) := by decide +kernel
theorem i108_102 : xI 108 102 = some (.goto 41) := by decide +kernel
theorem i108_105 : xI 108 105 = some (.iconst 0) := by decide +kernel
theorem i108_106 : xI 108 106 = some (.goto 37) := by decide +kernel
theorem i108_109 : xI 108 109 = some (.iload 5) := by decide +kernel
theorem i108_111 : xI 108 111 = some (.bipush 60) := by decide +kernel
theorem i108_113 : xI 108 113 = some (.if_icmp .ne 18) := by decide +kernel
theorem i108_116 : xI 108 116 = some (.iload 6) := by decide +kernel
theorem i108_118 : xI 108 118 = some (.iload 7) := by decide +kernel
theorem i108_120 : xI 108 120 = some (.if_icmp .ge 7) := by decide +kernel
theorem i108_123 : xI 108 123 = some (.iconst 1) := by decide +kernel
theorem i108_124 : xI 108 124 = some (.goto 19) := by decide +kernel
theorem i108_127 : xI 108 127 = some (.iconst 0) := by decide +kernel
theorem i108_128 : xI 108 128 = some (.goto 15) := by decide +kernel
theorem i108_131 : xI 108 131 = some (.iload 6) := by decide +kernel
theorem i108_133 : xI 108 133 = some (.iload 7) := by decide +kernel
theorem i108_135 : xI 108 135 = some (.if_icmp .le 7) := by decide +kernel
theorem i108_138 : xI 108 138 = some (.iconst 1) := by decide +kernel
theorem i108_139 : xI 108 139 = some (.goto 4) := by decide +kernel
theorem i108_142 : xI 108 142 = some (.iconst 0) := by decide +kernel
theorem i108_143 : xI 108 143 = some (.istore 8) := by decide +kernel
theorem i108_145 : xI 108 145 = some (.iload 8) := by decide +kernel
theorem i108_147 : xI 108 147 = some (.ifCond .ne 5) := by decide +kernel
theorem i108_150 : xI 108 150 = some (.iconst 0) := by decide +kernel
theorem i108_151 : xI 108 151 = some (.ireturn) := by decide +kernel
theorem i108_152 : xI 108 152 = some (.iinc 4 1) := by decide +kernel
theorem i108_155 : xI 108 155 = some (.goto (-128)) := by decide +kernel
theorem i108_158 : xI 108 158 = some (.iconst 1) := by decide +kernel
theorem i108_159 : xI 108 159 = some (.ireturn) := by decide +kernel
-- 109 M_value
theorem i109_0 : xI 109 0 = some (.aload_n 0) := by decide +kernel
theorem i109_1 : xI 109 1 = some (.getfield 27) := by decide +kernel
theorem i109_4 : xI 109 4 = some (.iload_n 1) := by decide +kernel
theorem i109_5 : xI 109 5 = some (.aaload) := by decide +kernel
theorem i109_6 : xI 109 6 = some (.astore_n 2) := by decide +kernel
theorem i109_7 : xI 109 7 = some (.iconst 0) := by decide +kernel
theorem i109_8 : xI 109 8 = some (.istore_n 3) := by decide +kernel
theorem i109_9 : xI 109 9 = some (.aload_n 2) := by decide +kernel
theorem i109_10 : xI 109 10 = some (.aload_n 0) := by decide +kernel
theorem i109_11 : xI 109 11 = some (.getfield 226) := by decide +kernel
theorem i109_14 : xI 109 14 = some (.iaload) := by decide +kernel
theorem i109_15 : xI 109 15 = some (.bipush 7) := by decide +kernel
theorem i109_17 : xI 109 17 = some (.if_icmp .eq 187) := by decide +kernel
theorem i109_20 : xI 109 20 = some (.aload_n 2) := by decide +kernel
theorem i109_21 : xI 109 21 = some (.aload_n 0) := by decide +kernel
theorem i109_22 : xI 109 22 = some (.getfield 226) := by decide +kernel
theorem i109_25 : xI 109 25 = some (.iaload) := by decide +kernel
theorem i109_26 : xI 109 26 = some (.istore 4) := by decide +kernel
theorem i109_28 : xI 109 28 = some (.aload_n 0) := by decide +kernel
theorem i109_29 : xI 109 29 = some (.dup) := by decide +kernel
theorem i109_30 : xI 109 30 = some (.getfield 226) := by decide +kernel
theorem i109_33 : xI 109 33 = some (.iconst 1) := by decide +kernel
theorem i109_34 : xI 109 34 = some (.iadd) := by decide +kernel
theorem i109_35 : xI 109 35 = some (.putfield 226) := by decide +kernel
theorem i109_38 : xI 109 38 = some (.iload 4) := by decide +kernel
theorem i109_40 : xI 109 40 = some (.iconst 3) := by decide +kernel
theorem i109_41 : xI 109 41 = some (.if_icmp .gt 86) := by decide +kernel
theorem i109_44 : xI 109 44 = some (.aload_n 0) := by decide +kernel
theorem i109_45 : xI 109 45 = some (.getfield 61) := by decide +kernel
theorem i109_48 : xI 109 48 = some (.iload_n 3) := by decide +kernel
theorem i109_49 : xI 109 49 = some (.iload 4) := by decide +kernel
theorem i109_51 : xI 109 51 = some (.ifCond .ne 12) := by decide +kernel
theorem i109_54 : xI 109 54 = some (.aload_n 2) := by decide +kernel
theorem i109_55 : xI 109 55 = some (.aload_n 0) := by decide +kernel
theorem i109_56 : xI 109 56 = some (.getfield 226) := by decide +kernel
theorem i109_59 : xI 109 59 = some (.iaload) := by decide +kernel
theorem i109_60 : xI 109 60 = some (.goto 44) := by decide +kernel
theorem i109_63 : xI 109 63 = some (.iload 4) := by decide +kernel
theorem i109_65 : xI 109 65 = some (.iconst 1) := by decide +kernel
theorem i109_66 : xI 109 66 = some (.if_icmp .ne 17) := by decide +kernel
theorem i109_69 : xI 109 69 = some (.aload_n 0) := by decide +kernel
theorem i109_70 : xI 109 70 = some (.getfield 58) := by decide +kernel
theorem i109_73 : xI 109 73 = some (.aload_n 2) := by decide +kernel
theorem i109_74 : xI 109 74 = some (.aload_n 0) := by decide +kernel
theorem i109_75 : xI 109 75 = some (.getfield 226) := by decide +kernel
theorem i109_78 : xI 109 78 = some (.iaload) := by decide +kernel
theorem i109_79 : xI 109 79 = some (.iaload) := by decide +kernel
theorem i109_80 : xI 109 80 = some (.goto 24) := by decide +kernel
theorem i109_83 : xI 109 83 = some (.iload 4) := by decide +kernel
theorem i109_85 : xI 109 85 = some (.iconst 2) := by decide +kernel
theorem i109_86 : xI 109 86 = some (.if_icmp .ne 12) := by decide +kernel
theorem i109_89 : xI 109 89 = some (.aload_n 0) := by decide +kernel
theorem i109_90 : xI 109 90 = some (.getfield 13) := by decide +kernel
theorem i109_93 : xI 109 93 = some (.iload_n 1) := by decide +kernel
theorem i109_94 : xI 109 94 = some (.iaload) := by decide +kernel
theorem i109_95 : xI 109 95 = some (.goto 9) := by decide +kernel
theorem i109_98 : xI 109 98 = some (.aload_n 0) := by decide +kernel
theorem i109_99 : xI 109 99 = some (.getfield 17) := by decide +kernel
theorem i109_102 : xI 109 102 = some (.iload_n 1) := by decide +kernel
theorem i109_103 : xI 109 103 = some (.iaload) := by decide +kernel
theorem i109_104 : xI 109 104 = some (.iastore) := by decide +kernel
theorem i109_105 : xI 109 105 = some (.iload 4) := by decide +kernel
theorem i109_107 : xI 109 107 = some (.iconst 1) := by decide +kernel
theorem i109_108 : xI 109 108 = some (.if_icmp .gt 13) := by decide +kernel
theorem i109_111 : xI 109 111 = some (.aload_n 0) := by decide +kernel
theorem i109_112 : xI 109 112 = some (.dup) := by decide +kernel
theorem i109_113 : xI 109 113 = some (.getfield 226) := by decide +kernel
theorem i109_116 : xI 109 116 = some (.iconst 1) := by decide +kernel
theorem i109_117 : xI 109 117 = some (.iadd) := by decide +kernel
theorem i109_118 : xI 109 118 = some (.putfield 226) := by decide +kernel
theorem i109_121 : xI 109 121 = some (.iinc 3 1) := by decide +kernel
theorem i109_124 : xI 109 124 = some (.goto 77) := by decide +kernel
theorem i109_127 : xI 109 127 = some (.iinc 3 (-1)) := by decide +kernel
theorem i109_130 : xI 109 130 = some (.aload_n 0) := by decide +kernel
theorem i109_131 : xI 109 131 = some (.getfield 61) := by decide +kernel
theorem i109_134 : xI 109 134 = some (.iload_n 3) := by decide +kernel
theorem i109_135 : xI 109 135 = some (.iconst 1) := by decide +kernel
theorem i109_136 : xI 109 136 = some (.isub) := by decide +kernel
theorem i109_137 : xI 109 137 = some (.iload 4) := by decide +kernel
theorem i109_139 : xI 109 139 = some (.iconst 4) := by decide +kernel
theorem i109_140 : xI 109 140 = some (.if_icmp .ne 21) := by decide +kernel
theorem i109_143 : xI 109 143 = some (.aload_n 0) := by decide +kernel
theorem i109_144 : xI 109 144 = some (.getfield 61) := by decide +kernel
theorem i109_147 : xI 109 147 = some (.iload_n 3) := by decide +kernel
theorem i109_148 : xI 109 148 = some (.iconst 1) := by decide +kernel
theorem i109_149 : xI 109 149 = some (.isub) := by decide +kernel
theorem i109_150 : xI 109 150 = some (.iaload) := by decide +kernel
theorem i109_151 : xI 109 151 = some (.aload_n 0) := by decide +kernel
theorem i109_152 : xI 109 152 = some (.getfield 61) := by decide +kernel
theorem i109_155 : xI 109 155 = some (.iload_n 3) := by decide +kernel
theorem i109_156 : xI 109 156 = some (.iaload) := by decide +kernel
theorem i109_157 : xI 109 157 = some (.iadd) := by decide +kernel
theorem i109_158 : xI 109 158 = some (.goto 42) := by decide +kernel
theorem i109_161 : xI 109 161 = some (.iload 4) := by decide +kernel
theorem i109_163 : xI 109 163 = some (.iconst 5) := by decide +kernel
theorem i109_164 : xI 109 164 = some (.if_icmp .ne 21) := by decide +kernel
theorem i109_167 : xI 109 167 = some (.aload_n 0) := by decide +kernel
theorem i109_168 : xI 109 168 = some (.getfield 61) := by decide +kernel
theorem i109_171 : xI 109 171 = some (.iload_n 3) := by decide +kernel
theorem i109_172 : xI 109 172 = some (.iconst 1) := by decide +kernel
theorem i109_173 : xI 109 173 = some (.isub) := by decide +kernel
theorem i109_174 : xI 109 174 = some (.iaload) := by decide +kernel
theorem i109_175 : xI 109 175 = some (.aload_n 0) := by decide +kernel
theorem i109_176 : xI 109 176 = some (.getfield 61) := by decide +kernel
theorem i109_179 : xI 109 179 = some (.iload_n 3) := by decide +kernel
theorem i109_180 : xI 109 180 = some (.iaload) := by decide +kernel
theorem i109_181 : xI 109 181 = some (.isub) := by decide +kernel
theorem i109_182 : xI 109 182 = some (.goto 18) := by decide +kernel
theorem i109_185 : xI 109 185 = some (.aload_n 0) := by decide +kernel
theorem i109_186 : xI 109 186 = some (.getfield 61) := by decide +kernel
theorem i109_189 : xI 109 189 = some (.iload_n 3) := by decide +kernel
theorem i109_190 : xI 109 190 = some (.iconst 1) := by decide +kernel
theorem i109_191 : xI 109 191 = some (.isub) := by decide +kernel
theorem i109_192 : xI 109 192 = some (.iaload) := by decide +kernel
theorem i109_193 : xI 109 193 = some (.aload_n 0) := by decide +kernel
theorem i109_194 : xI 109 194 = some (.getfield 61) := by decide +kernel
theorem i109_197 : xI 109 197 = some (.iload_n 3) := by decide +kernel
theorem i109_198 : xI 109 198 = some (.iaload) := by decide +kernel
theorem i109_199 : xI 109 199 = some (.imul) := by decide +kernel
theorem i109_200 : xI 109 200 = some (.iastore) := by decide +kernel
theorem i109_201 : xI 109 201 = some (.goto (-192)) := by decide +kernel
theorem i109_204 : xI 109 204 = some (.aload_n 0) := by decide +kernel
theorem i109_205 : xI 109 205 = some (.dup) := by decide +kernel
theorem i109_206 : xI 109 206 = some (.getfield 226) := by decide +kernel
theorem i109_209 : xI 109 209 = some (.iconst 1) := by decide +kernel
theorem i109_210 : xI 109 210 = some (.iadd) := by decide +kernel
theorem i109_211 : xI 109 211 = some (.putfield 226) := by decide +kernel
theorem i109_214 : xI 109 214 = some (.aload_n 0) := by decide +kernel
theorem i109_215 : xI 109 215 = some (.getfield 61) := by decide +kernel
theorem i109_218 : xI 109 218 = some (.iconst 0) := by decide +kernel
theorem i109_219 : xI 109 219 = some (.iaload) := by decide +kernel
theorem i109_220 : xI 109 220 = some (.ireturn) := by decide +kernel
-- 110 M_assure
theorem i110_0 : xI 110 0 = some (.iload_n 1) := by decide +kernel
theorem i110_1 : xI 110 1 = some (.i2l) := by decide +kernel
theorem i110_2 : xI 110 2 = some (.lconst 0) := by decide +kernel
theorem i110_3 : xI 110 3 = some (.ldc2_w 268) := by decide +kernel
theorem i110_6 : xI 110 6 = some (.invokestatic 77) := by decide +kernel
theorem i110_9 : xI 110 9 = some (.ifCond .eq 15) := by decide +kernel
theorem i110_12 : xI 110 12 = some (.iload_n 2) := by decide +kernel
theorem i110_13 : xI 110 13 = some (.i2l) := by decide +kernel
theorem i110_14 : xI 110 14 = some (.lconst 0) := by decide +kernel
theorem i110_15 : xI 110 15 = some (.ldc2_w 283) := by decide +kernel
theorem i110_18 : xI 110 18 = some (.invokestatic 77) := by decide +kernel
theorem i110_21 : xI 110 21 = some (.ifCond .ne 5) := by decide +kernel
theorem i110_24 : xI 110 24 = some (.iconst (-1)) := by decide +kernel
theorem i110_25 : xI 110 25 = some (.ireturn) := by decide +kernel
theorem i110_26 : xI 110 26 = some (.aload_n 0) := by decide +kernel
theorem i110_27 : xI 110 27 = some (.getfield 45) := by decide +kernel
theorem i110_30 : xI 110 30 = some (.iload_n 1) := by decide +kernel
theorem i110_31 : xI 110 31 = some (.iaload) := by decide +kernel
theorem i110_32 : xI 110 32 = some (.istore 4) := by decide +kernel
theorem i110_34 : xI 110 34 = some (.aload_n 0) := by decide +kernel
theorem i110_35 : xI 110 35 = some (.getfield 45) := by decide +kernel
theorem i110_38 : xI 110 38 = some (.iload_n 1) := by decide +kernel
theorem i110_39 : xI 110 39 = some (.iload_n 2) := by decide +kernel
theorem i110_40 : xI 110 40 = some (.iastore) := by decide +kernel
theorem i110_41 : xI 110 41 = some (.iload_n 3) := by decide +kernel
theorem i110_42 : xI 110 42 = some (.ifCond .eq 23) := by decide +kernel
theorem i110_45 : xI 110 45 = some (.aload_n 0) := by decide +kernel
theorem i110_46 : xI 110 46 = some (.getfield 49) := by decide +kernel
theorem i110_49 : xI 110 49 = some (.iload_n 1) := by decide +kernel
theorem i110_50 : xI 110 50 = some (.aaload) := by decide +kernel
theorem i110_51 : xI 110 51 = some (.iconst 0) := by decide +kernel
theorem i110_52 : xI 110 52 = some (.invokestatic 252) := by decide +kernel
theorem i110_55 : xI 110 55 = some (.aload_n 0) := by decide +kernel
theorem i110_56 : xI 110 56 = some (.getfield 52) := by decide +kernel
theorem i110_59 : xI 110 59 = some (.iload_n 1) := by decide +kernel
theorem i110_60 : xI 110 60 = some (.aaload) := by decide +kernel
theorem i110_61 : xI 110 61 = some (.iconst 0) := by decide +kernel
theorem i110_62 : xI 110 62 = some (.invokestatic 252) := by decide +kernel
theorem i110_65 : xI 110 65 = some (.iload 4) := by decide +kernel
theorem i110_67 : xI 110 67 = some (.ireturn) := by decide +kernel
-- 111 M_commit
theorem i111_0 : xI 111 0 = some (.iload_n 1) := by decide +kernel
theorem i111_1 : xI 111 1 = some (.ifCond .ge 5) := by decide +kernel
theorem i111_4 : xI 111 4 = some (.iconst (-1)) := by decide +kernel
theorem i111_5 : xI 111 5 = some (.ireturn) := by decide +kernel
theorem i111_6 : xI 111 6 = some (.aload_n 0) := by decide +kernel
theorem i111_7 : xI 111 7 = some (.iconst 0) := by decide +kernel
theorem i111_8 : xI 111 8 = some (.invokevirtual 249) := by decide +kernel
theorem i111_11 : xI 111 11 = some (.iconst 0) := by decide +kernel
theorem i111_12 : xI 111 12 = some (.istore_n 2) := by decide +kernel
theorem i111_13 : xI 111 13 = some (.aload_n 0) := by decide +kernel
theorem i111_14 : xI 111 14 = some (.getfield 39) := by decide +kernel
theorem i111_17 : xI 111 17 = some (.iconst 0) := by decide +kernel
theorem i111_18 : xI 111 18 = some (.iaload) := by decide +kernel
theorem i111_19 : xI 111 19 = some (.istore_n 3) := by decide +kernel
theorem i111_20 : xI 111 20 = some (.iload_n 3) := by decide +kernel
theorem i111_21 : xI 111 21 = some (.aload_n 0) := by decide +kernel
theorem i111_22 : xI 111 22 = some (.getfield 236) := by decide +kernel
theorem i111_25 : xI 111 25 = some (.if_icmp .ge 57) := by decide +kernel
theorem i111_28 : xI 111 28 = some (.iload_n 2) := by decide +kernel
theorem i111_29 : xI 111 29 = some (.iload_n 1) := by decide +kernel
theorem i111_30 : xI 111 30 = some (.if_icmp .ge 52) := by decide +kernel
theorem i111_33 : xI 111 33 = some (.aload_n 0) := by decide +kernel
theorem i111_34 : xI 111 34 = some (.dup) := by decide +kernel
theorem i111_35 : xI 111 35 = some (.getfield 285) := by decide +kernel
theorem i111_38 : xI 111 38 = some (.iconst 1) := by decide +kernel
theorem i111_39 : xI 111 39 = some (.iadd) := by decide +kernel
theorem i111_40 : xI 111 40 = some (.putfield 285) := by decide +kernel
theorem i111_43 : xI 111 43 = some (.aload_n 0) := by decide +kernel
theorem i111_44 : xI 111 44 = some (.getfield 20) := by decide +kernel
theorem i111_47 : xI 111 47 = some (.aload_n 0) := by decide +kernel
theorem i111_48 : xI 111 48 = some (.getfield 70) := by decide +kernel
theorem i111_51 : xI 111 51 = some (.iload_n 3) := by decide +kernel
theorem i111_52 : xI 111 52 = some (.iaload) := by decide +kernel
theorem i111_53 : xI 111 53 = some (.aload_n 0) := by decide +kernel
theorem i111_54 : xI 111 54 = some (.getfield 285) := by decide +kernel
theorem i111_57 : xI 111 57 = some (.iastore) := by decide +kernel
theorem i111_58 : xI 111 58 = some (.aload_n 0) := by decide +kernel
theorem i111_59 : xI 111 59 = some (.getfield 23) := by decide +kernel
theorem i111_62 : xI 111 62 = some (.aload_n 0) := by decide +kernel
theorem i111_63 : xI 111 63 = some (.getfield 285) := by decide +kernel
theorem i111_66 : xI 111 66 = some (.aload_n 0) := by decide +kernel
theorem i111_67 : xI 111 67 = some (.getfield 70) := by decide +kernel
theorem i111_70 : xI 111 70 = some (.iload_n 3) := by decide +kernel
theorem i111_71 : xI 111 71 = some (.iaload) := by decide +kernel
theorem i111_72 : xI 111 72 = some (.iastore) := by decide +kernel
theorem i111_73 : xI 111 73 = some (.iinc 2 1) := by decide +kernel
theorem i111_76 : xI 111 76 = some (.iinc 3 1) := by decide +kernel
theorem i111_79 : xI 111 79 = some (.goto (-59)) := by decide +kernel
theorem i111_82 : xI 111 82 = some (.aload_n 0) := by decide +kernel
theorem i111_83 : xI 111 83 = some (.getfield 39) := by decide +kernel
theorem i111_86 : xI 111 86 = some (.iconst 0) := by decide +kernel
theorem i111_87 : xI 111 87 = some (.dup2) := by decide +kernel
theorem i111_88 : xI 111 88 = some (.iaload) := by decide +kernel
theorem i111_89 : xI 111 89 = some (.iload_n 2) := by decide +kernel
theorem i111_90 : xI 111 90 = some (.iadd) := by decide +kernel
theorem i111_91 : xI 111 91 = some (.iastore) := by decide +kernel
theorem i111_92 : xI 111 92 = some (.iload_n 2) := by decide +kernel
theorem i111_93 : xI 111 93 = some (.ireturn) := by decide +kernel
-- 112 M_meet
theorem i112_0 : xI 112 0 = some (.iload_n 3) := by decide +kernel
theorem i112_1 : xI 112 1 = some (.ifCond .lt 32) := by decide +kernel
theorem i112_4 : xI 112 4 = some (.iload_n 1) := by decide +kernel
theorem i112_5 : xI 112 5 = some (.i2l) := by decide +kernel
theorem i112_6 : xI 112 6 = some (.lconst 0) := by decide +kernel
theorem i112_7 : xI 112 7 = some (.ldc2_w 266) := by decide +kernel
theorem i112_10 : xI 112 10 = some (.invokestatic 77) := by decide +kernel
theorem i112_13 : xI 112 13 = some (.ifCond .eq 20) := by decide +kernel
theorem i112_16 : xI 112 16 = some (.iload_n 2) := by decide +kernel
theorem i112_17 : xI 112 17 = some (.i2l) := by decide +kernel
theorem i112_18 : xI 112 18 = some (.lconst 0) := by decide +kernel
theorem i112_19 : xI 112 19 = some (.ldc2_w 266) := by decide +kernel
theorem i112_22 : xI 112 22 = some (.invokestatic 77) := by decide +kernel
theorem i112_25 : xI 112 25 = some (.ifCond .eq 8) := by decide +kernel
theorem i112_28 : xI 112 28 = some (.iload_n 1) := by decide +kernel
theorem i112_29 : xI 112 29 = some (.iload_n 2) := by decide +kernel
theorem i112_30 : xI 112 30 = some (.if_icmp .ne 5) := by decide +kernel
theorem i112_33 : xI 112 33 = some (.iconst (-1)) := by decide +kernel
theorem i112_34 : xI 112 34 = some (.ireturn) := by decide +kernel
theorem i112_35 : xI 112 35 = some (.iconst 0) := by decide +kernel
theorem i112_36 : xI 112 36 = some (.istore 4) := by decide +kernel
theorem i112_38 : xI 112 38 = some (.aload_n 0) := by decide +kernel
theorem i112_39 : xI 112 39 = some (.iload_n 1) := by decide +kernel
theorem i112_40 : xI 112 40 = some (.invokevirtual 249) := by decide +kernel
theorem i112_43 : xI 112 43 = some (.aload_n 0) := by decide +kernel
theorem i112_44 : xI 112 44 = some (.getfield 42) := by decide +kernel
theorem i112_47 : xI 112 47 = some (.iload_n 1) := by decide +kernel
theorem i112_48 : xI 112 48 = some (.iaload) := by decide +kernel
theorem i112_49 : xI 112 49 = some (.aload_n 0) := by decide +kernel
theorem i112_50 : xI 112 50 = some (.getfield 39) := by decide +kernel
theorem i112_53 : xI 112 53 = some (.iload_n 2) := by decide +kernel
theorem i112_54 : xI 112 54 = some (.iaload) := by decide +kernel
theorem i112_55 : xI 112 55 = some (.if_icmp .le 68) := by decide +kernel
theorem i112_58 : xI 112 58 = some (.iload 4) := by decide +kernel
theorem i112_60 : xI 112 60 = some (.iload_n 3) := by decide +kernel
theorem i112_61 : xI 112 61 = some (.if_icmp .ge 62) := by decide +kernel
theorem i112_64 : xI 112 64 = some (.iconst 1) := by decide +kernel
theorem i112_65 : xI 112 65 = some (.istore 5) := by decide +kernel
theorem i112_67 : xI 112 67 = some (.iload 5) := by decide +kernel
theorem i112_69 : xI 112 69 = some (.aload_n 0) := by decide +kernel
theorem i112_70 : xI 112 70 = some (.getfield 42) := by decide +kernel
theorem i112_73 : xI 112 73 = some (.iload_n 1) := by decide +kernel
theorem i112_74 : xI 112 74 = some (.iaload) := by decide +kernel
theorem i112_75 : xI 112 75 = some (.if_icmp .gt 21) := by decide +kernel
theorem i112_78 : xI 112 78 = some (.aload_n 0) := by decide +kernel
theorem i112_79 : xI 112 79 = some (.iload_n 2) := by decide +kernel
theorem i112_80 : xI 112 80 = some (.aload_n 0) := by decide +kernel
theorem i112_81 : xI 112 81 = some (.getfield 23) := by decide +kernel
theorem i112_84 : xI 112 84 = some (.iload 5) := by decide +kernel
theorem i112_86 : xI 112 86 = some (.iaload) := by decide +kernel
theorem i112_87 : xI 112 87 = some (.invokevirtual 288) := by decide +kernel
theorem i112_90 : xI 112 90 = some (.iinc 5 1) := by decide +kernel
theorem i112_93 : xI 112 93 = some (.goto (-26)) := by decide +kernel
theorem i112_96 : xI 112 96 = some (.aload_n 0) := by decide +kernel
theorem i112_97 : xI 112 97 = some (.getfield 39) := by decide +kernel
theorem i112_100 : xI 112 100 = some (.iload_n 2) := by decide +kernel
theorem i112_101 : xI 112 101 = some (.aload_n 0) := by decide +kernel
theorem i112_102 : xI 112 102 = some (.getfield 42) := by decide +kernel
theorem i112_105 : xI 112 105 = some (.iload_n 1) := by decide +kernel
theorem i112_106 : xI 112 106 = some (.iaload) := by decide +kernel
theorem i112_107 : xI 112 107 = some (.iastore) := by decide +kernel
theorem i112_108 : xI 112 108 = some (.aload_n 0) := by decide +kernel
theorem i112_109 : xI 112 109 = some (.getfield 42) := by decide +kernel
theorem i112_112 : xI 112 112 = some (.iload_n 2) := by decide +kernel
theorem i112_113 : xI 112 113 = some (.aload_n 0) := by decide +kernel
theorem i112_114 : xI 112 114 = some (.getfield 42) := by decide +kernel
theorem i112_117 : xI 112 117 = some (.iload_n 1) := by decide +kernel
theorem i112_118 : xI 112 118 = some (.iaload) := by decide +kernel
theorem i112_119 : xI 112 119 = some (.iastore) := by decide +kernel
theorem i112_120 : xI 112 120 = some (.iinc 4 1) := by decide +kernel
theorem i112_123 : xI 112 123 = some (.aload_n 0) := by decide +kernel
theorem i112_124 : xI 112 124 = some (.getfield 42) := by decide +kernel
theorem i112_127 : xI 112 127 = some (.iload_n 1) := by decide +kernel
theorem i112_128 : xI 112 128 = some (.iaload) := by decide +kernel
theorem i112_129 : xI 112 129 = some (.istore 5) := by decide +kernel
theorem i112_131 : xI 112 131 = some (.iload 5) := by decide +kernel
theorem i112_133 : xI 112 133 = some (.aload_n 0) := by decide +kernel
theorem i112_134 : xI 112 134 = some (.getfield 236) := by decide +kernel
theorem i112_137 : xI 112 137 = some (.if_icmp .ge 105) := by decide +kernel
theorem i112_140 : xI 112 140 = some (.iload 4) := by decide +kernel
theorem i112_142 : xI 112 142 = some (.iload_n 3) := by decide +kernel
theorem i112_143 : xI 112 143 = some (.if_icmp .ge 99) := by decide +kernel
theorem i112_146 : xI 112 146 = some (.aload_n 0) := by decide +kernel
theorem i112_147 : xI 112 147 = some (.getfield 70) := by decide +kernel
theorem i112_150 : xI 112 150 = some (.iload 5) := by decide +kernel
theorem i112_152 : xI 112 152 = some (.iaload) := by decide +kernel
theorem i112_153 : xI 112 153 = some (.istore 6) := by decide +kernel
theorem i112_155 : xI 112 155 = some (.iload 5) := by decide +kernel
theorem i112_157 : xI 112 157 = some (.aload_n 0) := by decide +kernel
theorem i112_158 : xI 112 158 = some (.getfield 39) := by decide +kernel
theorem i112_161 : xI 112 161 = some (.iload_n 1) := by decide +kernel
theorem i112_162 : xI 112 162 = some (.iaload) := by decide +kernel
theorem i112_163 : xI 112 163 = some (.if_icmp .ge 51) := by decide +kernel
theorem i112_166 : xI 112 166 = some (.aload_n 0) := by decide +kernel
theorem i112_167 : xI 112 167 = some (.iload_n 2) := by decide +kernel
theorem i112_168 : xI 112 168 = some (.iload 6) := by decide +kernel
theorem i112_170 : xI 112 170 = some (.invokevirtual 242) := by decide +kernel
theorem i112_173 : xI 112 173 = some (.ifCond .eq 6) := by decide +kernel
theorem i112_176 : xI 112 176 = some (.goto 60) := by decide +kernel
theorem i112_179 : xI 112 179 = some (.aload_n 0) := by decide +kernel
theorem i112_180 : xI 112 180 = some (.getfield 33) := by decide +kernel
theorem i112_183 : xI 112 183 = some (.iload_n 2) := by decide +kernel
theorem i112_184 : xI 112 184 = some (.aaload) := by decide +kernel
theorem i112_185 : xI 112 185 = some (.iload 6) := by decide +kernel
theorem i112_187 : xI 112 187 = some (.baload) := by decide +kernel
theorem i112_188 : xI 112 188 = some (.ifCond .ne 10) := by decide +kernel
theorem i112_191 : xI 112 191 = some (.aload_n 0) := by decide +kernel
theorem i112_192 : xI 112 192 = some (.iload_n 2) := by decide +kernel
theorem i112_193 : xI 112 193 = some (.iload 6) := by decide +kernel
theorem i112_195 : xI 112 195 = some (.invokevirtual 288) := by decide +kernel
theorem i112_198 : xI 112 198 = some (.aload_n 0) := by decide +kernel
theorem i112_199 : xI 112 199 = some (.getfield 39) := by decide +kernel
theorem i112_202 : xI 112 202 = some (.iload_n 2) := by decide +kernel
theorem i112_203 : xI 112 203 = some (.dup2) := by decide +kernel
theorem i112_204 : xI 112 204 = some (.iaload) := by decide +kernel
theorem i112_205 : xI 112 205 = some (.iconst 1) := by decide +kernel
theorem i112_206 : xI 112 206 = some (.iadd) := by decide +kernel
theorem i112_207 : xI 112 207 = some (.iastore) := by decide +kernel
theorem i112_208 : xI 112 208 = some (.iinc 4 1) := by decide +kernel
theorem i112_211 : xI 112 211 = some (.goto 25) := by decide +kernel
theorem i112_214 : xI 112 214 = some (.aload_n 0) := by decide +kernel
theorem i112_215 : xI 112 215 = some (.getfield 33) := by decide +kernel
theorem i112_218 : xI 112 218 = some (.iload_n 2) := by decide +kernel
theorem i112_219 : xI 112 219 = some (.aaload) := by decide +kernel
theorem i112_220 : xI 112 220 = some (.iload 6) := by decide +kernel
theorem i112_222 : xI 112 222 = some (.baload) := by decide +kernel
theorem i112_223 : xI 112 223 = some (.ifCond .ne 13) := by decide +kernel
theorem i112_226 : xI 112 226 = some (.aload_n 0) := by decide +kernel
theorem i112_227 : xI 112 227 = some (.iload_n 2) := by decide +kernel
theorem i112_228 : xI 112 228 = some (.iload 6) := by decide +kernel
theorem i112_230 : xI 112 230 = some (.invokevirtual 288) := by decide +kernel
theorem i112_233 : xI 112 233 = some (.iinc 4 1) := by decide +kernel
theorem i112_236 : xI 112 236 = some (.iinc 5 1) := by decide +kernel
theorem i112_239 : xI 112 239 = some (.goto (-108)) := by decide +kernel
theorem i112_242 : xI 112 242 = some (.iload 4) := by decide +kernel
theorem i112_244 : xI 112 244 = some (.ireturn) := by decide +kernel
-- 113 M_learn
theorem i113_0 : xI 113 0 = some (.aload_n 0) := by decide +kernel
theorem i113_1 : xI 113 1 = some (.getfield 33) := by decide +kernel
theorem i113_4 : xI 113 4 = some (.iload_n 1) := by decide +kernel
theorem i113_5 : xI 113 5 = some (.aaload) := by decide +kernel
theorem i113_6 : xI 113 6 = some (.iload_n 2) := by decide +kernel
theorem i113_7 : xI 113 7 = some (.iconst 1) := by decide +kernel
theorem i113_8 : xI 113 8 = some (.bastore) := by decide +kernel
theorem i113_9 : xI 113 9 = some (.aload_n 0) := by decide +kernel
theorem i113_10 : xI 113 10 = some (.getfield 36) := by decide +kernel
theorem i113_13 : xI 113 13 = some (.iload_n 1) := by decide +kernel
theorem i113_14 : xI 113 14 = some (.aload_n 0) := by decide +kernel
theorem i113_15 : xI 113 15 = some (.getfield 36) := by decide +kernel
theorem i113_18 : xI 113 18 = some (.iload_n 1) := by decide +kernel
theorem i113_19 : xI 113 19 = some (.iaload) := by decide +kernel
theorem i113_20 : xI 113 20 = some (.aload_n 0) := by decide +kernel
theorem i113_21 : xI 113 21 = some (.getfield 17) := by decide +kernel
theorem i113_24 : xI 113 24 = some (.iload_n 2) := by decide +kernel
theorem i113_25 : xI 113 25 = some (.iaload) := by decide +kernel
theorem i113_26 : xI 113 26 = some (.invokestatic 259) := by decide +kernel
theorem i113_29 : xI 113 29 = some (.iastore) := by decide +kernel
theorem i113_30 : xI 113 30 = some (.return_) := by decide +kernel
-- 114 M_forget
theorem i114_0 : xI 114 0 = some (.iload_n 1) := by decide +kernel
theorem i114_1 : xI 114 1 = some (.i2l) := by decide +kernel
theorem i114_2 : xI 114 2 = some (.lconst 0) := by decide +kernel
theorem i114_3 : xI 114 3 = some (.ldc2_w 266) := by decide +kernel
theorem i114_6 : xI 114 6 = some (.invokestatic 77) := by decide +kernel
theorem i114_9 : xI 114 9 = some (.ifCond .eq 7) := by decide +kernel
theorem i114_12 : xI 114 12 = some (.iload_n 2) := by decide +kernel
theorem i114_13 : xI 114 13 = some (.ifCond .ge 5) := by decide +kernel
theorem i114_16 : xI 114 16 = some (.iconst (-1)) := by decide +kernel
theorem i114_17 : xI 114 17 = some (.ireturn) := by decide +kernel
theorem i114_18 : xI 114 18 = some (.aload_n 0) := by decide +kernel
theorem i114_19 : xI 114 19 = some (.getfield 42) := by decide +kernel
theorem i114_22 : xI 114 22 = some (.iload_n 1) := by decide +kernel
theorem i114_23 : xI 114 23 = some (.aload_n 0) := by decide +kernel
theorem i114_24 : xI 114 24 = some (.getfield 39) := by decide +kernel
theorem i114_27 : xI 114 27 = some (.iload_n 1) := by decide +kernel
theorem i114_28 : xI 114 28 = some (.iaload) := by decide +kernel
theorem i114_29 : xI 114 29 = some (.i2l) := by decide +kernel
theorem i114_30 : xI 114 30 = some (.aload_n 0) := by decide +kernel
theorem i114_31 : xI 114 31 = some (.getfield 42) := by decide +kernel
theorem i114_34 : xI 114 34 = some (.iload_n 1) := by decide +kernel
theorem i114_35 : xI 114 35 = some (.iaload) := by decide +kernel
theorem i114_36 : xI 114 36 = some (.i2l) := by decide +kernel
theorem i114_37 : xI 114 37 = some (.iload_n 2) := by decide +kernel
theorem i114_38 : xI 114 38 = some (.i2l) := by decide +kernel
theorem i114_39 : xI 114 39 = some (.ladd) := by decide +kernel
theorem i114_40 : xI 114 40 = some (.invokestatic 129) := by decide +kernel
theorem i114_43 : xI 114 43 = some (.l2i) := by decide +kernel
theorem i114_44 : xI 114 44 = some (.iastore) := by decide +kernel
theorem i114_45 : xI 114 45 = some (.aload_n 0) := by decide +kernel
theorem i114_46 : xI 114 46 = some (.getfield 42) := by decide +kernel
theorem i114_49 : xI 114 49 = some (.iload_n 1) := by decide +kernel
theorem i114_50 : xI 114 50 = some (.iaload) := by decide +kernel
theorem i114_51 : xI 114 51 = some (.ireturn) := by decide +kernel
-- 115 M_order
theorem i115_0 : xI 115 0 = some (.iload_n 1) := by decide +kernel
theorem i115_1 : xI 115 1 = some (.i2l) := by decide +kernel
theorem i115_2 : xI 115 2 = some (.lconst 0) := by decide +kernel
theorem i115_3 : xI 115 3 = some (.ldc2_w 266) := by decide +kernel
theorem i115_6 : xI 115 6 = some (.invokestatic 77) := by decide +kernel
theorem i115_9 : xI 115 9 = some (.ifCond .ne 5) := by decide +kernel
theorem i115_12 : xI 115 12 = some (.iconst (-1)) := by decide +kernel
theorem i115_13 : xI 115 13 = some (.ireturn) := by decide +kernel
theorem i115_14 : xI 115 14 = some (.aload_n 0) := by decide +kernel
theorem i115_15 : xI 115 15 = some (.iload_n 1) := by decide +kernel
theorem i115_16 : xI 115 16 = some (.invokevirtual 249) := by decide +kernel
theorem i115_19 : xI 115 19 = some (.iload_n 2) := by decide +kernel
theorem i115_20 : xI 115 20 = some (.i2l) := by decide +kernel
theorem i115_21 : xI 115 21 = some (.lconst 0) := by decide +kernel
theorem i115_22 : xI 115 22 = some (.aload_n 0) := by decide +kernel
theorem i115_23 : xI 115 23 = some (.getfield 236) := by decide +kernel
theorem i115_26 : xI 115 26 = some (.iconst 1) := by decide +kernel
theorem i115_27 : xI 115 27 = some (.isub) := by decide +kernel
theorem i115_28 : xI 115 28 = some (.i2l) := by decide +kernel
theorem i115_29 : xI 115 29 = some (.invokestatic 77) := by decide +kernel
theorem i115_32 : xI 115 32 = some (.ifCond .eq 12) := by decide +kernel
theorem i115_35 : xI 115 35 = some (.aload_n 0) := by decide +kernel
theorem i115_36 : xI 115 36 = some (.getfield 70) := by decide +kernel
theorem i115_39 : xI 115 39 = some (.iload_n 2) := by decide +kernel
theorem i115_40 : xI 115 40 = some (.iaload) := by decide +kernel
theorem i115_41 : xI 115 41 = some (.goto 5) := by decide +kernel
theorem i115_44 : xI 115 44 = some (.bipush (-2)) := by decide +kernel
theorem i115_46 : xI 115 46 = some (.ireturn) := by decide +kernel
-- 116 M_outcome
theorem i116_0 : xI 116 0 = some (.iload_n 1) := by decide +kernel
theorem i116_1 : xI 116 1 = some (.i2l) := by decide +kernel
theorem i116_2 : xI 116 2 = some (.lconst 0) := by decide +kernel
theorem i116_3 : xI 116 3 = some (.ldc2_w 266) := by decide +kernel
theorem i116_6 : xI 116 6 = some (.invokestatic 77) := by decide +kernel
theorem i116_9 : xI 116 9 = some (.ifCond .ne 5) := by decide +kernel
theorem i116_12 : xI 116 12 = some (.iconst (-1)) := by decide +kernel
theorem i116_13 : xI 116 13 = some (.ireturn) := by decide +kernel
theorem i116_14 : xI 116 14 = some (.iload_n 2) := by decide +kernel
theorem i116_15 : xI 116 15 = some (.i2l) := by decide +kernel
theorem i116_16 : xI 116 16 = some (.lconst 0) := by decide +kernel
theorem i116_17 : xI 116 17 = some (.aload_n 0) := by decide +kernel
theorem i116_18 : xI 116 18 = some (.getfield 239) := by decide +kernel
theorem i116_21 : xI 116 21 = some (.iconst 1) := by decide +kernel
theorem i116_22 : xI 116 22 = some (.isub) := by decide +kernel
theorem i116_23 : xI 116 23 = some (.i2l) := by decide +kernel
theorem i116_24 : xI 116 24 = some (.invokestatic 77) := by decide +kernel
theorem i116_27 : xI 116 27 = some (.ifCond .eq 14) := by decide +kernel
theorem i116_30 : xI 116 30 = some (.aload_n 0) := by decide +kernel
theorem i116_31 : xI 116 31 = some (.getfield 33) := by decide +kernel
theorem i116_34 : xI 116 34 = some (.iload_n 1) := by decide +kernel
theorem i116_35 : xI 116 35 = some (.aaload) := by decide +kernel
theorem i116_36 : xI 116 36 = some (.iload_n 2) := by decide +kernel
theorem i116_37 : xI 116 37 = some (.baload) := by decide +kernel
theorem i116_38 : xI 116 38 = some (.ifCond .ne 6) := by decide +kernel
theorem i116_41 : xI 116 41 = some (.bipush (-2)) := by decide +kernel
theorem i116_43 : xI 116 43 = some (.ireturn) := by decide +kernel
theorem i116_44 : xI 116 44 = some (.aload_n 0) := by decide +kernel
theorem i116_45 : xI 116 45 = some (.iload_n 1) := by decide +kernel
theorem i116_46 : xI 116 46 = some (.invokevirtual 249) := by decide +kernel
theorem i116_49 : xI 116 49 = some (.aload_n 0) := by decide +kernel
theorem i116_50 : xI 116 50 = some (.getfield 58) := by decide +kernel
theorem i116_53 : xI 116 53 = some (.iconst 0) := by decide +kernel
theorem i116_54 : xI 116 54 = some (.invokestatic 252) := by decide +kernel
theorem i116_57 : xI 116 57 = some (.iconst 0) := by decide +kernel
theorem i116_58 : xI 116 58 = some (.istore_n 3) := by decide +kernel
theorem i116_59 : xI 116 59 = some (.iconst 0) := by decide +kernel
theorem i116_60 : xI 116 60 = some (.istore 4) := by decide +kernel
theorem i116_62 : xI 116 62 = some (.iload 4) := by decide +kernel
theorem i116_64 : xI 116 64 = some (.aload_n 0) := by decide +kernel
theorem i116_65 : xI 116 65 = some (.getfield 236) := by decide +kernel
theorem i116_68 : xI 116 68 = some (.if_icmp .ge 34) := by decide +kernel
theorem i116_71 : xI 116 71 = some (.aload_n 0) := by decide +kernel
theorem i116_72 : xI 116 72 = some (.aload_n 0) := by decide +kernel
theorem i116_73 : xI 116 73 = some (.getfield 70) := by decide +kernel
theorem i116_76 : xI 116 76 = some (.iload 4) := by decide +kernel
theorem i116_78 : xI 116 78 = some (.iaload) := by decide +kernel
theorem i116_79 : xI 116 79 = some (.invokevirtual 256) := by decide +kernel
theorem i116_82 : xI 116 82 = some (.istore_n 3) := by decide +kernel
theorem i116_83 : xI 116 83 = some (.aload_n 0) := by decide +kernel
theorem i116_84 : xI 116 84 = some (.getfield 70) := by decide +kernel
theorem i116_87 : xI 116 87 = some (.iload 4) := by decide +kernel
theorem i116_89 : xI 116 89 = some (.iaload) := by decide +kernel
theorem i116_90 : xI 116 90 = some (.iload_n 2) := by decide +kernel
theorem i116_91 : xI 116 91 = some (.if_icmp .ne 5) := by decide +kernel
theorem i116_94 : xI 116 94 = some (.iload_n 3) := by decide +kernel
theorem i116_95 : xI 116 95 = some (.ireturn) := by decide +kernel
theorem i116_96 : xI 116 96 = some (.iinc 4 1) := by decide +kernel
theorem i116_99 : xI 116 99 = some (.goto (-37)) := by decide +kernel
theorem i116_102 : xI 116 102 = some (.iload_n 3) := by decide +kernel
theorem i116_103 : xI 116 103 = some (.ireturn) := by decide +kernel
-- 117 M_look
theorem i117_0 : xI 117 0 = some (.iload_n 2) := by decide +kernel
theorem i117_1 : xI 117 1 = some (.i2l) := by decide +kernel
theorem i117_2 : xI 117 2 = some (.lconst 0) := by decide +kernel
theorem i117_3 : xI 117 3 = some (.ldc2_w 296) := by decide +kernel
theorem i117_6 : xI 117 6 = some (.invokestatic 77) := by decide +kernel
theorem i117_9 : xI 117 9 = some (.ifCond .ne 5) := by decide +kernel
theorem i117_12 : xI 117 12 = some (.iconst (-1)) := by decide +kernel
theorem i117_13 : xI 117 13 = some (.ireturn) := by decide +kernel
theorem i117_14 : xI 117 14 = some (.iload_n 1) := by decide +kernel
theorem i117_15 : xI 117 15 = some (.i2l) := by decide +kernel
theorem i117_16 : xI 117 16 = some (.lconst 0) := by decide +kernel
theorem i117_17 : xI 117 17 = some (.aload_n 0) := by decide +kernel
theorem i117_18 : xI 117 18 = some (.getfield 239) := by decide +kernel
theorem i117_21 : xI 117 21 = some (.iconst 1) := by decide +kernel
theorem i117_22 : xI 117 22 = some (.isub) := by decide +kernel
theorem i117_23 : xI 117 23 = some (.i2l) := by decide +kernel
theorem i117_24 : xI 117 24 = some (.invokestatic 77) := by decide +kernel
theorem i117_27 : xI 117 27 = some (.ifCond .ne 6) := by decide +kernel
theorem i117_30 : xI 117 30 = some (.bipush (-2)) := by decide +kernel
theorem i117_32 : xI 117 32 = some (.ireturn) := by decide +kernel
theorem i117_33 : xI 117 33 = some (.iload_n 2) := by decide +kernel
theorem i117_34 : xI 117 34 = some (.ifCond .ne 12) := by decide +kernel
theorem i117_37 : xI 117 37 = some (.aload_n 0) := by decide +kernel
theorem i117_38 : xI 117 38 = some (.getfield 13) := by decide +kernel
theorem i117_41 : xI 117 41 = some (.iload_n 1) := by decide +kernel
theorem i117_42 : xI 117 42 = some (.iaload) := by decide +kernel
theorem i117_43 : xI 117 43 = some (.goto 23) := by decide +kernel
theorem i117_46 : xI 117 46 = some (.iload_n 2) := by decide +kernel
theorem i117_47 : xI 117 47 = some (.iconst 1) := by decide +kernel
theorem i117_48 : xI 117 48 = some (.if_icmp .ne 12) := by decide +kernel
theorem i117_51 : xI 117 51 = some (.aload_n 0) := by decide +kernel
theorem i117_52 : xI 117 52 = some (.getfield 17) := by decide +kernel
theorem i117_55 : xI 117 55 = some (.iload_n 1) := by decide +kernel
theorem i117_56 : xI 117 56 = some (.iaload) := by decide +kernel
theorem i117_57 : xI 117 57 = some (.goto 9) := by decide +kernel
theorem i117_60 : xI 117 60 = some (.aload_n 0) := by decide +kernel
theorem i117_61 : xI 117 61 = some (.getfield 20) := by decide +kernel
theorem i117_64 : xI 117 64 = some (.iload_n 1) := by decide +kernel
theorem i117_65 : xI 117 65 = some (.iaload) := by decide +kernel
theorem i117_66 : xI 117 66 = some (.ireturn) := by decide +kernel
-- 118 M_stamp
theorem i118_0 : xI 118 0 = some (.iload_n 1) := by decide +kernel
theorem i118_1 : xI 118 1 = some (.i2l) := by decide +kernel
theorem i118_2 : xI 118 2 = some (.lconst 0) := by decide +kernel
theorem i118_3 : xI 118 3 = some (.ldc2_w 296) := by decide +kernel
theorem i118_6 : xI 118 6 = some (.invokestatic 77) := by decide +kernel
theorem i118_9 : xI 118 9 = some (.ifCond .eq 37) := by decide +kernel
end
section
/-! ===== which instruction stands where (wip/gen/lay16.py) ===== -/
theorem i118_12 : xI 118 12 = some (.iload_n 3) := by decide +kernel
theorem i118_13 : xI 118 13 = some (.i2l) := by decide +kernel
theorem i118_14 : xI 118 14 = some (.lconst 0) := by decide +kernel
theorem i118_15 : xI 118 15 = some (.ldc2_w 266) := by decide +kernel
theorem i118_18 : xI 118 18 = some (.invokestatic 77) := by decide +kernel
theorem i118_21 : xI 118 21 = some (.ifCond .eq 25) := by decide +kernel
theorem i118_24 : xI 118 24 = some (.iload_n 2) := by decide +kernel
theorem i118_25 : xI 118 25 = some (.i2l) := by decide +kernel
theorem i118_26 : xI 118 26 = some (.lconst 0) := by decide +kernel
theorem i118_27 : xI 118 27 = some (.iload_n 1) := by decide +kernel
theorem i118_28 : xI 118 28 = some (.ifCond .ne 9) := by decide +kernel
theorem i118_31 : xI 118 31 = some (.ldc2_w 266) := by decide +kernel
theorem i118_34 : xI 118 34 = some (.goto 6) := by decide +kernel
theorem i118_37 : xI 118 37 = some (.ldc2_w 268) := by decide +kernel
theorem i118_40 : xI 118 40 = some (.invokestatic 77) := by decide +kernel
theorem i118_43 : xI 118 43 = some (.ifCond .ne 5) := by decide +kernel
theorem i118_46 : xI 118 46 = some (.iconst (-1)) := by decide +kernel
theorem i118_47 : xI 118 47 = some (.ireturn) := by decide +kernel
theorem i118_48 : xI 118 48 = some (.iload_n 1) := by decide +kernel
theorem i118_49 : xI 118 49 = some (.ifCond .ne 12) := by decide +kernel
theorem i118_52 : xI 118 52 = some (.aload_n 0) := by decide +kernel
theorem i118_53 : xI 118 53 = some (.iload_n 2) := by decide +kernel
theorem i118_54 : xI 118 54 = some (.iload_n 3) := by decide +kernel
theorem i118_55 : xI 118 55 = some (.invokevirtual 263) := by decide +kernel
theorem i118_58 : xI 118 58 = some (.goto 27) := by decide +kernel
theorem i118_61 : xI 118 61 = some (.iload_n 1) := by decide +kernel
theorem i118_62 : xI 118 62 = some (.iconst 1) := by decide +kernel
theorem i118_63 : xI 118 63 = some (.if_icmp .ne 14) := by decide +kernel
theorem i118_66 : xI 118 66 = some (.aload_n 0) := by decide +kernel
theorem i118_67 : xI 118 67 = some (.getfield 49) := by decide +kernel
theorem i118_70 : xI 118 70 = some (.iload_n 2) := by decide +kernel
theorem i118_71 : xI 118 71 = some (.aaload) := by decide +kernel
theorem i118_72 : xI 118 72 = some (.iload_n 3) := by decide +kernel
theorem i118_73 : xI 118 73 = some (.iaload) := by decide +kernel
theorem i118_74 : xI 118 74 = some (.goto 11) := by decide +kernel
theorem i118_77 : xI 118 77 = some (.aload_n 0) := by decide +kernel
theorem i118_78 : xI 118 78 = some (.getfield 52) := by decide +kernel
theorem i118_81 : xI 118 81 = some (.iload_n 2) := by decide +kernel
theorem i118_82 : xI 118 82 = some (.aaload) := by decide +kernel
theorem i118_83 : xI 118 83 = some (.iload_n 3) := by decide +kernel
theorem i118_84 : xI 118 84 = some (.iaload) := by decide +kernel
theorem i118_85 : xI 118 85 = some (.ireturn) := by decide +kernel
-- 119 M_count
theorem i119_0 : xI 119 0 = some (.iload_n 1) := by decide +kernel
theorem i119_1 : xI 119 1 = some (.i2l) := by decide +kernel
theorem i119_2 : xI 119 2 = some (.lconst 0) := by decide +kernel
theorem i119_3 : xI 119 3 = some (.ldc2_w 266) := by decide +kernel
theorem i119_6 : xI 119 6 = some (.invokestatic 77) := by decide +kernel
theorem i119_9 : xI 119 9 = some (.ifCond .eq 15) := by decide +kernel
theorem i119_12 : xI 119 12 = some (.iload_n 2) := by decide +kernel
theorem i119_13 : xI 119 13 = some (.i2l) := by decide +kernel
theorem i119_14 : xI 119 14 = some (.lconst 0) := by decide +kernel
theorem i119_15 : xI 119 15 = some (.ldc2_w 298) := by decide +kernel
theorem i119_18 : xI 119 18 = some (.invokestatic 77) := by decide +kernel
theorem i119_21 : xI 119 21 = some (.ifCond .ne 5) := by decide +kernel
theorem i119_24 : xI 119 24 = some (.iconst (-1)) := by decide +kernel
theorem i119_25 : xI 119 25 = some (.ireturn) := by decide +kernel
theorem i119_26 : xI 119 26 = some (.iload_n 2) := by decide +kernel
theorem i119_27 : xI 119 27 = some (.iconst 1) := by decide +kernel
theorem i119_28 : xI 119 28 = some (.if_icmp .ne 10) := by decide +kernel
theorem i119_31 : xI 119 31 = some (.aload_n 0) := by decide +kernel
theorem i119_32 : xI 119 32 = some (.getfield 39) := by decide +kernel
theorem i119_35 : xI 119 35 = some (.iload_n 1) := by decide +kernel
theorem i119_36 : xI 119 36 = some (.iaload) := by decide +kernel
theorem i119_37 : xI 119 37 = some (.ireturn) := by decide +kernel
theorem i119_38 : xI 119 38 = some (.iload_n 2) := by decide +kernel
theorem i119_39 : xI 119 39 = some (.iconst 2) := by decide +kernel
theorem i119_40 : xI 119 40 = some (.if_icmp .ne 10) := by decide +kernel
theorem i119_43 : xI 119 43 = some (.aload_n 0) := by decide +kernel
theorem i119_44 : xI 119 44 = some (.getfield 42) := by decide +kernel
theorem i119_47 : xI 119 47 = some (.iload_n 1) := by decide +kernel
theorem i119_48 : xI 119 48 = some (.iaload) := by decide +kernel
theorem i119_49 : xI 119 49 = some (.ireturn) := by decide +kernel
theorem i119_50 : xI 119 50 = some (.iload_n 2) := by decide +kernel
theorem i119_51 : xI 119 51 = some (.iconst 3) := by decide +kernel
theorem i119_52 : xI 119 52 = some (.if_icmp .ne 10) := by decide +kernel
theorem i119_55 : xI 119 55 = some (.aload_n 0) := by decide +kernel
theorem i119_56 : xI 119 56 = some (.getfield 36) := by decide +kernel
theorem i119_59 : xI 119 59 = some (.iload_n 1) := by decide +kernel
theorem i119_60 : xI 119 60 = some (.iaload) := by decide +kernel
theorem i119_61 : xI 119 61 = some (.ireturn) := by decide +kernel
theorem i119_62 : xI 119 62 = some (.iconst 0) := by decide +kernel
theorem i119_63 : xI 119 63 = some (.istore_n 3) := by decide +kernel
theorem i119_64 : xI 119 64 = some (.iconst 0) := by decide +kernel
theorem i119_65 : xI 119 65 = some (.istore 4) := by decide +kernel
theorem i119_67 : xI 119 67 = some (.iload 4) := by decide +kernel
theorem i119_69 : xI 119 69 = some (.aload_n 0) := by decide +kernel
theorem i119_70 : xI 119 70 = some (.getfield 239) := by decide +kernel
theorem i119_73 : xI 119 73 = some (.if_icmp .ge 24) := by decide +kernel
theorem i119_76 : xI 119 76 = some (.aload_n 0) := by decide +kernel
theorem i119_77 : xI 119 77 = some (.getfield 33) := by decide +kernel
theorem i119_80 : xI 119 80 = some (.iload_n 1) := by decide +kernel
theorem i119_81 : xI 119 81 = some (.aaload) := by decide +kernel
theorem i119_82 : xI 119 82 = some (.iload 4) := by decide +kernel
theorem i119_84 : xI 119 84 = some (.baload) := by decide +kernel
theorem i119_85 : xI 119 85 = some (.ifCond .eq 6) := by decide +kernel
theorem i119_88 : xI 119 88 = some (.iinc 3 1) := by decide +kernel
theorem i119_91 : xI 119 91 = some (.iinc 4 1) := by decide +kernel
theorem i119_94 : xI 119 94 = some (.goto (-27)) := by decide +kernel
theorem i119_97 : xI 119 97 = some (.iload_n 3) := by decide +kernel
theorem i119_98 : xI 119 98 = some (.ireturn) := by decide +kernel
-- 120 M_writes
theorem i120_0 : xI 120 0 = some (.aload_n 0) := by decide +kernel
theorem i120_1 : xI 120 1 = some (.getfield 239) := by decide +kernel
theorem i120_4 : xI 120 4 = some (.ireturn) := by decide +kernel
-- 121 Ar_copyOf
theorem i121_0 : xI 121 0 = some (.iload_n 1) := by decide +kernel
theorem i121_1 : xI 121 1 = some (.aload_n 0) := by decide +kernel
theorem i121_2 : xI 121 2 = some (.arraylength) := by decide +kernel
theorem i121_3 : xI 121 3 = some (.if_icmp .ne 11) := by decide +kernel
theorem i121_6 : xI 121 6 = some (.aload_n 0) := by decide +kernel
theorem i121_7 : xI 121 7 = some (.invokevirtual 316) := by decide +kernel
theorem i121_13 : xI 121 13 = some (.areturn) := by decide +kernel
theorem i121_14 : xI 121 14 = some (.iload_n 1) := by decide +kernel
theorem i121_15 : xI 121 15 = some (.newarray .int) := by decide +kernel
theorem i121_17 : xI 121 17 = some (.astore_n 2) := by decide +kernel
theorem i121_18 : xI 121 18 = some (.aload_n 0) := by decide +kernel
theorem i121_19 : xI 121 19 = some (.iconst 0) := by decide +kernel
theorem i121_20 : xI 121 20 = some (.aload_n 2) := by decide +kernel
theorem i121_21 : xI 121 21 = some (.iconst 0) := by decide +kernel
theorem i121_22 : xI 121 22 = some (.aload_n 0) := by decide +kernel
theorem i121_23 : xI 121 23 = some (.arraylength) := by decide +kernel
theorem i121_24 : xI 121 24 = some (.iload_n 1) := by decide +kernel
theorem i121_25 : xI 121 25 = some (.invokestatic 304) := by decide +kernel
theorem i121_28 : xI 121 28 = some (.invokestatic 150) := by decide +kernel
theorem i121_31 : xI 121 31 = some (.aload_n 2) := by decide +kernel
theorem i121_32 : xI 121 32 = some (.areturn) := by decide +kernel
-- 122 Ar_fill
theorem i122_0 : xI 122 0 = some (.iconst 0) := by decide +kernel
theorem i122_1 : xI 122 1 = some (.istore_n 2) := by decide +kernel
theorem i122_2 : xI 122 2 = some (.aload_n 0) := by decide +kernel
theorem i122_3 : xI 122 3 = some (.arraylength) := by decide +kernel
theorem i122_4 : xI 122 4 = some (.istore_n 3) := by decide +kernel
theorem i122_5 : xI 122 5 = some (.iload_n 2) := by decide +kernel
theorem i122_6 : xI 122 6 = some (.iload_n 3) := by decide +kernel
theorem i122_7 : xI 122 7 = some (.if_icmp .ge 13) := by decide +kernel
theorem i122_10 : xI 122 10 = some (.aload_n 0) := by decide +kernel
theorem i122_11 : xI 122 11 = some (.iload_n 2) := by decide +kernel
theorem i122_12 : xI 122 12 = some (.iload_n 1) := by decide +kernel
theorem i122_13 : xI 122 13 = some (.iastore) := by decide +kernel
theorem i122_14 : xI 122 14 = some (.iinc 2 1) := by decide +kernel
theorem i122_17 : xI 122 17 = some (.goto (-12)) := by decide +kernel
theorem i122_20 : xI 122 20 = some (.return_) := by decide +kernel
-- 123 L_law
theorem i123_0 : xI 123 0 = some (.new 7) := by decide +kernel
theorem i123_3 : xI 123 3 = some (.dup) := by decide +kernel
theorem i123_4 : xI 123 4 = some (.invokespecial 9) := by decide +kernel
theorem i123_7 : xI 123 7 = some (.astore_n 1) := by decide +kernel
theorem i123_8 : xI 123 8 = some (.new 10) := by decide +kernel
theorem i123_11 : xI 123 11 = some (.dup) := by decide +kernel
theorem i123_12 : xI 123 12 = some (.invokespecial 12) := by decide +kernel
theorem i123_15 : xI 123 15 = some (.astore_n 2) := by decide +kernel
theorem i123_16 : xI 123 16 = some (.iconst 0) := by decide +kernel
theorem i123_17 : xI 123 17 = some (.istore_n 3) := by decide +kernel
theorem i123_18 : xI 123 18 = some (.iload_n 3) := by decide +kernel
theorem i123_19 : xI 123 19 = some (.aload_n 0) := by decide +kernel
theorem i123_20 : xI 123 20 = some (.arraylength) := by decide +kernel
theorem i123_21 : xI 123 21 = some (.bipush 6) := by decide +kernel
theorem i123_23 : xI 123 23 = some (.isub) := by decide +kernel
theorem i123_24 : xI 123 24 = some (.if_icmp .gt 712) := by decide +kernel
theorem i123_27 : xI 123 27 = some (.aload_n 0) := by decide +kernel
theorem i123_28 : xI 123 28 = some (.iload_n 3) := by decide +kernel
theorem i123_29 : xI 123 29 = some (.iaload) := by decide +kernel
theorem i123_30 : xI 123 30 = some (.bipush 15) := by decide +kernel
theorem i123_32 : xI 123 32 = some (.iand) := by decide +kernel
theorem i123_33 : xI 123 33 = some (.tableswitch 697 0 15 #[79, 142, 165, 178, 221, 291, 350, 373, 416, 449, 509, 542, 575, 608, 651, 684]) := by decide +kernel
theorem i123_112 : xI 123 112 = some (.aload_n 1) := by decide +kernel
theorem i123_113 : xI 123 113 = some (.aload_n 0) := by decide +kernel
theorem i123_114 : xI 123 114 = some (.iload_n 3) := by decide +kernel
theorem i123_115 : xI 123 115 = some (.iconst 1) := by decide +kernel
theorem i123_116 : xI 123 116 = some (.iadd) := by decide +kernel
theorem i123_117 : xI 123 117 = some (.iaload) := by decide +kernel
theorem i123_118 : xI 123 118 = some (.aload_n 0) := by decide +kernel
theorem i123_119 : xI 123 119 = some (.iload_n 3) := by decide +kernel
theorem i123_120 : xI 123 120 = some (.iconst 2) := by decide +kernel
theorem i123_121 : xI 123 121 = some (.iadd) := by decide +kernel
theorem i123_122 : xI 123 122 = some (.iaload) := by decide +kernel
theorem i123_123 : xI 123 123 = some (.aload_n 0) := by decide +kernel
theorem i123_124 : xI 123 124 = some (.iload_n 3) := by decide +kernel
theorem i123_125 : xI 123 125 = some (.iconst 3) := by decide +kernel
theorem i123_126 : xI 123 126 = some (.iadd) := by decide +kernel
theorem i123_127 : xI 123 127 = some (.iaload) := by decide +kernel
theorem i123_128 : xI 123 128 = some (.aload_n 0) := by decide +kernel
theorem i123_129 : xI 123 129 = some (.iload_n 3) := by decide +kernel
theorem i123_130 : xI 123 130 = some (.iconst 4) := by decide +kernel
theorem i123_131 : xI 123 131 = some (.iadd) := by decide +kernel
theorem i123_132 : xI 123 132 = some (.iaload) := by decide +kernel
theorem i123_133 : xI 123 133 = some (.aload_n 0) := by decide +kernel
theorem i123_134 : xI 123 134 = some (.iload_n 3) := by decide +kernel
theorem i123_135 : xI 123 135 = some (.iconst 5) := by decide +kernel
theorem i123_136 : xI 123 136 = some (.iadd) := by decide +kernel
theorem i123_137 : xI 123 137 = some (.iaload) := by decide +kernel
theorem i123_138 : xI 123 138 = some (.invokevirtual 13) := by decide +kernel
theorem i123_141 : xI 123 141 = some (.aload_n 2) := by decide +kernel
theorem i123_142 : xI 123 142 = some (.aload_n 0) := by decide +kernel
theorem i123_143 : xI 123 143 = some (.iload_n 3) := by decide +kernel
theorem i123_144 : xI 123 144 = some (.iconst 1) := by decide +kernel
theorem i123_145 : xI 123 145 = some (.iadd) := by decide +kernel
theorem i123_146 : xI 123 146 = some (.iaload) := by decide +kernel
theorem i123_147 : xI 123 147 = some (.aload_n 0) := by decide +kernel
theorem i123_148 : xI 123 148 = some (.iload_n 3) := by decide +kernel
theorem i123_149 : xI 123 149 = some (.iconst 2) := by decide +kernel
theorem i123_150 : xI 123 150 = some (.iadd) := by decide +kernel
theorem i123_151 : xI 123 151 = some (.iaload) := by decide +kernel
theorem i123_152 : xI 123 152 = some (.aload_n 0) := by decide +kernel
theorem i123_153 : xI 123 153 = some (.iload_n 3) := by decide +kernel
theorem i123_154 : xI 123 154 = some (.iconst 3) := by decide +kernel
theorem i123_155 : xI 123 155 = some (.iadd) := by decide +kernel
theorem i123_156 : xI 123 156 = some (.iaload) := by decide +kernel
theorem i123_157 : xI 123 157 = some (.aload_n 0) := by decide +kernel
theorem i123_158 : xI 123 158 = some (.iload_n 3) := by decide +kernel
theorem i123_159 : xI 123 159 = some (.iconst 4) := by decide +kernel
theorem i123_160 : xI 123 160 = some (.iadd) := by decide +kernel
theorem i123_161 : xI 123 161 = some (.iaload) := by decide +kernel
theorem i123_162 : xI 123 162 = some (.aload_n 0) := by decide +kernel
theorem i123_163 : xI 123 163 = some (.iload_n 3) := by decide +kernel
theorem i123_164 : xI 123 164 = some (.iconst 5) := by decide +kernel
theorem i123_165 : xI 123 165 = some (.iadd) := by decide +kernel
theorem i123_166 : xI 123 166 = some (.iaload) := by decide +kernel
theorem i123_167 : xI 123 167 = some (.invokevirtual 17) := by decide +kernel
theorem i123_170 : xI 123 170 = some (.if_icmp .eq 560) := by decide +kernel
theorem i123_173 : xI 123 173 = some (.iconst 0) := by decide +kernel
theorem i123_174 : xI 123 174 = some (.ireturn) := by decide +kernel
theorem i123_175 : xI 123 175 = some (.aload_n 1) := by decide +kernel
theorem i123_176 : xI 123 176 = some (.aload_n 0) := by decide +kernel
theorem i123_177 : xI 123 177 = some (.iload_n 3) := by decide +kernel
theorem i123_178 : xI 123 178 = some (.iconst 1) := by decide +kernel
theorem i123_179 : xI 123 179 = some (.iadd) := by decide +kernel
theorem i123_180 : xI 123 180 = some (.iaload) := by decide +kernel
theorem i123_181 : xI 123 181 = some (.invokevirtual 18) := by decide +kernel
theorem i123_184 : xI 123 184 = some (.aload_n 2) := by decide +kernel
theorem i123_185 : xI 123 185 = some (.aload_n 0) := by decide +kernel
theorem i123_186 : xI 123 186 = some (.iload_n 3) := by decide +kernel
theorem i123_187 : xI 123 187 = some (.iconst 1) := by decide +kernel
theorem i123_188 : xI 123 188 = some (.iadd) := by decide +kernel
theorem i123_189 : xI 123 189 = some (.iaload) := by decide +kernel
theorem i123_190 : xI 123 190 = some (.invokevirtual 22) := by decide +kernel
theorem i123_193 : xI 123 193 = some (.if_icmp .eq 537) := by decide +kernel
theorem i123_196 : xI 123 196 = some (.iconst 0) := by decide +kernel
theorem i123_197 : xI 123 197 = some (.ireturn) := by decide +kernel
theorem i123_198 : xI 123 198 = some (.aload_n 1) := by decide +kernel
theorem i123_199 : xI 123 199 = some (.invokevirtual 23) := by decide +kernel
theorem i123_202 : xI 123 202 = some (.aload_n 2) := by decide +kernel
theorem i123_203 : xI 123 203 = some (.invokevirtual 27) := by decide +kernel
theorem i123_206 : xI 123 206 = some (.if_icmp .eq 524) := by decide +kernel
theorem i123_209 : xI 123 209 = some (.iconst 0) := by decide +kernel
theorem i123_210 : xI 123 210 = some (.ireturn) := by decide +kernel
theorem i123_211 : xI 123 211 = some (.aload_n 1) := by decide +kernel
theorem i123_212 : xI 123 212 = some (.aload_n 0) := by decide +kernel
theorem i123_213 : xI 123 213 = some (.iload_n 3) := by decide +kernel
theorem i123_214 : xI 123 214 = some (.iconst 1) := by decide +kernel
theorem i123_215 : xI 123 215 = some (.iadd) := by decide +kernel
theorem i123_216 : xI 123 216 = some (.iaload) := by decide +kernel
theorem i123_217 : xI 123 217 = some (.aload_n 0) := by decide +kernel
theorem i123_218 : xI 123 218 = some (.iload_n 3) := by decide +kernel
theorem i123_219 : xI 123 219 = some (.iconst 2) := by decide +kernel
theorem i123_220 : xI 123 220 = some (.iadd) := by decide +kernel
theorem i123_221 : xI 123 221 = some (.iaload) := by decide +kernel
theorem i123_222 : xI 123 222 = some (.aload_n 0) := by decide +kernel
theorem i123_223 : xI 123 223 = some (.iload_n 3) := by decide +kernel
theorem i123_224 : xI 123 224 = some (.iconst 3) := by decide +kernel
theorem i123_225 : xI 123 225 = some (.iadd) := by decide +kernel
theorem i123_226 : xI 123 226 = some (.iaload) := by decide +kernel
theorem i123_227 : xI 123 227 = some (.invokevirtual 28) := by decide +kernel
theorem i123_230 : xI 123 230 = some (.aload_n 2) := by decide +kernel
theorem i123_231 : xI 123 231 = some (.aload_n 0) := by decide +kernel
theorem i123_232 : xI 123 232 = some (.iload_n 3) := by decide +kernel
theorem i123_233 : xI 123 233 = some (.iconst 1) := by decide +kernel
theorem i123_234 : xI 123 234 = some (.iadd) := by decide +kernel
theorem i123_235 : xI 123 235 = some (.iaload) := by decide +kernel
theorem i123_236 : xI 123 236 = some (.aload_n 0) := by decide +kernel
theorem i123_237 : xI 123 237 = some (.iload_n 3) := by decide +kernel
theorem i123_238 : xI 123 238 = some (.iconst 2) := by decide +kernel
theorem i123_239 : xI 123 239 = some (.iadd) := by decide +kernel
theorem i123_240 : xI 123 240 = some (.iaload) := by decide +kernel
theorem i123_241 : xI 123 241 = some (.aload_n 0) := by decide +kernel
theorem i123_242 : xI 123 242 = some (.iload_n 3) := by decide +kernel
theorem i123_243 : xI 123 243 = some (.iconst 3) := by decide +kernel
theorem i123_244 : xI 123 244 = some (.iadd) := by decide +kernel
theorem i123_245 : xI 123 245 = some (.iaload) := by decide +kernel
theorem i123_246 : xI 123 246 = some (.invokevirtual 32) := by decide +kernel
theorem i123_249 : xI 123 249 = some (.if_icmp .eq 481) := by decide +kernel
theorem i123_252 : xI 123 252 = some (.iconst 0) := by decide +kernel
theorem i123_253 : xI 123 253 = some (.ireturn) := by decide +kernel
theorem i123_254 : xI 123 254 = some (.aload_n 1) := by decide +kernel
theorem i123_255 : xI 123 255 = some (.aload_n 0) := by decide +kernel
theorem i123_256 : xI 123 256 = some (.iload_n 3) := by decide +kernel
theorem i123_257 : xI 123 257 = some (.iconst 1) := by decide +kernel
theorem i123_258 : xI 123 258 = some (.iadd) := by decide +kernel
theorem i123_259 : xI 123 259 = some (.iaload) := by decide +kernel
theorem i123_260 : xI 123 260 = some (.aload_n 0) := by decide +kernel
theorem i123_261 : xI 123 261 = some (.iload_n 3) := by decide +kernel
theorem i123_262 : xI 123 262 = some (.iconst 2) := by decide +kernel
theorem i123_263 : xI 123 263 = some (.iadd) := by decide +kernel
theorem i123_264 : xI 123 264 = some (.iaload) := by decide +kernel
theorem i123_265 : xI 123 265 = some (.aload_n 0) := by decide +kernel
theorem i123_266 : xI 123 266 = some (.iload_n 3) := by decide +kernel
theorem i123_267 : xI 123 267 = some (.iconst 3) := by decide +kernel
theorem i123_268 : xI 123 268 = some (.iadd) := by decide +kernel
theorem i123_269 : xI 123 269 = some (.iaload) := by decide +kernel
theorem i123_270 : xI 123 270 = some (.aload_n 0) := by decide +kernel
theorem i123_271 : xI 123 271 = some (.iload_n 3) := by decide +kernel
theorem i123_272 : xI 123 272 = some (.iconst 4) := by decide +kernel
theorem i123_273 : xI 123 273 = some (.iadd) := by decide +kernel
theorem i123_274 : xI 123 274 = some (.iaload) := by decide +kernel
theorem i123_275 : xI 123 275 = some (.ifCond .eq 7) := by decide +kernel
theorem i123_278 : xI 123 278 = some (.iconst 1) := by decide +kernel
theorem i123_279 : xI 123 279 = some (.goto 4) := by decide +kernel
theorem i123_282 : xI 123 282 = some (.iconst 0) := by decide +kernel
theorem i123_283 : xI 123 283 = some (.invokevirtual 33) := by decide +kernel
theorem i123_286 : xI 123 286 = some (.aload_n 2) := by decide +kernel
theorem i123_287 : xI 123 287 = some (.aload_n 0) := by decide +kernel
theorem i123_288 : xI 123 288 = some (.iload_n 3) := by decide +kernel
theorem i123_289 : xI 123 289 = some (.iconst 1) := by decide +kernel
theorem i123_290 : xI 123 290 = some (.iadd) := by decide +kernel
theorem i123_291 : xI 123 291 = some (.iaload) := by decide +kernel
theorem i123_292 : xI 123 292 = some (.aload_n 0) := by decide +kernel
theorem i123_293 : xI 123 293 = some (.iload_n 3) := by decide +kernel
theorem i123_294 : xI 123 294 = some (.iconst 2) := by decide +kernel
theorem i123_295 : xI 123 295 = some (.iadd) := by decide +kernel
theorem i123_296 : xI 123 296 = some (.iaload) := by decide +kernel
theorem i123_297 : xI 123 297 = some (.aload_n 0) := by decide +kernel
theorem i123_298 : xI 123 298 = some (.iload_n 3) := by decide +kernel
theorem i123_299 : xI 123 299 = some (.iconst 3) := by decide +kernel
theorem i123_300 : xI 123 300 = some (.iadd) := by decide +kernel
theorem i123_301 : xI 123 301 = some (.iaload) := by decide +kernel
theorem i123_302 : xI 123 302 = some (.aload_n 0) := by decide +kernel
theorem i123_303 : xI 123 303 = some (.iload_n 3) := by decide +kernel
theorem i123_304 : xI 123 304 = some (.iconst 4) := by decide +kernel
theorem i123_305 : xI 123 305 = some (.iadd) := by decide +kernel
theorem i123_306 : xI 123 306 = some (.iaload) := by decide +kernel
theorem i123_307 : xI 123 307 = some (.ifCond .eq 7) := by decide +kernel
theorem i123_310 : xI 123 310 = some (.iconst 1) := by decide +kernel
theorem i123_311 : xI 123 311 = some (.goto 4) := by decide +kernel
theorem i123_314 : xI 123 314 = some (.iconst 0) := by decide +kernel
theorem i123_315 : xI 123 315 = some (.invokevirtual 37) := by decide +kernel
theorem i123_318 : xI 123 318 = some (.lcmp) := by decide +kernel
theorem i123_319 : xI 123 319 = some (.ifCond .eq 411) := by decide +kernel
theorem i123_322 : xI 123 322 = some (.iconst 0) := by decide +kernel
theorem i123_323 : xI 123 323 = some (.ireturn) := by decide +kernel
theorem i123_324 : xI 123 324 = some (.aload_n 1) := by decide +kernel
theorem i123_325 : xI 123 325 = some (.aload_n 0) := by decide +kernel
theorem i123_326 : xI 123 326 = some (.iload_n 3) := by decide +kernel
theorem i123_327 : xI 123 327 = some (.iconst 1) := by decide +kernel
theorem i123_328 : xI 123 328 = some (.iadd) := by decide +kernel
theorem i123_329 : xI 123 329 = some (.iaload) := by decide +kernel
theorem i123_330 : xI 123 330 = some (.aload_n 0) := by decide +kernel
theorem i123_331 : xI 123 331 = some (.iload_n 3) := by decide +kernel
theorem i123_332 : xI 123 332 = some (.iconst 2) := by decide +kernel
theorem i123_333 : xI 123 333 = some (.iadd) := by decide +kernel
theorem i123_334 : xI 123 334 = some (.iaload) := by decide +kernel
theorem i123_335 : xI 123 335 = some (.aload_n 0) := by decide +kernel
theorem i123_336 : xI 123 336 = some (.iload_n 3) := by decide +kernel
theorem i123_337 : xI 123 337 = some (.iconst 3) := by decide +kernel
theorem i123_338 : xI 123 338 = some (.iadd) := by decide +kernel
theorem i123_339 : xI 123 339 = some (.iaload) := by decide +kernel
theorem i123_340 : xI 123 340 = some (.ifCond .eq 7) := by decide +kernel
theorem i123_343 : xI 123 343 = some (.iconst 1) := by decide +kernel
theorem i123_344 : xI 123 344 = some (.goto 4) := by decide +kernel
theorem i123_347 : xI 123 347 = some (.iconst 0) := by decide +kernel
theorem i123_348 : xI 123 348 = some (.invokevirtual 38) := by decide +kernel
theorem i123_351 : xI 123 351 = some (.aload_n 2) := by decide +kernel
theorem i123_352 : xI 123 352 = some (.aload_n 0) := by decide +kernel
theorem i123_353 : xI 123 353 = some (.iload_n 3) := by decide +kernel
theorem i123_354 : xI 123 354 = some (.iconst 1) := by decide +kernel
theorem i123_355 : xI 123 355 = some (.iadd) := by decide +kernel
theorem i123_356 : xI 123 356 = some (.iaload) := by decide +kernel
theorem i123_357 : xI 123 357 = some (.aload_n 0) := by decide +kernel
theorem i123_358 : xI 123 358 = some (.iload_n 3) := by decide +kernel
theorem i123_359 : xI 123 359 = some (.iconst 2) := by decide +kernel
theorem i123_360 : xI 123 360 = some (.iadd) := by decide +kernel
theorem i123_361 : xI 123 361 = some (.iaload) := by decide +kernel
theorem i123_362 : xI 123 362 = some (.aload_n 0) := by decide +kernel
theorem i123_363 : xI 123 363 = some (.iload_n 3) := by decide +kernel
theorem i123_364 : xI 123 364 = some (.iconst 3) := by decide +kernel
theorem i123_365 : xI 123 365 = some (.iadd) := by decide +kernel
theorem i123_366 : xI 123 366 = some (.iaload) := by decide +kernel
theorem i123_367 : xI 123 367 = some (.ifCond .eq 7) := by decide +kernel
theorem i123_370 : xI 123 370 = some (.iconst 1) := by decide +kernel
theorem i123_371 : xI 123 371 = some (.goto 4) := by decide +kernel
theorem i123_374 : xI 123 374 = some (.iconst 0) := by decide +kernel
theorem i123_375 : xI 123 375 = some (.invokevirtual 42) := by decide +kernel
theorem i123_378 : xI 123 378 = some (.if_icmp .eq 352) := by decide +kernel
theorem i123_381 : xI 123 381 = some (.iconst 0) := by decide +kernel
theorem i123_382 : xI 123 382 = some (.ireturn) := by decide +kernel
theorem i123_383 : xI 123 383 = some (.aload_n 1) := by decide +kernel
theorem i123_384 : xI 123 384 = some (.aload_n 0) := by decide +kernel
theorem i123_385 : xI 123 385 = some (.iload_n 3) := by decide +kernel
theorem i123_386 : xI 123 386 = some (.iconst 1) := by decide +kernel
theorem i123_387 : xI 123 387 = some (.iadd) := by decide +kernel
theorem i123_388 : xI 123 388 = some (.iaload) := by decide +kernel
theorem i123_389 : xI 123 389 = some (.invokevirtual 43) := by decide +kernel
theorem i123_392 : xI 123 392 = some (.aload_n 2) := by decide +kernel
theorem i123_393 : xI 123 393 = some (.aload_n 0) := by decide +kernel
theorem i123_394 : xI 123 394 = some (.iload_n 3) := by decide +kernel
theorem i123_395 : xI 123 395 = some (.iconst 1) := by decide +kernel
theorem i123_396 : xI 123 396 = some (.iadd) := by decide +kernel
theorem i123_397 : xI 123 397 = some (.iaload) := by decide +kernel
theorem i123_398 : xI 123 398 = some (.invokevirtual 46) := by decide +kernel
theorem i123_401 : xI 123 401 = some (.if_icmp .eq 329) := by decide +kernel
theorem i123_404 : xI 123 404 = some (.iconst 0) := by decide +kernel
theorem i123_405 : xI 123 405 = some (.ireturn) := by decide +kernel
theorem i123_406 : xI 123 406 = some (.aload_n 1) := by decide +kernel
theorem i123_407 : xI 123 407 = some (.aload_n 0) := by decide +kernel
theorem i123_408 : xI 123 408 = some (.iload_n 3) := by decide +kernel
theorem i123_409 : xI 123 409 = some (.iconst 1) := by decide +kernel
theorem i123_410 : xI 123 410 = some (.iadd) := by decide +kernel
theorem i123_411 : xI 123 411 = some (.iaload) := by decide +kernel
theorem i123_412 : xI 123 412 = some (.aload_n 0) := by decide +kernel
theorem i123_413 : xI 123 413 = some (.iload_n 3) := by decide +kernel
theorem i123_414 : xI 123 414 = some (.iconst 2) := by decide +kernel
theorem i123_415 : xI 123 415 = some (.iadd) := by decide +kernel
theorem i123_416 : xI 123 416 = some (.iaload) := by decide +kernel
theorem i123_417 : xI 123 417 = some (.aload_n 0) := by decide +kernel
theorem i123_418 : xI 123 418 = some (.iload_n 3) := by decide +kernel
theorem i123_419 : xI 123 419 = some (.iconst 3) := by decide +kernel
theorem i123_420 : xI 123 420 = some (.iadd) := by decide +kernel
theorem i123_421 : xI 123 421 = some (.iaload) := by decide +kernel
theorem i123_422 : xI 123 422 = some (.invokevirtual 47) := by decide +kernel
theorem i123_425 : xI 123 425 = some (.aload_n 2) := by decide +kernel
theorem i123_426 : xI 123 426 = some (.aload_n 0) := by decide +kernel
theorem i123_427 : xI 123 427 = some (.iload_n 3) := by decide +kernel
theorem i123_428 : xI 123 428 = some (.iconst 1) := by decide +kernel
theorem i123_429 : xI 123 429 = some (.iadd) := by decide +kernel
theorem i123_430 : xI 123 430 = some (.iaload) := by decide +kernel
theorem i123_431 : xI 123 431 = some (.aload_n 0) := by decide +kernel
theorem i123_432 : xI 123 432 = some (.iload_n 3) := by decide +kernel
theorem i123_433 : xI 123 433 = some (.iconst 2) := by decide +kernel
theorem i123_434 : xI 123 434 = some (.iadd) := by decide +kernel
theorem i123_435 : xI 123 435 = some (.iaload) := by decide +kernel
theorem i123_436 : xI 123 436 = some (.aload_n 0) := by decide +kernel
theorem i123_437 : xI 123 437 = some (.iload_n 3) := by decide +kernel
theorem i123_438 : xI 123 438 = some (.iconst 3) := by decide +kernel
theorem i123_439 : xI 123 439 = some (.iadd) := by decide +kernel
theorem i123_440 : xI 123 440 = some (.iaload) := by decide +kernel
theorem i123_441 : xI 123 441 = some (.invokevirtual 50) := by decide +kernel
theorem i123_444 : xI 123 444 = some (.if_icmp .eq 286) := by decide +kernel
theorem i123_447 : xI 123 447 = some (.iconst 0) := by decide +kernel
theorem i123_448 : xI 123 448 = some (.ireturn) := by decide +kernel
theorem i123_449 : xI 123 449 = some (.aload_n 1) := by decide +kernel
theorem i123_450 : xI 123 450 = some (.aload_n 0) := by decide +kernel
theorem i123_451 : xI 123 451 = some (.iload_n 3) := by decide +kernel
theorem i123_452 : xI 123 452 = some (.iconst 1) := by decide +kernel
theorem i123_453 : xI 123 453 = some (.iadd) := by decide +kernel
theorem i123_454 : xI 123 454 = some (.iaload) := by decide +kernel
theorem i123_455 : xI 123 455 = some (.aload_n 0) := by decide +kernel
theorem i123_456 : xI 123 456 = some (.iload_n 3) := by decide +kernel
theorem i123_457 : xI 123 457 = some (.iconst 2) := by decide +kernel
theorem i123_458 : xI 123 458 = some (.iadd) := by decide +kernel
theorem i123_459 : xI 123 459 = some (.iaload) := by decide +kernel
theorem i123_460 : xI 123 460 = some (.invokevirtual 51) := by decide +kernel
theorem i123_463 : xI 123 463 = some (.aload_n 2) := by decide +kernel
theorem i123_464 : xI 123 464 = some (.aload_n 0) := by decide +kernel
theorem i123_465 : xI 123 465 = some (.iload_n 3) := by decide +kernel
theorem i123_466 : xI 123 466 = some (.iconst 1) := by decide +kernel
theorem i123_467 : xI 123 467 = some (.iadd) := by decide +kernel
theorem i123_468 : xI 123 468 = some (.iaload) := by decide +kernel
theorem i123_469 : xI 123 469 = some (.aload_n 0) := by decide +kernel
theorem i123_470 : xI 123 470 = some (.iload_n 3) := by decide +kernel
theorem i123_471 : xI 123 471 = some (.iconst 2) := by decide +kernel
theorem i123_472 : xI 123 472 = some (.iadd) := by decide +kernel
theorem i123_473 : xI 123 473 = some (.iaload) := by decide +kernel
theorem i123_474 : xI 123 474 = some (.invokevirtual 55) := by decide +kernel
theorem i123_477 : xI 123 477 = some (.if_icmp .eq 253) := by decide +kernel
theorem i123_480 : xI 123 480 = some (.iconst 0) := by decide +kernel
theorem i123_481 : xI 123 481 = some (.ireturn) := by decide +kernel
theorem i123_482 : xI 123 482 = some (.aload_n 1) := by decide +kernel
theorem i123_483 : xI 123 483 = some (.aload_n 0) := by decide +kernel
theorem i123_484 : xI 123 484 = some (.iload_n 3) := by decide +kernel
theorem i123_485 : xI 123 485 = some (.iconst 1) := by decide +kernel
theorem i123_486 : xI 123 486 = some (.iadd) := by decide +kernel
theorem i123_487 : xI 123 487 = some (.iaload) := by decide +kernel
theorem i123_488 : xI 123 488 = some (.aload_n 0) := by decide +kernel
theorem i123_489 : xI 123 489 = some (.iload_n 3) := by decide +kernel
theorem i123_490 : xI 123 490 = some (.iconst 2) := by decide +kernel
theorem i123_491 : xI 123 491 = some (.iadd) := by decide +kernel
theorem i123_492 : xI 123 492 = some (.iaload) := by decide +kernel
theorem i123_493 : xI 123 493 = some (.aload_n 0) := by decide +kernel
theorem i123_494 : xI 123 494 = some (.iload_n 3) := by decide +kernel
theorem i123_495 : xI 123 495 = some (.iconst 3) := by decide +kernel
theorem i123_496 : xI 123 496 = some (.iadd) := by decide +kernel
theorem i123_497 : xI 123 497 = some (.iaload) := by decide +kernel
theorem i123_498 : xI 123 498 = some (.ifCond .eq 7) := by decide +kernel
theorem i123_501 : xI 123 501 = some (.iconst 1) := by decide +kernel
theorem i123_502 : xI 123 502 = some (.goto 4) := by decide +kernel
theorem i123_505 : xI 123 505 = some (.iconst 0) := by decide +kernel
theorem i123_506 : xI 123 506 = some (.invokevirtual 56) := by decide +kernel
theorem i123_509 : xI 123 509 = some (.aload_n 2) := by decide +kernel
theorem i123_510 : xI 123 510 = some (.aload_n 0) := by decide +kernel
theorem i123_511 : xI 123 511 = some (.iload_n 3) := by decide +kernel
theorem i123_512 : xI 123 512 = some (.iconst 1) := by decide +kernel
theorem i123_513 : xI 123 513 = some (.iadd) := by decide +kernel
theorem i123_514 : xI 123 514 = some (.iaload) := by decide +kernel
theorem i123_515 : xI 123 515 = some (.aload_n 0) := by decide +kernel
theorem i123_516 : xI 123 516 = some (.iload_n 3) := by decide +kernel
theorem i123_517 : xI 123 517 = some (.iconst 2) := by decide +kernel
theorem i123_518 : xI 123 518 = some (.iadd) := by decide +kernel
theorem i123_519 : xI 123 519 = some (.iaload) := by decide +kernel
theorem i123_520 : xI 123 520 = some (.aload_n 0) := by decide +kernel
theorem i123_521 : xI 123 521 = some (.iload_n 3) := by decide +kernel
theorem i123_522 : xI 123 522 = some (.iconst 3) := by decide +kernel
theorem i123_523 : xI 123 523 = some (.iadd) := by decide +kernel
theorem i123_524 : xI 123 524 = some (.iaload) := by decide +kernel
theorem i123_525 : xI 123 525 = some (.ifCond .eq 7) := by decide +kernel
theorem i123_528 : xI 123 528 = some (.iconst 1) := by decide +kernel
theorem i123_529 : xI 123 529 = some (.goto 4) := by decide +kernel
theorem i123_532 : xI 123 532 = some (.iconst 0) := by decide +kernel
theorem i123_533 : xI 123 533 = some (.invokevirtual 60) := by decide +kernel
theorem i123_536 : xI 123 536 = some (.lcmp) := by decide +kernel
theorem i123_537 : xI 123 537 = some (.ifCond .eq 193) := by decide +kernel
theorem i123_540 : xI 123 540 = some (.iconst 0) := by decide +kernel
theorem i123_541 : xI 123 541 = some (.ireturn) := by decide +kernel
theorem i123_542 : xI 123 542 = some (.aload_n 1) := by decide +kernel
theorem i123_543 : xI 123 543 = some (.aload_n 0) := by decide +kernel
theorem i123_544 : xI 123 544 = some (.iload_n 3) := by decide +kernel
theorem i123_545 : xI 123 545 = some (.iconst 1) := by decide +kernel
theorem i123_546 : xI 123 546 = some (.iadd) := by decide +kernel
theorem i123_547 : xI 123 547 = some (.iaload) := by decide +kernel
theorem i123_548 : xI 123 548 = some (.aload_n 0) := by decide +kernel
theorem i123_549 : xI 123 549 = some (.iload_n 3) := by decide +kernel
theorem i123_550 : xI 123 550 = some (.iconst 2) := by decide +kernel
theorem i123_551 : xI 123 551 = some (.iadd) := by decide +kernel
theorem i123_552 : xI 123 552 = some (.iaload) := by decide +kernel
theorem i123_553 : xI 123 553 = some (.invokevirtual 61) := by decide +kernel
theorem i123_556 : xI 123 556 = some (.aload_n 2) := by decide +kernel
theorem i123_557 : xI 123 557 = some (.aload_n 0) := by decide +kernel
theorem i123_558 : xI 123 558 = some (.iload_n 3) := by decide +kernel
theorem i123_559 : xI 123 559 = some (.iconst 1) := by decide +kernel
theorem i123_560 : xI 123 560 = some (.iadd) := by decide +kernel
theorem i123_561 : xI 123 561 = some (.iaload) := by decide +kernel
theorem i123_562 : xI 123 562 = some (.aload_n 0) := by decide +kernel
theorem i123_563 : xI 123 563 = some (.iload_n 3) := by decide +kernel
theorem i123_564 : xI 123 564 = some (.iconst 2) := by decide +kernel
theorem i123_565 : xI 123 565 = some (.iadd) := by decide +kernel
theorem i123_566 : xI 123 566 = some (.iaload) := by decide +kernel
theorem i123_567 : xI 123 567 = some (.invokevirtual 64) := by decide +kernel
theorem i123_570 : xI 123 570 = some (.if_icmp .eq 160) := by decide +kernel
theorem i123_573 : xI 123 573 = some (.iconst 0) := by decide +kernel
theorem i123_574 : xI 123 574 = some (.ireturn) := by decide +kernel
theorem i123_575 : xI 123 575 = some (.aload_n 1) := by decide +kernel
theorem i123_576 : xI 123 576 = some (.aload_n 0) := by decide +kernel
theorem i123_577 : xI 123 577 = some (.iload_n 3) := by decide +kernel
theorem i123_578 : xI 123 578 = some (.iconst 1) := by decide +kernel
theorem i123_579 : xI 123 579 = some (.iadd) := by decide +kernel
theorem i123_580 : xI 123 580 = some (.iaload) := by decide +kernel
theorem i123_581 : xI 123 581 = some (.aload_n 0) := by decide +kernel
theorem i123_582 : xI 123 582 = some (.iload_n 3) := by decide +kernel
theorem i123_583 : xI 123 583 = some (.iconst 2) := by decide +kernel
theorem i123_584 : xI 123 584 = some (.iadd) := by decide +kernel
theorem i123_585 : xI 123 585 = some (.iaload) := by decide +kernel
theorem i123_586 : xI 123 586 = some (.invokevirtual 65) := by decide +kernel
theorem i123_589 : xI 123 589 = some (.aload_n 2) := by decide +kernel
theorem i123_590 : xI 123 590 = some (.aload_n 0) := by decide +kernel
theorem i123_591 : xI 123 591 = some (.iload_n 3) := by decide +kernel
theorem i123_592 : xI 123 592 = some (.iconst 1) := by decide +kernel
theorem i123_593 : xI 123 593 = some (.iadd) := by decide +kernel
theorem i123_594 : xI 123 594 = some (.iaload) := by decide +kernel
theorem i123_595 : xI 123 595 = some (.aload_n 0) := by decide +kernel
theorem i123_596 : xI 123 596 = some (.iload_n 3) := by decide +kernel
theorem i123_597 : xI 123 597 = some (.iconst 2) := by decide +kernel
theorem i123_598 : xI 123 598 = some (.iadd) := by decide +kernel
theorem i123_599 : xI 123 599 = some (.iaload) := by decide +kernel
theorem i123_600 : xI 123 600 = some (.invokevirtual 68) := by decide +kernel
theorem i123_603 : xI 123 603 = some (.if_icmp .eq 127) := by decide +kernel
theorem i123_606 : xI 123 606 = some (.iconst 0) := by decide +kernel
theorem i123_607 : xI 123 607 = some (.ireturn) := by decide +kernel
theorem i123_608 : xI 123 608 = some (.aload_n 1) := by decide +kernel
theorem i123_609 : xI 123 609 = some (.aload_n 0) := by decide +kernel
theorem i123_610 : xI 123 610 = some (.iload_n 3) := by decide +kernel
theorem i123_611 : xI 123 611 = some (.iconst 1) := by decide +kernel
theorem i123_612 : xI 123 612 = some (.iadd) := by decide +kernel
theorem i123_613 : xI 123 613 = some (.iaload) := by decide +kernel
theorem i123_614 : xI 123 614 = some (.aload_n 0) := by decide +kernel
theorem i123_615 : xI 123 615 = some (.iload_n 3) := by decide +kernel
theorem i123_616 : xI 123 616 = some (.iconst 2) := by decide +kernel
theorem i123_617 : xI 123 617 = some (.iadd) := by decide +kernel
theorem i123_618 : xI 123 618 = some (.iaload) := by decide +kernel
theorem i123_619 : xI 123 619 = some (.invokevirtual 69) := by decide +kernel
theorem i123_622 : xI 123 622 = some (.aload_n 2) := by decide +kernel
theorem i123_623 : xI 123 623 = some (.aload_n 0) := by decide +kernel
theorem i123_624 : xI 123 624 = some (.iload_n 3) := by decide +kernel
theorem i123_625 : xI 123 625 = some (.iconst 1) := by decide +kernel
theorem i123_626 : xI 123 626 = some (.iadd) := by decide +kernel
theorem i123_627 : xI 123 627 = some (.iaload) := by decide +kernel
theorem i123_628 : xI 123 628 = some (.aload_n 0) := by decide +kernel
theorem i123_629 : xI 123 629 = some (.iload_n 3) := by decide +kernel
theorem i123_630 : xI 123 630 = some (.iconst 2) := by decide +kernel
theorem i123_631 : xI 123 631 = some (.iadd) := by decide +kernel
theorem i123_632 : xI 123 632 = some (.iaload) := by decide +kernel
theorem i123_633 : xI 123 633 = some (.invokevirtual 72) := by decide +kernel
theorem i123_636 : xI 123 636 = some (.if_icmp .eq 94) := by decide +kernel
theorem i123_639 : xI 123 639 = some (.iconst 0) := by decide +kernel
theorem i123_640 : xI 123 640 = some (.ireturn) := by decide +kernel
theorem i123_641 : xI 123 641 = some (.aload_n 1) := by decide +kernel
theorem i123_642 : xI 123 642 = some (.aload_n 0) := by decide +kernel
theorem i123_643 : xI 123 643 = some (.iload_n 3) := by decide +kernel
theorem i123_644 : xI 123 644 = some (.iconst 1) := by decide +kernel
theorem i123_645 : xI 123 645 = some (.iadd) := by decide +kernel
theorem i123_646 : xI 123 646 = some (.iaload) := by decide +kernel
theorem i123_647 : xI 123 647 = some (.aload_n 0) := by decide +kernel
theorem i123_648 : xI 123 648 = some (.iload_n 3) := by decide +kernel
theorem i123_649 : xI 123 649 = some (.iconst 2) := by decide +kernel
theorem i123_650 : xI 123 650 = some (.iadd) := by decide +kernel
theorem i123_651 : xI 123 651 = some (.iaload) := by decide +kernel
theorem i123_652 : xI 123 652 = some (.aload_n 0) := by decide +kernel
theorem i123_653 : xI 123 653 = some (.iload_n 3) := by decide +kernel
theorem i123_654 : xI 123 654 = some (.iconst 3) := by decide +kernel
theorem i123_655 : xI 123 655 = some (.iadd) := by decide +kernel
theorem i123_656 : xI 123 656 = some (.iaload) := by decide +kernel
theorem i123_657 : xI 123 657 = some (.invokevirtual 73) := by decide +kernel
theorem i123_660 : xI 123 660 = some (.aload_n 2) := by decide +kernel
theorem i123_661 : xI 123 661 = some (.aload_n 0) := by decide +kernel
theorem i123_662 : xI 123 662 = some (.iload_n 3) := by decide +kernel
theorem i123_663 : xI 123 663 = some (.iconst 1) := by decide +kernel
theorem i123_664 : xI 123 664 = some (.iadd) := by decide +kernel
theorem i123_665 : xI 123 665 = some (.iaload) := by decide +kernel
theorem i123_666 : xI 123 666 = some (.aload_n 0) := by decide +kernel
theorem i123_667 : xI 123 667 = some (.iload_n 3) := by decide +kernel
theorem i123_668 : xI 123 668 = some (.iconst 2) := by decide +kernel
theorem i123_669 : xI 123 669 = some (.iadd) := by decide +kernel
theorem i123_670 : xI 123 670 = some (.iaload) := by decide +kernel
theorem i123_671 : xI 123 671 = some (.aload_n 0) := by decide +kernel
theorem i123_672 : xI 123 672 = some (.iload_n 3) := by decide +kernel
theorem i123_673 : xI 123 673 = some (.iconst 3) := by decide +kernel
theorem i123_674 : xI 123 674 = some (.iadd) := by decide +kernel
theorem i123_675 : xI 123 675 = some (.iaload) := by decide +kernel
theorem i123_676 : xI 123 676 = some (.invokevirtual 76) := by decide +kernel
theorem i123_679 : xI 123 679 = some (.if_icmp .eq 51) := by decide +kernel
theorem i123_682 : xI 123 682 = some (.iconst 0) := by decide +kernel
theorem i123_683 : xI 123 683 = some (.ireturn) := by decide +kernel
theorem i123_684 : xI 123 684 = some (.aload_n 1) := by decide +kernel
theorem i123_685 : xI 123 685 = some (.aload_n 0) := by decide +kernel
theorem i123_686 : xI 123 686 = some (.iload_n 3) := by decide +kernel
theorem i123_687 : xI 123 687 = some (.iconst 1) := by decide +kernel
theorem i123_688 : xI 123 688 = some (.iadd) := by decide +kernel
theorem i123_689 : xI 123 689 = some (.iaload) := by decide +kernel
theorem i123_690 : xI 123 690 = some (.aload_n 0) := by decide +kernel
theorem i123_691 : xI 123 691 = some (.iload_n 3) := by decide +kernel
theorem i123_692 : xI 123 692 = some (.iconst 2) := by decide +kernel
theorem i123_693 : xI 123 693 = some (.iadd) := by decide +kernel
theorem i123_694 : xI 123 694 = some (.iaload) := by decide +kernel
theorem i123_695 : xI 123 695 = some (.invokevirtual 77) := by decide +kernel
theorem i123_698 : xI 123 698 = some (.aload_n 2) := by decide +kernel
theorem i123_699 : xI 123 699 = some (.aload_n 0) := by decide +kernel
theorem i123_700 : xI 123 700 = some (.iload_n 3) := by decide +kernel
theorem i123_701 : xI 123 701 = some (.iconst 1) := by decide +kernel
theorem i123_702 : xI 123 702 = some (.iadd) := by decide +kernel
theorem i123_703 : xI 123 703 = some (.iaload) := by decide +kernel
theorem i123_704 : xI 123 704 = some (.aload_n 0) := by decide +kernel
theorem i123_705 : xI 123 705 = some (.iload_n 3) := by decide +kernel
theorem i123_706 : xI 123 706 = some (.iconst 2) := by decide +kernel
theorem i123_707 : xI 123 707 = some (.iadd) := by decide +kernel
theorem i123_708 : xI 123 708 = some (.iaload) := by decide +kernel
theorem i123_709 : xI 123 709 = some (.invokevirtual 80) := by decide +kernel
theorem i123_712 : xI 123 712 = some (.if_icmp .eq 18) := by decide +kernel
theorem i123_715 : xI 123 715 = some (.iconst 0) := by decide +kernel
theorem i123_716 : xI 123 716 = some (.ireturn) := by decide +kernel
theorem i123_717 : xI 123 717 = some (.aload_n 1) := by decide +kernel
theorem i123_718 : xI 123 718 = some (.invokevirtual 81) := by decide +kernel
theorem i123_721 : xI 123 721 = some (.aload_n 2) := by decide +kernel
theorem i123_722 : xI 123 722 = some (.invokevirtual 84) := by decide +kernel
theorem i123_725 : xI 123 725 = some (.if_icmp .eq 5) := by decide +kernel
theorem i123_728 : xI 123 728 = some (.iconst 0) := by decide +kernel
theorem i123_729 : xI 123 729 = some (.ireturn) := by decide +kernel
theorem i123_730 : xI 123 730 = some (.iinc 3 6) := by decide +kernel
theorem i123_733 : xI 123 733 = some (.goto (-715)) := by decide +kernel
theorem i123_736 : xI 123 736 = some (.iconst 1) := by decide +kernel
theorem i123_737 : xI 123 737 = some (.ireturn) := by decide +kernel
end
section
/-! ===== RUNS: rows of the small machine, goal first ===== -/
def xRun (G : xG) (d mi : Nat) (f : xF) (r : Option Value × xW) : Prop := ∃ n, xrun G n d mi f = some r
theorem xrun_up {G : xG} : ∀ (n d mi : Nat) (f : xF) (r : Option Value × xW), xrun G n d mi f = some r → xrun G (n + 1) d mi f = some r := by
  intro n
  induction n with
  | zero => intro d mi f r h; cases h
  | succ n ih =>
    intro d mi f r h
    unfold xrun at h ⊢
    split at h
    · cases h
    · rename_i ins hins
      split at h
      · cases h
      · rename_i f' hop
        exact ih _ _ _ _ h
      · exact h
      · rename_i cq hop
        split at h
        · rename_i hc
          rw [if_pos hc]
          split at h
          · cases h
          · rename_i r1 h1
            rw [ih _ _ _ _ h1]
            exact ih _ _ _ _ h
        · cases h
theorem xrun_le {G : xG} {n k d mi : Nat} {f : xF} {r : Option Value × xW} (h : xrun G n d mi f = some r) (hk : n ≤ k) : xrun G k d mi f = some r := by
  induction hk with
  | refl => exact h
  | step _ ih => exact xrun_up _ _ _ _ _ ih
theorem xjin {j n : Nat} (h : j < n) (hm : n < 2 ^ 31) : ¬ (nI j < 0 ∨ n ≤ j) := fun z => z.elim (nI_pos (by omega)) (by omega)
section XU
variable {G : xG} {d mi pc : Nat} {L : xL} {st r : List Value} {h : xH} {nx sl : Nat} {res : Option Value × xW}
theorem xr_step {ins : Instr} {f f' : xF} (hi : xI mi f.1 = some ins) (hop : xop G mi d ins f.1 f.2.1 f.2.2.1 f.2.2.2 = some (.inl f')) (k : xRun G d mi f' res) : xRun G d mi f res := by
  obtain ⟨n, hn⟩ := k
  refine ⟨n + 1, ?_⟩
  unfold xrun
  rw [hi]
  simp only [hop]
  exact hn
theorem xr_ret {ins : Instr} {f : xF} (hi : xI mi f.1 = some ins) (hop : xop G mi d ins f.1 f.2.1 f.2.2.1 f.2.2.2 = some (.inr (.inl res))) : xRun G d mi f res := by
  refine ⟨1, ?_⟩
  unfold xrun
  rw [hi]
  simp only [hop]
theorem xr_call {ins : Instr} {f : xF} {cm : Nat} {as rest : List Value} {v : Option Value} {w1 : xW} (hi : xI mi f.1 = some ins) (hop : xop G mi d ins f.1 f.2.1 f.2.2.1 f.2.2.2 = some (.inr (.inr (cm, as, rest)))) (hc : (xargs as).length ≤ xM cm ∧ cm < 123) (h1 : xRun G (d - 1) cm (0, xloc cm as, [], f.2.2.2) (v, w1)) (k : xRun G d mi (f.1 + 3, f.2.1, v.toList ++ rest, w1) res) : xRun G d mi f res := by
  obtain ⟨n1, hn1⟩ := h1
  obtain ⟨n2, hn2⟩ := k
  refine ⟨max n1 n2 + 1, ?_⟩
  unfold xrun
  rw [hi]
  simp only [hop]
  rw [if_pos hc, xrun_le hn1 (Nat.le_max_left _ _)]
  exact xrun_le hn2 (Nat.le_max_right _ _)
/-- a straight instruction: what it comes to is computed -/
theorem xr_go {ins : Instr} {f' : xF} (hi : xI mi pc = some ins) (hop : xop G mi d ins pc L st (h, nx, sl) = some (.inl f')) (k : xRun G d mi f' res) : xRun G d mi (pc, L, st, (h, nx, sl)) res := xr_step (f := (pc, L, st, (h, nx, sl))) hi hop k
theorem xr_end {ins : Instr} (hi : xI mi pc = some ins) (hop : xop G mi d ins pc L st (h, nx, sl) = some (.inr (.inl res))) : xRun G d mi (pc, L, st, (h, nx, sl)) res := xr_ret (f := (pc, L, st, (h, nx, sl))) hi hop
/-- branches -/
theorem xr_icmp {c : ClassFile.Cond} {off : Int} {x y : Int32} {t : Nat} (hi : xI mi pc = some (.if_icmp c off)) (ht : (pc : Int) + off = (t : Int)) (kt : xcnd c x y = true → xRun G d mi (t, L, r, (h, nx, sl)) res) (kf : xcnd c x y = false → xRun G d mi (pc + 3, L, r, (h, nx, sl)) res) : xRun G d mi (pc, L, .int y :: .int x :: r, (h, nx, sl)) res := by
  have h0 : 0 ≤ (pc : Int) + off := by omega
  have h1 : ((pc : Int) + off).toNat = t := by omega
  cases hc : xcnd c x y with
  | true => exact xr_go hi (show xbr (xcnd c x y) pc off L r (h, nx, sl) = some (.inl (t, L, r, (h, nx, sl))) by unfold xbr; rw [if_pos h0, if_pos hc, h1]) (kt hc)
  | false => exact xr_go hi (show xbr (xcnd c x y) pc off L r (h, nx, sl) = some (.inl (pc + 3, L, r, (h, nx, sl))) by unfold xbr; rw [if_pos h0, if_neg (by rw [hc]; decide)]) (kf hc)
theorem xr_if {c : ClassFile.Cond} {off : Int} {x : Int32} {t : Nat} (hi : xI mi pc = some (.ifCond c off)) (ht : (pc : Int) + off = (t : Int)) (kt : xcnd c x 0 = true → xRun G d mi (t, L, r, (h, nx, sl)) res) (kf : xcnd c x 0 = false → xRun G d mi (pc + 3, L, r, (h, nx, sl)) res) : xRun G d mi (pc, L, .int x :: r, (h, nx, sl)) res := by
  have h0 : 0 ≤ (pc : Int) + off := by omega
  have h1 : ((pc : Int) + off).toNat = t := by omega
  cases hc : xcnd c x 0 with
  | true => exact xr_go hi (show xbr (xcnd c x 0) pc off L r (h, nx, sl) = some (.inl (t, L, r, (h, nx, sl))) by unfold xbr; rw [if_pos h0, if_pos hc, h1]) (kt hc)
  | false => exact xr_go hi (show xbr (xcnd c x 0) pc off L r (h, nx, sl) = some (.inl (pc + 3, L, r, (h, nx, sl))) by unfold xbr; rw [if_pos h0, if_neg (by rw [hc]; decide)]) (kf hc)
theorem xr_goto {off : Int} {t : Nat} (hi : xI mi pc = some (.goto off)) (ht : (pc : Int) + off = (t : Int)) (k : xRun G d mi (t, L, st, (h, nx, sl)) res) : xRun G d mi (pc, L, st, (h, nx, sl)) res := by
  have h0 : 0 ≤ (pc : Int) + off := by omega
  have h1 : ((pc : Int) + off).toNat = t := by omega
  exact xr_go hi (show xgo pc off L st (h, nx, sl) = some (.inl (t, L, st, (h, nx, sl))) by unfold xgo; rw [if_pos h0, h1]) k
theorem xr_nn {off : Int} {t a : Nat} (hi : xI mi pc = some (.ifnonnull off)) (ht : (pc : Int) + off = (t : Int)) (k : xRun G d mi (t, L, r, (h, nx, sl)) res) : xRun G d mi (pc, L, .ref a :: r, (h, nx, sl)) res := by
  have h0 : 0 ≤ (pc : Int) + off := by omega
  have h1 : ((pc : Int) + off).toNat = t := by omega
  exact xr_go hi (show xgo pc off L r (h, nx, sl) = some (.inl (t, L, r, (h, nx, sl))) by unfold xgo; rw [if_pos h0, h1]) k
/-- fields -/
theorem xr_get {i a ci : Nat} {fs : List Value} {v : Value} {q : Nat × Nat × Nat × Nat × Nat × Nat} (hi : xI mi pc = some (.getfield i)) (hq : xFl (xO mi) i = some q) (ha : h a = some (.inr (ci, fs))) (hc : ci = q.2.2.1) (hv : fs[q.2.2.2.1]? = some v) (k : xRun G d mi (pc + 3, L, v :: r, (h, nx, sl)) res) : xRun G d mi (pc, L, .ref a :: r, (h, nx, sl)) res := by
  refine xr_go hi ?_ k
  show xgetf (xO mi) i pc L (.ref a :: r) (h, nx, sl) = _
  unfold xgetf
  simp only [ha, hq, if_pos hc, hv]
theorem xr_put {i a ci : Nat} {fs : List Value} {v : Value} {q : Nat × Nat × Nat × Nat × Nat × Nat} (hi : xI mi pc = some (.putfield i)) (hq : xFl (xO mi) i = some q) (ha : h a = some (.inr (ci, fs))) (hc : ci = q.2.2.1 ∧ q.2.2.2.1 < fs.length ∧ narrow (xtyOf ci q.2.2.2.1) v = v ∧ fits (xtyOf ci q.2.2.2.1) v = true ∧ (xfin ci q.2.2.2.1 = false ∨ (((xY mi).name == "<init>") = true ∧ xO mi = ci ∧ q.2.2.2.2.1 = 0))) (k : ∀ h', h' = xup h a (.inr (ci, fs.set q.2.2.2.1 v)) → xRun G d mi (pc + 3, L, r, (h', nx, sl)) res) : xRun G d mi (pc, L, v :: .ref a :: r, (h, nx, sl)) res := by
  refine xr_go hi ?_ (k _ rfl)
  show xputf (xO mi) i _ pc L (v :: .ref a :: r) (h, nx, sl) = _
  unfold xputf
  simp only [ha, hq, if_pos hc]
/-- arrays -/
theorem xr_iald {a n : Nat} {f : Nat → Int32} {i : Int32} {j : Nat} (hi : xI mi pc = some .iaload) (ha : h a = some (.inl (0, n, .inl f))) (hj : i = nI j) (hn : j < n) (hm : n < 2 ^ 31) (k : xRun G d mi (pc + 1, L, .int (f j) :: r, (h, nx, sl)) res) : xRun G d mi (pc, L, .int i :: .ref a :: r, (h, nx, sl)) res := by
  subst hj
  refine xr_go hi ?_ k
  show xiald G pc L (.int (nI j) :: .ref a :: r) (h, nx, sl) = _
  unfold xiald
  simp only [ha, if_neg (xjin hn hm), nI_clamp (show j < 2 ^ 31 by omega)]
theorem xr_bald {a n t : Nat} {f : Nat → Int32} {i : Int32} {j : Nat} (hi : xI mi pc = some .baload) (ht : t = 1 ∨ t = 2) (ha : h a = some (.inl (t, n, .inl f))) (hj : i = nI j) (hn : j < n) (hm : n < 2 ^ 31) (k : xRun G d mi (pc + 1, L, .int (f j) :: r, (h, nx, sl)) res) : xRun G d mi (pc, L, .int i :: .ref a :: r, (h, nx, sl)) res := by
  subst hj
  refine xr_go hi ?_ k
  show xbald pc L (.int (nI j) :: .ref a :: r) (h, nx, sl) = _
  unfold xbald
  rcases ht with rfl | rfl <;> simp only [ha, if_neg (xjin hn hm), nI_clamp (show j < 2 ^ 31 by omega)]
theorem xr_aald {a n t : Nat} {f : Nat → Option Nat} {i : Int32} {j b : Nat} (hi : xI mi pc = some .aaload) (ha : h a = some (.inl (t, n, .inr (.inr (.inr (.inr f)))))) (ht : 3 ≤ t ∧ t ≤ 7) (hj : i = nI j) (hn : j < n) (hm : n < 2 ^ 31) (hb : f j = some b) (k : xRun G d mi (pc + 1, L, .ref b :: r, (h, nx, sl)) res) : xRun G d mi (pc, L, .int i :: .ref a :: r, (h, nx, sl)) res := by
  subst hj
  refine xr_go hi ?_ k
  show xaald pc L (.int (nI j) :: .ref a :: r) (h, nx, sl) = _
  unfold xaald
  have hc : ¬ (nI j < 0 ∨ n ≤ j ∨ t < 3 ∨ 7 < t) := by
    rintro (z | z | z | z)
    · exact nI_pos (by omega) z
    · omega
    · omega
    · omega
  simp only [ha, if_neg hc, nI_clamp (show j < 2 ^ 31 by omega), hb, va_rf]
theorem xr_alen {a t : Nat} {x : vp_A} (hi : xI mi pc = some .arraylength) (ha : h a = some (.inl (t, x))) (ht : t ≤ 7) (k : xRun G d mi (pc + 1, L, .int (nI x.1) :: r, (h, nx, sl)) res) : xRun G d mi (pc, L, .ref a :: r, (h, nx, sl)) res := by
  refine xr_go hi ?_ k
  show xalen G pc L (.ref a :: r) (h, nx, sl) = _
  unfold xalen
  simp only [ha, if_neg (show ¬ 7 < t by omega)]
  rfl
theorem xr_iast {a n : Nat} {f : Nat → Int32} {i x : Int32} {j : Nat} (hi : xI mi pc = some .iastore) (ha : h a = some (.inl (0, n, .inl f))) (hj : i = nI j) (hn : j < n) (hm : n < 2 ^ 31) (k : ∀ h', h' = xup h a (.inl (0, n, .inl (upd f j x))) → xRun G d mi (pc + 1, L, r, (h', nx, sl)) res) : xRun G d mi (pc, L, .int x :: .int i :: .ref a :: r, (h, nx, sl)) res := by
  subst hj
  refine xr_go hi ?_ (k _ rfl)
  show xiast pc L (.int x :: .int (nI j) :: .ref a :: r) (h, nx, sl) = _
  unfold xiast
  simp only [ha, if_neg (xjin hn hm), nI_clamp (show j < 2 ^ 31 by omega)]
theorem xr_zast {a n : Nat} {f : Nat → Int32} {i x : Int32} {j : Nat} (hi : xI mi pc = some .bastore) (ha : h a = some (.inl (1, n, .inl f))) (hj : i = nI j) (hn : j < n) (hm : n < 2 ^ 31) (hx : vp_nar .boolean x = x) (k : ∀ h', h' = xup h a (.inl (1, n, .inl (upd f j x))) → xRun G d mi (pc + 1, L, r, (h', nx, sl)) res) : xRun G d mi (pc, L, .int x :: .int i :: .ref a :: r, (h, nx, sl)) res := by
  subst hj
  refine xr_go hi ?_ (k _ rfl)
  show xbast pc L (.int x :: .int (nI j) :: .ref a :: r) (h, nx, sl) = _
  unfold xbast
  simp only [ha, if_neg (xjin hn hm), nI_clamp (show j < 2 ^ 31 by omega), hx]
theorem xr_bast {a n : Nat} {f : Nat → Int32} {i x : Int32} {j : Nat} (hi : xI mi pc = some .bastore) (ha : h a = some (.inl (2, n, .inl f))) (hj : i = nI j) (hn : j < n) (hm : n < 2 ^ 31) (k : ∀ h', h' = xup h a (.inl (2, n, .inl (upd f j (vp_nar .byte x)))) → xRun G d mi (pc + 1, L, r, (h', nx, sl)) res) : xRun G d mi (pc, L, .int x :: .int i :: .ref a :: r, (h, nx, sl)) res := by
  subst hj
  refine xr_go hi ?_ (k _ rfl)
  show xbast pc L (.int x :: .int (nI j) :: .ref a :: r) (h, nx, sl) = _
  unfold xbast
  simp only [ha, if_neg (xjin hn hm), nI_clamp (show j < 2 ^ 31 by omega)]
/-- a value on the stack is another's name -/
theorem xr_top {x y : Int32} (e : x = y) (k : xRun G d mi (pc, L, .int y :: r, (h, nx, sl)) res) : xRun G d mi (pc, L, .int x :: r, (h, nx, sl)) res := by
  subst e
  exact k
theorem xr_eq {f f' : xF} (e : f = f') (k : xRun G d mi f' res) : xRun G d mi f res := e ▸ k
end XU
theorem xup_s {h : xH} {a : Nat} {e : xE} : xup h a e a = some e := by simp [xup]
theorem xup_n {h : xH} {a b : Nat} {e : xE} (hb : b ≠ a) : xup h a e b = h b := by simp [xup, hb]
theorem xup_same {h : xH} {a : Nat} {e e' : xE} : xup (xup h a e) a e' = xup h a e' := by
  funext q
  unfold xup
  split <;> rfl
theorem xup_comm {h : xH} {a b : Nat} {e e' : xE} (hb : b ≠ a) : xup (xup h a e) b e' = xup (xup h b e') a e := by
  funext q
  unfold xup
  by_cases h1 : q = b
  · subst h1
    simp [hb]
  · by_cases h2 : q = a
    · subst h2
      simp [h1]
    · simp [h1, h2]
section XV
variable {G : xG} {d mi pc : Nat} {L : xL} {st r : List Value} {h : xH} {nx sl : Nat} {res : Option Value × xW}
theorem xinv_eq {op o i : Nat} {w : xW} {q : Nat × Nat × Nat × Nat × Nat × Nat × Nat} (hq : xCl o i = some q) (hd : 0 < d) (hk : (op = 0 ∧ (q.2.2.1 = 0 ∨ q.2.2.1 = 10 ∨ q.2.2.1 = 11)) ∨ (op = 1 ∧ (q.2.2.1 = 2 ∨ q.2.2.1 = 3 ∨ q.2.2.1 = 5)) ∨ (op = 2 ∧ (q.2.2.1 = 1 ∨ q.2.2.1 = 4 ∨ q.2.2.1 = 6 ∨ q.2.2.1 = 7 ∨ q.2.2.1 = 8 ∨ q.2.2.1 = 9))) : xinv G op o i d pc L st w = xcall G q.2.2.1 q.2.2.2.1 pc L st w := by
  unfold xinv
  simp only [hq]
  rw [if_neg (show ¬ d = 0 by omega), if_pos hk]
/-- calls of the claim's own methods -/
theorem xr_V {i b ci n cm : Nat} {q : Nat × Nat × Nat × Nat × Nat × Nat × Nat} {fs : List Value} {v : Option Value} {w1 : xW} (hi : xI mi pc = some (.invokevirtual i)) (hq : xCl (xO mi) i = some q) (hk : q.2.2.1 = 0 ∧ q.2.2.2.1 = cm) (hn : xA cm = n) (hdrop : st.drop n = .ref b :: r) (hb : h b = some (.inr (ci, fs))) (hci : ci = xO cm) (hcat : xcats r ≤ 8) (hd : 0 < d) (hc : (xargs (.ref b :: (st.take n).reverse)).length ≤ xM cm ∧ cm < 123) (h1 : xRun G (d - 1) cm (0, xloc cm (.ref b :: (st.take n).reverse), [], (h, nx, sl)) (v, w1)) (k : xRun G d mi (pc + 3, L, v.toList ++ r, w1) res) : xRun G d mi (pc, L, st, (h, nx, sl)) res := by
  obtain ⟨hk0, hk1⟩ := hk
  subst hk1
  subst hn
  refine xr_call (f := (pc, L, st, (h, nx, sl))) hi (as := .ref b :: (st.take (xA q.2.2.2.1)).reverse) (rest := r) ?_ hc h1 k
  show xinv G 0 (xO mi) i d pc L st (h, nx, sl) = _
  rw [xinv_eq (op := 0) hq hd (Or.inl ⟨rfl, Or.inl hk0⟩)]
  unfold xcall xcV
  rw [if_pos hk0]
  simp only [hdrop, hb]
  rw [if_pos ⟨hci, hcat⟩]
theorem xr_S {i n cm : Nat} {q : Nat × Nat × Nat × Nat × Nat × Nat × Nat} {v : Option Value} {w1 : xW} (hi : xI mi pc = some (.invokestatic i)) (hq : xCl (xO mi) i = some q) (hk : (q.2.2.1 = 1 ∨ q.2.2.1 = 4) ∧ q.2.2.2.1 = cm) (hn : xA cm = n) (hlen : n ≤ st.length) (hcat : xcats (st.drop n) ≤ 8) (hd : 0 < d) (hc : (xargs (st.take n).reverse).length ≤ xM cm ∧ cm < 123) (h1 : xRun G (d - 1) cm (0, xloc cm (st.take n).reverse, [], (h, nx, sl)) (v, w1)) (k : xRun G d mi (pc + 3, L, v.toList ++ st.drop n, w1) res) : xRun G d mi (pc, L, st, (h, nx, sl)) res := by
  obtain ⟨hk0, hk1⟩ := hk
  subst hk1
  subst hn
  refine xr_call (f := (pc, L, st, (h, nx, sl))) hi (as := (st.take (xA q.2.2.2.1)).reverse) (rest := st.drop (xA q.2.2.2.1)) ?_ hc h1 k
  show xinv G 2 (xO mi) i d pc L st (h, nx, sl) = _
  rw [xinv_eq (op := 2) hq hd (Or.inr (Or.inr ⟨rfl, hk0.elim Or.inl (fun z => Or.inr (Or.inl z))⟩))]
  unfold xcall xcS
  rw [if_neg (by omega), if_pos hk0, if_pos ⟨hlen, hcat⟩]
theorem xr_I {i b n cm : Nat} {q : Nat × Nat × Nat × Nat × Nat × Nat × Nat} {v : Option Value} {w1 : xW} (hi : xI mi pc = some (.invokespecial i)) (hq : xCl (xO mi) i = some q) (hk : (q.2.2.1 = 2 ∨ q.2.2.1 = 3) ∧ q.2.2.2.1 = cm) (hn : xA cm = n) (hdrop : st.drop n = .ref b :: r) (hT : xT cm = none) (hcat : xcats r ≤ 8) (hd : 0 < d) (hc : (xargs (.ref b :: (st.take n).reverse)).length ≤ xM cm ∧ cm < 123) (h1 : xRun G (d - 1) cm (0, xloc cm (.ref b :: (st.take n).reverse), [], (h, nx, sl)) (v, w1)) (k : xRun G d mi (pc + 3, L, v.toList ++ r, w1) res) : xRun G d mi (pc, L, st, (h, nx, sl)) res := by
  obtain ⟨hk0, hk1⟩ := hk
  subst hk1
  subst hn
  refine xr_call (f := (pc, L, st, (h, nx, sl))) hi (as := .ref b :: (st.take (xA q.2.2.2.1)).reverse) (rest := r) ?_ hc h1 k
  show xinv G 1 (xO mi) i d pc L st (h, nx, sl) = _
  rw [xinv_eq (op := 1) hq hd (Or.inr (Or.inl ⟨rfl, hk0.elim Or.inl (fun z => Or.inr (Or.inl z))⟩))]
  unfold xcall xcI
  rw [if_neg (by omega), if_neg (by omega), if_pos hk0]
  simp only [hdrop]
  rw [if_pos ⟨hcat, hT⟩]
theorem xr_inv {op i : Nat} {ins : Instr} {q : Nat × Nat × Nat × Nat × Nat × Nat × Nat} {f' : xF} (hi : xI mi pc = some ins) (hins : ins = (if op = 0 then .invokevirtual i else if op = 1 then .invokespecial i else .invokestatic i)) (hq : xCl (xO mi) i = some q) (hd : 0 < d) (hk : (op = 0 ∧ (q.2.2.1 = 0 ∨ q.2.2.1 = 10 ∨ q.2.2.1 = 11)) ∨ (op = 1 ∧ (q.2.2.1 = 2 ∨ q.2.2.1 = 3 ∨ q.2.2.1 = 5)) ∨ (op = 2 ∧ (q.2.2.1 = 1 ∨ q.2.2.1 = 4 ∨ q.2.2.1 = 6 ∨ q.2.2.1 = 7 ∨ q.2.2.1 = 8 ∨ q.2.2.1 = 9))) (hop : xcall G q.2.2.1 q.2.2.2.1 pc L st (h, nx, sl) = some (.inl f')) (k : xRun G d mi f' res) : xRun G d mi (pc, L, st, (h, nx, sl)) res := by
  subst hins
  refine xr_go hi ?_ k
  have h9 : xinv G op (xO mi) i d pc L st (h, nx, sl) = some (.inl f') := by
    unfold xinv
    simp only [hq]
    rw [if_neg (show ¬ d = 0 by omega), if_pos hk]
    exact hop
  by_cases h0 : op = 0
  · subst h0
    exact h9
  · rw [if_neg h0]
    by_cases h1 : op = 1
    · subst h1
      exact h9
    · rw [if_neg h1]
      have h2 : op = 2 := by omega
      subst h2
      exact h9
theorem xr_new {i : Nat} {q : Nat × Nat × Nat × Nat × Nat × Nat} {ci : Nat} {fs : List Value} {nn : Nat} (hi : xI mi pc = some (.new i)) (hq : xKl (xO mi) i = some q) (hc : q.2.2.1 = ci) (hf : xdef ci = fs) (hl : fs.length = nn) (k : ∀ h', h' = xup h nx (.inr (ci, fs)) → xRun G d mi (pc + 3, L, .ref nx :: st, (h', nx + 1, sl + nn)) res) : xRun G d mi (pc, L, st, (h, nx, sl)) res := by
  subst hc
  subst hf
  subst hl
  refine xr_go hi ?_ (k _ rfl)
  show xnew (xO mi) i pc L st (h, nx, sl) = _
  unfold xnew
  simp only [hq]
theorem xr_newa {t : ArrayType} {kk n : Nat} {x : Int32} (hi : xI mi pc = some (.newarray t)) (ht : xat t = some kk) (hx : x = nI n) (hn : n ≤ 100000) (k : ∀ h', h' = xup h nx (.inl (kk, n, .inl (fun _ => 0))) → xRun G d mi (pc + 2, L, .ref nx :: r, (h', nx + 1, sl + n)) res) : xRun G d mi (pc, L, .int x :: r, (h, nx, sl)) res := by
  subst hx
  refine xr_go hi ?_ (k _ rfl)
  show xnewa t pc L (.int (nI n) :: r) (h, nx, sl) = _
  unfold xnewa
  have hc : ¬ (nI n < 0 ∨ 100000 < n) := fun z => z.elim (nI_pos (by omega)) (by omega)
  simp only [ht, nI_clamp (show n < 2 ^ 31 by omega), if_neg hc]
theorem xr_anew {i n : Nat} {x : Int32} {q : Nat × Nat × Nat × Nat × Nat} {kk : Nat} (hi : xI mi pc = some (.anewarray i)) (hq : xNl (xO mi) i = some q) (hc : q.2.2.1 = kk) (h7 : kk ≤ 7) (hx : x = nI n) (hn : n ≤ 100000) (k : ∀ h', h' = xup h nx (.inl (kk, n, .inr (.inr (.inr (.inr (fun _ => none)))))) → xRun G d mi (pc + 3, L, .ref nx :: r, (h', nx + 1, sl + n)) res) : xRun G d mi (pc, L, .int x :: r, (h, nx, sl)) res := by
  subst hx
  subst hc
  refine xr_go hi ?_ (k _ rfl)
  show xanew (xO mi) i pc L (.int (nI n) :: r) (h, nx, sl) = _
  unfold xanew
  have hc : ¬ (nI n < 0 ∨ 100000 < n ∨ 7 < q.2.2.1) := fun z => z.elim (nI_pos (by omega)) (by omega)
  simp only [hq, nI_clamp (show n < 2 ^ 31 by omega), if_neg hc]
theorem xr_aast {a n t v : Nat} {f : Nat → Option Nat} {i : Int32} {j : Nat} {ev : xE} (hi : xI mi pc = some .aastore) (ha : h a = some (.inl (t, n, .inr (.inr (.inr (.inr f)))))) (hj : i = nI j) (hn : j < n) (hm : n < 2 ^ 31) (hv : h v = some ev) (hf : xfit t (some ev) = true) (k : ∀ h', h' = xup h a (.inl (t, n, .inr (.inr (.inr (.inr (va_up f j (some v))))))) → xRun G d mi (pc + 1, L, r, (h', nx, sl)) res) : xRun G d mi (pc, L, .ref v :: .int i :: .ref a :: r, (h, nx, sl)) res := by
  subst hj
  refine xr_go hi ?_ (k _ rfl)
  show xaast pc L (.ref v :: .int (nI j) :: .ref a :: r) (h, nx, sl) = _
  unfold xaast
  simp only [ha, if_neg (xjin hn hm), nI_clamp (show j < 2 ^ 31 by omega), hv, hf, if_true]
theorem xr_ldc {i k' : Nat} {q : Nat × Nat × Nat × Int32 × Nat × Nat} (hi : xI mi pc = some (.ldc i)) (hq : xDl (xO mi) i = some q) (hc : q.2.2.1 = 1) (hk : q.2.2.2.2.1 = k') (k : xRun G d mi (pc + 2, L, .ref (G.1 k') :: st, (h, nx, sl)) res) : xRun G d mi (pc, L, st, (h, nx, sl)) res := by
  subst hk
  refine xr_go hi ?_ k
  show xldc G (xO mi) i pc L st (h, nx, sl) = _
  unfold xldc
  simp only [hq]
  rw [if_neg (by omega)]
theorem xr_ldci {i : Nat} {x : Int32} {q : Nat × Nat × Nat × Int32 × Nat × Nat} (hi : xI mi pc = some (.ldc i)) (hq : xDl (xO mi) i = some q) (hc : q.2.2.1 = 0) (hk : q.2.2.2.1 = x) (k : xRun G d mi (pc + 2, L, .int x :: st, (h, nx, sl)) res) : xRun G d mi (pc, L, st, (h, nx, sl)) res := by
  subst hk
  refine xr_go hi ?_ k
  show xldc G (xO mi) i pc L st (h, nx, sl) = _
  unfold xldc
  simp only [hq]
  rw [if_pos hc]
theorem xr_ldc2 {i : Nat} {x : Int64} {q : Nat × Nat × Int64 × Nat} (hi : xI mi pc = some (.ldc2_w i)) (hq : xLl (xO mi) i = some q) (hk : q.2.2.1 = x) (k : xRun G d mi (pc + 3, L, .long x :: st, (h, nx, sl)) res) : xRun G d mi (pc, L, st, (h, nx, sl)) res := by
  subst hk
  refine xr_go hi ?_ k
  show xldc2 (xO mi) i pc L st (h, nx, sl) = _
  unfold xldc2
  simp only [hq]
theorem xr_slen {i a s : Nat} {q : Nat × Nat × Nat × Nat × Nat × Nat × Nat} {n : Nat} (hi : xI mi pc = some (.invokevirtual i)) (hq : xCl (xO mi) i = some q) (hc : q.2.2.1 = 10) (hd : 0 < d) (hs : G.2.1 a = some s) (hcat : xcats r ≤ 8) (hn : (xSt.getD s []).length = n) (k : xRun G d mi (pc + 3, L, .int (nI n) :: r, (h, nx, sl)) res) : xRun G d mi (pc, L, .ref a :: r, (h, nx, sl)) res := by
  subst hn
  refine xr_inv (op := 0) hi rfl hq hd (Or.inl ⟨rfl, Or.inr (Or.inl hc)⟩) ?_ k
  rw [hc]
  show xslen G pc L (.ref a :: r) (h, nx, sl) = _
  unfold xslen
  simp only [hs]
  rw [if_neg (by omega)]
theorem xr_sat {i a s : Nat} {q : Nat × Nat × Nat × Nat × Nat × Nat × Nat} {x : Int32} {j : Nat} (hi : xI mi pc = some (.invokevirtual i)) (hq : xCl (xO mi) i = some q) (hc : q.2.2.1 = 11) (hd : 0 < d) (hs : G.2.1 a = some s) (hcat : xcats r ≤ 8) (hx : x = nI j) (hj : j < (xSt.getD s []).length) (hm : j < 2 ^ 31) (k : xRun G d mi (pc + 3, L, .int (nI ((xSt.getD s []).getD j 0)) :: r, (h, nx, sl)) res) : xRun G d mi (pc, L, .int x :: .ref a :: r, (h, nx, sl)) res := by
  subst hx
  refine xr_inv (op := 0) hi rfl hq hd (Or.inl ⟨rfl, Or.inr (Or.inr hc)⟩) ?_ k
  rw [hc]
  show xsat G pc L (.int (nI j) :: .ref a :: r) (h, nx, sl) = _
  unfold xsat
  have hc : ¬ (8 < xcats r ∨ nI j < 0 ∨ (xSt.getD s []).length ≤ j) := fun z => z.elim (by omega) (fun z => z.elim (nI_pos hm) (by omega))
  simp only [hs, nI_clamp hm, if_neg hc]
theorem xr_max {i : Nat} {q : Nat × Nat × Nat × Nat × Nat × Nat × Nat} {x y z : Int32} (hi : xI mi pc = some (.invokestatic i)) (hq : xCl (xO mi) i = some q) (hc : q.2.2.1 = 6) (hd : 0 < d) (hcat : xcats r ≤ 8) (hz : (if x < y then y else x) = z) (k : xRun G d mi (pc + 3, L, .int z :: r, (h, nx, sl)) res) : xRun G d mi (pc, L, .int y :: .int x :: r, (h, nx, sl)) res := by
  subst hz
  refine xr_inv (op := 2) hi rfl hq hd (Or.inr (Or.inr ⟨rfl, Or.inr (Or.inr (Or.inl hc))⟩)) ?_ k
  rw [hc]
  show xmax pc L (.int y :: .int x :: r) (h, nx, sl) = _
  unfold xmax
  simp only []
  rw [if_pos hcat]
theorem xr_min {i : Nat} {q : Nat × Nat × Nat × Nat × Nat × Nat × Nat} {x y z : Int32} (hi : xI mi pc = some (.invokestatic i)) (hq : xCl (xO mi) i = some q) (hc : q.2.2.1 = 7) (hd : 0 < d) (hcat : xcats r ≤ 8) (hz : (if y < x then y else x) = z) (k : xRun G d mi (pc + 3, L, .int z :: r, (h, nx, sl)) res) : xRun G d mi (pc, L, .int y :: .int x :: r, (h, nx, sl)) res := by
  subst hz
  refine xr_inv (op := 2) hi rfl hq hd (Or.inr (Or.inr ⟨rfl, Or.inr (Or.inr (Or.inr (Or.inl hc)))⟩)) ?_ k
  rw [hc]
  show xmin pc L (.int y :: .int x :: r) (h, nx, sl) = _
  unfold xmin
  simp only []
  rw [if_pos hcat]
theorem xr_minl {i : Nat} {q : Nat × Nat × Nat × Nat × Nat × Nat × Nat} {x y z : Int64} (hi : xI mi pc = some (.invokestatic i)) (hq : xCl (xO mi) i = some q) (hc : q.2.2.1 = 8) (hd : 0 < d) (hcat : xcats r ≤ 8) (hz : (if y < x then y else x) = z) (k : xRun G d mi (pc + 3, L, .long z :: r, (h, nx, sl)) res) : xRun G d mi (pc, L, .long y :: .long x :: r, (h, nx, sl)) res := by
  subst hz
  refine xr_inv (op := 2) hi rfl hq hd (Or.inr (Or.inr ⟨rfl, Or.inr (Or.inr (Or.inr (Or.inr (Or.inl hc))))⟩)) ?_ k
  rw [hc]
  show xminl pc L (.long y :: .long x :: r) (h, nx, sl) = _
  unfold xminl
  simp only []
  rw [if_pos hcat]
theorem xr_obj {i a : Nat} {q : Nat × Nat × Nat × Nat × Nat × Nat × Nat} (hi : xI mi pc = some (.invokespecial i)) (hq : xCl (xO mi) i = some q) (hc : q.2.2.1 = 5) (hd : 0 < d) (hcat : xcats r ≤ 8) (k : xRun G d mi (pc + 3, L, r, (h, nx, sl)) res) : xRun G d mi (pc, L, .ref a :: r, (h, nx, sl)) res := by
  refine xr_inv (op := 1) hi rfl hq hd (Or.inr (Or.inl ⟨rfl, Or.inr (Or.inr hc)⟩)) ?_ k
  rw [hc]
  show xobj pc L (.ref a :: r) (h, nx, sl) = _
  unfold xobj
  simp only []
  rw [if_pos hcat]
theorem xr_copy {i a b : Nat} {q : Nat × Nat × Nat × Nat × Nat × Nat × Nat} {x y z : Int32} {n0 n1 sp dp n : Nat} {f g : Nat → Int32} (hi : xI mi pc = some (.invokestatic i)) (hq : xCl (xO mi) i = some q) (hc : q.2.2.1 = 9) (hd : 0 < d) (hcat : xcats r ≤ 8) (ha : h a = some (.inl (0, n0, .inl f))) (hb : h b = some (.inl (0, n1, .inl g))) (hx : x = nI n) (hy : y = nI dp) (hz : z = nI sp) (h0 : sp + n ≤ n0) (h1 : dp + n ≤ n1) (hm : n0 < 2 ^ 31 ∧ n1 < 2 ^ 31) (k : ∀ h', h' = xup h b (.inl (0, n1, .inl (va_cpy f g sp dp n))) → xRun G d mi (pc + 3, L, r, (h', nx, sl)) res) : xRun G d mi (pc, L, .int x :: .int y :: .ref b :: .int z :: .ref a :: r, (h, nx, sl)) res := by
  subst hx
  subst hy
  subst hz
  refine xr_inv (op := 2) hi rfl hq hd (Or.inr (Or.inr ⟨rfl, Or.inr (Or.inr (Or.inr (Or.inr (Or.inr hc))))⟩)) ?_ (k _ rfl)
  rw [hc]
  show xcopy pc L (.int (nI n) :: .int (nI dp) :: .ref b :: .int (nI sp) :: .ref a :: r) (h, nx, sl) = _
  unfold xcopy
  have hc : ¬ (8 < xcats r ∨ nI sp < 0 ∨ nI dp < 0 ∨ nI n < 0 ∨ n0 < sp + n ∨ n1 < dp + n) := by
    rintro (z | z | z | z | z | z)
    · omega
    · exact nI_pos (by omega) z
    · exact nI_pos (by omega) z
    · exact nI_pos (by omega) z
    · omega
    · omega
  simp only [ha, hb, nI_clamp (show n < 2 ^ 31 by omega), nI_clamp (show dp < 2 ^ 31 by omega), nI_clamp (show sp < 2 ^ 31 by omega), if_neg hc]
end XV
end
section
/-! ===== the links of each method (wip/gen/lay18.py) ===== -/
theorem xo_0 : xO 0 = 0 := by decide +kernel
theorem xc0_3 : xCl (xO 0) 3 = some (0, 3, 5, 0, 70, 0, 0) := rfl
theorem xk0_9 : xKl (xO 0) 9 = some (0, 9, 1, 73, 74, 48) := by decide +kernel
theorem xc0_11 : xCl (xO 0) 11 = some (0, 11, 3, 20, 75, 76, 0) := rfl
theorem xf0_12 : xFl (xO 0) 12 = some (0, 12, 0, 0, 0, 269) := by decide +kernel
theorem xk0_16 : xKl (xO 0) 16 = some (0, 16, 2, 90, 91, 49) := by decide +kernel
theorem xc0_18 : xCl (xO 0) 18 = some (0, 18, 2, 22, 92, 93, 0) := rfl
theorem xf0_21 : xFl (xO 0) 21 = some (0, 21, 0, 1, 0, 270) := by decide +kernel
theorem xk0_25 : xKl (xO 0) 25 = some (0, 25, 4, 144, 145, 51) := by decide +kernel
theorem xc0_27 : xCl (xO 0) 27 = some (0, 27, 3, 45, 146, 147, 0) := rfl
theorem xf0_28 : xFl (xO 0) 28 = some (0, 28, 0, 2, 0, 271) := by decide +kernel
theorem xk0_32 : xKl (xO 0) 32 = some (0, 32, 5, 169, 170, 52) := by decide +kernel
theorem xc0_34 : xCl (xO 0) 34 = some (0, 34, 3, 49, 171, 172, 0) := rfl
theorem xn0_35 : xNl (xO 0) 35 = some (0, 35, 4, 194, 195) := by decide +kernel
theorem xf0_37 : xFl (xO 0) 37 = some (0, 37, 0, 3, 0, 272) := by decide +kernel
theorem xk0_35 : xKl (xO 0) 35 = some (0, 35, 6, 194, 196, 53) := by decide +kernel
theorem xc0_41 : xCl (xO 0) 41 = some (0, 41, 2, 58, 197, 198, 0) := rfl
theorem xn0_44 : xNl (xO 0) 44 = some (0, 44, 5, 249, 250) := by decide +kernel
theorem xf0_46 : xFl (xO 0) 46 = some (0, 46, 0, 4, 0, 273) := by decide +kernel
theorem xk0_44 : xKl (xO 0) 44 = some (0, 44, 7, 249, 251, 54) := by decide +kernel
theorem xc0_50 : xCl (xO 0) 50 = some (0, 50, 3, 69, 252, 253, 0) := rfl
theorem xf0_51 : xFl (xO 0) 51 = some (0, 51, 0, 5, 0, 274) := by decide +kernel
theorem xo_1 : xO 1 = 0 := by decide +kernel
theorem xf1_12 : xFl (xO 1) 12 = some (0, 12, 0, 0, 0, 269) := by decide +kernel
theorem xf1_55 : xFl (xO 1) 55 = some (0, 55, 1, 1, 1, 82) := by decide +kernel
theorem xc1_59 : xCl (xO 1) 59 = some (0, 59, 0, 21, 292, 293, 294) := rfl
theorem xo_2 : xO 2 = 0 := by decide +kernel
theorem xf2_12 : xFl (xO 2) 12 = some (0, 12, 0, 0, 0, 269) := by decide +kernel
theorem xf2_55 : xFl (xO 2) 55 = some (0, 55, 1, 1, 1, 82) := by decide +kernel
theorem xo_3 : xO 3 = 0 := by decide +kernel
theorem xf3_21 : xFl (xO 3) 21 = some (0, 21, 0, 1, 0, 270) := by decide +kernel
theorem xc3_63 : xCl (xO 3) 63 = some (0, 63, 0, 23, 304, 305, 306) := rfl
theorem xf3_12 : xFl (xO 3) 12 = some (0, 12, 0, 0, 0, 269) := by decide +kernel
theorem xf3_55 : xFl (xO 3) 55 = some (0, 55, 1, 1, 1, 82) := by decide +kernel
theorem xc3_67 : xCl (xO 3) 67 = some (0, 67, 0, 35, 440, 441, 442) := rfl
theorem xf3_51 : xFl (xO 3) 51 = some (0, 51, 0, 5, 0, 274) := by decide +kernel
theorem xo_4 : xO 4 = 0 := by decide +kernel
theorem xo_5 : xO 5 = 0 := by decide +kernel
theorem xc5_71 : xCl (xO 5) 71 = some (0, 71, 1, 6, 480, 481, 0) := rfl
theorem xc5_75 : xCl (xO 5) 75 = some (0, 75, 1, 7, 483, 484, 0) := rfl
theorem xd5_78 : xDl (xO 5) 78 = some (0, 78, 0, 1000000000, 0, 486) := by decide +kernel
theorem xf5_51 : xFl (xO 5) 51 = some (0, 51, 0, 5, 0, 274) := by decide +kernel
theorem xf5_28 : xFl (xO 5) 28 = some (0, 28, 0, 2, 0, 271) := by decide +kernel
theorem xf5_79 : xFl (xO 5) 79 = some (0, 79, 4, 2, 1, 158) := by decide +kernel
theorem xf5_37 : xFl (xO 5) 37 = some (0, 37, 0, 3, 0, 272) := by decide +kernel
theorem xf5_46 : xFl (xO 5) 46 = some (0, 46, 0, 4, 0, 273) := by decide +kernel
theorem xc5_82 : xCl (xO 5) 82 = some (0, 82, 0, 70, 487, 488, 489) := rfl
theorem xf5_86 : xFl (xO 5) 86 = some (0, 86, 6, 8, 1, 213) := by decide +kernel
theorem xc5_89 : xCl (xO 5) 89 = some (0, 89, 6, 0, 498, 0, 0) := rfl
theorem xk5_95 : xKl (xO 5) 95 = some (0, 95, 9, 501, 502, 64) := by decide +kernel
theorem xc5_97 : xCl (xO 5) 97 = some (0, 97, 2, 77, 503, 504, 0) := rfl
theorem xc5_100 : xCl (xO 5) 100 = some (0, 100, 0, 46, 529, 530, 531) := rfl
theorem xc5_104 : xCl (xO 5) 104 = some (0, 104, 0, 59, 533, 534, 535) := rfl
theorem xf5_107 : xFl (xO 5) 107 = some (0, 107, 7, 1, 1, 259) := by decide +kernel
theorem xo_6 : xO 6 = 0 := by decide +kernel
theorem xo_7 : xO 7 = 0 := by decide +kernel
theorem xo_8 : xO 8 = 0 := by decide +kernel
theorem xc8_71 : xCl (xO 8) 71 = some (0, 71, 1, 6, 480, 481, 0) := rfl
theorem xc8_75 : xCl (xO 8) 75 = some (0, 75, 1, 7, 483, 484, 0) := rfl
theorem xc8_111 : xCl (xO 8) 111 = some (0, 111, 1, 4, 546, 430, 0) := rfl
theorem xl8_114 : xLl (xO 8) 114 = some (0, 114, 1099511627776, 547) := by decide +kernel
theorem xf8_37 : xFl (xO 8) 37 = some (0, 37, 0, 3, 0, 272) := by decide +kernel
theorem xf8_46 : xFl (xO 8) 46 = some (0, 46, 0, 4, 0, 273) := by decide +kernel
theorem xc8_116 : xCl (xO 8) 116 = some (0, 116, 0, 73, 548, 549, 550) := rfl
theorem xl8_119 : xLl (xO 8) 119 = some (0, 119, 1099511627777, 552) := by decide +kernel
theorem xc8_121 : xCl (xO 8) 121 = some (0, 121, 0, 74, 553, 554, 555) := rfl
theorem xc8_125 : xCl (xO 8) 125 = some (0, 125, 0, 60, 558, 559, 560) := rfl
theorem xo_9 : xO 9 = 0 := by decide +kernel
theorem xc9_75 : xCl (xO 9) 75 = some (0, 75, 1, 7, 483, 484, 0) := rfl
theorem xf9_46 : xFl (xO 9) 46 = some (0, 46, 0, 4, 0, 273) := by decide +kernel
theorem xf9_129 : xFl (xO 9) 129 = some (0, 129, 7, 2, 1, 261) := by decide +kernel
theorem xc9_132 : xCl (xO 9) 132 = some (0, 132, 0, 75, 603, 604, 605) := rfl
theorem xo_10 : xO 10 = 0 := by decide +kernel
theorem xf10_37 : xFl (xO 10) 37 = some (0, 37, 0, 3, 0, 272) := by decide +kernel
theorem xf10_135 : xFl (xO 10) 135 = some (0, 135, 6, 11, 1, 219) := by decide +kernel
theorem xc10_138 : xCl (xO 10) 138 = some (0, 138, 7, 0, 614, 0, 0) := rfl
theorem xf10_28 : xFl (xO 10) 28 = some (0, 28, 0, 2, 0, 271) := by decide +kernel
theorem xf10_141 : xFl (xO 10) 141 = some (0, 141, 6, 4, 1, 208) := by decide +kernel
theorem xc10_144 : xCl (xO 10) 144 = some (0, 144, 0, 47, 615, 616, 617) := rfl
theorem xc10_147 : xCl (xO 10) 147 = some (0, 147, 0, 62, 619, 620, 621) := rfl
theorem xo_11 : xO 11 = 0 := by decide +kernel
theorem xc11_71 : xCl (xO 11) 71 = some (0, 71, 1, 6, 480, 481, 0) := rfl
theorem xf11_37 : xFl (xO 11) 37 = some (0, 37, 0, 3, 0, 272) := by decide +kernel
theorem xf11_150 : xFl (xO 11) 150 = some (0, 150, 6, 10, 1, 217) := by decide +kernel
theorem xf11_153 : xFl (xO 11) 153 = some (0, 153, 6, 9, 1, 215) := by decide +kernel
theorem xc11_156 : xCl (xO 11) 156 = some (0, 156, 0, 64, 632, 633, 634) := rfl
theorem xc11_159 : xCl (xO 11) 159 = some (0, 159, 0, 65, 637, 638, 639) := rfl
theorem xc11_163 : xCl (xO 11) 163 = some (0, 163, 0, 66, 642, 643, 644) := rfl
theorem xo_12 : xO 12 = 0 := by decide +kernel
theorem xc12_71 : xCl (xO 12) 71 = some (0, 71, 1, 6, 480, 481, 0) := rfl
theorem xf12_37 : xFl (xO 12) 37 = some (0, 37, 0, 3, 0, 272) := by decide +kernel
theorem xf12_150 : xFl (xO 12) 150 = some (0, 150, 6, 10, 1, 217) := by decide +kernel
theorem xf12_153 : xFl (xO 12) 153 = some (0, 153, 6, 9, 1, 215) := by decide +kernel
theorem xc12_138 : xCl (xO 12) 138 = some (0, 138, 7, 0, 614, 0, 0) := rfl
theorem xo_13 : xO 13 = 0 := by decide +kernel
theorem xc13_71 : xCl (xO 13) 71 = some (0, 71, 1, 6, 480, 481, 0) := rfl
theorem xc13_111 : xCl (xO 13) 111 = some (0, 111, 1, 4, 546, 430, 0) := rfl
theorem xl13_114 : xLl (xO 13) 114 = some (0, 114, 1099511627776, 547) := by decide +kernel
theorem xf13_37 : xFl (xO 13) 37 = some (0, 37, 0, 3, 0, 272) := by decide +kernel
theorem xc13_125 : xCl (xO 13) 125 = some (0, 125, 0, 60, 558, 559, 560) := rfl
theorem xo_14 : xO 14 = 0 := by decide +kernel
theorem xc14_71 : xCl (xO 14) 71 = some (0, 71, 1, 6, 480, 481, 0) := rfl
theorem xf14_37 : xFl (xO 14) 37 = some (0, 37, 0, 3, 0, 272) := by decide +kernel
theorem xc14_166 : xCl (xO 14) 166 = some (0, 166, 0, 67, 658, 659, 660) := rfl
theorem xo_15 : xO 15 = 0 := by decide +kernel
theorem xc15_71 : xCl (xO 15) 71 = some (0, 71, 1, 6, 480, 481, 0) := rfl
theorem xf15_28 : xFl (xO 15) 28 = some (0, 28, 0, 2, 0, 271) := by decide +kernel
theorem xc15_170 : xCl (xO 15) 170 = some (0, 170, 0, 48, 666, 667, 668) := rfl
theorem xf15_37 : xFl (xO 15) 37 = some (0, 37, 0, 3, 0, 272) := by decide +kernel
theorem xc15_173 : xCl (xO 15) 173 = some (0, 173, 0, 68, 670, 671, 672) := rfl
theorem xo_16 : xO 16 = 0 := by decide +kernel
theorem xf16_28 : xFl (xO 16) 28 = some (0, 28, 0, 2, 0, 271) := by decide +kernel
theorem xc16_170 : xCl (xO 16) 170 = some (0, 170, 0, 48, 666, 667, 668) := rfl
theorem xf16_176 : xFl (xO 16) 176 = some (0, 176, 4, 0, 1, 154) := by decide +kernel
theorem xf16_180 : xFl (xO 16) 180 = some (0, 180, 9, 0, 1, 510) := by decide +kernel
theorem xf16_183 : xFl (xO 16) 183 = some (0, 183, 9, 1, 1, 514) := by decide +kernel
theorem xf16_186 : xFl (xO 16) 186 = some (0, 186, 9, 3, 1, 519) := by decide +kernel
theorem xo_17 : xO 17 = 0 := by decide +kernel
theorem xc17_71 : xCl (xO 17) 71 = some (0, 71, 1, 6, 480, 481, 0) := rfl
theorem xf17_37 : xFl (xO 17) 37 = some (0, 37, 0, 3, 0, 272) := by decide +kernel
theorem xf17_189 : xFl (xO 17) 189 = some (0, 189, 6, 2, 1, 205) := by decide +kernel
theorem xc17_75 : xCl (xO 17) 75 = some (0, 75, 1, 7, 483, 484, 0) := rfl
theorem xf17_46 : xFl (xO 17) 46 = some (0, 46, 0, 4, 0, 273) := by decide +kernel
theorem xf17_192 : xFl (xO 17) 192 = some (0, 192, 7, 0, 1, 257) := by decide +kernel
theorem xf17_107 : xFl (xO 17) 107 = some (0, 107, 7, 1, 1, 259) := by decide +kernel
theorem xo_18 : xO 18 = 0 := by decide +kernel
theorem xc18_71 : xCl (xO 18) 71 = some (0, 71, 1, 6, 480, 481, 0) := rfl
theorem xf18_37 : xFl (xO 18) 37 = some (0, 37, 0, 3, 0, 272) := by decide +kernel
theorem xf18_153 : xFl (xO 18) 153 = some (0, 153, 6, 9, 1, 215) := by decide +kernel
theorem xf18_135 : xFl (xO 18) 135 = some (0, 135, 6, 11, 1, 219) := by decide +kernel
theorem xf18_150 : xFl (xO 18) 150 = some (0, 150, 6, 10, 1, 217) := by decide +kernel
theorem xf18_86 : xFl (xO 18) 86 = some (0, 86, 6, 8, 1, 213) := by decide +kernel
theorem xo_19 : xO 19 = 0 := by decide +kernel
theorem xf19_28 : xFl (xO 19) 28 = some (0, 28, 0, 2, 0, 271) := by decide +kernel
theorem xf19_79 : xFl (xO 19) 79 = some (0, 79, 4, 2, 1, 158) := by decide +kernel
theorem xo_20 : xO 20 = 1 := by decide +kernel
theorem xc20_3 : xCl (xO 20) 3 = some (1, 3, 5, 0, 78, 0, 0) := rfl
theorem xf20_9 : xFl (xO 20) 9 = some (1, 9, 1, 0, 0, 79) := by decide +kernel
theorem xf20_15 : xFl (xO 20) 15 = some (1, 15, 1, 1, 0, 81) := by decide +kernel
theorem xo_21 : xO 21 = 1 := by decide +kernel
theorem xf21_15 : xFl (xO 21) 15 = some (1, 15, 1, 1, 0, 81) := by decide +kernel
theorem xf21_9 : xFl (xO 21) 9 = some (1, 9, 1, 0, 0, 79) := by decide +kernel
theorem xo_22 : xO 22 = 2 := by decide +kernel
theorem xc22_5 : xCl (xO 22) 5 = some (2, 5, 5, 0, 95, 0, 0) := rfl
theorem xk22_11 : xKl (xO 22) 11 = some (2, 11, 3, 96, 97, 50) := by decide +kernel
theorem xc22_13 : xCl (xO 22) 13 = some (2, 13, 3, 36, 98, 99, 0) := rfl
theorem xf22_14 : xFl (xO 22) 14 = some (2, 14, 2, 1, 0, 120) := by decide +kernel
theorem xf22_18 : xFl (xO 22) 18 = some (2, 18, 2, 2, 0, 121) := by decide +kernel
theorem xf22_22 : xFl (xO 22) 22 = some (2, 22, 2, 3, 0, 122) := by decide +kernel
theorem xf22_25 : xFl (xO 22) 25 = some (2, 25, 2, 4, 0, 123) := by decide +kernel
theorem xf22_29 : xFl (xO 22) 29 = some (2, 29, 2, 5, 0, 124) := by decide +kernel
theorem xf22_32 : xFl (xO 22) 32 = some (2, 32, 2, 6, 0, 125) := by decide +kernel
theorem xf22_35 : xFl (xO 22) 35 = some (2, 35, 2, 7, 0, 126) := by decide +kernel
theorem xf22_38 : xFl (xO 22) 38 = some (2, 38, 2, 0, 0, 119) := by decide +kernel
theorem xo_23 : xO 23 = 2 := by decide +kernel
theorem xf23_14 : xFl (xO 23) 14 = some (2, 14, 2, 1, 0, 120) := by decide +kernel
theorem xf23_38 : xFl (xO 23) 38 = some (2, 38, 2, 0, 0, 119) := by decide +kernel
theorem xc23_42 : xCl (xO 23) 42 = some (2, 42, 0, 37, 308, 309, 310) := rfl
theorem xf23_25 : xFl (xO 23) 25 = some (2, 25, 2, 4, 0, 123) := by decide +kernel
theorem xf23_29 : xFl (xO 23) 29 = some (2, 29, 2, 5, 0, 124) := by decide +kernel
theorem xf23_32 : xFl (xO 23) 32 = some (2, 32, 2, 6, 0, 125) := by decide +kernel
theorem xf23_35 : xFl (xO 23) 35 = some (2, 35, 2, 7, 0, 126) := by decide +kernel
theorem xc23_48 : xCl (xO 23) 48 = some (2, 48, 0, 24, 393, 395, 3) := rfl
theorem xc23_52 : xCl (xO 23) 52 = some (2, 52, 0, 25, 397, 399, 4) := rfl
theorem xc23_55 : xCl (xO 23) 55 = some (2, 55, 0, 34, 436, 438, 13) := rfl
theorem xc23_60 : xCl (xO 23) 60 = some (2, 60, 0, 33, 432, 434, 12) := rfl
theorem xc23_64 : xCl (xO 23) 64 = some (2, 64, 0, 31, 421, 423, 10) := rfl
theorem xc23_68 : xCl (xO 23) 68 = some (2, 68, 0, 30, 417, 419, 9) := rfl
theorem xo_24 : xO 24 = 2 := by decide +kernel
theorem xf24_35 : xFl (xO 24) 35 = some (2, 35, 2, 7, 0, 126) := by decide +kernel
theorem xf24_14 : xFl (xO 24) 14 = some (2, 14, 2, 1, 0, 120) := by decide +kernel
theorem xf24_104 : xFl (xO 24) 104 = some (2, 104, 3, 0, 1, 103) := by decide +kernel
theorem xf24_29 : xFl (xO 24) 29 = some (2, 29, 2, 5, 0, 124) := by decide +kernel
theorem xf24_107 : xFl (xO 24) 107 = some (2, 107, 3, 3, 1, 109) := by decide +kernel
theorem xo_25 : xO 25 = 2 := by decide +kernel
theorem xc25_80 : xCl (xO 25) 80 = some (2, 80, 0, 26, 401, 403, 5) := rfl
theorem xc25_64 : xCl (xO 25) 64 = some (2, 64, 0, 31, 421, 423, 10) := rfl
theorem xc25_48 : xCl (xO 25) 48 = some (2, 48, 0, 24, 393, 395, 3) := rfl
theorem xc25_68 : xCl (xO 25) 68 = some (2, 68, 0, 30, 417, 419, 9) := rfl
theorem xc25_60 : xCl (xO 25) 60 = some (2, 60, 0, 33, 432, 434, 12) := rfl
theorem xc25_84 : xCl (xO 25) 84 = some (2, 84, 0, 29, 413, 415, 8) := rfl
theorem xo_26 : xO 26 = 2 := by decide +kernel
theorem xc26_92 : xCl (xO 26) 92 = some (2, 92, 0, 27, 405, 407, 6) := rfl
theorem xc26_64 : xCl (xO 26) 64 = some (2, 64, 0, 31, 421, 423, 10) := rfl
theorem xc26_48 : xCl (xO 26) 48 = some (2, 48, 0, 24, 393, 395, 3) := rfl
theorem xc26_60 : xCl (xO 26) 60 = some (2, 60, 0, 33, 432, 434, 12) := rfl
theorem xo_27 : xO 27 = 2 := by decide +kernel
theorem xc27_95 : xCl (xO 27) 95 = some (2, 95, 0, 28, 409, 411, 7) := rfl
theorem xc27_48 : xCl (xO 27) 48 = some (2, 48, 0, 24, 393, 395, 3) := rfl
theorem xc27_60 : xCl (xO 27) 60 = some (2, 60, 0, 33, 432, 434, 12) := rfl
theorem xo_28 : xO 28 = 2 := by decide +kernel
theorem xc28_48 : xCl (xO 28) 48 = some (2, 48, 0, 24, 393, 395, 3) := rfl
theorem xc28_80 : xCl (xO 28) 80 = some (2, 80, 0, 26, 401, 403, 5) := rfl
theorem xc28_84 : xCl (xO 28) 84 = some (2, 84, 0, 29, 413, 415, 8) := rfl
theorem xc28_64 : xCl (xO 28) 64 = some (2, 64, 0, 31, 421, 423, 10) := rfl
theorem xf28_32 : xFl (xO 28) 32 = some (2, 32, 2, 6, 0, 125) := by decide +kernel
theorem xc28_68 : xCl (xO 28) 68 = some (2, 68, 0, 30, 417, 419, 9) := rfl
theorem xc28_89 : xCl (xO 28) 89 = some (2, 89, 0, 32, 425, 427, 11) := rfl
theorem xc28_60 : xCl (xO 28) 60 = some (2, 60, 0, 33, 432, 434, 12) := rfl
theorem xf28_14 : xFl (xO 28) 14 = some (2, 14, 2, 1, 0, 120) := by decide +kernel
theorem xf28_98 : xFl (xO 28) 98 = some (2, 98, 3, 2, 1, 107) := by decide +kernel
theorem xf28_29 : xFl (xO 28) 29 = some (2, 29, 2, 5, 0, 124) := by decide +kernel
theorem xo_29 : xO 29 = 2 := by decide +kernel
theorem xc29_48 : xCl (xO 29) 48 = some (2, 48, 0, 24, 393, 395, 3) := rfl
theorem xc29_68 : xCl (xO 29) 68 = some (2, 68, 0, 30, 417, 419, 9) := rfl
theorem xo_30 : xO 30 = 2 := by decide +kernel
theorem xf30_35 : xFl (xO 30) 35 = some (2, 35, 2, 7, 0, 126) := by decide +kernel
theorem xf30_14 : xFl (xO 30) 14 = some (2, 14, 2, 1, 0, 120) := by decide +kernel
theorem xf30_108 : xFl (xO 30) 108 = some (2, 108, 3, 1, 1, 105) := by decide +kernel
theorem xf30_29 : xFl (xO 30) 29 = some (2, 29, 2, 5, 0, 124) := by decide +kernel
theorem xo_31 : xO 31 = 2 := by decide +kernel
theorem xf31_14 : xFl (xO 31) 14 = some (2, 14, 2, 1, 0, 120) := by decide +kernel
theorem xf31_104 : xFl (xO 31) 104 = some (2, 104, 3, 0, 1, 103) := by decide +kernel
theorem xf31_29 : xFl (xO 31) 29 = some (2, 29, 2, 5, 0, 124) := by decide +kernel
theorem xo_32 : xO 32 = 2 := by decide +kernel
theorem xf32_14 : xFl (xO 32) 14 = some (2, 14, 2, 1, 0, 120) := by decide +kernel
theorem xf32_98 : xFl (xO 32) 98 = some (2, 98, 3, 2, 1, 107) := by decide +kernel
theorem xf32_29 : xFl (xO 32) 29 = some (2, 29, 2, 5, 0, 124) := by decide +kernel
theorem xc32_101 : xCl (xO 32) 101 = some (2, 101, 4, 4, 429, 430, 0) := rfl
theorem xc32_48 : xCl (xO 32) 48 = some (2, 48, 0, 24, 393, 395, 3) := rfl
theorem xc32_68 : xCl (xO 32) 68 = some (2, 68, 0, 30, 417, 419, 9) := rfl
theorem xo_33 : xO 33 = 2 := by decide +kernel
theorem xf33_35 : xFl (xO 33) 35 = some (2, 35, 2, 7, 0, 126) := by decide +kernel
theorem xf33_25 : xFl (xO 33) 25 = some (2, 25, 2, 4, 0, 123) := by decide +kernel
theorem xf33_18 : xFl (xO 33) 18 = some (2, 18, 2, 2, 0, 121) := by decide +kernel
theorem xf33_22 : xFl (xO 33) 22 = some (2, 22, 2, 3, 0, 122) := by decide +kernel
theorem xo_34 : xO 34 = 2 := by decide +kernel
theorem xc34_84 : xCl (xO 34) 84 = some (2, 84, 0, 29, 413, 415, 8) := rfl
theorem xc34_89 : xCl (xO 34) 89 = some (2, 89, 0, 32, 425, 427, 11) := rfl
theorem xc34_80 : xCl (xO 34) 80 = some (2, 80, 0, 26, 401, 403, 5) := rfl
theorem xc34_60 : xCl (xO 34) 60 = some (2, 60, 0, 33, 432, 434, 12) := rfl
theorem xc34_48 : xCl (xO 34) 48 = some (2, 48, 0, 24, 393, 395, 3) := rfl
theorem xc34_68 : xCl (xO 34) 68 = some (2, 68, 0, 30, 417, 419, 9) := rfl
theorem xo_35 : xO 35 = 2 := by decide +kernel
theorem xk35_58 : xKl (xO 35) 58 = some (2, 58, 8, 444, 445, 60) := by decide +kernel
theorem xf35_18 : xFl (xO 35) 18 = some (2, 18, 2, 2, 0, 121) := by decide +kernel
theorem xf35_25 : xFl (xO 35) 25 = some (2, 25, 2, 4, 0, 123) := by decide +kernel
theorem xc35_71 : xCl (xO 35) 71 = some (2, 71, 1, 121, 446, 447, 0) := rfl
theorem xf35_22 : xFl (xO 35) 22 = some (2, 22, 2, 3, 0, 122) := by decide +kernel
theorem xc35_77 : xCl (xO 35) 77 = some (2, 77, 2, 76, 462, 463, 0) := rfl
theorem xo_36 : xO 36 = 3 := by decide +kernel
theorem xc36_3 : xCl (xO 36) 3 = some (3, 3, 5, 0, 101, 0, 0) := rfl
theorem xf36_9 : xFl (xO 36) 9 = some (3, 9, 3, 0, 0, 102) := by decide +kernel
theorem xf36_15 : xFl (xO 36) 15 = some (3, 15, 3, 1, 0, 104) := by decide +kernel
theorem xf36_18 : xFl (xO 36) 18 = some (3, 18, 3, 2, 0, 106) := by decide +kernel
theorem xf36_21 : xFl (xO 36) 21 = some (3, 21, 3, 3, 0, 108) := by decide +kernel
theorem xo_37 : xO 37 = 3 := by decide +kernel
theorem xf37_21 : xFl (xO 37) 21 = some (3, 21, 3, 3, 0, 108) := by decide +kernel
theorem xc37_25 : xCl (xO 37) 25 = some (3, 25, 1, 38, 312, 313, 0) := rfl
theorem xc37_29 : xCl (xO 37) 29 = some (3, 29, 0, 39, 315, 317, 0) := rfl
theorem xf37_15 : xFl (xO 37) 15 = some (3, 15, 3, 1, 0, 104) := by decide +kernel
theorem xf37_9 : xFl (xO 37) 9 = some (3, 9, 3, 0, 0, 102) := by decide +kernel
theorem xo_38 : xO 38 = 3 := by decide +kernel
theorem xf38_34 : xFl (xO 38) 34 = some (3, 34, 1, 1, 1, 83) := by decide +kernel
theorem xf38_39 : xFl (xO 38) 39 = some (3, 39, 1, 0, 1, 80) := by decide +kernel
theorem xo_39 : xO 39 = 3 := by decide +kernel
theorem xf39_18 : xFl (xO 39) 18 = some (3, 18, 3, 2, 0, 106) := by decide +kernel
theorem xf39_21 : xFl (xO 39) 21 = some (3, 21, 3, 3, 0, 108) := by decide +kernel
theorem xf39_34 : xFl (xO 39) 34 = some (3, 34, 1, 1, 1, 83) := by decide +kernel
theorem xf39_9 : xFl (xO 39) 9 = some (3, 9, 3, 0, 0, 102) := by decide +kernel
theorem xf39_39 : xFl (xO 39) 39 = some (3, 39, 1, 0, 1, 80) := by decide +kernel
theorem xc39_42 : xCl (xO 39) 42 = some (3, 42, 0, 40, 319, 321, 1) := rfl
theorem xc39_45 : xCl (xO 39) 45 = some (3, 45, 0, 43, 384, 386, 2) := rfl
theorem xc39_48 : xCl (xO 39) 48 = some (3, 48, 1, 44, 390, 391, 0) := rfl
theorem xo_40 : xO 40 = 3 := by decide +kernel
theorem xf40_34 : xFl (xO 40) 34 = some (3, 34, 1, 1, 1, 83) := by decide +kernel
theorem xf40_39 : xFl (xO 40) 39 = some (3, 39, 1, 0, 1, 80) := by decide +kernel
theorem xf40_9 : xFl (xO 40) 9 = some (3, 9, 3, 0, 0, 102) := by decide +kernel
theorem xf40_21 : xFl (xO 40) 21 = some (3, 21, 3, 3, 0, 108) := by decide +kernel
theorem xc40_52 : xCl (xO 40) 52 = some (3, 52, 1, 41, 323, 324, 0) := rfl
theorem xo_41 : xO 41 = 3 := by decide +kernel
theorem xd41_62 : xDl (xO 41) 62 = some (3, 62, 1, 0, 0, 326) := by decide +kernel
theorem xc41_64 : xCl (xO 41) 64 = some (3, 64, 1, 42, 327, 328, 0) := rfl
theorem xd41_68 : xDl (xO 41) 68 = some (3, 68, 1, 0, 1, 378) := by decide +kernel
theorem xd41_70 : xDl (xO 41) 70 = some (3, 70, 1, 0, 2, 379) := by decide +kernel
theorem xd41_72 : xDl (xO 41) 72 = some (3, 72, 1, 0, 3, 380) := by decide +kernel
theorem xd41_74 : xDl (xO 41) 74 = some (3, 74, 1, 0, 4, 381) := by decide +kernel
theorem xd41_76 : xDl (xO 41) 76 = some (3, 76, 1, 0, 5, 382) := by decide +kernel
theorem xd41_78 : xDl (xO 41) 78 = some (3, 78, 1, 0, 6, 383) := by decide +kernel
theorem xo_42 : xO 42 = 3 := by decide +kernel
theorem xc42_80 : xCl (xO 42) 80 = some (3, 80, 10, 0, 330, 0, 0) := rfl
theorem xf42_39 : xFl (xO 42) 39 = some (3, 39, 1, 0, 1, 80) := by decide +kernel
theorem xc42_85 : xCl (xO 42) 85 = some (3, 85, 11, 0, 340, 0, 0) := rfl
theorem xo_43 : xO 43 = 3 := by decide +kernel
theorem xf43_34 : xFl (xO 43) 34 = some (3, 34, 1, 1, 1, 83) := by decide +kernel
theorem xf43_39 : xFl (xO 43) 39 = some (3, 39, 1, 0, 1, 80) := by decide +kernel
theorem xl43_58 : xLl (xO 43) 58 = some (3, 58, 2147483647, 388) := by decide +kernel
theorem xl43_60 : xLl (xO 43) 60 = some (3, 60, 10, 389) := by decide +kernel
theorem xf43_9 : xFl (xO 43) 9 = some (3, 9, 3, 0, 0, 102) := by decide +kernel
theorem xf43_21 : xFl (xO 43) 21 = some (3, 21, 3, 3, 0, 108) := by decide +kernel
theorem xf43_18 : xFl (xO 43) 18 = some (3, 18, 3, 2, 0, 106) := by decide +kernel
theorem xo_44 : xO 44 = 3 := by decide +kernel
theorem xo_45 : xO 45 = 4 := by decide +kernel
theorem xc45_3 : xCl (xO 45) 3 = some (4, 3, 5, 0, 149, 0, 0) := rfl
theorem xn45_9 : xNl (xO 45) 9 = some (4, 9, 3, 150, 151) := by decide +kernel
theorem xf45_11 : xFl (xO 45) 11 = some (4, 11, 4, 0, 0, 152) := by decide +kernel
theorem xf45_17 : xFl (xO 45) 17 = some (4, 17, 4, 1, 0, 155) := by decide +kernel
theorem xf45_21 : xFl (xO 45) 21 = some (4, 21, 4, 2, 0, 157) := by decide +kernel
theorem xf45_25 : xFl (xO 45) 25 = some (4, 25, 4, 3, 0, 159) := by decide +kernel
theorem xo_46 : xO 46 = 4 := by decide +kernel
theorem xf46_11 : xFl (xO 46) 11 = some (4, 11, 4, 0, 0, 152) := by decide +kernel
theorem xf46_21 : xFl (xO 46) 21 = some (4, 21, 4, 2, 0, 157) := by decide +kernel
theorem xo_47 : xO 47 = 4 := by decide +kernel
theorem xf47_17 : xFl (xO 47) 17 = some (4, 17, 4, 1, 0, 155) := by decide +kernel
theorem xf47_25 : xFl (xO 47) 25 = some (4, 25, 4, 3, 0, 159) := by decide +kernel
theorem xf47_11 : xFl (xO 47) 11 = some (4, 11, 4, 0, 0, 152) := by decide +kernel
theorem xf47_28 : xFl (xO 47) 28 = some (4, 28, 9, 3, 1, 518) := by decide +kernel
theorem xo_48 : xO 48 = 4 := by decide +kernel
theorem xf48_21 : xFl (xO 48) 21 = some (4, 21, 4, 2, 0, 157) := by decide +kernel
theorem xo_49 : xO 49 = 5 := by decide +kernel
theorem xc49_1 : xCl (xO 49) 1 = some (5, 1, 5, 0, 174, 0, 0) := rfl
theorem xf49_9 : xFl (xO 49) 9 = some (5, 9, 5, 0, 0, 175) := by decide +kernel
theorem xf49_13 : xFl (xO 49) 13 = some (5, 13, 5, 1, 0, 176) := by decide +kernel
theorem xf49_16 : xFl (xO 49) 16 = some (5, 16, 5, 2, 0, 177) := by decide +kernel
theorem xf49_19 : xFl (xO 49) 19 = some (5, 19, 5, 3, 0, 178) := by decide +kernel
theorem xf49_23 : xFl (xO 49) 23 = some (5, 23, 5, 4, 0, 179) := by decide +kernel
theorem xf49_26 : xFl (xO 49) 26 = some (5, 26, 5, 5, 0, 180) := by decide +kernel
theorem xo_50 : xO 50 = 5 := by decide +kernel
theorem xf50_30 : xFl (xO 50) 30 = some (5, 30, 9, 2, 1, 516) := by decide +kernel
theorem xc50_36 : xCl (xO 50) 36 = some (5, 36, 0, 51, 571, 573, 16) := rfl
theorem xf50_39 : xFl (xO 50) 39 = some (5, 39, 8, 0, 1, 467) := by decide +kernel
theorem xf50_26 : xFl (xO 50) 26 = some (5, 26, 5, 5, 0, 180) := by decide +kernel
theorem xf50_44 : xFl (xO 50) 44 = some (5, 44, 8, 1, 1, 469) := by decide +kernel
theorem xc50_47 : xCl (xO 50) 47 = some (5, 47, 0, 52, 575, 577, 17) := rfl
theorem xc50_51 : xCl (xO 50) 51 = some (5, 51, 0, 57, 595, 597, 22) := rfl
theorem xo_51 : xO 51 = 5 := by decide +kernel
theorem xf51_19 : xFl (xO 51) 19 = some (5, 19, 5, 3, 0, 178) := by decide +kernel
theorem xf51_23 : xFl (xO 51) 23 = some (5, 23, 5, 4, 0, 179) := by decide +kernel
theorem xf51_26 : xFl (xO 51) 26 = some (5, 26, 5, 5, 0, 180) := by decide +kernel
theorem xo_52 : xO 52 = 5 := by decide +kernel
theorem xc52_55 : xCl (xO 52) 55 = some (5, 55, 0, 53, 579, 581, 18) := rfl
theorem xf52_59 : xFl (xO 52) 59 = some (5, 59, 9, 0, 1, 509) := by decide +kernel
theorem xf52_62 : xFl (xO 52) 62 = some (5, 62, 9, 1, 1, 513) := by decide +kernel
theorem xc52_65 : xCl (xO 52) 65 = some (5, 65, 0, 54, 583, 585, 19) := rfl
theorem xc52_68 : xCl (xO 52) 68 = some (5, 68, 0, 56, 591, 593, 21) := rfl
theorem xo_53 : xO 53 = 5 := by decide +kernel
theorem xf53_19 : xFl (xO 53) 19 = some (5, 19, 5, 3, 0, 178) := by decide +kernel
theorem xf53_9 : xFl (xO 53) 9 = some (5, 9, 5, 0, 0, 175) := by decide +kernel
theorem xo_54 : xO 54 = 5 := by decide +kernel
theorem xc54_71 : xCl (xO 54) 71 = some (5, 71, 0, 55, 587, 589, 20) := rfl
theorem xf54_23 : xFl (xO 54) 23 = some (5, 23, 5, 4, 0, 179) := by decide +kernel
theorem xf54_13 : xFl (xO 54) 13 = some (5, 13, 5, 1, 0, 176) := by decide +kernel
theorem xf54_16 : xFl (xO 54) 16 = some (5, 16, 5, 2, 0, 177) := by decide +kernel
theorem xo_55 : xO 55 = 5 := by decide +kernel
theorem xf55_19 : xFl (xO 55) 19 = some (5, 19, 5, 3, 0, 178) := by decide +kernel
theorem xf55_9 : xFl (xO 55) 9 = some (5, 9, 5, 0, 0, 175) := by decide +kernel
theorem xo_56 : xO 56 = 5 := by decide +kernel
theorem xc56_71 : xCl (xO 56) 71 = some (5, 71, 0, 55, 587, 589, 20) := rfl
theorem xc56_55 : xCl (xO 56) 55 = some (5, 55, 0, 53, 579, 581, 18) := rfl
theorem xf56_26 : xFl (xO 56) 26 = some (5, 26, 5, 5, 0, 180) := by decide +kernel
theorem xo_57 : xO 57 = 5 := by decide +kernel
theorem xf57_23 : xFl (xO 57) 23 = some (5, 23, 5, 4, 0, 179) := by decide +kernel
theorem xf57_13 : xFl (xO 57) 13 = some (5, 13, 5, 1, 0, 176) := by decide +kernel
theorem xf57_16 : xFl (xO 57) 16 = some (5, 16, 5, 2, 0, 177) := by decide +kernel
theorem xo_58 : xO 58 = 6 := by decide +kernel
theorem xc58_3 : xCl (xO 58) 3 = some (6, 3, 5, 0, 200, 0, 0) := rfl
theorem xf58_9 : xFl (xO 58) 9 = some (6, 9, 6, 2, 0, 203) := by decide +kernel
theorem xf58_15 : xFl (xO 58) 15 = some (6, 15, 6, 3, 0, 206) := by decide +kernel
theorem xf58_19 : xFl (xO 58) 19 = some (6, 19, 6, 4, 0, 207) := by decide +kernel
theorem xf58_22 : xFl (xO 58) 22 = some (6, 22, 6, 5, 0, 209) := by decide +kernel
theorem xf58_25 : xFl (xO 58) 25 = some (6, 25, 6, 6, 0, 210) := by decide +kernel
theorem xf58_28 : xFl (xO 58) 28 = some (6, 28, 6, 7, 0, 211) := by decide +kernel
theorem xf58_31 : xFl (xO 58) 31 = some (6, 31, 6, 8, 0, 212) := by decide +kernel
theorem xf58_35 : xFl (xO 58) 35 = some (6, 35, 6, 9, 0, 214) := by decide +kernel
theorem xf58_38 : xFl (xO 58) 38 = some (6, 38, 6, 10, 0, 216) := by decide +kernel
theorem xf58_41 : xFl (xO 58) 41 = some (6, 41, 6, 11, 0, 218) := by decide +kernel
theorem xf58_44 : xFl (xO 58) 44 = some (6, 44, 6, 12, 0, 220) := by decide +kernel
theorem xf58_47 : xFl (xO 58) 47 = some (6, 47, 6, 0, 0, 201) := by decide +kernel
theorem xf58_51 : xFl (xO 58) 51 = some (6, 51, 6, 1, 0, 202) := by decide +kernel
theorem xo_59 : xO 59 = 6 := by decide +kernel
theorem xf59_47 : xFl (xO 59) 47 = some (6, 47, 6, 0, 0, 201) := by decide +kernel
theorem xf59_55 : xFl (xO 59) 55 = some (6, 55, 4, 0, 1, 153) := by decide +kernel
theorem xf59_15 : xFl (xO 59) 15 = some (6, 15, 6, 3, 0, 206) := by decide +kernel
theorem xf59_31 : xFl (xO 59) 31 = some (6, 31, 6, 8, 0, 212) := by decide +kernel
theorem xf59_61 : xFl (xO 59) 61 = some (6, 61, 9, 1, 1, 512) := by decide +kernel
theorem xc59_66 : xCl (xO 59) 66 = some (6, 66, 6, 0, 537, 0, 0) := rfl
theorem xf59_9 : xFl (xO 59) 9 = some (6, 9, 6, 2, 0, 203) := by decide +kernel
theorem xf59_72 : xFl (xO 59) 72 = some (6, 72, 9, 0, 1, 508) := by decide +kernel
theorem xf59_41 : xFl (xO 59) 41 = some (6, 41, 6, 11, 0, 218) := by decide +kernel
theorem xf59_19 : xFl (xO 59) 19 = some (6, 19, 6, 4, 0, 207) := by decide +kernel
theorem xc59_75 : xCl (xO 59) 75 = some (6, 75, 0, 78, 538, 539, 540) := rfl
theorem xf59_44 : xFl (xO 59) 44 = some (6, 44, 6, 12, 0, 220) := by decide +kernel
theorem xo_60 : xO 60 = 6 := by decide +kernel
theorem xf60_22 : xFl (xO 60) 22 = some (6, 22, 6, 5, 0, 209) := by decide +kernel
theorem xc60_101 : xCl (xO 60) 101 = some (6, 101, 0, 61, 562, 564, 15) := rfl
theorem xf60_25 : xFl (xO 60) 25 = some (6, 25, 6, 6, 0, 210) := by decide +kernel
theorem xo_61 : xO 61 = 6 := by decide +kernel
theorem xf61_44 : xFl (xO 61) 44 = some (6, 44, 6, 12, 0, 220) := by decide +kernel
theorem xf61_22 : xFl (xO 61) 22 = some (6, 22, 6, 5, 0, 209) := by decide +kernel
theorem xf61_25 : xFl (xO 61) 25 = some (6, 25, 6, 6, 0, 210) := by decide +kernel
theorem xc61_104 : xCl (xO 61) 104 = some (6, 104, 9, 0, 566, 0, 0) := rfl
theorem xf61_41 : xFl (xO 61) 41 = some (6, 41, 6, 11, 0, 218) := by decide +kernel
theorem xf61_19 : xFl (xO 61) 19 = some (6, 19, 6, 4, 0, 207) := by decide +kernel
theorem xf61_28 : xFl (xO 61) 28 = some (6, 28, 6, 7, 0, 211) := by decide +kernel
theorem xf61_51 : xFl (xO 61) 51 = some (6, 51, 6, 1, 0, 202) := by decide +kernel
theorem xf61_47 : xFl (xO 61) 47 = some (6, 47, 6, 0, 0, 201) := by decide +kernel
theorem xf61_55 : xFl (xO 61) 55 = some (6, 55, 4, 0, 1, 153) := by decide +kernel
theorem xc61_89 : xCl (xO 61) 89 = some (6, 89, 0, 50, 567, 568, 569) := rfl
theorem xo_62 : xO 62 = 6 := by decide +kernel
theorem xf62_47 : xFl (xO 62) 47 = some (6, 47, 6, 0, 0, 201) := by decide +kernel
theorem xf62_79 : xFl (xO 62) 79 = some (6, 79, 4, 1, 1, 156) := by decide +kernel
theorem xf62_35 : xFl (xO 62) 35 = some (6, 35, 6, 9, 0, 214) := by decide +kernel
theorem xf62_15 : xFl (xO 62) 15 = some (6, 15, 6, 3, 0, 206) := by decide +kernel
theorem xc62_82 : xCl (xO 62) 82 = some (6, 82, 0, 59, 623, 534, 535) := rfl
theorem xc62_86 : xCl (xO 62) 86 = some (6, 86, 0, 63, 624, 626, 23) := rfl
theorem xf62_28 : xFl (xO 62) 28 = some (6, 28, 6, 7, 0, 211) := by decide +kernel
theorem xf62_51 : xFl (xO 62) 51 = some (6, 51, 6, 1, 0, 202) := by decide +kernel
theorem xf62_55 : xFl (xO 62) 55 = some (6, 55, 4, 0, 1, 153) := by decide +kernel
theorem xf62_22 : xFl (xO 62) 22 = some (6, 22, 6, 5, 0, 209) := by decide +kernel
theorem xc62_89 : xCl (xO 62) 89 = some (6, 89, 0, 50, 567, 568, 569) := rfl
theorem xf62_44 : xFl (xO 62) 44 = some (6, 44, 6, 12, 0, 220) := by decide +kernel
theorem xo_63 : xO 63 = 6 := by decide +kernel
theorem xf63_41 : xFl (xO 63) 41 = some (6, 41, 6, 11, 0, 218) := by decide +kernel
theorem xf63_19 : xFl (xO 63) 19 = some (6, 19, 6, 4, 0, 207) := by decide +kernel
theorem xc63_104 : xCl (xO 63) 104 = some (6, 104, 9, 0, 566, 0, 0) := rfl
theorem xo_64 : xO 64 = 6 := by decide +kernel
theorem xf64_35 : xFl (xO 64) 35 = some (6, 35, 6, 9, 0, 214) := by decide +kernel
theorem xc64_95 : xCl (xO 64) 95 = some (6, 95, 0, 62, 636, 620, 621) := rfl
theorem xf64_38 : xFl (xO 64) 38 = some (6, 38, 6, 10, 0, 216) := by decide +kernel
theorem xo_65 : xO 65 = 6 := by decide +kernel
theorem xf65_35 : xFl (xO 65) 35 = some (6, 35, 6, 9, 0, 214) := by decide +kernel
theorem xc65_98 : xCl (xO 65) 98 = some (6, 98, 7, 0, 641, 0, 0) := rfl
theorem xc65_66 : xCl (xO 65) 66 = some (6, 66, 6, 0, 537, 0, 0) := rfl
theorem xc65_95 : xCl (xO 65) 95 = some (6, 95, 0, 62, 636, 620, 621) := rfl
theorem xo_66 : xO 66 = 6 := by decide +kernel
theorem xf66_41 : xFl (xO 66) 41 = some (6, 41, 6, 11, 0, 218) := by decide +kernel
theorem xf66_15 : xFl (xO 66) 15 = some (6, 15, 6, 3, 0, 206) := by decide +kernel
theorem xf66_19 : xFl (xO 66) 19 = some (6, 19, 6, 4, 0, 207) := by decide +kernel
theorem xc66_82 : xCl (xO 66) 82 = some (6, 82, 0, 59, 623, 534, 535) := rfl
theorem xo_67 : xO 67 = 6 := by decide +kernel
theorem xf67_35 : xFl (xO 67) 35 = some (6, 35, 6, 9, 0, 214) := by decide +kernel
theorem xf67_41 : xFl (xO 67) 41 = some (6, 41, 6, 11, 0, 218) := by decide +kernel
theorem xf67_47 : xFl (xO 67) 47 = some (6, 47, 6, 0, 0, 201) := by decide +kernel
theorem xf67_79 : xFl (xO 67) 79 = some (6, 79, 4, 1, 1, 156) := by decide +kernel
theorem xf67_19 : xFl (xO 67) 19 = some (6, 19, 6, 4, 0, 207) := by decide +kernel
theorem xo_68 : xO 68 = 6 := by decide +kernel
theorem xf68_15 : xFl (xO 68) 15 = some (6, 15, 6, 3, 0, 206) := by decide +kernel
theorem xc68_101 : xCl (xO 68) 101 = some (6, 101, 0, 61, 562, 564, 15) := rfl
theorem xf68_28 : xFl (xO 68) 28 = some (6, 28, 6, 7, 0, 211) := by decide +kernel
theorem xo_69 : xO 69 = 7 := by decide +kernel
theorem xc69_3 : xCl (xO 69) 3 = some (7, 3, 5, 0, 255, 0, 0) := rfl
theorem xf69_9 : xFl (xO 69) 9 = some (7, 9, 7, 0, 0, 256) := by decide +kernel
theorem xf69_15 : xFl (xO 69) 15 = some (7, 15, 7, 1, 0, 258) := by decide +kernel
theorem xf69_18 : xFl (xO 69) 18 = some (7, 18, 7, 2, 0, 260) := by decide +kernel
theorem xo_70 : xO 70 = 7 := by decide +kernel
theorem xc70_22 : xCl (xO 70) 22 = some (7, 22, 0, 71, 491, 493, 14) := rfl
theorem xf70_26 : xFl (xO 70) 26 = some (7, 26, 6, 2, 1, 204) := by decide +kernel
theorem xf70_9 : xFl (xO 70) 9 = some (7, 9, 7, 0, 0, 256) := by decide +kernel
theorem xc70_31 : xCl (xO 70) 31 = some (7, 31, 1, 72, 495, 496, 0) := rfl
theorem xf70_15 : xFl (xO 70) 15 = some (7, 15, 7, 1, 0, 258) := by decide +kernel
theorem xo_71 : xO 71 = 7 := by decide +kernel
theorem xf71_18 : xFl (xO 71) 18 = some (7, 18, 7, 2, 0, 260) := by decide +kernel
theorem xo_72 : xO 72 = 7 := by decide +kernel
theorem xo_73 : xO 73 = 7 := by decide +kernel
theorem xc73_22 : xCl (xO 73) 22 = some (7, 22, 0, 71, 491, 493, 14) := rfl
theorem xf73_26 : xFl (xO 73) 26 = some (7, 26, 6, 2, 1, 204) := by decide +kernel
theorem xf73_15 : xFl (xO 73) 15 = some (7, 15, 7, 1, 0, 258) := by decide +kernel
theorem xc73_31 : xCl (xO 73) 31 = some (7, 31, 1, 72, 495, 496, 0) := rfl
theorem xf73_9 : xFl (xO 73) 9 = some (7, 9, 7, 0, 0, 256) := by decide +kernel
theorem xo_74 : xO 74 = 7 := by decide +kernel
theorem xf74_9 : xFl (xO 74) 9 = some (7, 9, 7, 0, 0, 256) := by decide +kernel
theorem xf74_26 : xFl (xO 74) 26 = some (7, 26, 6, 2, 1, 204) := by decide +kernel
theorem xc74_35 : xCl (xO 74) 35 = some (7, 35, 6, 0, 557, 0, 0) := rfl
theorem xo_75 : xO 75 = 7 := by decide +kernel
theorem xf75_9 : xFl (xO 75) 9 = some (7, 9, 7, 0, 0, 256) := by decide +kernel
theorem xc75_41 : xCl (xO 75) 41 = some (7, 41, 1, 122, 607, 608, 0) := rfl
theorem xf75_15 : xFl (xO 75) 15 = some (7, 15, 7, 1, 0, 258) := by decide +kernel
theorem xo_76 : xO 76 = 8 := by decide +kernel
theorem xc76_1 : xCl (xO 76) 1 = some (8, 1, 5, 0, 465, 0, 0) := rfl
theorem xf76_7 : xFl (xO 76) 7 = some (8, 7, 8, 0, 0, 466) := by decide +kernel
theorem xf76_13 : xFl (xO 76) 13 = some (8, 13, 8, 1, 0, 468) := by decide +kernel
theorem xo_77 : xO 77 = 9 := by decide +kernel
theorem xc77_1 : xCl (xO 77) 1 = some (9, 1, 5, 0, 506, 0, 0) := rfl
theorem xf77_7 : xFl (xO 77) 7 = some (9, 7, 9, 3, 0, 517) := by decide +kernel
theorem xf77_13 : xFl (xO 77) 13 = some (9, 13, 9, 0, 0, 507) := by decide +kernel
theorem xf77_16 : xFl (xO 77) 16 = some (9, 16, 9, 1, 0, 511) := by decide +kernel
theorem xf77_19 : xFl (xO 77) 19 = some (9, 19, 9, 2, 0, 515) := by decide +kernel
theorem xo_78 : xO 78 = 9 := by decide +kernel
theorem xf78_16 : xFl (xO 78) 16 = some (9, 16, 9, 1, 0, 511) := by decide +kernel
theorem xf78_13 : xFl (xO 78) 13 = some (9, 13, 9, 0, 0, 507) := by decide +kernel
theorem xo_79 : xO 79 = 10 := by decide +kernel
theorem xc79_1 : xCl (xO 79) 1 = some (10, 1, 5, 0, 695, 0, 0) := rfl
theorem xf79_9 : xFl (xO 79) 9 = some (10, 9, 10, 0, 0, 701) := by decide +kernel
theorem xf79_13 : xFl (xO 79) 13 = some (10, 13, 10, 2, 0, 703) := by decide +kernel
theorem xf79_17 : xFl (xO 79) 17 = some (10, 17, 10, 3, 0, 704) := by decide +kernel
theorem xf79_20 : xFl (xO 79) 20 = some (10, 20, 10, 4, 0, 705) := by decide +kernel
theorem xf79_23 : xFl (xO 79) 23 = some (10, 23, 10, 5, 0, 706) := by decide +kernel
theorem xn79_26 : xNl (xO 79) 26 = some (10, 26, 6, 696, 697) := by decide +kernel
theorem xf79_27 : xFl (xO 79) 27 = some (10, 27, 10, 6, 0, 707) := by decide +kernel
theorem xn79_31 : xNl (xO 79) 31 = some (10, 31, 17, 698, 699) := by decide +kernel
theorem xf79_33 : xFl (xO 79) 33 = some (10, 33, 10, 9, 0, 710) := by decide +kernel
theorem xf79_36 : xFl (xO 79) 36 = some (10, 36, 10, 10, 0, 711) := by decide +kernel
theorem xf79_39 : xFl (xO 79) 39 = some (10, 39, 10, 11, 0, 712) := by decide +kernel
theorem xf79_42 : xFl (xO 79) 42 = some (10, 42, 10, 12, 0, 713) := by decide +kernel
theorem xf79_45 : xFl (xO 79) 45 = some (10, 45, 10, 13, 0, 714) := by decide +kernel
theorem xn79_48 : xNl (xO 79) 48 = some (10, 48, 16, 700, 697) := by decide +kernel
theorem xf79_49 : xFl (xO 79) 49 = some (10, 49, 10, 14, 0, 715) := by decide +kernel
theorem xf79_52 : xFl (xO 79) 52 = some (10, 52, 10, 15, 0, 716) := by decide +kernel
theorem xf79_55 : xFl (xO 79) 55 = some (10, 55, 10, 25, 0, 726) := by decide +kernel
theorem xf79_58 : xFl (xO 79) 58 = some (10, 58, 10, 27, 0, 728) := by decide +kernel
theorem xf79_61 : xFl (xO 79) 61 = some (10, 61, 10, 28, 0, 729) := by decide +kernel
theorem xf79_64 : xFl (xO 79) 64 = some (10, 64, 10, 29, 0, 730) := by decide +kernel
theorem xf79_67 : xFl (xO 79) 67 = some (10, 67, 10, 30, 0, 731) := by decide +kernel
theorem xf79_70 : xFl (xO 79) 70 = some (10, 70, 10, 32, 0, 733) := by decide +kernel
theorem xo_80 : xO 80 = 10 := by decide +kernel
theorem xf80_73 : xFl (xO 80) 73 = some (10, 73, 10, 1, 0, 702) := by decide +kernel
theorem xf80_9 : xFl (xO 80) 9 = some (10, 9, 10, 0, 0, 701) := by decide +kernel
theorem xo_81 : xO 81 = 10 := by decide +kernel
theorem xf81_73 : xFl (xO 81) 73 = some (10, 73, 10, 1, 0, 702) := by decide +kernel
theorem xc81_77 : xCl (xO 81) 77 = some (10, 77, 1, 82, 812, 813, 0) := rfl
theorem xo_82 : xO 82 = 10 := by decide +kernel
theorem xo_83 : xO 83 = 10 := by decide +kernel
theorem xf83_73 : xFl (xO 83) 73 = some (10, 73, 10, 1, 0, 702) := by decide +kernel
theorem xf83_84 : xFl (xO 83) 84 = some (10, 84, 10, 18, 0, 719) := by decide +kernel
theorem xf83_81 : xFl (xO 83) 81 = some (10, 81, 10, 17, 0, 718) := by decide +kernel
theorem xf83_149 : xFl (xO 83) 149 = some (10, 149, 10, 22, 0, 723) := by decide +kernel
theorem xf83_162 : xFl (xO 83) 162 = some (10, 162, 10, 23, 0, 724) := by decide +kernel
theorem xf83_159 : xFl (xO 83) 159 = some (10, 159, 10, 26, 0, 727) := by decide +kernel
theorem xf83_55 : xFl (xO 83) 55 = some (10, 55, 10, 25, 0, 726) := by decide +kernel
theorem xc83_156 : xCl (xO 83) 156 = some (10, 156, 0, 84, 819, 821, 24) := rfl
theorem xc83_165 : xCl (xO 83) 165 = some (10, 165, 0, 88, 849, 851, 26) := rfl
theorem xd83_108 : xDl (xO 83) 108 = some (10, 108, 1, 0, 3, 834) := by decide +kernel
theorem xc83_102 : xCl (xO 83) 102 = some (10, 102, 0, 86, 827, 829, 25) := rfl
theorem xf83_90 : xFl (xO 83) 90 = some (10, 90, 10, 19, 0, 720) := by decide +kernel
theorem xc83_152 : xCl (xO 83) 152 = some (10, 152, 0, 89, 853, 855, 27) := rfl
theorem xc83_168 : xCl (xO 83) 168 = some (10, 168, 1, 121, 901, 447, 0) := rfl
theorem xf83_174 : xFl (xO 83) 174 = some (10, 174, 10, 16, 0, 717) := by decide +kernel
theorem xo_84 : xO 84 = 10 := by decide +kernel
theorem xf84_81 : xFl (xO 84) 81 = some (10, 81, 10, 17, 0, 718) := by decide +kernel
theorem xf84_84 : xFl (xO 84) 84 = some (10, 84, 10, 18, 0, 719) := by decide +kernel
theorem xf84_9 : xFl (xO 84) 9 = some (10, 9, 10, 0, 0, 701) := by decide +kernel
theorem xf84_87 : xFl (xO 84) 87 = some (10, 87, 10, 20, 0, 721) := by decide +kernel
theorem xf84_90 : xFl (xO 84) 90 = some (10, 90, 10, 19, 0, 720) := by decide +kernel
theorem xc84_93 : xCl (xO 84) 93 = some (10, 93, 1, 85, 823, 824, 0) := rfl
theorem xf84_97 : xFl (xO 84) 97 = some (10, 97, 10, 21, 0, 722) := by decide +kernel
theorem xd84_100 : xDl (xO 84) 100 = some (10, 100, 1, 0, 1, 826) := by decide +kernel
theorem xc84_102 : xCl (xO 84) 102 = some (10, 102, 0, 86, 827, 829, 25) := rfl
theorem xd84_106 : xDl (xO 84) 106 = some (10, 106, 1, 0, 2, 833) := by decide +kernel
theorem xd84_108 : xDl (xO 84) 108 = some (10, 108, 1, 0, 3, 834) := by decide +kernel
theorem xd84_110 : xDl (xO 84) 110 = some (10, 110, 1, 0, 4, 835) := by decide +kernel
theorem xd84_112 : xDl (xO 84) 112 = some (10, 112, 1, 0, 5, 836) := by decide +kernel
theorem xd84_113 : xDl (xO 84) 113 = some (10, 113, 1, 0, 6, 837) := by decide +kernel
theorem xd84_114 : xDl (xO 84) 114 = some (10, 114, 1, 0, 0, 838) := by decide +kernel
theorem xc84_116 : xCl (xO 84) 116 = some (10, 116, 1, 87, 839, 840, 0) := rfl
theorem xf84_119 : xFl (xO 84) 119 = some (10, 119, 10, 24, 0, 725) := by decide +kernel
theorem xl84_123 : xLl (xO 84) 123 = some (10, 123, 1099511627776, 842) := by decide +kernel
theorem xl84_125 : xLl (xO 84) 125 = some (10, 125, 10, 843) := by decide +kernel
theorem xl84_127 : xLl (xO 84) 127 = some (10, 127, 48, 844) := by decide +kernel
theorem xc84_129 : xCl (xO 84) 129 = some (10, 129, 8, 0, 845, 0, 0) := rfl
theorem xl84_137 : xLl (xO 84) 137 = some (10, 137, 2147483647, 848) := by decide +kernel
theorem xo_85 : xO 85 = 10 := by decide +kernel
theorem xo_86 : xO 86 = 10 := by decide +kernel
theorem xf86_90 : xFl (xO 86) 90 = some (10, 90, 10, 19, 0, 720) := by decide +kernel
theorem xf86_97 : xFl (xO 86) 97 = some (10, 97, 10, 21, 0, 722) := by decide +kernel
theorem xf86_87 : xFl (xO 86) 87 = some (10, 87, 10, 20, 0, 721) := by decide +kernel
theorem xc86_139 : xCl (xO 86) 139 = some (10, 139, 10, 0, 831, 0, 0) := rfl
theorem xf86_9 : xFl (xO 86) 9 = some (10, 9, 10, 0, 0, 701) := by decide +kernel
theorem xc86_145 : xCl (xO 86) 145 = some (10, 145, 11, 0, 832, 0, 0) := rfl
theorem xo_87 : xO 87 = 10 := by decide +kernel
theorem xo_88 : xO 88 = 10 := by decide +kernel
theorem xf88_55 : xFl (xO 88) 55 = some (10, 55, 10, 25, 0, 726) := by decide +kernel
theorem xc88_152 : xCl (xO 88) 152 = some (10, 152, 0, 89, 853, 855, 27) := rfl
theorem xf88_159 : xFl (xO 88) 159 = some (10, 159, 10, 26, 0, 727) := by decide +kernel
theorem xc88_177 : xCl (xO 88) 177 = some (10, 177, 0, 90, 857, 859, 28) := rfl
theorem xd88_100 : xDl (xO 88) 100 = some (10, 100, 1, 0, 1, 826) := by decide +kernel
theorem xc88_102 : xCl (xO 88) 102 = some (10, 102, 0, 86, 827, 829, 25) := rfl
theorem xc88_156 : xCl (xO 88) 156 = some (10, 156, 0, 84, 819, 821, 24) := rfl
theorem xc88_181 : xCl (xO 88) 181 = some (10, 181, 0, 91, 861, 863, 29) := rfl
theorem xd88_110 : xDl (xO 88) 110 = some (10, 110, 1, 0, 4, 835) := by decide +kernel
theorem xd88_106 : xDl (xO 88) 106 = some (10, 106, 1, 0, 2, 833) := by decide +kernel
theorem xc88_184 : xCl (xO 88) 184 = some (10, 184, 0, 96, 883, 885, 34) := rfl
theorem xc88_187 : xCl (xO 88) 187 = some (10, 187, 0, 97, 887, 889, 35) := rfl
theorem xd88_190 : xDl (xO 88) 190 = some (10, 190, 1, 0, 16, 899) := by decide +kernel
theorem xc88_192 : xCl (xO 88) 192 = some (10, 192, 0, 92, 865, 867, 30) := rfl
theorem xd88_195 : xDl (xO 88) 195 = some (10, 195, 1, 0, 17, 900) := by decide +kernel
theorem xo_89 : xO 89 = 10 := by decide +kernel
theorem xf89_149 : xFl (xO 89) 149 = some (10, 149, 10, 22, 0, 723) := by decide +kernel
theorem xf89_87 : xFl (xO 89) 87 = some (10, 87, 10, 20, 0, 721) := by decide +kernel
theorem xo_90 : xO 90 = 10 := by decide +kernel
theorem xf90_55 : xFl (xO 90) 55 = some (10, 55, 10, 25, 0, 726) := by decide +kernel
theorem xf90_159 : xFl (xO 90) 159 = some (10, 159, 10, 26, 0, 727) := by decide +kernel
theorem xo_91 : xO 91 = 10 := by decide +kernel
theorem xf91_159 : xFl (xO 91) 159 = some (10, 159, 10, 26, 0, 727) := by decide +kernel
theorem xc91_177 : xCl (xO 91) 177 = some (10, 177, 0, 90, 857, 859, 28) := rfl
theorem xc91_192 : xCl (xO 91) 192 = some (10, 192, 0, 92, 865, 867, 30) := rfl
theorem xd91_199 : xDl (xO 91) 199 = some (10, 199, 1, 0, 12, 895) := by decide +kernel
theorem xc91_102 : xCl (xO 91) 102 = some (10, 102, 0, 86, 827, 829, 25) := rfl
theorem xd91_201 : xDl (xO 91) 201 = some (10, 201, 1, 0, 13, 896) := by decide +kernel
theorem xd91_203 : xDl (xO 91) 203 = some (10, 203, 1, 0, 14, 897) := by decide +kernel
theorem xd91_205 : xDl (xO 91) 205 = some (10, 205, 1, 0, 15, 898) := by decide +kernel
theorem xc91_152 : xCl (xO 91) 152 = some (10, 152, 0, 89, 853, 855, 27) := rfl
theorem xf91_55 : xFl (xO 91) 55 = some (10, 55, 10, 25, 0, 726) := by decide +kernel
theorem xf91_9 : xFl (xO 91) 9 = some (10, 9, 10, 0, 0, 701) := by decide +kernel
theorem xf91_87 : xFl (xO 91) 87 = some (10, 87, 10, 20, 0, 721) := by decide +kernel
theorem xc91_156 : xCl (xO 91) 156 = some (10, 156, 0, 84, 819, 821, 24) := rfl
theorem xo_92 : xO 92 = 10 := by decide +kernel
theorem xc92_207 : xCl (xO 92) 207 = some (10, 207, 0, 93, 869, 871, 31) := rfl
theorem xc92_177 : xCl (xO 92) 177 = some (10, 177, 0, 90, 857, 859, 28) := rfl
theorem xo_93 : xO 93 = 10 := by decide +kernel
theorem xc93_210 : xCl (xO 93) 210 = some (10, 210, 0, 94, 873, 875, 32) := rfl
theorem xd93_213 : xDl (xO 93) 213 = some (10, 213, 1, 0, 10, 893) := by decide +kernel
theorem xc93_102 : xCl (xO 93) 102 = some (10, 102, 0, 86, 827, 829, 25) := rfl
theorem xd93_215 : xDl (xO 93) 215 = some (10, 215, 1, 0, 11, 894) := by decide +kernel
theorem xc93_156 : xCl (xO 93) 156 = some (10, 156, 0, 84, 819, 821, 24) := rfl
theorem xc93_177 : xCl (xO 93) 177 = some (10, 177, 0, 90, 857, 859, 28) := rfl
theorem xo_94 : xO 94 = 10 := by decide +kernel
theorem xc94_217 : xCl (xO 94) 217 = some (10, 217, 0, 95, 877, 879, 33) := rfl
theorem xd94_220 : xDl (xO 94) 220 = some (10, 220, 1, 0, 9, 892) := by decide +kernel
theorem xc94_102 : xCl (xO 94) 102 = some (10, 102, 0, 86, 827, 829, 25) := rfl
theorem xc94_156 : xCl (xO 94) 156 = some (10, 156, 0, 84, 819, 821, 24) := rfl
theorem xc94_177 : xCl (xO 94) 177 = some (10, 177, 0, 90, 857, 859, 28) := rfl
theorem xo_95 : xO 95 = 10 := by decide +kernel
theorem xd95_222 : xDl (xO 95) 222 = some (10, 222, 1, 0, 7, 881) := by decide +kernel
theorem xc95_102 : xCl (xO 95) 102 = some (10, 102, 0, 86, 827, 829, 25) := rfl
theorem xc95_152 : xCl (xO 95) 152 = some (10, 152, 0, 89, 853, 855, 27) := rfl
theorem xc95_156 : xCl (xO 95) 156 = some (10, 156, 0, 84, 819, 821, 24) := rfl
theorem xc95_207 : xCl (xO 95) 207 = some (10, 207, 0, 93, 869, 871, 31) := rfl
theorem xd95_224 : xDl (xO 95) 224 = some (10, 224, 1, 0, 8, 882) := by decide +kernel
theorem xc95_184 : xCl (xO 95) 184 = some (10, 184, 0, 96, 883, 885, 34) := rfl
theorem xf95_90 : xFl (xO 95) 90 = some (10, 90, 10, 19, 0, 720) := by decide +kernel
theorem xd95_114 : xDl (xO 95) 114 = some (10, 114, 1, 0, 0, 838) := by decide +kernel
theorem xd95_112 : xDl (xO 95) 112 = some (10, 112, 1, 0, 5, 836) := by decide +kernel
theorem xd95_113 : xDl (xO 95) 113 = some (10, 113, 1, 0, 6, 837) := by decide +kernel
theorem xf95_162 : xFl (xO 95) 162 = some (10, 162, 10, 23, 0, 724) := by decide +kernel
theorem xc95_177 : xCl (xO 95) 177 = some (10, 177, 0, 90, 857, 859, 28) := rfl
theorem xc95_187 : xCl (xO 95) 187 = some (10, 187, 0, 97, 887, 889, 35) := rfl
theorem xf95_119 : xFl (xO 95) 119 = some (10, 119, 10, 24, 0, 725) := by decide +kernel
theorem xo_96 : xO 96 = 10 := by decide +kernel
theorem xc96_102 : xCl (xO 96) 102 = some (10, 102, 0, 86, 827, 829, 25) := rfl
theorem xc96_152 : xCl (xO 96) 152 = some (10, 152, 0, 89, 853, 855, 27) := rfl
theorem xc96_156 : xCl (xO 96) 156 = some (10, 156, 0, 84, 819, 821, 24) := rfl
theorem xo_97 : xO 97 = 10 := by decide +kernel
theorem xd97_114 : xDl (xO 97) 114 = some (10, 114, 1, 0, 0, 838) := by decide +kernel
theorem xc97_184 : xCl (xO 97) 184 = some (10, 184, 0, 96, 883, 885, 34) := rfl
theorem xf97_90 : xFl (xO 97) 90 = some (10, 90, 10, 19, 0, 720) := by decide +kernel
theorem xf97_119 : xFl (xO 97) 119 = some (10, 119, 10, 24, 0, 725) := by decide +kernel
theorem xl97_197 : xLl (xO 97) 197 = some (10, 197, 32, 891) := by decide +kernel
theorem xc97_152 : xCl (xO 97) 152 = some (10, 152, 0, 89, 853, 855, 27) := rfl
theorem xc97_177 : xCl (xO 97) 177 = some (10, 177, 0, 90, 857, 859, 28) := rfl
theorem xc97_156 : xCl (xO 97) 156 = some (10, 156, 0, 84, 819, 821, 24) := rfl
theorem xo_98 : xO 98 = 10 := by decide +kernel
theorem xl98_266 : xLl (xO 98) 266 = some (10, 266, 4, 906) := by decide +kernel
theorem xc98_77 : xCl (xO 98) 77 = some (10, 77, 1, 82, 812, 813, 0) := rfl
theorem xl98_268 : xLl (xO 98) 268 = some (10, 268, 7, 907) := by decide +kernel
theorem xl98_270 : xLl (xO 98) 270 = some (10, 270, 1000000000, 908) := by decide +kernel
theorem xf98_174 : xFl (xO 98) 174 = some (10, 174, 10, 16, 0, 717) := by decide +kernel
theorem xf98_239 : xFl (xO 98) 239 = some (10, 239, 10, 7, 0, 708) := by decide +kernel
theorem xf98_45 : xFl (xO 98) 45 = some (10, 45, 10, 13, 0, 714) := by decide +kernel
theorem xf98_49 : xFl (xO 98) 49 = some (10, 49, 10, 14, 0, 715) := by decide +kernel
theorem xc98_272 : xCl (xO 98) 272 = some (10, 272, 0, 99, 909, 911, 36) := rfl
theorem xf98_52 : xFl (xO 98) 52 = some (10, 52, 10, 15, 0, 716) := by decide +kernel
theorem xf98_36 : xFl (xO 98) 36 = some (10, 36, 10, 10, 0, 711) := by decide +kernel
theorem xc98_259 : xCl (xO 98) 259 = some (10, 259, 6, 0, 917, 0, 0) := rfl
theorem xf98_13 : xFl (xO 98) 13 = some (10, 13, 10, 2, 0, 703) := by decide +kernel
theorem xf98_17 : xFl (xO 98) 17 = some (10, 17, 10, 3, 0, 704) := by decide +kernel
theorem xf98_27 : xFl (xO 98) 27 = some (10, 27, 10, 6, 0, 707) := by decide +kernel
theorem xf98_20 : xFl (xO 98) 20 = some (10, 20, 10, 4, 0, 705) := by decide +kernel
theorem xf98_33 : xFl (xO 98) 33 = some (10, 33, 10, 9, 0, 710) := by decide +kernel
theorem xo_99 : xO 99 = 10 := by decide +kernel
theorem xc99_263 : xCl (xO 99) 263 = some (10, 263, 0, 100, 913, 915, 37) := rfl
theorem xo_100 : xO 100 = 10 := by decide +kernel
theorem xf100_239 : xFl (xO 100) 239 = some (10, 239, 10, 7, 0, 708) := by decide +kernel
theorem xf100_33 : xFl (xO 100) 33 = some (10, 33, 10, 9, 0, 710) := by decide +kernel
theorem xf100_13 : xFl (xO 100) 13 = some (10, 13, 10, 2, 0, 703) := by decide +kernel
theorem xf100_17 : xFl (xO 100) 17 = some (10, 17, 10, 3, 0, 704) := by decide +kernel
theorem xc100_259 : xCl (xO 100) 259 = some (10, 259, 6, 0, 917, 0, 0) := rfl
theorem xo_101 : xO 101 = 10 := by decide +kernel
theorem xl101_266 : xLl (xO 101) 266 = some (10, 266, 4, 906) := by decide +kernel
theorem xc101_77 : xCl (xO 101) 77 = some (10, 77, 1, 82, 812, 813, 0) := rfl
theorem xl101_268 : xLl (xO 101) 268 = some (10, 268, 7, 907) := by decide +kernel
theorem xl101_276 : xLl (xO 101) 276 = some (10, 276, 31, 922) := by decide +kernel
theorem xl101_123 : xLl (xO 101) 123 = some (10, 123, 1099511627776, 842) := by decide +kernel
theorem xf101_45 : xFl (xO 101) 45 = some (10, 45, 10, 13, 0, 714) := by decide +kernel
theorem xf101_52 : xFl (xO 101) 52 = some (10, 52, 10, 15, 0, 716) := by decide +kernel
theorem xc101_272 : xCl (xO 101) 272 = some (10, 272, 0, 99, 909, 911, 36) := rfl
theorem xf101_49 : xFl (xO 101) 49 = some (10, 49, 10, 14, 0, 715) := by decide +kernel
theorem xl101_278 : xLl (xO 101) 278 = some (10, 278, 1099511627777, 923) := by decide +kernel
theorem xc101_263 : xCl (xO 101) 263 = some (10, 263, 0, 100, 913, 915, 37) := rfl
theorem xc101_259 : xCl (xO 101) 259 = some (10, 259, 6, 0, 917, 0, 0) := rfl
theorem xc101_280 : xCl (xO 101) 280 = some (10, 280, 0, 102, 924, 925, 926) := rfl
theorem xo_102 : xO 102 = 10 := by decide +kernel
theorem xl102_266 : xLl (xO 102) 266 = some (10, 266, 4, 906) := by decide +kernel
theorem xc102_77 : xCl (xO 102) 77 = some (10, 77, 1, 82, 812, 813, 0) := rfl
theorem xl102_276 : xLl (xO 102) 276 = some (10, 276, 31, 922) := by decide +kernel
theorem xl102_123 : xLl (xO 102) 123 = some (10, 123, 1099511627776, 842) := by decide +kernel
theorem xc102_292 : xCl (xO 102) 292 = some (10, 292, 0, 103, 928, 930, 38) := rfl
theorem xf102_58 : xFl (xO 102) 58 = some (10, 58, 10, 27, 0, 728) := by decide +kernel
theorem xo_103 : xO 103 = 10 := by decide +kernel
theorem xc103_249 : xCl (xO 103) 249 = some (10, 249, 0, 104, 932, 934, 39) := rfl
theorem xf103_58 : xFl (xO 103) 58 = some (10, 58, 10, 27, 0, 728) := by decide +kernel
theorem xc103_252 : xCl (xO 103) 252 = some (10, 252, 1, 122, 944, 608, 0) := rfl
theorem xf103_39 : xFl (xO 103) 39 = some (10, 39, 10, 11, 0, 712) := by decide +kernel
theorem xf103_236 : xFl (xO 103) 236 = some (10, 236, 10, 33, 0, 734) := by decide +kernel
theorem xf103_70 : xFl (xO 103) 70 = some (10, 70, 10, 32, 0, 733) := by decide +kernel
theorem xc103_256 : xCl (xO 103) 256 = some (10, 256, 0, 107, 945, 947, 42) := rfl
theorem xo_104 : xO 104 = 10 := by decide +kernel
theorem xf104_236 : xFl (xO 104) 236 = some (10, 236, 10, 33, 0, 734) := by decide +kernel
theorem xf104_39 : xFl (xO 104) 39 = some (10, 39, 10, 11, 0, 712) := by decide +kernel
theorem xf104_70 : xFl (xO 104) 70 = some (10, 70, 10, 32, 0, 733) := by decide +kernel
theorem xf104_23 : xFl (xO 104) 23 = some (10, 23, 10, 5, 0, 706) := by decide +kernel
theorem xf104_239 : xFl (xO 104) 239 = some (10, 239, 10, 7, 0, 708) := by decide +kernel
theorem xf104_33 : xFl (xO 104) 33 = some (10, 33, 10, 9, 0, 710) := by decide +kernel
theorem xc104_242 : xCl (xO 104) 242 = some (10, 242, 0, 105, 936, 938, 40) := rfl
theorem xc104_246 : xCl (xO 104) 246 = some (10, 246, 0, 106, 940, 942, 41) := rfl
theorem xo_105 : xO 105 = 10 := by decide +kernel
theorem xf105_20 : xFl (xO 105) 20 = some (10, 20, 10, 4, 0, 705) := by decide +kernel
theorem xf105_39 : xFl (xO 105) 39 = some (10, 39, 10, 11, 0, 712) := by decide +kernel
theorem xo_106 : xO 106 = 10 := by decide +kernel
theorem xf106_17 : xFl (xO 106) 17 = some (10, 17, 10, 3, 0, 704) := by decide +kernel
theorem xf106_13 : xFl (xO 106) 13 = some (10, 13, 10, 2, 0, 703) := by decide +kernel
theorem xo_107 : xO 107 = 10 := by decide +kernel
theorem xf107_27 : xFl (xO 107) 27 = some (10, 27, 10, 6, 0, 707) := by decide +kernel
theorem xf107_226 : xFl (xO 107) 226 = some (10, 226, 10, 31, 0, 732) := by decide +kernel
theorem xc107_233 : xCl (xO 107) 233 = some (10, 233, 0, 108, 949, 951, 43) := rfl
theorem xf107_67 : xFl (xO 107) 67 = some (10, 67, 10, 30, 0, 731) := by decide +kernel
theorem xf107_64 : xFl (xO 107) 64 = some (10, 64, 10, 29, 0, 730) := by decide +kernel
theorem xc107_229 : xCl (xO 107) 229 = some (10, 229, 0, 109, 953, 955, 44) := rfl
theorem xf107_58 : xFl (xO 107) 58 = some (10, 58, 10, 27, 0, 728) := by decide +kernel
theorem xo_108 : xO 108 = 10 := by decide +kernel
theorem xf108_27 : xFl (xO 108) 27 = some (10, 27, 10, 6, 0, 707) := by decide +kernel
theorem xf108_226 : xFl (xO 108) 226 = some (10, 226, 10, 31, 0, 732) := by decide +kernel
theorem xc108_229 : xCl (xO 108) 229 = some (10, 229, 0, 109, 953, 955, 44) := rfl
theorem xo_109 : xO 109 = 10 := by decide +kernel
theorem xf109_27 : xFl (xO 109) 27 = some (10, 27, 10, 6, 0, 707) := by decide +kernel
theorem xf109_226 : xFl (xO 109) 226 = some (10, 226, 10, 31, 0, 732) := by decide +kernel
theorem xf109_61 : xFl (xO 109) 61 = some (10, 61, 10, 28, 0, 729) := by decide +kernel
theorem xf109_58 : xFl (xO 109) 58 = some (10, 58, 10, 27, 0, 728) := by decide +kernel
theorem xf109_13 : xFl (xO 109) 13 = some (10, 13, 10, 2, 0, 703) := by decide +kernel
theorem xf109_17 : xFl (xO 109) 17 = some (10, 17, 10, 3, 0, 704) := by decide +kernel
theorem xo_110 : xO 110 = 10 := by decide +kernel
theorem xl110_268 : xLl (xO 110) 268 = some (10, 268, 7, 907) := by decide +kernel
theorem xc110_77 : xCl (xO 110) 77 = some (10, 77, 1, 82, 812, 813, 0) := rfl
theorem xl110_283 : xLl (xO 110) 283 = some (10, 283, 15, 961) := by decide +kernel
theorem xf110_45 : xFl (xO 110) 45 = some (10, 45, 10, 13, 0, 714) := by decide +kernel
theorem xf110_49 : xFl (xO 110) 49 = some (10, 49, 10, 14, 0, 715) := by decide +kernel
theorem xc110_252 : xCl (xO 110) 252 = some (10, 252, 1, 122, 944, 608, 0) := rfl
theorem xf110_52 : xFl (xO 110) 52 = some (10, 52, 10, 15, 0, 716) := by decide +kernel
theorem xo_111 : xO 111 = 10 := by decide +kernel
theorem xc111_249 : xCl (xO 111) 249 = some (10, 249, 0, 104, 932, 934, 39) := rfl
theorem xf111_39 : xFl (xO 111) 39 = some (10, 39, 10, 11, 0, 712) := by decide +kernel
theorem xf111_236 : xFl (xO 111) 236 = some (10, 236, 10, 33, 0, 734) := by decide +kernel
theorem xf111_285 : xFl (xO 111) 285 = some (10, 285, 10, 8, 0, 709) := by decide +kernel
theorem xf111_20 : xFl (xO 111) 20 = some (10, 20, 10, 4, 0, 705) := by decide +kernel
theorem xf111_70 : xFl (xO 111) 70 = some (10, 70, 10, 32, 0, 733) := by decide +kernel
theorem xf111_23 : xFl (xO 111) 23 = some (10, 23, 10, 5, 0, 706) := by decide +kernel
theorem xo_112 : xO 112 = 10 := by decide +kernel
theorem xl112_266 : xLl (xO 112) 266 = some (10, 266, 4, 906) := by decide +kernel
theorem xc112_77 : xCl (xO 112) 77 = some (10, 77, 1, 82, 812, 813, 0) := rfl
theorem xc112_249 : xCl (xO 112) 249 = some (10, 249, 0, 104, 932, 934, 39) := rfl
theorem xf112_42 : xFl (xO 112) 42 = some (10, 42, 10, 12, 0, 713) := by decide +kernel
theorem xf112_39 : xFl (xO 112) 39 = some (10, 39, 10, 11, 0, 712) := by decide +kernel
theorem xf112_23 : xFl (xO 112) 23 = some (10, 23, 10, 5, 0, 706) := by decide +kernel
theorem xc112_288 : xCl (xO 112) 288 = some (10, 288, 0, 113, 970, 972, 45) := rfl
theorem xf112_236 : xFl (xO 112) 236 = some (10, 236, 10, 33, 0, 734) := by decide +kernel
theorem xf112_70 : xFl (xO 112) 70 = some (10, 70, 10, 32, 0, 733) := by decide +kernel
theorem xc112_242 : xCl (xO 112) 242 = some (10, 242, 0, 105, 936, 938, 40) := rfl
theorem xf112_33 : xFl (xO 112) 33 = some (10, 33, 10, 9, 0, 710) := by decide +kernel
theorem xo_113 : xO 113 = 10 := by decide +kernel
theorem xf113_33 : xFl (xO 113) 33 = some (10, 33, 10, 9, 0, 710) := by decide +kernel
theorem xf113_36 : xFl (xO 113) 36 = some (10, 36, 10, 10, 0, 711) := by decide +kernel
theorem xf113_17 : xFl (xO 113) 17 = some (10, 17, 10, 3, 0, 704) := by decide +kernel
theorem xc113_259 : xCl (xO 113) 259 = some (10, 259, 6, 0, 917, 0, 0) := rfl
theorem xo_114 : xO 114 = 10 := by decide +kernel
theorem xl114_266 : xLl (xO 114) 266 = some (10, 266, 4, 906) := by decide +kernel
theorem xc114_77 : xCl (xO 114) 77 = some (10, 77, 1, 82, 812, 813, 0) := rfl
theorem xf114_42 : xFl (xO 114) 42 = some (10, 42, 10, 12, 0, 713) := by decide +kernel
theorem xf114_39 : xFl (xO 114) 39 = some (10, 39, 10, 11, 0, 712) := by decide +kernel
theorem xc114_129 : xCl (xO 114) 129 = some (10, 129, 8, 0, 845, 0, 0) := rfl
theorem xo_115 : xO 115 = 10 := by decide +kernel
theorem xl115_266 : xLl (xO 115) 266 = some (10, 266, 4, 906) := by decide +kernel
theorem xc115_77 : xCl (xO 115) 77 = some (10, 77, 1, 82, 812, 813, 0) := rfl
theorem xc115_249 : xCl (xO 115) 249 = some (10, 249, 0, 104, 932, 934, 39) := rfl
theorem xf115_236 : xFl (xO 115) 236 = some (10, 236, 10, 33, 0, 734) := by decide +kernel
theorem xf115_70 : xFl (xO 115) 70 = some (10, 70, 10, 32, 0, 733) := by decide +kernel
theorem xo_116 : xO 116 = 10 := by decide +kernel
theorem xl116_266 : xLl (xO 116) 266 = some (10, 266, 4, 906) := by decide +kernel
theorem xc116_77 : xCl (xO 116) 77 = some (10, 77, 1, 82, 812, 813, 0) := rfl
theorem xf116_239 : xFl (xO 116) 239 = some (10, 239, 10, 7, 0, 708) := by decide +kernel
theorem xf116_33 : xFl (xO 116) 33 = some (10, 33, 10, 9, 0, 710) := by decide +kernel
theorem xc116_249 : xCl (xO 116) 249 = some (10, 249, 0, 104, 932, 934, 39) := rfl
theorem xf116_58 : xFl (xO 116) 58 = some (10, 58, 10, 27, 0, 728) := by decide +kernel
theorem xc116_252 : xCl (xO 116) 252 = some (10, 252, 1, 122, 944, 608, 0) := rfl
theorem xf116_236 : xFl (xO 116) 236 = some (10, 236, 10, 33, 0, 734) := by decide +kernel
theorem xf116_70 : xFl (xO 116) 70 = some (10, 70, 10, 32, 0, 733) := by decide +kernel
theorem xc116_256 : xCl (xO 116) 256 = some (10, 256, 0, 107, 945, 947, 42) := rfl
theorem xo_117 : xO 117 = 10 := by decide +kernel
theorem xl117_296 : xLl (xO 117) 296 = some (10, 296, 2, 991) := by decide +kernel
theorem xc117_77 : xCl (xO 117) 77 = some (10, 77, 1, 82, 812, 813, 0) := rfl
theorem xf117_239 : xFl (xO 117) 239 = some (10, 239, 10, 7, 0, 708) := by decide +kernel
theorem xf117_13 : xFl (xO 117) 13 = some (10, 13, 10, 2, 0, 703) := by decide +kernel
theorem xf117_17 : xFl (xO 117) 17 = some (10, 17, 10, 3, 0, 704) := by decide +kernel
theorem xf117_20 : xFl (xO 117) 20 = some (10, 20, 10, 4, 0, 705) := by decide +kernel
theorem xo_118 : xO 118 = 10 := by decide +kernel
theorem xl118_296 : xLl (xO 118) 296 = some (10, 296, 2, 991) := by decide +kernel
theorem xc118_77 : xCl (xO 118) 77 = some (10, 77, 1, 82, 812, 813, 0) := rfl
theorem xl118_266 : xLl (xO 118) 266 = some (10, 266, 4, 906) := by decide +kernel
theorem xl118_268 : xLl (xO 118) 268 = some (10, 268, 7, 907) := by decide +kernel
theorem xc118_263 : xCl (xO 118) 263 = some (10, 263, 0, 100, 913, 915, 37) := rfl
theorem xf118_49 : xFl (xO 118) 49 = some (10, 49, 10, 14, 0, 715) := by decide +kernel
theorem xf118_52 : xFl (xO 118) 52 = some (10, 52, 10, 15, 0, 716) := by decide +kernel
theorem xo_119 : xO 119 = 10 := by decide +kernel
theorem xl119_266 : xLl (xO 119) 266 = some (10, 266, 4, 906) := by decide +kernel
theorem xc119_77 : xCl (xO 119) 77 = some (10, 77, 1, 82, 812, 813, 0) := rfl
theorem xl119_298 : xLl (xO 119) 298 = some (10, 298, 3, 1000) := by decide +kernel
theorem xf119_39 : xFl (xO 119) 39 = some (10, 39, 10, 11, 0, 712) := by decide +kernel
theorem xf119_42 : xFl (xO 119) 42 = some (10, 42, 10, 12, 0, 713) := by decide +kernel
theorem xf119_36 : xFl (xO 119) 36 = some (10, 36, 10, 10, 0, 711) := by decide +kernel
theorem xf119_239 : xFl (xO 119) 239 = some (10, 239, 10, 7, 0, 708) := by decide +kernel
theorem xf119_33 : xFl (xO 119) 33 = some (10, 33, 10, 9, 0, 710) := by decide +kernel
theorem xo_120 : xO 120 = 10 := by decide +kernel
theorem xf120_239 : xFl (xO 120) 239 = some (10, 239, 10, 7, 0, 708) := by decide +kernel
theorem xo_121 : xO 121 = 11 := by decide +kernel
theorem xc121_304 : xCl (xO 121) 304 = some (11, 304, 7, 0, 456, 0, 0) := rfl
theorem xc121_150 : xCl (xO 121) 150 = some (11, 150, 9, 0, 459, 0, 0) := rfl
theorem xo_122 : xO 122 = 11 := by decide +kernel
theorem xo_123 : xO 123 = 12 := by decide +kernel
theorem xk123_7 : xKl (xO 123) 7 = some (12, 7, 0, 65, 66, 47) := by decide +kernel
theorem xc123_9 : xCl (xO 123) 9 = some (12, 9, 2, 0, 67, 68, 0) := rfl
theorem xk123_10 : xKl (xO 123) 10 = some (12, 10, 10, 690, 691, 55) := by decide +kernel
theorem xc123_12 : xCl (xO 123) 12 = some (12, 12, 2, 79, 692, 693, 0) := rfl
theorem xc123_13 : xCl (xO 123) 13 = some (12, 13, 0, 1, 288, 289, 290) := rfl
theorem xc123_17 : xCl (xO 123) 17 = some (12, 17, 0, 80, 804, 805, 806) := rfl
theorem xc123_18 : xCl (xO 123) 18 = some (12, 18, 0, 2, 296, 297, 298) := rfl
theorem xc123_22 : xCl (xO 123) 22 = some (12, 22, 0, 81, 808, 809, 810) := rfl
theorem xc123_23 : xCl (xO 123) 23 = some (12, 23, 0, 3, 300, 301, 302) := rfl
theorem xc123_27 : xCl (xO 123) 27 = some (12, 27, 0, 83, 815, 816, 817) := rfl
theorem xc123_28 : xCl (xO 123) 28 = some (12, 28, 0, 5, 476, 477, 478) := rfl
theorem xc123_32 : xCl (xO 123) 32 = some (12, 32, 0, 98, 902, 903, 904) := rfl
theorem xc123_33 : xCl (xO 123) 33 = some (12, 33, 0, 8, 542, 543, 544) := rfl
theorem xc123_37 : xCl (xO 123) 37 = some (12, 37, 0, 101, 918, 919, 920) := rfl
theorem xc123_38 : xCl (xO 123) 38 = some (12, 38, 0, 9, 599, 600, 601) := rfl
theorem xc123_42 : xCl (xO 123) 42 = some (12, 42, 0, 110, 957, 958, 959) := rfl
theorem xc123_43 : xCl (xO 123) 43 = some (12, 43, 0, 10, 610, 611, 612) := rfl
theorem xc123_46 : xCl (xO 123) 46 = some (12, 46, 0, 111, 962, 963, 964) := rfl
theorem xc123_47 : xCl (xO 123) 47 = some (12, 47, 0, 11, 628, 629, 630) := rfl
theorem xc123_50 : xCl (xO 123) 50 = some (12, 50, 0, 112, 966, 967, 968) := rfl
theorem xc123_51 : xCl (xO 123) 51 = some (12, 51, 0, 12, 646, 647, 648) := rfl
theorem xc123_55 : xCl (xO 123) 55 = some (12, 55, 0, 114, 974, 975, 976) := rfl
theorem xc123_56 : xCl (xO 123) 56 = some (12, 56, 0, 13, 650, 651, 652) := rfl
theorem xc123_60 : xCl (xO 123) 60 = some (12, 60, 0, 102, 978, 925, 926) := rfl
theorem xc123_61 : xCl (xO 123) 61 = some (12, 61, 0, 14, 654, 655, 656) := rfl
theorem xc123_64 : xCl (xO 123) 64 = some (12, 64, 0, 115, 979, 980, 981) := rfl
theorem xc123_65 : xCl (xO 123) 65 = some (12, 65, 0, 15, 662, 663, 664) := rfl
theorem xc123_68 : xCl (xO 123) 68 = some (12, 68, 0, 116, 983, 984, 985) := rfl
theorem xc123_69 : xCl (xO 123) 69 = some (12, 69, 0, 16, 674, 675, 676) := rfl
theorem xc123_72 : xCl (xO 123) 72 = some (12, 72, 0, 117, 987, 988, 989) := rfl
theorem xc123_73 : xCl (xO 123) 73 = some (12, 73, 0, 17, 678, 679, 680) := rfl
theorem xc123_76 : xCl (xO 123) 76 = some (12, 76, 0, 118, 992, 993, 994) := rfl
theorem xc123_77 : xCl (xO 123) 77 = some (12, 77, 0, 18, 682, 683, 684) := rfl
theorem xc123_80 : xCl (xO 123) 80 = some (12, 80, 0, 119, 996, 997, 998) := rfl
theorem xc123_81 : xCl (xO 123) 81 = some (12, 81, 0, 19, 686, 687, 688) := rfl
theorem xc123_84 : xCl (xO 123) 84 = some (12, 84, 0, 120, 1001, 1002, 1003) := rfl
theorem xa_0 : xA 0 = 0 := by decide +kernel
theorem xt_0 : xT 0 = none := rfl
theorem xm_0 : xM 0 = 3 := by decide +kernel
theorem xa_1 : xA 1 = 5 := by decide +kernel
theorem xt_1 : xT 1 = (some .int) := rfl
theorem xm_1 : xM 1 = 6 := by decide +kernel
theorem xa_2 : xA 2 = 1 := by decide +kernel
theorem xt_2 : xT 2 = (some .int) := rfl
theorem xm_2 : xM 2 = 2 := by decide +kernel
theorem xa_3 : xA 3 = 0 := by decide +kernel
theorem xt_3 : xT 3 = (some .int) := rfl
theorem xm_3 : xM 3 = 2 := by decide +kernel
theorem xa_4 : xA 4 = 1 := by decide +kernel
theorem xt_4 : xT 4 = (some .boolean) := rfl
theorem xm_4 : xM 4 = 1 := by decide +kernel
theorem xa_5 : xA 5 = 3 := by decide +kernel
theorem xt_5 : xT 5 = (some .int) := rfl
theorem xm_5 : xM 5 = 8 := by decide +kernel
theorem xa_6 : xA 6 = 1 := by decide +kernel
theorem xt_6 : xT 6 = (some .boolean) := rfl
theorem xm_6 : xM 6 = 1 := by decide +kernel
theorem xa_7 : xA 7 = 1 := by decide +kernel
theorem xt_7 : xT 7 = (some .boolean) := rfl
theorem xm_7 : xM 7 = 1 := by decide +kernel
theorem xa_8 : xA 8 = 4 := by decide +kernel
theorem xt_8 : xT 8 = (some .long) := rfl
theorem xm_8 : xM 8 = 7 := by decide +kernel
theorem xa_9 : xA 9 = 3 := by decide +kernel
theorem xt_9 : xT 9 = (some .int) := rfl
theorem xm_9 : xM 9 = 6 := by decide +kernel
theorem xa_10 : xA 10 = 1 := by decide +kernel
theorem xt_10 : xT 10 = (some .int) := rfl
theorem xm_10 : xM 10 = 5 := by decide +kernel
theorem xa_11 : xA 11 = 3 := by decide +kernel
theorem xt_11 : xT 11 = (some .int) := rfl
theorem xm_11 : xM 11 = 7 := by decide +kernel
theorem xa_12 : xA 12 = 2 := by decide +kernel
theorem xt_12 : xT 12 = (some .int) := rfl
theorem xm_12 : xM 12 = 4 := by decide +kernel
theorem xa_13 : xA 13 = 3 := by decide +kernel
theorem xt_13 : xT 13 = (some .long) := rfl
theorem xm_13 : xM 13 = 4 := by decide +kernel
theorem xa_14 : xA 14 = 2 := by decide +kernel
theorem xt_14 : xT 14 = (some .int) := rfl
theorem xm_14 : xM 14 = 3 := by decide +kernel
theorem xa_15 : xA 15 = 2 := by decide +kernel
theorem xt_15 : xT 15 = (some .int) := rfl
theorem xm_15 : xM 15 = 3 := by decide +kernel
theorem xa_16 : xA 16 = 2 := by decide +kernel
theorem xt_16 : xT 16 = (some .int) := rfl
theorem xm_16 : xM 16 = 4 := by decide +kernel
theorem xa_17 : xA 17 = 3 := by decide +kernel
theorem xt_17 : xT 17 = (some .int) := rfl
theorem xm_17 : xM 17 = 4 := by decide +kernel
theorem xa_18 : xA 18 = 2 := by decide +kernel
theorem xt_18 : xT 18 = (some .int) := rfl
theorem xm_18 : xM 18 = 4 := by decide +kernel
theorem xa_19 : xA 19 = 0 := by decide +kernel
theorem xt_19 : xT 19 = (some .int) := rfl
theorem xm_19 : xM 19 = 1 := by decide +kernel
theorem xa_20 : xA 20 = 0 := by decide +kernel
theorem xt_20 : xT 20 = none := rfl
theorem xm_20 : xM 20 = 1 := by decide +kernel
theorem xa_21 : xA 21 = 1 := by decide +kernel
theorem xt_21 : xT 21 = none := rfl
theorem xm_21 : xM 21 = 3 := by decide +kernel
theorem xa_22 : xA 22 = 1 := by decide +kernel
theorem xt_22 : xT 22 = none := rfl
theorem xm_22 : xM 22 = 2 := by decide +kernel
theorem xa_23 : xA 23 = 0 := by decide +kernel
theorem xt_23 : xT 23 = (some .int) := rfl
theorem xm_23 : xM 23 = 3 := by decide +kernel
theorem xa_24 : xA 24 = 1 := by decide +kernel
theorem xt_24 : xT 24 = (some .boolean) := rfl
theorem xm_24 : xM 24 = 2 := by decide +kernel
theorem xa_25 : xA 25 = 0 := by decide +kernel
theorem xt_25 : xT 25 = none := rfl
theorem xm_25 : xM 25 = 4 := by decide +kernel
theorem xa_26 : xA 26 = 1 := by decide +kernel
theorem xt_26 : xT 26 = none := rfl
theorem xm_26 : xM 26 = 5 := by decide +kernel
theorem xa_27 : xA 27 = 1 := by decide +kernel
theorem xt_27 : xT 27 = none := rfl
theorem xm_27 : xM 27 = 4 := by decide +kernel
theorem xa_28 : xA 28 = 1 := by decide +kernel
theorem xt_28 : xT 28 = none := rfl
theorem xm_28 : xM 28 = 3 := by decide +kernel
theorem xa_29 : xA 29 = 1 := by decide +kernel
theorem xt_29 : xT 29 = none := rfl
theorem xm_29 : xM 29 = 2 := by decide +kernel
theorem xa_30 : xA 30 = 0 := by decide +kernel
theorem xt_30 : xT 30 = none := rfl
theorem xm_30 : xM 30 = 1 := by decide +kernel
theorem xa_31 : xA 31 = 0 := by decide +kernel
theorem xt_31 : xT 31 = (some .int) := rfl
theorem xm_31 : xM 31 = 1 := by decide +kernel
theorem xa_32 : xA 32 = 0 := by decide +kernel
theorem xt_32 : xT 32 = (some .int) := rfl
theorem xm_32 : xM 32 = 2 := by decide +kernel
theorem xa_33 : xA 33 = 2 := by decide +kernel
theorem xt_33 : xT 33 = none := rfl
theorem xm_33 : xM 33 = 3 := by decide +kernel
theorem xa_34 : xA 34 = 0 := by decide +kernel
theorem xt_34 : xT 34 = none := rfl
theorem xm_34 : xM 34 = 4 := by decide +kernel
theorem xa_35 : xA 35 = 0 := by decide +kernel
theorem xt_35 : xT 35 = (some (.object "DriftStore$Program")) := rfl
theorem xm_35 : xM 35 = 1 := by decide +kernel
theorem xa_36 : xA 36 = 0 := by decide +kernel
theorem xt_36 : xT 36 = none := rfl
theorem xm_36 : xM 36 = 1 := by decide +kernel
theorem xa_37 : xA 37 = 1 := by decide +kernel
theorem xt_37 : xT 37 = none := rfl
theorem xm_37 : xM 37 = 5 := by decide +kernel
theorem xa_38 : xA 38 = 2 := by decide +kernel
theorem xt_38 : xT 38 = (some .int) := rfl
theorem xm_38 : xM 38 = 3 := by decide +kernel
theorem xa_39 : xA 39 = 2 := by decide +kernel
theorem xt_39 : xT 39 = (some .int) := rfl
theorem xm_39 : xM 39 = 5 := by decide +kernel
theorem xa_40 : xA 40 = 2 := by decide +kernel
theorem xt_40 : xT 40 = (some .int) := rfl
theorem xm_40 : xM 40 = 4 := by decide +kernel
theorem xa_41 : xA 41 = 3 := by decide +kernel
theorem xt_41 : xT 41 = (some .int) := rfl
theorem xm_41 : xM 41 = 3 := by decide +kernel
theorem xa_42 : xA 42 = 4 := by decide +kernel
theorem xt_42 : xT 42 = (some .boolean) := rfl
theorem xm_42 : xM 42 = 5 := by decide +kernel
theorem xa_43 : xA 43 = 2 := by decide +kernel
theorem xt_43 : xT 43 = (some .int) := rfl
theorem xm_43 : xM 43 = 7 := by decide +kernel
theorem xa_44 : xA 44 = 1 := by decide +kernel
theorem xt_44 : xT 44 = (some .int) := rfl
theorem xm_44 : xM 44 = 1 := by decide +kernel
theorem xa_45 : xA 45 = 0 := by decide +kernel
theorem xt_45 : xT 45 = none := rfl
theorem xm_45 : xM 45 = 1 := by decide +kernel
theorem xa_46 : xA 46 = 1 := by decide +kernel
theorem xt_46 : xT 46 = (some .int) := rfl
theorem xm_46 : xM 46 = 2 := by decide +kernel
theorem xa_47 : xA 47 = 1 := by decide +kernel
theorem xt_47 : xT 47 = none := rfl
theorem xm_47 : xM 47 = 2 := by decide +kernel
theorem xa_48 : xA 48 = 1 := by decide +kernel
theorem xt_48 : xT 48 = (some .boolean) := rfl
theorem xm_48 : xM 48 = 2 := by decide +kernel
theorem xa_49 : xA 49 = 0 := by decide +kernel
theorem xt_49 : xT 49 = none := rfl
theorem xm_49 : xM 49 = 1 := by decide +kernel
theorem xa_50 : xA 50 = 2 := by decide +kernel
theorem xt_50 : xT 50 = (some .int) := rfl
theorem xm_50 : xM 50 = 6 := by decide +kernel
theorem xa_51 : xA 51 = 0 := by decide +kernel
theorem xt_51 : xT 51 = none := rfl
theorem xm_51 : xM 51 = 1 := by decide +kernel
theorem xa_52 : xA 52 = 4 := by decide +kernel
theorem xt_52 : xT 52 = none := rfl
theorem xm_52 : xM 52 = 5 := by decide +kernel
theorem xa_53 : xA 53 = 1 := by decide +kernel
theorem xt_53 : xT 53 = none := rfl
theorem xm_53 : xM 53 = 2 := by decide +kernel
theorem xa_54 : xA 54 = 1 := by decide +kernel
theorem xt_54 : xT 54 = none := rfl
theorem xm_54 : xM 54 = 3 := by decide +kernel
theorem xa_55 : xA 55 = 0 := by decide +kernel
theorem xt_55 : xT 55 = (some .int) := rfl
theorem xm_55 : xM 55 = 1 := by decide +kernel
theorem xa_56 : xA 56 = 1 := by decide +kernel
theorem xt_56 : xT 56 = none := rfl
theorem xm_56 : xM 56 = 4 := by decide +kernel
theorem xa_57 : xA 57 = 1 := by decide +kernel
theorem xt_57 : xT 57 = none := rfl
theorem xm_57 : xM 57 = 3 := by decide +kernel
theorem xa_58 : xA 58 = 2 := by decide +kernel
theorem xt_58 : xT 58 = none := rfl
theorem xm_58 : xM 58 = 3 := by decide +kernel
theorem xa_59 : xA 59 = 1 := by decide +kernel
theorem xt_59 : xT 59 = none := rfl
theorem xm_59 : xM 59 = 4 := by decide +kernel
theorem xa_60 : xA 60 = 2 := by decide +kernel
theorem xt_60 : xT 60 = (some .int) := rfl
theorem xm_60 : xM 60 = 3 := by decide +kernel
theorem xa_61 : xA 61 = 0 := by decide +kernel
theorem xt_61 : xT 61 = none := rfl
theorem xm_61 : xM 61 = 3 := by decide +kernel
theorem xa_62 : xA 62 = 0 := by decide +kernel
theorem xt_62 : xT 62 = none := rfl
theorem xm_62 : xM 62 = 2 := by decide +kernel
theorem xa_63 : xA 63 = 1 := by decide +kernel
theorem xt_63 : xT 63 = none := rfl
theorem xm_63 : xM 63 = 3 := by decide +kernel
theorem xa_64 : xA 64 = 1 := by decide +kernel
theorem xt_64 : xT 64 = none := rfl
theorem xm_64 : xM 64 = 3 := by decide +kernel
theorem xa_65 : xA 65 = 2 := by decide +kernel
theorem xt_65 : xT 65 = (some .int) := rfl
theorem xm_65 : xM 65 = 5 := by decide +kernel
theorem xa_66 : xA 66 = 2 := by decide +kernel
theorem xt_66 : xT 66 = (some .int) := rfl
theorem xm_66 : xM 66 = 5 := by decide +kernel
theorem xa_67 : xA 67 = 1 := by decide +kernel
theorem xt_67 : xT 67 = (some .int) := rfl
theorem xm_67 : xM 67 = 2 := by decide +kernel
theorem xa_68 : xA 68 = 1 := by decide +kernel
theorem xt_68 : xT 68 = (some .int) := rfl
theorem xm_68 : xM 68 = 2 := by decide +kernel
theorem xa_69 : xA 69 = 0 := by decide +kernel
theorem xt_69 : xT 69 = none := rfl
theorem xm_69 : xM 69 = 1 := by decide +kernel
theorem xa_70 : xA 70 = 1 := by decide +kernel
theorem xt_70 : xT 70 = (some .boolean) := rfl
theorem xm_70 : xM 70 = 2 := by decide +kernel
theorem xa_71 : xA 71 = 1 := by decide +kernel
theorem xt_71 : xT 71 = (some .boolean) := rfl
theorem xm_71 : xM 71 = 2 := by decide +kernel
theorem xa_72 : xA 72 = 2 := by decide +kernel
theorem xt_72 : xT 72 = (some .boolean) := rfl
theorem xm_72 : xM 72 = 3 := by decide +kernel
theorem xa_73 : xA 73 = 1 := by decide +kernel
theorem xt_73 : xT 73 = (some .boolean) := rfl
theorem xm_73 : xM 73 = 2 := by decide +kernel
theorem xa_74 : xA 74 = 1 := by decide +kernel
theorem xt_74 : xT 74 = none := rfl
theorem xm_74 : xM 74 = 3 := by decide +kernel
theorem xa_75 : xA 75 = 0 := by decide +kernel
theorem xt_75 : xT 75 = none := rfl
theorem xm_75 : xM 75 = 1 := by decide +kernel
theorem xa_76 : xA 76 = 2 := by decide +kernel
theorem xt_76 : xT 76 = none := rfl
theorem xm_76 : xM 76 = 3 := by decide +kernel
theorem xa_77 : xA 77 = 3 := by decide +kernel
theorem xt_77 : xT 77 = none := rfl
theorem xm_77 : xM 77 = 4 := by decide +kernel
theorem xa_78 : xA 78 = 1 := by decide +kernel
theorem xt_78 : xT 78 = (some .boolean) := rfl
theorem xm_78 : xM 78 = 2 := by decide +kernel
theorem xa_79 : xA 79 = 0 := by decide +kernel
theorem xt_79 : xT 79 = none := rfl
theorem xm_79 : xM 79 = 1 := by decide +kernel
theorem xa_80 : xA 80 = 5 := by decide +kernel
theorem xt_80 : xT 80 = (some .int) := rfl
theorem xm_80 : xM 80 = 8 := by decide +kernel
theorem xa_81 : xA 81 = 1 := by decide +kernel
theorem xt_81 : xT 81 = (some .int) := rfl
theorem xm_81 : xM 81 = 2 := by decide +kernel
theorem xa_82 : xA 82 = 3 := by decide +kernel
theorem xt_82 : xT 82 = (some .boolean) := rfl
theorem xm_82 : xM 82 = 6 := by decide +kernel
theorem xa_83 : xA 83 = 0 := by decide +kernel
theorem xt_83 : xT 83 = (some .int) := rfl
theorem xm_83 : xM 83 = 2 := by decide +kernel
theorem xa_84 : xA 84 = 0 := by decide +kernel
theorem xt_84 : xT 84 = none := rfl
theorem xm_84 : xM 84 = 3 := by decide +kernel
theorem xa_85 : xA 85 = 1 := by decide +kernel
theorem xt_85 : xT 85 = (some .boolean) := rfl
theorem xm_85 : xM 85 = 1 := by decide +kernel
theorem xa_86 : xA 86 = 1 := by decide +kernel
theorem xt_86 : xT 86 = (some .boolean) := rfl
theorem xm_86 : xM 86 = 3 := by decide +kernel
theorem xa_87 : xA 87 = 1 := by decide +kernel
theorem xt_87 : xT 87 = (some .boolean) := rfl
theorem xm_87 : xM 87 = 1 := by decide +kernel
theorem xa_88 : xA 88 = 0 := by decide +kernel
theorem xt_88 : xT 88 = (some .boolean) := rfl
theorem xm_88 : xM 88 = 4 := by decide +kernel
theorem xa_89 : xA 89 = 0 := by decide +kernel
theorem xt_89 : xT 89 = (some .boolean) := rfl
theorem xm_89 : xM 89 = 1 := by decide +kernel
theorem xa_90 : xA 90 = 1 := by decide +kernel
theorem xt_90 : xT 90 = none := rfl
theorem xm_90 : xM 90 = 2 := by decide +kernel
theorem xa_91 : xA 91 = 0 := by decide +kernel
theorem xt_91 : xT 91 = (some .boolean) := rfl
theorem xm_91 : xM 91 = 2 := by decide +kernel
theorem xa_92 : xA 92 = 0 := by decide +kernel
theorem xt_92 : xT 92 = (some .boolean) := rfl
theorem xm_92 : xM 92 = 1 := by decide +kernel
theorem xa_93 : xA 93 = 1 := by decide +kernel
theorem xt_93 : xT 93 = (some .boolean) := rfl
theorem xm_93 : xM 93 = 3 := by decide +kernel
theorem xa_94 : xA 94 = 1 := by decide +kernel
theorem xt_94 : xT 94 = (some .boolean) := rfl
theorem xm_94 : xM 94 = 2 := by decide +kernel
theorem xa_95 : xA 95 = 1 := by decide +kernel
theorem xt_95 : xT 95 = (some .boolean) := rfl
theorem xm_95 : xM 95 = 2 := by decide +kernel
theorem xa_96 : xA 96 = 1 := by decide +kernel
theorem xt_96 : xT 96 = (some .boolean) := rfl
theorem xm_96 : xM 96 = 2 := by decide +kernel
theorem xa_97 : xA 97 = 0 := by decide +kernel
theorem xt_97 : xT 97 = (some .boolean) := rfl
theorem xm_97 : xM 97 = 1 := by decide +kernel
theorem xa_98 : xA 98 = 3 := by decide +kernel
theorem xt_98 : xT 98 = (some .int) := rfl
theorem xm_98 : xM 98 = 4 := by decide +kernel
theorem xa_99 : xA 99 = 2 := by decide +kernel
theorem xt_99 : xT 99 = (some .boolean) := rfl
theorem xm_99 : xM 99 = 4 := by decide +kernel
theorem xa_100 : xA 100 = 2 := by decide +kernel
theorem xt_100 : xT 100 = (some .int) := rfl
theorem xm_100 : xM 100 = 5 := by decide +kernel
theorem xa_101 : xA 101 = 4 := by decide +kernel
theorem xt_101 : xT 101 = (some .long) := rfl
theorem xm_101 : xM 101 = 6 := by decide +kernel
theorem xa_102 : xA 102 = 3 := by decide +kernel
theorem xt_102 : xT 102 = (some .long) := rfl
theorem xm_102 : xM 102 = 4 := by decide +kernel
theorem xa_103 : xA 103 = 2 := by decide +kernel
theorem xt_103 : xT 103 = none := rfl
theorem xm_103 : xM 103 = 5 := by decide +kernel
theorem xa_104 : xA 104 = 1 := by decide +kernel
theorem xt_104 : xT 104 = none := rfl
theorem xm_104 : xM 104 = 4 := by decide +kernel
theorem xa_105 : xA 105 = 2 := by decide +kernel
theorem xt_105 : xT 105 = (some .boolean) := rfl
theorem xm_105 : xM 105 = 3 := by decide +kernel
theorem xa_106 : xA 106 = 2 := by decide +kernel
theorem xt_106 : xT 106 = (some .boolean) := rfl
theorem xm_106 : xM 106 = 3 := by decide +kernel
theorem xa_107 : xA 107 = 1 := by decide +kernel
theorem xt_107 : xT 107 = (some .int) := rfl
theorem xm_107 : xM 107 = 6 := by decide +kernel
theorem xa_108 : xA 108 = 1 := by decide +kernel
theorem xt_108 : xT 108 = (some .boolean) := rfl
theorem xm_108 : xM 108 = 9 := by decide +kernel
theorem xa_109 : xA 109 = 1 := by decide +kernel
theorem xt_109 : xT 109 = (some .int) := rfl
theorem xm_109 : xM 109 = 5 := by decide +kernel
theorem xa_110 : xA 110 = 3 := by decide +kernel
theorem xt_110 : xT 110 = (some .int) := rfl
theorem xm_110 : xM 110 = 5 := by decide +kernel
theorem xa_111 : xA 111 = 1 := by decide +kernel
theorem xt_111 : xT 111 = (some .int) := rfl
theorem xm_111 : xM 111 = 4 := by decide +kernel
theorem xa_112 : xA 112 = 3 := by decide +kernel
theorem xt_112 : xT 112 = (some .int) := rfl
theorem xm_112 : xM 112 = 7 := by decide +kernel
theorem xa_113 : xA 113 = 2 := by decide +kernel
theorem xt_113 : xT 113 = none := rfl
theorem xm_113 : xM 113 = 3 := by decide +kernel
theorem xa_114 : xA 114 = 2 := by decide +kernel
theorem xt_114 : xT 114 = (some .int) := rfl
theorem xm_114 : xM 114 = 3 := by decide +kernel
theorem xa_115 : xA 115 = 2 := by decide +kernel
theorem xt_115 : xT 115 = (some .int) := rfl
theorem xm_115 : xM 115 = 3 := by decide +kernel
theorem xa_116 : xA 116 = 2 := by decide +kernel
theorem xt_116 : xT 116 = (some .int) := rfl
theorem xm_116 : xM 116 = 5 := by decide +kernel
theorem xa_117 : xA 117 = 2 := by decide +kernel
theorem xt_117 : xT 117 = (some .int) := rfl
theorem xm_117 : xM 117 = 3 := by decide +kernel
theorem xa_118 : xA 118 = 3 := by decide +kernel
theorem xt_118 : xT 118 = (some .int) := rfl
theorem xm_118 : xM 118 = 4 := by decide +kernel
theorem xa_119 : xA 119 = 2 := by decide +kernel
theorem xt_119 : xT 119 = (some .int) := rfl
theorem xm_119 : xM 119 = 5 := by decide +kernel
theorem xa_120 : xA 120 = 0 := by decide +kernel
theorem xt_120 : xT 120 = (some .int) := rfl
theorem xm_120 : xM 120 = 1 := by decide +kernel
theorem xa_121 : xA 121 = 2 := by decide +kernel
theorem xt_121 : xT 121 = (some (.array .int)) := rfl
theorem xm_121 : xM 121 = 3 := by decide +kernel
theorem xa_122 : xA 122 = 2 := by decide +kernel
theorem xt_122 : xT 122 = none := rfl
theorem xm_122 : xM 122 = 4 := by decide +kernel
end
section
/-! ===== branches, by their conditions (wip/gen/lay19.py) ===== -/
section XBR
variable {G : xG} {d mi pc : Nat} {L : xL} {st r : List Value} {h : xH} {nx sl : Nat} {res : Option Value × xW}
theorem xr_icmp_eq {off : Int} {x y : Int32} {t : Nat} (hi : xI mi pc = some (.if_icmp .eq off)) (ht : (pc : Int) + off = (t : Int)) (kt : x = y → xRun G d mi (t, L, r, (h, nx, sl)) res) (kf : ¬ x = y → xRun G d mi (pc + 3, L, r, (h, nx, sl)) res) : xRun G d mi (pc, L, .int y :: .int x :: r, (h, nx, sl)) res := xr_icmp hi ht (fun hc => kt (by simpa [xcnd] using hc)) (fun hc => kf (by simpa [xcnd] using hc))
theorem xr_icmp_eqT {off : Int} {x y : Int32} {t : Nat} (hi : xI mi pc = some (.if_icmp .eq off)) (ht : (pc : Int) + off = (t : Int)) (hc : x = y) (kt : xRun G d mi (t, L, r, (h, nx, sl)) res) : xRun G d mi (pc, L, .int y :: .int x :: r, (h, nx, sl)) res := xr_icmp hi ht (fun _ => kt) (fun h9 => absurd hc (by simpa [xcnd] using h9))
theorem xr_icmp_eqF {off : Int} {x y : Int32} {t : Nat} (hi : xI mi pc = some (.if_icmp .eq off)) (ht : (pc : Int) + off = (t : Int)) (hc : ¬ x = y) (kf : xRun G d mi (pc + 3, L, r, (h, nx, sl)) res) : xRun G d mi (pc, L, .int y :: .int x :: r, (h, nx, sl)) res := xr_icmp hi ht (fun h9 => absurd (show x = y by simpa [xcnd] using h9) (by simpa using hc)) (fun _ => kf)
theorem xr_icmp_ne {off : Int} {x y : Int32} {t : Nat} (hi : xI mi pc = some (.if_icmp .ne off)) (ht : (pc : Int) + off = (t : Int)) (kt : ¬ x = y → xRun G d mi (t, L, r, (h, nx, sl)) res) (kf : x = y → xRun G d mi (pc + 3, L, r, (h, nx, sl)) res) : xRun G d mi (pc, L, .int y :: .int x :: r, (h, nx, sl)) res := xr_icmp hi ht (fun hc => kt (by simpa [xcnd] using hc)) (fun hc => kf (by simpa [xcnd] using hc))
theorem xr_icmp_neT {off : Int} {x y : Int32} {t : Nat} (hi : xI mi pc = some (.if_icmp .ne off)) (ht : (pc : Int) + off = (t : Int)) (hc : ¬ x = y) (kt : xRun G d mi (t, L, r, (h, nx, sl)) res) : xRun G d mi (pc, L, .int y :: .int x :: r, (h, nx, sl)) res := xr_icmp hi ht (fun _ => kt) (fun h9 => absurd hc (by simpa [xcnd] using h9))
theorem xr_icmp_neF {off : Int} {x y : Int32} {t : Nat} (hi : xI mi pc = some (.if_icmp .ne off)) (ht : (pc : Int) + off = (t : Int)) (hc : x = y) (kf : xRun G d mi (pc + 3, L, r, (h, nx, sl)) res) : xRun G d mi (pc, L, .int y :: .int x :: r, (h, nx, sl)) res := xr_icmp hi ht (fun h9 => absurd (show ¬ x = y by simpa [xcnd] using h9) (by simpa using hc)) (fun _ => kf)
theorem xr_icmp_lt {off : Int} {x y : Int32} {t : Nat} (hi : xI mi pc = some (.if_icmp .lt off)) (ht : (pc : Int) + off = (t : Int)) (kt : x < y → xRun G d mi (t, L, r, (h, nx, sl)) res) (kf : ¬ x < y → xRun G d mi (pc + 3, L, r, (h, nx, sl)) res) : xRun G d mi (pc, L, .int y :: .int x :: r, (h, nx, sl)) res := xr_icmp hi ht (fun hc => kt (by simpa [xcnd] using hc)) (fun hc => kf (by simpa [xcnd] using hc))
theorem xr_icmp_ltT {off : Int} {x y : Int32} {t : Nat} (hi : xI mi pc = some (.if_icmp .lt off)) (ht : (pc : Int) + off = (t : Int)) (hc : x < y) (kt : xRun G d mi (t, L, r, (h, nx, sl)) res) : xRun G d mi (pc, L, .int y :: .int x :: r, (h, nx, sl)) res := xr_icmp hi ht (fun _ => kt) (fun h9 => absurd hc (by simpa [xcnd] using h9))
theorem xr_icmp_ltF {off : Int} {x y : Int32} {t : Nat} (hi : xI mi pc = some (.if_icmp .lt off)) (ht : (pc : Int) + off = (t : Int)) (hc : ¬ x < y) (kf : xRun G d mi (pc + 3, L, r, (h, nx, sl)) res) : xRun G d mi (pc, L, .int y :: .int x :: r, (h, nx, sl)) res := xr_icmp hi ht (fun h9 => absurd (show x < y by simpa [xcnd] using h9) (by simpa using hc)) (fun _ => kf)
theorem xr_icmp_ge {off : Int} {x y : Int32} {t : Nat} (hi : xI mi pc = some (.if_icmp .ge off)) (ht : (pc : Int) + off = (t : Int)) (kt : y ≤ x → xRun G d mi (t, L, r, (h, nx, sl)) res) (kf : ¬ y ≤ x → xRun G d mi (pc + 3, L, r, (h, nx, sl)) res) : xRun G d mi (pc, L, .int y :: .int x :: r, (h, nx, sl)) res := xr_icmp hi ht (fun hc => kt (by simpa [xcnd] using hc)) (fun hc => kf (by simpa [xcnd] using hc))
theorem xr_icmp_geT {off : Int} {x y : Int32} {t : Nat} (hi : xI mi pc = some (.if_icmp .ge off)) (ht : (pc : Int) + off = (t : Int)) (hc : y ≤ x) (kt : xRun G d mi (t, L, r, (h, nx, sl)) res) : xRun G d mi (pc, L, .int y :: .int x :: r, (h, nx, sl)) res := xr_icmp hi ht (fun _ => kt) (fun h9 => absurd hc (by simpa [xcnd] using h9))
theorem xr_icmp_geF {off : Int} {x y : Int32} {t : Nat} (hi : xI mi pc = some (.if_icmp .ge off)) (ht : (pc : Int) + off = (t : Int)) (hc : ¬ y ≤ x) (kf : xRun G d mi (pc + 3, L, r, (h, nx, sl)) res) : xRun G d mi (pc, L, .int y :: .int x :: r, (h, nx, sl)) res := xr_icmp hi ht (fun h9 => absurd (show y ≤ x by simpa [xcnd] using h9) (by simpa using hc)) (fun _ => kf)
theorem xr_icmp_gt {off : Int} {x y : Int32} {t : Nat} (hi : xI mi pc = some (.if_icmp .gt off)) (ht : (pc : Int) + off = (t : Int)) (kt : y < x → xRun G d mi (t, L, r, (h, nx, sl)) res) (kf : ¬ y < x → xRun G d mi (pc + 3, L, r, (h, nx, sl)) res) : xRun G d mi (pc, L, .int y :: .int x :: r, (h, nx, sl)) res := xr_icmp hi ht (fun hc => kt (by simpa [xcnd] using hc)) (fun hc => kf (by simpa [xcnd] using hc))
theorem xr_icmp_gtT {off : Int} {x y : Int32} {t : Nat} (hi : xI mi pc = some (.if_icmp .gt off)) (ht : (pc : Int) + off = (t : Int)) (hc : y < x) (kt : xRun G d mi (t, L, r, (h, nx, sl)) res) : xRun G d mi (pc, L, .int y :: .int x :: r, (h, nx, sl)) res := xr_icmp hi ht (fun _ => kt) (fun h9 => absurd hc (by simpa [xcnd] using h9))
theorem xr_icmp_gtF {off : Int} {x y : Int32} {t : Nat} (hi : xI mi pc = some (.if_icmp .gt off)) (ht : (pc : Int) + off = (t : Int)) (hc : ¬ y < x) (kf : xRun G d mi (pc + 3, L, r, (h, nx, sl)) res) : xRun G d mi (pc, L, .int y :: .int x :: r, (h, nx, sl)) res := xr_icmp hi ht (fun h9 => absurd (show y < x by simpa [xcnd] using h9) (by simpa using hc)) (fun _ => kf)
theorem xr_icmp_le {off : Int} {x y : Int32} {t : Nat} (hi : xI mi pc = some (.if_icmp .le off)) (ht : (pc : Int) + off = (t : Int)) (kt : x ≤ y → xRun G d mi (t, L, r, (h, nx, sl)) res) (kf : ¬ x ≤ y → xRun G d mi (pc + 3, L, r, (h, nx, sl)) res) : xRun G d mi (pc, L, .int y :: .int x :: r, (h, nx, sl)) res := xr_icmp hi ht (fun hc => kt (by simpa [xcnd] using hc)) (fun hc => kf (by simpa [xcnd] using hc))
theorem xr_icmp_leT {off : Int} {x y : Int32} {t : Nat} (hi : xI mi pc = some (.if_icmp .le off)) (ht : (pc : Int) + off = (t : Int)) (hc : x ≤ y) (kt : xRun G d mi (t, L, r, (h, nx, sl)) res) : xRun G d mi (pc, L, .int y :: .int x :: r, (h, nx, sl)) res := xr_icmp hi ht (fun _ => kt) (fun h9 => absurd hc (by simpa [xcnd] using h9))
theorem xr_icmp_leF {off : Int} {x y : Int32} {t : Nat} (hi : xI mi pc = some (.if_icmp .le off)) (ht : (pc : Int) + off = (t : Int)) (hc : ¬ x ≤ y) (kf : xRun G d mi (pc + 3, L, r, (h, nx, sl)) res) : xRun G d mi (pc, L, .int y :: .int x :: r, (h, nx, sl)) res := xr_icmp hi ht (fun h9 => absurd (show x ≤ y by simpa [xcnd] using h9) (by simpa using hc)) (fun _ => kf)
theorem xr_if_eq {off : Int} {x : Int32} {t : Nat} (hi : xI mi pc = some (.ifCond .eq off)) (ht : (pc : Int) + off = (t : Int)) (kt : x = 0 → xRun G d mi (t, L, r, (h, nx, sl)) res) (kf : ¬ x = 0 → xRun G d mi (pc + 3, L, r, (h, nx, sl)) res) : xRun G d mi (pc, L, .int x :: r, (h, nx, sl)) res := xr_if hi ht (fun hc => kt (by simpa [xcnd] using hc)) (fun hc => kf (by simpa [xcnd] using hc))
theorem xr_if_eqT {off : Int} {x : Int32} {t : Nat} (hi : xI mi pc = some (.ifCond .eq off)) (ht : (pc : Int) + off = (t : Int)) (hc : x = 0) (kt : xRun G d mi (t, L, r, (h, nx, sl)) res) : xRun G d mi (pc, L, .int x :: r, (h, nx, sl)) res := xr_if hi ht (fun _ => kt) (fun h9 => absurd hc (by simpa [xcnd] using h9))
theorem xr_if_eqF {off : Int} {x : Int32} {t : Nat} (hi : xI mi pc = some (.ifCond .eq off)) (ht : (pc : Int) + off = (t : Int)) (hc : ¬ x = 0) (kf : xRun G d mi (pc + 3, L, r, (h, nx, sl)) res) : xRun G d mi (pc, L, .int x :: r, (h, nx, sl)) res := xr_if hi ht (fun h9 => absurd (show x = 0 by simpa [xcnd] using h9) (by simpa using hc)) (fun _ => kf)
theorem xr_if_ne {off : Int} {x : Int32} {t : Nat} (hi : xI mi pc = some (.ifCond .ne off)) (ht : (pc : Int) + off = (t : Int)) (kt : ¬ x = 0 → xRun G d mi (t, L, r, (h, nx, sl)) res) (kf : x = 0 → xRun G d mi (pc + 3, L, r, (h, nx, sl)) res) : xRun G d mi (pc, L, .int x :: r, (h, nx, sl)) res := xr_if hi ht (fun hc => kt (by simpa [xcnd] using hc)) (fun hc => kf (by simpa [xcnd] using hc))
theorem xr_if_neT {off : Int} {x : Int32} {t : Nat} (hi : xI mi pc = some (.ifCond .ne off)) (ht : (pc : Int) + off = (t : Int)) (hc : ¬ x = 0) (kt : xRun G d mi (t, L, r, (h, nx, sl)) res) : xRun G d mi (pc, L, .int x :: r, (h, nx, sl)) res := xr_if hi ht (fun _ => kt) (fun h9 => absurd hc (by simpa [xcnd] using h9))
theorem xr_if_neF {off : Int} {x : Int32} {t : Nat} (hi : xI mi pc = some (.ifCond .ne off)) (ht : (pc : Int) + off = (t : Int)) (hc : x = 0) (kf : xRun G d mi (pc + 3, L, r, (h, nx, sl)) res) : xRun G d mi (pc, L, .int x :: r, (h, nx, sl)) res := xr_if hi ht (fun h9 => absurd (show ¬ x = 0 by simpa [xcnd] using h9) (by simpa using hc)) (fun _ => kf)
theorem xr_if_lt {off : Int} {x : Int32} {t : Nat} (hi : xI mi pc = some (.ifCond .lt off)) (ht : (pc : Int) + off = (t : Int)) (kt : x < 0 → xRun G d mi (t, L, r, (h, nx, sl)) res) (kf : ¬ x < 0 → xRun G d mi (pc + 3, L, r, (h, nx, sl)) res) : xRun G d mi (pc, L, .int x :: r, (h, nx, sl)) res := xr_if hi ht (fun hc => kt (by simpa [xcnd] using hc)) (fun hc => kf (by simpa [xcnd] using hc))
theorem xr_if_ltT {off : Int} {x : Int32} {t : Nat} (hi : xI mi pc = some (.ifCond .lt off)) (ht : (pc : Int) + off = (t : Int)) (hc : x < 0) (kt : xRun G d mi (t, L, r, (h, nx, sl)) res) : xRun G d mi (pc, L, .int x :: r, (h, nx, sl)) res := xr_if hi ht (fun _ => kt) (fun h9 => absurd hc (by simpa [xcnd] using h9))
theorem xr_if_ltF {off : Int} {x : Int32} {t : Nat} (hi : xI mi pc = some (.ifCond .lt off)) (ht : (pc : Int) + off = (t : Int)) (hc : ¬ x < 0) (kf : xRun G d mi (pc + 3, L, r, (h, nx, sl)) res) : xRun G d mi (pc, L, .int x :: r, (h, nx, sl)) res := xr_if hi ht (fun h9 => absurd (show x < 0 by simpa [xcnd] using h9) (by simpa using hc)) (fun _ => kf)
theorem xr_if_ge {off : Int} {x : Int32} {t : Nat} (hi : xI mi pc = some (.ifCond .ge off)) (ht : (pc : Int) + off = (t : Int)) (kt : 0 ≤ x → xRun G d mi (t, L, r, (h, nx, sl)) res) (kf : ¬ 0 ≤ x → xRun G d mi (pc + 3, L, r, (h, nx, sl)) res) : xRun G d mi (pc, L, .int x :: r, (h, nx, sl)) res := xr_if hi ht (fun hc => kt (by simpa [xcnd] using hc)) (fun hc => kf (by simpa [xcnd] using hc))
theorem xr_if_geT {off : Int} {x : Int32} {t : Nat} (hi : xI mi pc = some (.ifCond .ge off)) (ht : (pc : Int) + off = (t : Int)) (hc : 0 ≤ x) (kt : xRun G d mi (t, L, r, (h, nx, sl)) res) : xRun G d mi (pc, L, .int x :: r, (h, nx, sl)) res := xr_if hi ht (fun _ => kt) (fun h9 => absurd hc (by simpa [xcnd] using h9))
theorem xr_if_geF {off : Int} {x : Int32} {t : Nat} (hi : xI mi pc = some (.ifCond .ge off)) (ht : (pc : Int) + off = (t : Int)) (hc : ¬ 0 ≤ x) (kf : xRun G d mi (pc + 3, L, r, (h, nx, sl)) res) : xRun G d mi (pc, L, .int x :: r, (h, nx, sl)) res := xr_if hi ht (fun h9 => absurd (show 0 ≤ x by simpa [xcnd] using h9) (by simpa using hc)) (fun _ => kf)
theorem xr_if_gt {off : Int} {x : Int32} {t : Nat} (hi : xI mi pc = some (.ifCond .gt off)) (ht : (pc : Int) + off = (t : Int)) (kt : 0 < x → xRun G d mi (t, L, r, (h, nx, sl)) res) (kf : ¬ 0 < x → xRun G d mi (pc + 3, L, r, (h, nx, sl)) res) : xRun G d mi (pc, L, .int x :: r, (h, nx, sl)) res := xr_if hi ht (fun hc => kt (by simpa [xcnd] using hc)) (fun hc => kf (by simpa [xcnd] using hc))
theorem xr_if_gtT {off : Int} {x : Int32} {t : Nat} (hi : xI mi pc = some (.ifCond .gt off)) (ht : (pc : Int) + off = (t : Int)) (hc : 0 < x) (kt : xRun G d mi (t, L, r, (h, nx, sl)) res) : xRun G d mi (pc, L, .int x :: r, (h, nx, sl)) res := xr_if hi ht (fun _ => kt) (fun h9 => absurd hc (by simpa [xcnd] using h9))
theorem xr_if_gtF {off : Int} {x : Int32} {t : Nat} (hi : xI mi pc = some (.ifCond .gt off)) (ht : (pc : Int) + off = (t : Int)) (hc : ¬ 0 < x) (kf : xRun G d mi (pc + 3, L, r, (h, nx, sl)) res) : xRun G d mi (pc, L, .int x :: r, (h, nx, sl)) res := xr_if hi ht (fun h9 => absurd (show 0 < x by simpa [xcnd] using h9) (by simpa using hc)) (fun _ => kf)
theorem xr_if_le {off : Int} {x : Int32} {t : Nat} (hi : xI mi pc = some (.ifCond .le off)) (ht : (pc : Int) + off = (t : Int)) (kt : x ≤ 0 → xRun G d mi (t, L, r, (h, nx, sl)) res) (kf : ¬ x ≤ 0 → xRun G d mi (pc + 3, L, r, (h, nx, sl)) res) : xRun G d mi (pc, L, .int x :: r, (h, nx, sl)) res := xr_if hi ht (fun hc => kt (by simpa [xcnd] using hc)) (fun hc => kf (by simpa [xcnd] using hc))
theorem xr_if_leT {off : Int} {x : Int32} {t : Nat} (hi : xI mi pc = some (.ifCond .le off)) (ht : (pc : Int) + off = (t : Int)) (hc : x ≤ 0) (kt : xRun G d mi (t, L, r, (h, nx, sl)) res) : xRun G d mi (pc, L, .int x :: r, (h, nx, sl)) res := xr_if hi ht (fun _ => kt) (fun h9 => absurd hc (by simpa [xcnd] using h9))
theorem xr_if_leF {off : Int} {x : Int32} {t : Nat} (hi : xI mi pc = some (.ifCond .le off)) (ht : (pc : Int) + off = (t : Int)) (hc : ¬ x ≤ 0) (kf : xRun G d mi (pc + 3, L, r, (h, nx, sl)) res) : xRun G d mi (pc, L, .int x :: r, (h, nx, sl)) res := xr_if hi ht (fun h9 => absurd (show x ≤ 0 by simpa [xcnd] using h9) (by simpa using hc)) (fun _ => kf)
end XBR
theorem xr_iret {G : xG} {d mi pc : Nat} {L : xL} {h : xH} {nx sl : Nat} {v : Int32} {ty : FieldType} (hi : xI mi pc = some .ireturn) (hT : xT mi = some ty) (hn : narrow ty (.int v) = .int v) : xRun G d mi (pc, L, [.int v], (h, nx, sl)) (some (.int v), (h, nx, sl)) := by
  refine xr_end hi ?_
  show xiret (xT mi) [.int v] (h, nx, sl) = _
  rw [hT]
  unfold xiret
  simp only [hn, if_true]
theorem xr_lret {G : xG} {d mi pc : Nat} {L : xL} {h : xH} {nx sl : Nat} {v : Int64} (hi : xI mi pc = some .lreturn) (hT : xT mi = some .long) : xRun G d mi (pc, L, [.long v], (h, nx, sl)) (some (.long v), (h, nx, sl)) := by
  refine xr_end hi ?_
  show xlret (xT mi) [.long v] (h, nx, sl) = _
  rw [hT]
  unfold xlret
  simp only [if_true]
theorem xr_inc1 {G : xG} {d mi pc : Nat} {L L' : xL} {st : List Value} {h : xH} {nx sl i j : Nat} {res : Option Value × xW} (hi : xI mi pc = some (.iinc i 1)) (hl : L[i]? = some (some (.int (nI j)))) (hs : xst L i (.int (nI (j + 1))) = some L') (k : xRun G d mi (pc + 3, L', st, (h, nx, sl)) res) : xRun G d mi (pc, L, st, (h, nx, sl)) res := by
  refine xr_go hi ?_ k
  show xiinc i 1 pc L st (h, nx, sl) = _
  unfold xiinc
  simp only [hl]
  rw [show nI j + Int32.ofInt 1 = nI (j + 1) from nI_1 j, hs]
  rfl
theorem xr_dec1 {G : xG} {d mi pc : Nat} {L L' : xL} {st : List Value} {h : xH} {nx sl i j : Nat} {res : Option Value × xW} (hi : xI mi pc = some (.iinc i (-1))) (hl : L[i]? = some (some (.int (nI (j + 1))))) (hs : xst L i (.int (nI j)) = some L') (k : xRun G d mi (pc + 3, L', st, (h, nx, sl)) res) : xRun G d mi (pc, L, st, (h, nx, sl)) res := by
  refine xr_go hi ?_ k
  show xiinc i (-1) pc L st (h, nx, sl) = _
  unfold xiinc
  simp only [hl]
  rw [show nI (j + 1) + Int32.ofInt (-1) = nI j from pk_m1 j, hs]
  rfl
theorem xr_zald {G : xG} {d mi pc : Nat} {L : xL} {r : List Value} {h : xH} {nx sl a n j : Nat} {f : Nat → Int32} {i : Int32} {res : Option Value × xW} (hi : xI mi pc = some .baload) (ha : h a = some (.inl (1, n, .inl f))) (hj : i = nI j) (hn : j < n) (hm : n < 2 ^ 31) (k : xRun G d mi (pc + 1, L, .int (f j) :: r, (h, nx, sl)) res) : xRun G d mi (pc, L, .int i :: .ref a :: r, (h, nx, sl)) res := xr_bald hi (Or.inl rfl) ha hj hn hm k
theorem xr_yald {G : xG} {d mi pc : Nat} {L : xL} {r : List Value} {h : xH} {nx sl a n j : Nat} {f : Nat → Int32} {i : Int32} {res : Option Value × xW} (hi : xI mi pc = some .baload) (ha : h a = some (.inl (2, n, .inl f))) (hj : i = nI j) (hn : j < n) (hm : n < 2 ^ 31) (k : xRun G d mi (pc + 1, L, .int (f j) :: r, (h, nx, sl)) res) : xRun G d mi (pc, L, .int i :: .ref a :: r, (h, nx, sl)) res := xr_bald hi (Or.inr rfl) ha hj hn hm k
end
section
/-! ===== the class's Machine ===== -/
/-- the Machine at a, its three rows behind it -/
def xMach (a dep eff : Nat) (hol : Int32) (vals tg sm : Nat → Int32) (h : xH) : Prop :=
  h a = some (.inr (5, [.ref (a + 1), .ref (a + 2), .ref (a + 3), .int (nI dep), .int (nI eff), .int hol])) ∧ h (a + 1) = some (.inl (0, 16, .inl vals)) ∧ h (a + 2) = some (.inl (0, 8, .inl tg)) ∧ h (a + 3) = some (.inl (0, 8, .inl sm))
/-- nothing but the cells from a to b has changed -/
def xsame (a b : Nat) (h h' : xH) : Prop := ∀ q, (q < a ∨ b < q) → h' q = h q
theorem xsame.refl {a b : Nat} {h : xH} : xsame a b h h := fun _ _ => rfl
theorem xsame.trans {a b : Nat} {h h1 h2 : xH} (x : xsame a b h h1) (y : xsame a b h1 h2) : xsame a b h h2 := fun q hq => (y q hq).trans (x q hq)
theorem xsame.up {a b c : Nat} {e : xE} {h h' : xH} (hc : a ≤ c ∧ c ≤ b) (he : h' = xup h c e) : xsame a b h h' := fun q hq => by
  rw [he]
  exact xup_n (by omega)
section XMACH
variable {G : xG} {d : Nat} {h : xH} {nx sl : Nat}
theorem c_push {a dep eff : Nat} {hol v : Int32} {vals tg sm : Nat → Int32} (hM : xMach a dep eff hol vals tg sm h) (hd : dep < 16) : ∃ h', xRun G d 53 (0, [some (.ref a), some (.int v)], [], (h, nx, sl)) (none, (h', nx, sl)) ∧ xMach a (dep + 1) eff hol (upd vals dep v) tg sm h' ∧ xsame a (a + 3) h h' := by
  obtain ⟨m0, m1, m2, m3⟩ := hM
  let h1 : xH := xup h (a + 1) (.inl (0, 16, .inl (upd vals dep v)))
  let h2 : xH := xup h1 a (.inr (5, [.ref (a + 1), .ref (a + 2), .ref (a + 3), .int (nI (dep + 1)), .int (nI eff), .int hol]))
  refine ⟨h2, ?_, ⟨xup_s, ?_, ?_, ?_⟩, ?_⟩
  · refine xr_go i53_0 rfl ?_
    refine xr_get i53_1 xf53_19 (by assumption) rfl rfl ?_
    refine xr_go i53_4 rfl ?_
    refine xr_icmp_geF i53_6 (t := 29) (by decide) (nI_ge (a := dep) (b := 16) (by omega) (by omega)) ?_
    refine xr_go i53_9 rfl ?_
    refine xr_get i53_10 xf53_9 (by assumption) rfl rfl ?_
    refine xr_go i53_13 rfl ?_
    refine xr_get i53_14 xf53_19 (by assumption) rfl rfl ?_
    refine xr_go i53_17 rfl ?_
    refine xr_iast i53_18 (by assumption) rfl (by omega) (by omega) (fun g1 eg1 => ?_)
    have n0 : g1 a = some (.inr (5, [.ref (a + 1), .ref (a + 2), .ref (a + 3), .int (nI dep), .int (nI eff), .int hol])) := by rw [eg1, xup_n (by omega)]; exact m0
    refine xr_go i53_19 rfl ?_
    refine xr_go i53_20 rfl ?_
    refine xr_get i53_21 xf53_19 (by assumption) rfl rfl ?_
    refine xr_go i53_24 rfl ?_
    refine xr_go i53_25 rfl ?_
    refine xr_put i53_26 xf53_19 (by assumption) ⟨rfl, Nat.le_of_ble_eq_true rfl, rfl, rfl, Or.inl rfl⟩ (fun g2 eg2 => ?_)
    have hg : g2 = h2 := by
      rw [eg2, eg1]
      show xup h1 a (.inr (5, [.ref (a + 1), .ref (a + 2), .ref (a + 3), .int (nI dep + 1), .int (nI eff), .int hol])) = _
      rw [nI_1]
    rw [hg]
    exact xr_end i53_29 rfl
  · show xup h1 a _ (a + 1) = _
    rw [xup_n (by omega)]
    exact xup_s
  · show xup h1 a _ (a + 2) = _
    rw [xup_n (by omega)]
    show xup h (a + 1) _ (a + 2) = _
    rw [xup_n (by omega)]
    exact m2
  · show xup h1 a _ (a + 3) = _
    rw [xup_n (by omega)]
    show xup h (a + 1) _ (a + 3) = _
    rw [xup_n (by omega)]
    exact m3
  · exact (xsame.up (by omega) (rfl : h1 = _)).trans (xsame.up (by omega) (rfl : h2 = _))
theorem xMach_of {a dep eff dep' eff' : Nat} {hol hol' : Int32} {vals tg sm : Nat → Int32} {g : xH} (hM : xMach a dep eff hol vals tg sm h) (hg : g = xup h a (.inr (5, [.ref (a + 1), .ref (a + 2), .ref (a + 3), .int (nI dep'), .int (nI eff'), .int hol']))) : xMach a dep' eff' hol' vals tg sm g ∧ xsame a (a + 3) h g := by
  obtain ⟨m0, m1, m2, m3⟩ := hM
  refine ⟨⟨by rw [hg]; exact xup_s, by rw [hg, xup_n (by omega)]; exact m1, by rw [hg, xup_n (by omega)]; exact m2, by rw [hg, xup_n (by omega)]; exact m3⟩, xsame.up (by omega) hg⟩
theorem c_pop {a dep eff : Nat} {hol : Int32} {vals tg sm : Nat → Int32} (hM : xMach a (dep + 1) eff hol vals tg sm h) (hd : dep < 16) : ∃ h', xRun G d 55 (0, [some (.ref a)], [], (h, nx, sl)) (some (.int (vals dep)), (h', nx, sl)) ∧ xMach a dep eff hol vals tg sm h' ∧ xsame a (a + 3) h h' := by
  have hM0 := hM
  obtain ⟨m0, m1, m2, m3⟩ := hM
  let g : xH := xup h a (.inr (5, [.ref (a + 1), .ref (a + 2), .ref (a + 3), .int (nI dep), .int (nI eff), .int hol]))
  obtain ⟨hN, hs⟩ := xMach_of (g := g) hM0 rfl
  refine ⟨g, ?_, hN, hs⟩
  obtain ⟨n0, n1, -, -⟩ := hN
  refine xr_go i55_0 rfl ?_
  refine xr_get i55_1 xf55_19 (by assumption) rfl rfl ?_
  refine xr_if_neT i55_4 (t := 9) (by decide) (nI_ne0 (by omega) (by omega)) ?_
  refine xr_go i55_9 rfl ?_
  refine xr_go i55_10 rfl ?_
  refine xr_get i55_11 xf55_19 (by assumption) rfl rfl ?_
  refine xr_go i55_14 rfl ?_
  refine xr_go i55_15 rfl ?_
  refine xr_put i55_16 xf55_19 (by assumption) ⟨rfl, Nat.le_of_ble_eq_true rfl, rfl, rfl, Or.inl rfl⟩ (fun g1 eg1 => ?_)
  have hg : g1 = g := by
    rw [eg1]
    show xup h a (.inr (5, [.ref (a + 1), .ref (a + 2), .ref (a + 3), .int (nI (dep + 1) - 1), .int (nI eff), .int hol])) = _
    rw [nI_pred]
  rw [hg]
  refine xr_go i55_19 rfl ?_
  refine xr_get i55_20 xf55_9 (by assumption) rfl rfl ?_
  refine xr_go i55_23 rfl ?_
  refine xr_get i55_24 xf55_19 (by assumption) rfl rfl ?_
  refine xr_iald i55_27 (by assumption) rfl (by omega) (by omega) ?_
  exact xr_iret i55_28 xt_55 rfl
theorem c_begin {a dep eff : Nat} {hol : Int32} {vals tg sm : Nat → Int32} (hM : xMach a dep eff hol vals tg sm h) : ∃ h', xRun G d 51 (0, [some (.ref a)], [], (h, nx, sl)) (none, (h', nx, sl)) ∧ xMach a 0 0 1 vals tg sm h' ∧ xsame a (a + 3) h h' := by
  have hM0 := hM
  obtain ⟨m0, m1, m2, m3⟩ := hM
  let g : xH := xup h a (.inr (5, [.ref (a + 1), .ref (a + 2), .ref (a + 3), .int (nI 0), .int (nI 0), .int 1]))
  obtain ⟨hN, hs⟩ := xMach_of (g := g) hM0 rfl
  refine ⟨g, ?_, hN, hs⟩
  refine xr_go i51_0 rfl ?_
  refine xr_go i51_1 rfl ?_
  refine xr_put i51_2 xf51_19 (by assumption) ⟨rfl, Nat.le_of_ble_eq_true rfl, rfl, rfl, Or.inl rfl⟩ (fun g1 eg1 => ?_)
  have k1 : g1 a = some (.inr (5, [.ref (a + 1), .ref (a + 2), .ref (a + 3), .int 0, .int (nI eff), .int hol])) := by rw [eg1]; exact xup_s
  refine xr_go i51_5 rfl ?_
  refine xr_go i51_6 rfl ?_
  refine xr_put i51_7 xf51_23 (by assumption) ⟨rfl, Nat.le_of_ble_eq_true rfl, rfl, rfl, Or.inl rfl⟩ (fun g2 eg2 => ?_)
  have k2 : g2 a = some (.inr (5, [.ref (a + 1), .ref (a + 2), .ref (a + 3), .int 0, .int 0, .int hol])) := by rw [eg2]; exact xup_s
  refine xr_go i51_10 rfl ?_
  refine xr_go i51_11 rfl ?_
  refine xr_put i51_12 xf51_26 (by assumption) ⟨rfl, Nat.le_of_ble_eq_true rfl, rfl, rfl, Or.inl rfl⟩ (fun g3 eg3 => ?_)
  have hg : g3 = g := by
    rw [eg3, eg2, eg1, xup_same, xup_same]
    rfl
  rw [hg]
  exact xr_end i51_15 rfl
theorem c_keep {a dep eff : Nat} {hol t : Int32} {vals tg sm : Nat → Int32} (hM : xMach a (dep + 1) eff hol vals tg sm h) (hd : dep < 16) (he : eff < 8) (h2 : 1 ≤ d) : ∃ h', xRun G d 54 (0, [some (.ref a), some (.int t), none], [], (h, nx, sl)) (none, (h', nx, sl)) ∧ xMach a dep (eff + 1) hol vals (upd tg eff t) (upd sm eff (vals dep)) h' ∧ xsame a (a + 3) h h' := by
  have m0 := hM.1
  obtain ⟨h1, r1, hM1, s1⟩ := c_pop (G := G) (d := d - 1) (nx := nx) (sl := sl) hM hd
  obtain ⟨n0, n1, n2, n3⟩ := hM1
  let g : xH := xup (xup (xup h1 (a + 2) (.inl (0, 8, .inl (upd tg eff t)))) (a + 3) (.inl (0, 8, .inl (upd sm eff (vals dep))))) a (.inr (5, [.ref (a + 1), .ref (a + 2), .ref (a + 3), .int (nI dep), .int (nI (eff + 1)), .int hol]))
  refine ⟨g, ?_, ⟨xup_s, ?_, ?_, ?_⟩, ?_⟩
  · refine xr_go i54_0 rfl ?_
    refine xr_V i54_1 xc54_71 ⟨rfl, rfl⟩ xa_55 rfl (by assumption) rfl (Nat.le_of_ble_eq_true rfl) (by omega) ⟨Nat.le_of_ble_eq_true rfl, Nat.le_of_ble_eq_true rfl⟩ (r1) ?_
    refine xr_go i54_4 rfl ?_
    refine xr_go i54_5 rfl ?_
    refine xr_get i54_6 xf54_23 (by assumption) rfl rfl ?_
    refine xr_go i54_9 rfl ?_
    refine xr_icmp_geF i54_11 (t := 44) (by decide) (nI_ge (a := eff) (b := 8) (by omega) (by omega)) ?_
    refine xr_go i54_14 rfl ?_
    refine xr_get i54_15 xf54_13 (by assumption) rfl rfl ?_
    refine xr_go i54_18 rfl ?_
    refine xr_get i54_19 xf54_23 (by assumption) rfl rfl ?_
    refine xr_go i54_22 rfl ?_
    refine xr_iast i54_23 (by assumption) rfl (by omega) (by omega) (fun g1 eg1 => ?_)
    have k0 : g1 a = some (.inr (5, [.ref (a + 1), .ref (a + 2), .ref (a + 3), .int (nI dep), .int (nI eff), .int hol])) := by rw [eg1, xup_n (by omega)]; exact n0
    have k3 : g1 (a + 3) = some (.inl (0, 8, .inl sm)) := by rw [eg1, xup_n (by omega)]; exact n3
    refine xr_go i54_24 rfl ?_
    refine xr_get i54_25 xf54_16 (by assumption) rfl rfl ?_
    refine xr_go i54_28 rfl ?_
    refine xr_get i54_29 xf54_23 (by assumption) rfl rfl ?_
    refine xr_go i54_32 rfl ?_
    refine xr_iast i54_33 (by assumption) rfl (by omega) (by omega) (fun g2 eg2 => ?_)
    have j0 : g2 a = some (.inr (5, [.ref (a + 1), .ref (a + 2), .ref (a + 3), .int (nI dep), .int (nI eff), .int hol])) := by rw [eg2, xup_n (by omega)]; exact k0
    refine xr_go i54_34 rfl ?_
    refine xr_go i54_35 rfl ?_
    refine xr_get i54_36 xf54_23 (by assumption) rfl rfl ?_
    refine xr_go i54_39 rfl ?_
    refine xr_go i54_40 rfl ?_
    refine xr_put i54_41 xf54_23 (by assumption) ⟨rfl, Nat.le_of_ble_eq_true rfl, rfl, rfl, Or.inl rfl⟩ (fun g3 eg3 => ?_)
    have hg : g3 = g := by
      rw [eg3, eg2, eg1]
      show xup _ a (.inr (5, [.ref (a + 1), .ref (a + 2), .ref (a + 3), .int (nI dep), .int (nI eff + 1), .int hol])) = _
      rw [nI_1]
    rw [hg]
    exact xr_end i54_44 rfl
  · show xup _ a _ (a + 1) = _
    rw [xup_n (by omega), xup_n (by omega), xup_n (by omega)]
    exact n1
  · show xup _ a _ (a + 2) = _
    rw [xup_n (by omega), xup_n (by omega)]
    exact xup_s
  · show xup _ a _ (a + 3) = _
    rw [xup_n (by omega)]
    exact xup_s
  · exact s1.trans (((xsame.up (c := a + 2) (by omega) rfl).trans (xsame.up (c := a + 3) (by omega) rfl)).trans (xsame.up (c := a) (by omega) rfl))
end XMACH
end
section
/-! ===== the class's Machine, in words of lists: a stack (newest first), the effects kept, whether the tests hold ===== -/
def xStk (b : List Int32) (vals : Nat → Int32) : Prop := ∀ j, j < b.length → vals j = b.getD (b.length - 1 - j) 0
def xEff (e : List (Nat × Int32)) (tg sm : Nat → Int32) : Prop := ∀ j, j < e.length → tg j = nI (e.getD j (0, 0)).1 ∧ sm j = (e.getD j (0, 0)).2
def xbi (t : Bool) : Int32 := if t = true then 1 else 0
def xMS (a : Nat) (b : List Int32) (e : List (Nat × Int32)) (t : Bool) (h : xH) : Prop := ∃ vals tg sm, xMach a b.length e.length (xbi t) vals tg sm h ∧ xStk b vals ∧ xEff e tg sm ∧ b.length ≤ 16 ∧ e.length ≤ 8
theorem xStk_push {b : List Int32} {vals : Nat → Int32} (v : Int32) (hs : xStk b vals) : xStk (v :: b) (upd vals b.length v) := by
  intro j hj
  simp only [List.length_cons] at hj
  by_cases h : j = b.length
  · subst h
    simp [upd]
  · have e : (v :: b).length - 1 - j = (b.length - 1 - j) + 1 := by simp only [List.length_cons]; omega
    rw [e, List.getD_cons_succ]
    simp only [upd, if_neg h]
    exact hs j (by omega)
theorem xStk_pop {b : List Int32} {v : Int32} {vals : Nat → Int32} (hs : xStk (v :: b) vals) : vals b.length = v ∧ xStk b vals := by
  refine ⟨?_, fun j hj => ?_⟩
  · have := hs b.length (by simp)
    simpa using this
  · have := hs j (by simp only [List.length_cons]; omega)
    have e : (v :: b).length - 1 - j = (b.length - 1 - j) + 1 := by simp only [List.length_cons]; omega
    rw [e, List.getD_cons_succ] at this
    exact this
theorem xEff_add {e : List (Nat × Int32)} {tg sm : Nat → Int32} (c : Nat) (v : Int32) (he : xEff e tg sm) : xEff (e ++ [(c, v)]) (upd tg e.length (nI c)) (upd sm e.length v) := by
  intro j hj
  simp only [List.length_append, List.length_singleton] at hj
  by_cases h : j = e.length
  · subst h
    simp [upd, List.getD_eq_getElem?_getD]
  · have hl : j < e.length := by omega
    have e1 : (e ++ [(c, v)]).getD j (0, 0) = e.getD j (0, 0) := by
      rw [List.getD_eq_getElem?_getD, List.getD_eq_getElem?_getD, List.getElem?_append_left hl]
    rw [e1]
    simp only [upd, if_neg h]
    exact he j hl
section XM2
variable {G : xG} {d : Nat} {h : xH} {nx sl : Nat} {a : Nat} {b : List Int32} {e : List (Nat × Int32)} {t : Bool}
theorem s_push (v : Int32) (hM : xMS a b e t h) (hb : b.length < 16) : ∃ h', xRun G d 53 (0, [some (.ref a), some (.int v)], [], (h, nx, sl)) (none, (h', nx, sl)) ∧ xMS a (v :: b) e t h' ∧ xsame a (a + 3) h h' := by
  obtain ⟨vals, tg, sm, h1, h2, h3, h4, h5⟩ := hM
  obtain ⟨h', r, hm, hs⟩ := c_push (G := G) (d := d) (nx := nx) (sl := sl) (v := v) h1 hb
  exact ⟨h', r, ⟨_, tg, sm, hm, xStk_push v h2, h3, hb, h5⟩, hs⟩
theorem s_pop {v : Int32} (hM : xMS a (v :: b) e t h) : ∃ h', xRun G d 55 (0, [some (.ref a)], [], (h, nx, sl)) (some (.int v), (h', nx, sl)) ∧ xMS a b e t h' ∧ xsame a (a + 3) h h' := by
  obtain ⟨vals, tg, sm, h1, h2, h3, h4, h5⟩ := hM
  have hl : b.length < 16 := by simp only [List.length_cons] at h4; omega
  obtain ⟨h', r, hm, hs⟩ := c_pop (G := G) (d := d) (nx := nx) (sl := sl) (dep := b.length) h1 hl
  obtain ⟨e1, e2⟩ := xStk_pop h2
  rw [e1] at r
  exact ⟨h', r, ⟨vals, tg, sm, hm, e2, h3, by omega, h5⟩, hs⟩
theorem s_begin (hM : xMS a b e t h) : ∃ h', xRun G d 51 (0, [some (.ref a)], [], (h, nx, sl)) (none, (h', nx, sl)) ∧ xMS a [] [] true h' ∧ xsame a (a + 3) h h' := by
  obtain ⟨vals, tg, sm, h1, h2, h3, h4, h5⟩ := hM
  obtain ⟨h', r, hm, hs⟩ := c_begin (G := G) (d := d) (nx := nx) (sl := sl) h1
  exact ⟨h', r, ⟨vals, tg, sm, hm, fun j hj => by simp at hj, fun j hj => by simp at hj, by simp, by simp⟩, hs⟩
theorem s_keep {v : Int32} (c : Nat) (hM : xMS a (v :: b) e t h) (he : e.length < 8) (hd : 1 ≤ d) : ∃ h', xRun G d 54 (0, [some (.ref a), some (.int (nI c)), none], [], (h, nx, sl)) (none, (h', nx, sl)) ∧ xMS a b (e ++ [(c, v)]) t h' ∧ xsame a (a + 3) h h' := by
  obtain ⟨vals, tg, sm, h1, h2, h3, h4, h5⟩ := hM
  have hl : b.length < 16 := by simp only [List.length_cons] at h4; omega
  obtain ⟨h', r, hm, hs⟩ := c_keep (G := G) (d := d) (nx := nx) (sl := sl) (t := nI c) (dep := b.length) h1 hl he hd
  obtain ⟨e1, e2⟩ := xStk_pop h2
  rw [e1] at hm
  exact ⟨h', r, ⟨vals, _, _, by rw [show (e ++ [(c, v)]).length = e.length + 1 by simp]; exact hm, e2, xEff_add c v h3, by omega, by simp; omega⟩, hs⟩
theorem xMS_holds (t' : Bool) {g : xH} {vals tg sm : Nat → Int32} (h1 : xMach a b.length e.length (xbi t) vals tg sm h) (h2 : xStk b vals) (h3 : xEff e tg sm) (h4 : b.length ≤ 16) (h5 : e.length ≤ 8) (hg : g = xup h a (.inr (5, [.ref (a + 1), .ref (a + 2), .ref (a + 3), .int (nI b.length), .int (nI e.length), .int (xbi t')]))) : xMS a b e t' g ∧ xsame a (a + 3) h g := by
  obtain ⟨m, s⟩ := xMach_of h1 hg
  exact ⟨⟨vals, tg, sm, m, h2, h3, h4, h5⟩, s⟩
/-- what a step does with two values: a new value, or whether the test holds -/
def xcomb (k : Nat) (l r : Int32) (b : List Int32) (t : Bool) : Option (List Int32 × Bool) :=
  if k = 14 then some ((l + r) :: b, t) else if k = 15 then some ((l - r) :: b, t) else if k = 16 then some ((l * r) :: b, t)
  else if k = 10 then some (b, decide (l = r)) else if k = 11 then some (b, decide (¬ l = r)) else if k = 12 then some (b, decide (l < r)) else if k = 13 then some (b, decide (r < l)) else none
set_option maxHeartbeats 4000000 in
theorem s_combine {k : Nat} {l r : Int32} {b' : List Int32} {t' : Bool} (hM : xMS a (r :: l :: b) e t h) (hk : xcomb k l r b t = some (b', t')) (hd : 1 ≤ d) : ∃ h', xRun G d 56 (0, [some (.ref a), some (.int (nI k)), none, none], [], (h, nx, sl)) (none, (h', nx, sl)) ∧ xMS a b' e t' h' ∧ xsame a (a + 3) h h' := by
  have hM0 : ∃ x, h a = some (.inr (5, x)) := by
    obtain ⟨_, _, _, h1, -⟩ := hM
    exact ⟨_, h1.1⟩
  obtain ⟨x0, m0⟩ := hM0
  obtain ⟨h1, r1, hM1, s1⟩ := s_pop (G := G) (d := d - 1) (nx := nx) (sl := sl) hM
  have hM10 : ∃ x, h1 a = some (.inr (5, x)) := by
    obtain ⟨_, _, _, h1, -⟩ := hM1
    exact ⟨_, h1.1⟩
  obtain ⟨x1, m1⟩ := hM10
  obtain ⟨h2, r2, hM2, s2⟩ := s_pop (G := G) (d := d - 1) (nx := nx) (sl := sl) hM1
  have hbl : b.length < 16 := by
    obtain ⟨_, _, _, -, -, -, h4, -⟩ := hM1
    simp only [List.length_cons] at h4; omega
  have hM20 : ∃ x, h2 a = some (.inr (5, x)) := by
    obtain ⟨_, _, _, h1, -⟩ := hM2
    exact ⟨_, h1.1⟩
  obtain ⟨x2, m2⟩ := hM20
  have start : ∀ res, xRun G d 56 (11, [some (.ref a), some (.int (nI k)), some (.int r), some (.int l)], [.int (nI k)], (h2, nx, sl)) res → xRun G d 56 (0, [some (.ref a), some (.int (nI k)), none, none], [], (h, nx, sl)) res := by
    intro res hres
    refine xr_go i56_0 rfl ?_
    refine xr_V i56_1 xc56_71 ⟨rfl, rfl⟩ xa_55 rfl (by assumption) rfl (Nat.le_of_ble_eq_true rfl) (by omega) ⟨Nat.le_of_ble_eq_true rfl, Nat.le_of_ble_eq_true rfl⟩ (r1) ?_
    refine xr_go i56_4 rfl ?_
    refine xr_go i56_5 rfl ?_
    refine xr_V i56_6 xc56_71 ⟨rfl, rfl⟩ xa_55 rfl (by assumption) rfl (Nat.le_of_ble_eq_true rfl) (by omega) ⟨Nat.le_of_ble_eq_true rfl, Nat.le_of_ble_eq_true rfl⟩ (r2) ?_
    refine xr_go i56_9 rfl ?_
    refine xr_go i56_10 rfl ?_
    exact hres
  have push : ∀ v, ∃ h3, xRun G (d - 1) 53 (0, [some (.ref a), some (.int v)], [], (h2, nx, sl)) (none, (h3, nx, sl)) ∧ xMS a (v :: b) e t h3 ∧ xsame a (a + 3) h2 h3 := fun v => s_push v hM2 hbl
  have hold : ∀ t9 : Bool, ∃ g, g = xup h2 a (.inr (5, [.ref (a + 1), .ref (a + 2), .ref (a + 3), .int (nI b.length), .int (nI e.length), .int (xbi t9)])) ∧ xMS a b e t9 g ∧ xsame a (a + 3) h2 g := by
    intro t9
    obtain ⟨vals, tg, sm, q1, q2, q3, q4, q5⟩ := hM2
    exact ⟨_, rfl, xMS_holds t9 q1 q2 q3 q4 q5 rfl⟩
  have hfield : h2 a = some (.inr (5, [.ref (a + 1), .ref (a + 2), .ref (a + 3), .int (nI b.length), .int (nI e.length), .int (xbi t)])) := by
    obtain ⟨_, _, _, q1, -⟩ := hM2
    exact q1.1
  unfold xcomb at hk
  by_cases k14 : k = 14
  · rw [if_pos k14] at hk
    cases hk
    subst k14
    obtain ⟨h3, r3, hM3, s3⟩ := push (l + r)
    refine ⟨h3, start _ ?_, hM3, (s1.trans s2).trans s3⟩
    refine xr_go i56_11 rfl ?_
    refine xr_go i56_52 rfl ?_
    refine xr_go i56_53 rfl ?_
    refine xr_go i56_54 rfl ?_
    refine xr_go i56_55 rfl ?_
    refine xr_V i56_56 xc56_55 ⟨rfl, rfl⟩ xa_53 rfl (by assumption) rfl (Nat.le_of_ble_eq_true rfl) (by omega) ⟨Nat.le_of_ble_eq_true rfl, Nat.le_of_ble_eq_true rfl⟩ (r3) ?_
    refine xr_goto i56_59 (t := 147) (by decide) ?_
    exact xr_end i56_147 rfl
  rw [if_neg k14] at hk
  by_cases k15 : k = 15
  · rw [if_pos k15] at hk
    cases hk
    subst k15
    obtain ⟨h3, r3, hM3, s3⟩ := push (l - r)
    refine ⟨h3, start _ ?_, hM3, (s1.trans s2).trans s3⟩
    refine xr_go i56_11 rfl ?_
    refine xr_go i56_62 rfl ?_
    refine xr_go i56_63 rfl ?_
    refine xr_go i56_64 rfl ?_
    refine xr_go i56_65 rfl ?_
    refine xr_V i56_66 xc56_55 ⟨rfl, rfl⟩ xa_53 rfl (by assumption) rfl (Nat.le_of_ble_eq_true rfl) (by omega) ⟨Nat.le_of_ble_eq_true rfl, Nat.le_of_ble_eq_true rfl⟩ (r3) ?_
    refine xr_goto i56_69 (t := 147) (by decide) ?_
    exact xr_end i56_147 rfl
  rw [if_neg k15] at hk
  by_cases k16 : k = 16
  · rw [if_pos k16] at hk
    cases hk
    subst k16
    obtain ⟨h3, r3, hM3, s3⟩ := push (l * r)
    refine ⟨h3, start _ ?_, hM3, (s1.trans s2).trans s3⟩
    refine xr_go i56_11 rfl ?_
    refine xr_go i56_72 rfl ?_
    refine xr_go i56_73 rfl ?_
    refine xr_go i56_74 rfl ?_
    refine xr_go i56_75 rfl ?_
    refine xr_V i56_76 xc56_55 ⟨rfl, rfl⟩ xa_53 rfl (by assumption) rfl (Nat.le_of_ble_eq_true rfl) (by omega) ⟨Nat.le_of_ble_eq_true rfl, Nat.le_of_ble_eq_true rfl⟩ (r3) ?_
    refine xr_goto i56_79 (t := 147) (by decide) ?_
    exact xr_end i56_147 rfl
  rw [if_neg k16] at hk
  by_cases k10 : k = 10
  · rw [if_pos k10] at hk
    cases hk
    subst k10
    obtain ⟨g, eg, hMg, sg⟩ := hold (decide (l = r))
    refine ⟨g, start _ ?_, hMg, (s1.trans s2).trans sg⟩
    refine xr_go i56_11 rfl ?_
    refine xr_go i56_82 rfl ?_
    refine xr_go i56_83 rfl ?_
    refine xr_go i56_84 rfl ?_
    refine xr_icmp_ne i56_85 (t := 92) (by decide) (fun hc => ?_) (fun hc => ?_)
    · refine xr_go i56_92 rfl ?_
      refine xr_put i56_93 xf56_26 (by assumption) ⟨rfl, Nat.le_of_ble_eq_true rfl, rfl, rfl, Or.inl rfl⟩ (fun g1 eg1 => ?_)
      have hg : g1 = g := by rw [eg1, eg, decide_eq_false hc]; rfl
      rw [hg]
      refine xr_goto i56_96 (t := 147) (by decide) ?_
      exact xr_end i56_147 rfl
    · refine xr_go i56_88 rfl ?_
      refine xr_goto i56_89 (t := 93) (by decide) ?_
      refine xr_put i56_93 xf56_26 (by assumption) ⟨rfl, Nat.le_of_ble_eq_true rfl, rfl, rfl, Or.inl rfl⟩ (fun g1 eg1 => ?_)
      have hg : g1 = g := by rw [eg1, eg, decide_eq_true hc]; rfl
      rw [hg]
      refine xr_goto i56_96 (t := 147) (by decide) ?_
      exact xr_end i56_147 rfl
  rw [if_neg k10] at hk
  by_cases k11 : k = 11
  · rw [if_pos k11] at hk
    cases hk
    subst k11
    obtain ⟨g, eg, hMg, sg⟩ := hold (decide (¬ l = r))
    refine ⟨g, start _ ?_, hMg, (s1.trans s2).trans sg⟩
    refine xr_go i56_11 rfl ?_
    refine xr_go i56_99 rfl ?_
    refine xr_go i56_100 rfl ?_
    refine xr_go i56_101 rfl ?_
    refine xr_icmp_eq i56_102 (t := 109) (by decide) (fun hc => ?_) (fun hc => ?_)
    · refine xr_go i56_109 rfl ?_
      refine xr_put i56_110 xf56_26 (by assumption) ⟨rfl, Nat.le_of_ble_eq_true rfl, rfl, rfl, Or.inl rfl⟩ (fun g1 eg1 => ?_)
      have hg : g1 = g := by rw [eg1, eg, decide_eq_false (fun z => z hc)]; rfl
      rw [hg]
      refine xr_goto i56_113 (t := 147) (by decide) ?_
      exact xr_end i56_147 rfl
    · refine xr_go i56_105 rfl ?_
      refine xr_goto i56_106 (t := 110) (by decide) ?_
      refine xr_put i56_110 xf56_26 (by assumption) ⟨rfl, Nat.le_of_ble_eq_true rfl, rfl, rfl, Or.inl rfl⟩ (fun g1 eg1 => ?_)
      have hg : g1 = g := by rw [eg1, eg, decide_eq_true hc]; rfl
      rw [hg]
      refine xr_goto i56_113 (t := 147) (by decide) ?_
      exact xr_end i56_147 rfl
  rw [if_neg k11] at hk
  by_cases k12 : k = 12
  · rw [if_pos k12] at hk
    cases hk
    subst k12
    obtain ⟨g, eg, hMg, sg⟩ := hold (decide (l < r))
    refine ⟨g, start _ ?_, hMg, (s1.trans s2).trans sg⟩
    refine xr_go i56_11 rfl ?_
    refine xr_go i56_116 rfl ?_
    refine xr_go i56_117 rfl ?_
    refine xr_go i56_118 rfl ?_
    refine xr_icmp_ge i56_119 (t := 126) (by decide) (fun hc => ?_) (fun hc => ?_)
    · refine xr_go i56_126 rfl ?_
      refine xr_put i56_127 xf56_26 (by assumption) ⟨rfl, Nat.le_of_ble_eq_true rfl, rfl, rfl, Or.inl rfl⟩ (fun g1 eg1 => ?_)
      have hg : g1 = g := by rw [eg1, eg, decide_eq_false (Int32.not_lt.mpr hc)]; rfl
      rw [hg]
      refine xr_goto i56_130 (t := 147) (by decide) ?_
      exact xr_end i56_147 rfl
    · refine xr_go i56_122 rfl ?_
      refine xr_goto i56_123 (t := 127) (by decide) ?_
      refine xr_put i56_127 xf56_26 (by assumption) ⟨rfl, Nat.le_of_ble_eq_true rfl, rfl, rfl, Or.inl rfl⟩ (fun g1 eg1 => ?_)
      have hg : g1 = g := by rw [eg1, eg, decide_eq_true (Int32.not_le.mp hc)]; rfl
      rw [hg]
      refine xr_goto i56_130 (t := 147) (by decide) ?_
      exact xr_end i56_147 rfl
  rw [if_neg k12] at hk
  by_cases k13 : k = 13
  · rw [if_pos k13] at hk
    cases hk
    subst k13
    obtain ⟨g, eg, hMg, sg⟩ := hold (decide (r < l))
    refine ⟨g, start _ ?_, hMg, (s1.trans s2).trans sg⟩
    refine xr_go i56_11 rfl ?_
    refine xr_go i56_133 rfl ?_
    refine xr_go i56_134 rfl ?_
    refine xr_go i56_135 rfl ?_
    refine xr_icmp_le i56_136 (t := 143) (by decide) (fun hc => ?_) (fun hc => ?_)
    · refine xr_go i56_143 rfl ?_
      refine xr_put i56_144 xf56_26 (by assumption) ⟨rfl, Nat.le_of_ble_eq_true rfl, rfl, rfl, Or.inl rfl⟩ (fun g1 eg1 => ?_)
      have hg : g1 = g := by rw [eg1, eg, decide_eq_false (Int32.not_lt.mpr hc)]; rfl
      rw [hg]
      exact xr_end i56_147 rfl
    · refine xr_go i56_139 rfl ?_
      refine xr_goto i56_140 (t := 144) (by decide) ?_
      refine xr_put i56_144 xf56_26 (by assumption) ⟨rfl, Nat.le_of_ble_eq_true rfl, rfl, rfl, Or.inl rfl⟩ (fun g1 eg1 => ?_)
      have hg : g1 = g := by rw [eg1, eg, decide_eq_true (Int32.not_le.mp hc)]; rfl
      rw [hg]
      exact xr_end i56_147 rfl
  rw [if_neg k13] at hk
  cases hk
end XM2
end
section
/-! ===== the class does a write ===== -/
/-- all kept effects, in their order -/
def xchg (e : List (Nat × Int32)) (cl : Nat → Int32) : Nat → Int32 := e.foldl (fun c p => upd c p.1 p.2) cl
theorem xchg_snoc {e : List (Nat × Int32)} {p : Nat × Int32} {cl : Nat → Int32} : xchg (e ++ [p]) cl = upd (xchg e cl) p.1 p.2 := by simp [xchg]
theorem take_succ_getD {α : Type} {e : List α} {i : Nat} (z : α) (hi : i < e.length) : e.take (i + 1) = e.take i ++ [e.getD i z] := by
  rw [List.take_add_one, List.getD_eq_getElem?_getD, List.getElem?_eq_getElem hi]
  rfl
section XPERF
variable {G : xG} {d : Nat} {h : xH} {nx sl : Nat} {a ca : Nat} {b : List Int32} {e : List (Nat × Int32)} {t : Bool} {cl : Nat → Int32}
theorem s_change_loop (hM : xMS a b e t h) (hc : h ca = some (.inl (0, 32, .inl cl))) (hca : ca < a ∨ a + 3 < ca) (ht : ∀ p ∈ e, p.1 < 32) : ∀ n i g, i + n = e.length → g = xup h ca (.inl (0, 32, .inl (xchg (e.take i) cl))) → xRun G d 57 (2, [some (.ref a), some (.ref ca), some (.int (nI i))], [], (g, nx, sl)) (none, (xup h ca (.inl (0, 32, .inl (xchg e cl))), nx, sl)) := by
  obtain ⟨vals, tg, sm, ⟨m0, m1, m2, m3⟩, h2, h3, h4, h5⟩ := hM
  intro n
  induction n with
  | zero =>
    intro i g hi eg
    have k0 : g a = some (.inr (5, [.ref (a + 1), .ref (a + 2), .ref (a + 3), .int (nI b.length), .int (nI e.length), .int (xbi t)])) := by rw [eg, xup_n (by omega)]; exact m0
    refine xr_go i57_2 rfl ?_
    refine xr_go i57_3 rfl ?_
    refine xr_get i57_4 xf57_23 (by assumption) rfl rfl ?_
    refine xr_icmp_geT i57_7 (t := 30) (by decide) (nI_le (by omega) (by omega)) ?_
    rw [eg, show i = e.length by omega, List.take_length]
    exact xr_end i57_30 rfl
  | succ n ih =>
    intro i g hi eg
    have k0 : g a = some (.inr (5, [.ref (a + 1), .ref (a + 2), .ref (a + 3), .int (nI b.length), .int (nI e.length), .int (xbi t)])) := by rw [eg, xup_n (by omega)]; exact m0
    have k2 : g (a + 2) = some (.inl (0, 8, .inl tg)) := by rw [eg, xup_n (by omega)]; exact m2
    have k3 : g (a + 3) = some (.inl (0, 8, .inl sm)) := by rw [eg, xup_n (by omega)]; exact m3
    have kc : g ca = some (.inl (0, 32, .inl (xchg (e.take i) cl))) := by rw [eg]; exact xup_s
    have hlt : i < e.length := by omega
    obtain ⟨e1, e2⟩ := h3 i hlt
    have h32 : (e.getD i (0, 0)).1 < 32 := by
      apply ht
      rw [List.getD_eq_getElem?_getD, List.getElem?_eq_getElem hlt]
      exact List.getElem_mem hlt
    refine xr_go i57_2 rfl ?_
    refine xr_go i57_3 rfl ?_
    refine xr_get i57_4 xf57_23 (by assumption) rfl rfl ?_
    refine xr_icmp_geF i57_7 (t := 30) (by decide) (nI_ge (by omega) (by omega)) ?_
    refine xr_go i57_10 rfl ?_
    refine xr_go i57_11 rfl ?_
    refine xr_get i57_12 xf57_13 (by assumption) rfl rfl ?_
    refine xr_go i57_15 rfl ?_
    refine xr_iald i57_16 (by assumption) rfl (by omega) (by omega) ?_
    refine xr_go i57_17 rfl ?_
    refine xr_get i57_18 xf57_16 (by assumption) rfl rfl ?_
    refine xr_go i57_21 rfl ?_
    refine xr_iald i57_22 (by assumption) rfl (by omega) (by omega) ?_
    refine xr_iast i57_23 (by assumption) e1 (by omega) (by omega) (fun g1 eg1 => ?_)
    refine xr_inc1 i57_24 rfl rfl ?_
    refine xr_goto i57_27 (t := 2) (by decide) ?_
    refine ih (i + 1) g1 (by omega) ?_
    rw [eg1, eg, xup_same, take_succ_getD (0, 0) hlt, xchg_snoc, e2]
theorem s_change (hM : xMS a b e t h) (hc : h ca = some (.inl (0, 32, .inl cl))) (hca : ca < a ∨ a + 3 < ca) (ht : ∀ p ∈ e, p.1 < 32) : xRun G d 57 (0, [some (.ref a), some (.ref ca), none], [], (h, nx, sl)) (none, (xup h ca (.inl (0, 32, .inl (xchg e cl))), nx, sl)) := by
  refine xr_go i57_0 rfl ?_
  refine xr_go i57_1 rfl ?_
  refine s_change_loop hM hc hca ht e.length 0 h (by omega) ?_
  funext q
  by_cases hq : q = ca
  · subst hq
    rw [xup_s]
    exact hc
  · rw [xup_n hq]
/-- the state of a machine: stack, effects, whether the tests hold -/
abbrev xS : Type := List Int32 × List (Nat × Int32) × Bool
def xspush (v : Int32) (s : xS) : Option xS := if s.1.length < 16 then some (v :: s.1, s.2) else none
/-- one step -/
def xstep (sv sp : Int32) (cl : Nat → Int32) (k : Nat) (o : Int32) (s : xS) : Option xS :=
  if k = 9 then xspush o s
  else if k = 8 then (if ¬ o < 0 ∧ o.toNatClampNeg < 32 then xspush (cl o.toNatClampNeg) s else none)
  else if k = 6 then xspush sv s
  else if k = 7 then xspush sp s
  else if k = 17 then (match s.1 with
    | v :: b => if s.2.1.length < 8 ∧ ¬ o < 0 ∧ o.toNatClampNeg < 32 then some (b, s.2.1 ++ [(o.toNatClampNeg, v)], s.2.2) else none
    | [] => none)
  else (match s.1 with
    | r :: l :: b => (xcomb k l r b s.2.2).map (fun q => (q.1, s.2.1, q.2))
    | _ => none)
theorem xMS_at (hM : xMS a b e t h) : h a = some (.inr (5, [.ref (a + 1), .ref (a + 2), .ref (a + 3), .int (nI b.length), .int (nI e.length), .int (xbi t)])) := by
  obtain ⟨_, _, _, q1, -⟩ := hM
  exact q1.1
theorem nI_clampOf {o : Int32} (h : ¬ o < 0) : o = nI o.toNatClampNeg := by
  obtain ⟨j, hj, rfl⟩ := nI_of h
  rw [nI_clamp hj]
theorem xcomb_k {k : Nat} {l r : Int32} {b : List Int32} {t : Bool} {q : List Int32 × Bool} (h : xcomb k l r b t = some q) : 10 ≤ k ∧ k ≤ 16 := by
  unfold xcomb at h
  repeat' (split at h)
  all_goals first | omega | cases h
set_option maxHeartbeats 4000000 in
theorem s_doStep {k wa : Nat} {o sv sp : Int32} {w2 w3 : Value} {s s' : xS} (hM : xMS a s.1 s.2.1 s.2.2 h) (hw : h wa = some (.inr (9, [.int sv, .int sp, w2, w3]))) (hc : h ca = some (.inl (0, 32, .inl cl))) (hs : xstep sv sp cl k o s = some s') (hd : 2 ≤ d) : ∃ h', xRun G d 52 (0, [some (.ref a), some (.int (nI k)), some (.int o), some (.ref wa), some (.ref ca)], [], (h, nx, sl)) (none, (h', nx, sl)) ∧ xMS a s'.1 s'.2.1 s'.2.2 h' ∧ xsame a (a + 3) h h' := by
  obtain ⟨b, e, t⟩ := s
  have m0 := xMS_at hM
  unfold xstep at hs
  by_cases k9 : k = 9
  · rw [if_pos k9] at hs
    subst k9
    unfold xspush at hs
    split at hs
    · rename_i hl
      cases hs
      obtain ⟨h1, r1, hM1, s1⟩ := s_push (G := G) (d := d - 1) (nx := nx) (sl := sl) o hM hl
      refine ⟨h1, ?_, hM1, s1⟩
      refine xr_go i52_0 rfl ?_
      refine xr_go i52_1 rfl ?_
      refine xr_go i52_64 rfl ?_
      refine xr_go i52_65 rfl ?_
      refine xr_V i52_66 xc52_55 ⟨rfl, rfl⟩ xa_53 rfl (by assumption) rfl (Nat.le_of_ble_eq_true rfl) (by omega) ⟨Nat.le_of_ble_eq_true rfl, Nat.le_of_ble_eq_true rfl⟩ (r1) ?_
      refine xr_goto i52_69 (t := 118) (by decide) ?_
      exact xr_end i52_118 rfl
    · cases hs
  rw [if_neg k9] at hs
  by_cases k8 : k = 8
  · rw [if_pos k8] at hs
    subst k8
    split at hs
    · rename_i ho
      unfold xspush at hs
      split at hs
      · rename_i hl
        cases hs
        obtain ⟨h1, r1, hM1, s1⟩ := s_push (G := G) (d := d - 1) (nx := nx) (sl := sl) (cl o.toNatClampNeg) hM hl
        refine ⟨h1, ?_, hM1, s1⟩
        refine xr_go i52_0 rfl ?_
        refine xr_go i52_1 rfl ?_
        refine xr_go i52_72 rfl ?_
        refine xr_go i52_73 rfl ?_
        refine xr_go i52_75 rfl ?_
        refine xr_iald i52_76 (by assumption) (nI_clampOf ho.1) (by omega) (by omega) ?_
        refine xr_V i52_77 xc52_55 ⟨rfl, rfl⟩ xa_53 rfl (by assumption) rfl (Nat.le_of_ble_eq_true rfl) (by omega) ⟨Nat.le_of_ble_eq_true rfl, Nat.le_of_ble_eq_true rfl⟩ (r1) ?_
        refine xr_goto i52_80 (t := 118) (by decide) ?_
        exact xr_end i52_118 rfl
      · cases hs
    · cases hs
  rw [if_neg k8] at hs
  by_cases k6 : k = 6
  · rw [if_pos k6] at hs
    subst k6
    unfold xspush at hs
    split at hs
    · rename_i hl
      cases hs
      obtain ⟨h1, r1, hM1, s1⟩ := s_push (G := G) (d := d - 1) (nx := nx) (sl := sl) sv hM hl
      refine ⟨h1, ?_, hM1, s1⟩
      refine xr_go i52_0 rfl ?_
      refine xr_go i52_1 rfl ?_
      refine xr_go i52_83 rfl ?_
      refine xr_go i52_84 rfl ?_
      refine xr_get i52_85 xf52_59 (by assumption) rfl rfl ?_
      refine xr_V i52_88 xc52_55 ⟨rfl, rfl⟩ xa_53 rfl (by assumption) rfl (Nat.le_of_ble_eq_true rfl) (by omega) ⟨Nat.le_of_ble_eq_true rfl, Nat.le_of_ble_eq_true rfl⟩ (r1) ?_
      refine xr_goto i52_91 (t := 118) (by decide) ?_
      exact xr_end i52_118 rfl
    · cases hs
  rw [if_neg k6] at hs
  by_cases k7 : k = 7
  · rw [if_pos k7] at hs
    subst k7
    unfold xspush at hs
    split at hs
    · rename_i hl
      cases hs
      obtain ⟨h1, r1, hM1, s1⟩ := s_push (G := G) (d := d - 1) (nx := nx) (sl := sl) sp hM hl
      refine ⟨h1, ?_, hM1, s1⟩
      refine xr_go i52_0 rfl ?_
      refine xr_go i52_1 rfl ?_
      refine xr_go i52_94 rfl ?_
      refine xr_go i52_95 rfl ?_
      refine xr_get i52_96 xf52_62 (by assumption) rfl rfl ?_
      refine xr_V i52_99 xc52_55 ⟨rfl, rfl⟩ xa_53 rfl (by assumption) rfl (Nat.le_of_ble_eq_true rfl) (by omega) ⟨Nat.le_of_ble_eq_true rfl, Nat.le_of_ble_eq_true rfl⟩ (r1) ?_
      refine xr_goto i52_102 (t := 118) (by decide) ?_
      exact xr_end i52_118 rfl
    · cases hs
  rw [if_neg k7] at hs
  by_cases k17 : k = 17
  · rw [if_pos k17] at hs
    subst k17
    split at hs
    · rename_i v b' hb
      split at hs
      · rename_i hl
        cases hs
        dsimp only at hb
        subst hb
        obtain ⟨h1, r1, hM1, s1⟩ := s_keep (G := G) (d := d - 1) (nx := nx) (sl := sl) o.toNatClampNeg hM hl.1 (by omega)
        rw [← nI_clampOf hl.2.1] at r1
        refine ⟨h1, ?_, hM1, s1⟩
        refine xr_go i52_0 rfl ?_
        refine xr_go i52_1 rfl ?_
        refine xr_go i52_105 rfl ?_
        refine xr_go i52_106 rfl ?_
        refine xr_V i52_107 xc52_65 ⟨rfl, rfl⟩ xa_54 rfl (by assumption) rfl (Nat.le_of_ble_eq_true rfl) (by omega) ⟨Nat.le_of_ble_eq_true rfl, Nat.le_of_ble_eq_true rfl⟩ (r1) ?_
        refine xr_goto i52_110 (t := 118) (by decide) ?_
        exact xr_end i52_118 rfl
      · cases hs
    · cases hs
  rw [if_neg k17] at hs
  split at hs
  · rename_i r l b' hb
    obtain ⟨q, hq, he⟩ := Option.map_eq_some_iff.mp hs
    cases he
    dsimp only at hb
    subst hb
    obtain ⟨h1, r1, hM1, s1⟩ := s_combine (G := G) (d := d - 1) (nx := nx) (sl := sl) hM hq (by omega)
    refine ⟨h1, ?_, hM1, s1⟩
    have hk := xcomb_k hq
    have hgo : ∀ res, xRun G d 52 (113, [some (.ref a), some (.int (nI k)), some (.int o), some (.ref wa), some (.ref ca)], [], (h, nx, sl)) res → xRun G d 52 (1, [some (.ref a), some (.int (nI k)), some (.int o), some (.ref wa), some (.ref ca)], [.int (nI k)], (h, nx, sl)) res := by
      intro res hres
      have : k = 10 ∨ k = 11 ∨ k = 12 ∨ k = 13 ∨ k = 14 ∨ k = 15 ∨ k = 16 := by omega
      rcases this with rfl | rfl | rfl | rfl | rfl | rfl | rfl <;> exact xr_go i52_1 rfl hres
    refine xr_go i52_0 rfl ?_
    refine hgo _ ?_
    refine xr_go i52_113 rfl ?_
    refine xr_go i52_114 rfl ?_
    refine xr_V i52_115 xc52_68 ⟨rfl, rfl⟩ xa_56 rfl (by assumption) rfl (Nat.le_of_ble_eq_true rfl) (by omega) ⟨Nat.le_of_ble_eq_true rfl, Nat.le_of_ble_eq_true rfl⟩ (r1) ?_
    exact xr_end i52_118 rfl
  · cases hs
/-- a step's number as the program's row has it -/
def xkv (k : Nat) : Int32 := if k = 99 then -1 else nI k
/-- a whole write: its outcome, and the cells behind it -/
def xperf (sv sp : Int32) (cl : Nat → Int32) : List (Nat × Int32) → xS → Option (Int32 × (Nat → Int32))
  | [], _ => some (0, cl)
  | p :: rest, s => if p.1 = 99 then (if s.2.2 = true then (if s.2.1.all (fun q => decide (q.1 < 32)) = true then some (p.2, xchg s.2.1 cl) else none) else xperf sv sp cl rest ([], [], true))
    else if p.1 ≤ 20 then (if s.2.2 = true then (match xstep sv sp cl p.1 p.2 s with
      | some s' => xperf sv sp cl rest s'
      | none => none) else xperf sv sp cl rest s)
    else none
/-- a program's two rows -/
def xProg (pa sa oa : Nat) (pg : List (Nat × Int32)) (h : xH) : Prop := ∃ fs fo, h pa = some (.inr (8, [.ref sa, .ref oa])) ∧ h sa = some (.inl (0, pg.length, .inl fs)) ∧ h oa = some (.inl (0, pg.length, .inl fo)) ∧ (∀ i, i < pg.length → fs i = xkv (pg.getD i (0, 0)).1 ∧ fo i = (pg.getD i (0, 0)).2) ∧ pg.length ≤ 1000
theorem xkv_ne {k : Nat} (h : k ≤ 20) : xkv k = nI k ∧ ¬ nI k = -1 := by
  unfold xkv
  rw [if_neg (by omega)]
  refine ⟨rfl, fun z => ?_⟩
  have : nI k < 0 := by rw [z]; decide
  exact nI_pos (by omega) this
set_option maxHeartbeats 4000000 in
theorem s_perf_loop {wa pa sa oa : Nat} {sv sp : Int32} {w3 : Value} {pg : List (Nat × Int32)} (hd : 3 ≤ d) : ∀ (rest : List (Nat × Int32)) (i : Nat) (h : xH) (s : xS) (o : Int32) (cl' : Nat → Int32) (L5 : Option Value), pg.drop i = rest → i + rest.length = pg.length → xMS a s.1 s.2.1 s.2.2 h → h wa = some (.inr (9, [.int sv, .int sp, .ref pa, w3])) → xProg pa sa oa pg h → h ca = some (.inl (0, 32, .inl cl)) → (∀ q, q = wa ∨ q = pa ∨ q = sa ∨ q = oa ∨ q = ca → q < a ∨ a + 3 < q) → ca ≠ oa → xperf sv sp cl rest s = some (o, cl') →
    ∃ h', xRun G d 50 (12, [some (.ref a), some (.ref wa), some (.ref ca), some (.ref pa), some (.int (nI i)), L5], [], (h, nx, sl)) (some (.int o), (h', nx, sl)) ∧ h' ca = some (.inl (0, 32, .inl cl')) ∧ (∃ b e t, xMS a b e t h') ∧ ∀ q, q ≠ ca → (q < a ∨ a + 3 < q) → h' q = h q := by
  intro rest
  induction rest with
  | nil =>
    intro i h s o cl' L5 hdr hi hM hw hP hc hq hco hp
    obtain ⟨fs, fo, p0, p1, p2, p3, p4⟩ := hP
    simp only [List.length_nil, Nat.add_zero] at hi
    cases hp
    refine ⟨h, ?_, hc, ⟨_, _, _, hM⟩, fun _ _ _ => rfl⟩
    refine xr_go i50_12 rfl ?_
    refine xr_go i50_14 rfl ?_
    refine xr_get i50_15 xf50_39 (by assumption) rfl rfl ?_
    refine xr_alen i50_18 (by assumption) (by decide) ?_
    refine xr_icmp_geT i50_19 (t := 92) (by decide) (nI_le (by show pg.length ≤ i; omega) (by omega)) ?_
    refine xr_go i50_92 rfl ?_
    exact xr_iret i50_93 xt_50 rfl
  | cons p rest ih =>
    intro i h s o cl' L5 hdr hi hM hw hP hc hq hco hp
    have hP0 := hP
    obtain ⟨fs, fo, p0, p1, p2, p3, p4⟩ := hP
    simp only [List.length_cons] at hi
    have hil : i < pg.length := by omega
    have hpi : pg.getD i (0, 0) = p := by
      rw [List.getD_eq_getElem?_getD]
      have := congrArg (fun l => l[0]?) hdr
      simp only [List.getElem?_drop, Nat.add_zero, List.getElem?_cons_zero] at this
      rw [this]
      rfl
    have hdr2 : pg.drop (i + 1) = rest := by
      have := congrArg (fun l => l.drop 1) hdr
      simpa [List.drop_drop] using this
    obtain ⟨f1, f2⟩ := p3 i hil
    rw [hpi] at f1 f2
    have m0 := xMS_at hM
    have next : ∀ (h2 : xH) (s2 : xS) (L6 : Option Value), xMS a s2.1 s2.2.1 s2.2.2 h2 → xsame a (a + 3) h h2 → xperf sv sp cl rest s2 = some (o, cl') → ∃ h', xRun G d 50 (86, [some (.ref a), some (.ref wa), some (.ref ca), some (.ref pa), some (.int (nI i)), L6], [], (h2, nx, sl)) (some (.int o), (h', nx, sl)) ∧ h' ca = some (.inl (0, 32, .inl cl')) ∧ (∃ b e t, xMS a b e t h') ∧ ∀ q, q ≠ ca → (q < a ∨ a + 3 < q) → h' q = h q := by
      intro h2 s2 L6 hM2 hs2 hp2
      have tr : ∀ q, (q = wa ∨ q = pa ∨ q = sa ∨ q = oa ∨ q = ca) → h2 q = h q := fun q hq9 => hs2 q (hq q hq9)
      obtain ⟨h', r, g1, g2, g3⟩ := ih (i + 1) h2 s2 o cl' L6 hdr2 (by omega) hM2 ((tr wa (by simp)).trans hw) ⟨fs, fo, (tr pa (by simp)).trans p0, (tr sa (by simp)).trans p1, (tr oa (by simp)).trans p2, p3, p4⟩ ((tr ca (by simp)).trans hc) hq hco hp2
      refine ⟨h', ?_, g1, g2, fun q h1 h9 => (g3 q h1 h9).trans (hs2 q h9)⟩
      refine xr_inc1 i50_86 rfl rfl ?_
      refine xr_goto i50_89 (t := 12) (by decide) ?_
      exact r
    have head : ∀ res, xRun G d 50 (31, [some (.ref a), some (.ref wa), some (.ref ca), some (.ref pa), some (.int (nI i)), some (.int (xkv p.1))], [], (h, nx, sl)) res → xRun G d 50 (12, [some (.ref a), some (.ref wa), some (.ref ca), some (.ref pa), some (.int (nI i)), L5], [], (h, nx, sl)) res := by
      intro res hres
      refine xr_go i50_12 rfl ?_
      refine xr_go i50_14 rfl ?_
      refine xr_get i50_15 xf50_39 (by assumption) rfl rfl ?_
      refine xr_alen i50_18 (by assumption) (by decide) ?_
      refine xr_icmp_geF i50_19 (t := 92) (by decide) (nI_ge (b := pg.length) hil (by omega)) ?_
      refine xr_go i50_22 rfl ?_
      refine xr_get i50_23 xf50_39 (by assumption) rfl rfl ?_
      refine xr_go i50_26 rfl ?_
      refine xr_iald i50_28 (by assumption) rfl (by omega) (by omega) ?_
      rw [f1]
      refine xr_go i50_29 rfl ?_
      exact hres
    unfold xperf at hp
    by_cases k99 : p.1 = 99
    · rw [if_pos k99] at hp
      have hkv : xkv p.1 = -1 := by unfold xkv; rw [if_pos k99]
      by_cases ht : s.2.2 = true
      · rw [if_pos ht] at hp
        split at hp
        · rename_i hall
          cases hp
          have hall2 : ∀ q ∈ s.2.1, q.1 < 32 := fun q hq9 => of_decide_eq_true (List.all_eq_true.mp hall q hq9)
          have r1 := s_change (G := G) (d := d - 1) (nx := nx) (sl := sl) hM hc (hq ca (by simp)) hall2
          refine ⟨xup h ca (.inl (0, 32, .inl (xchg s.2.1 cl))), ?_, xup_s, ⟨s.1, s.2.1, s.2.2, ?_⟩, fun q h1 _ => xup_n h1⟩
          · refine head _ ?_
            have j2 : xup h ca (.inl (0, 32, .inl (xchg s.2.1 cl))) pa = some (.inr (8, [.ref sa, .ref oa])) := by
              rw [xup_n (fun z => by rw [z, hc] at p0; cases p0)]; exact p0
            rw [hkv]
            refine xr_go i50_31 rfl ?_
            refine xr_go i50_33 rfl ?_
            refine xr_icmp_eqT i50_34 (t := 62) (by decide) rfl ?_
            refine xr_go i50_62 rfl ?_
            refine xr_get i50_63 xf50_26 (by assumption) rfl rfl ?_
            refine xr_if_eqF i50_66 (t := 82) (by decide) (by rw [ht]; decide) ?_
            refine xr_go i50_69 rfl ?_
            refine xr_go i50_70 rfl ?_
            have j3 : xup h ca (.inl (0, 32, .inl (xchg s.2.1 cl))) oa = some (.inl (0, pg.length, .inl fo)) := by
              rw [xup_n (Ne.symm hco)]; exact p2
            refine xr_V i50_71 xc50_51 ⟨rfl, rfl⟩ xa_57 rfl (by assumption) rfl (Nat.le_of_ble_eq_true rfl) (by omega) ⟨Nat.le_of_ble_eq_true rfl, Nat.le_of_ble_eq_true rfl⟩ (r1) ?_
            refine xr_go i50_74 rfl ?_
            refine xr_get i50_75 xf50_44 (by assumption) rfl rfl ?_
            refine xr_go i50_78 rfl ?_
            refine xr_iald i50_80 (by assumption) rfl (by omega) (by omega) ?_
            rw [f2]
            exact xr_iret i50_81 xt_50 rfl
          · obtain ⟨vals, tg, sm, ⟨q0, q1, q2, q3⟩, q5⟩ := hM
            have hqc := hq ca (by simp)
            exact ⟨vals, tg, sm, ⟨by rw [xup_n (by omega)]; exact q0, by rw [xup_n (by omega)]; exact q1, by rw [xup_n (by omega)]; exact q2, by rw [xup_n (by omega)]; exact q3⟩, q5⟩
        · cases hp
      · rw [if_neg ht] at hp
        obtain ⟨h1, r1, hM1, s1⟩ := s_begin (G := G) (d := d - 1) (nx := nx) (sl := sl) hM
        obtain ⟨h', r, g⟩ := next h1 ([], [], true) (some (.int (-1))) hM1 s1 hp
        refine ⟨h', head _ ?_, g⟩
        rw [hkv]
        have hz : xbi s.2.2 = 0 := by unfold xbi; rw [if_neg ht]
        refine xr_go i50_31 rfl ?_
        refine xr_go i50_33 rfl ?_
        refine xr_icmp_eqT i50_34 (t := 62) (by decide) rfl ?_
        refine xr_go i50_62 rfl ?_
        refine xr_get i50_63 xf50_26 (by assumption) rfl rfl ?_
        refine xr_if_eqT i50_66 (t := 82) (by decide) hz ?_
        refine xr_go i50_82 rfl ?_
        refine xr_V i50_83 xc50_36 ⟨rfl, rfl⟩ xa_51 rfl (by assumption) rfl (Nat.le_of_ble_eq_true rfl) (by omega) ⟨Nat.le_of_ble_eq_true rfl, Nat.le_of_ble_eq_true rfl⟩ (r1) ?_
        exact r
    · rw [if_neg k99] at hp
      split at hp
      · rename_i h20
        obtain ⟨e1, e2⟩ := xkv_ne h20
        by_cases ht : s.2.2 = true
        · rw [if_pos ht] at hp
          split at hp
          · rename_i s' hs'
            obtain ⟨h1, r1, hM1, s1⟩ := s_doStep (G := G) (d := d - 1) (nx := nx) (sl := sl) hM hw hc hs' (by omega)
            obtain ⟨h', r, g⟩ := next h1 s' (some (.int (nI p.1))) hM1 s1 hp
            refine ⟨h', head _ ?_, g⟩
            rw [e1]
            refine xr_go i50_31 rfl ?_
            refine xr_go i50_33 rfl ?_
            refine xr_icmp_eqF i50_34 (t := 62) (by decide) e2 ?_
            refine xr_go i50_37 rfl ?_
            refine xr_get i50_38 xf50_26 (by assumption) rfl rfl ?_
            refine xr_if_eqF i50_41 (t := 86) (by decide) (by rw [ht]; decide) ?_
            refine xr_go i50_44 rfl ?_
            refine xr_go i50_45 rfl ?_
            refine xr_go i50_47 rfl ?_
            refine xr_get i50_48 xf50_44 (by assumption) rfl rfl ?_
            refine xr_go i50_51 rfl ?_
            refine xr_iald i50_53 (by assumption) rfl (by omega) (by omega) ?_
            rw [f2]
            refine xr_go i50_54 rfl ?_
            refine xr_go i50_55 rfl ?_
            refine xr_V i50_56 xc50_47 ⟨rfl, rfl⟩ xa_52 rfl (by assumption) rfl (Nat.le_of_ble_eq_true rfl) (by omega) ⟨Nat.le_of_ble_eq_true rfl, Nat.le_of_ble_eq_true rfl⟩ (r1) ?_
            refine xr_goto i50_59 (t := 86) (by decide) ?_
            exact r
          · cases hp
        · rw [if_neg ht] at hp
          obtain ⟨h', r, g⟩ := next h s (some (.int (nI p.1))) hM xsame.refl hp
          refine ⟨h', head _ ?_, g⟩
          have hz : xbi s.2.2 = 0 := by unfold xbi; rw [if_neg ht]
          rw [e1]
          refine xr_go i50_31 rfl ?_
          refine xr_go i50_33 rfl ?_
          refine xr_icmp_eqF i50_34 (t := 62) (by decide) e2 ?_
          refine xr_go i50_37 rfl ?_
          refine xr_get i50_38 xf50_26 (by assumption) rfl rfl ?_
          refine xr_if_eqT i50_41 (t := 86) (by decide) hz ?_
          exact r
      · cases hp
theorem s_perform {wa pa sa oa : Nat} {sv sp : Int32} {w3 : Value} {pg : List (Nat × Int32)} {o : Int32} {cl' : Nat → Int32} (hd : 3 ≤ d) (hM : xMS a b e t h) (hw : h wa = some (.inr (9, [.int sv, .int sp, .ref pa, w3]))) (hP : xProg pa sa oa pg h) (hc : h ca = some (.inl (0, 32, .inl cl))) (hq : ∀ q, q = wa ∨ q = pa ∨ q = sa ∨ q = oa ∨ q = ca → q < a ∨ a + 3 < q) (hco : ca ≠ oa) (hp : xperf sv sp cl pg ([], [], true) = some (o, cl')) :
    ∃ h', xRun G d 50 (0, [some (.ref a), some (.ref wa), some (.ref ca), none, none, none], [], (h, nx, sl)) (some (.int o), (h', nx, sl)) ∧ h' ca = some (.inl (0, 32, .inl cl')) ∧ (∃ b e t, xMS a b e t h') ∧ ∀ q, q ≠ ca → (q < a ∨ a + 3 < q) → h' q = h q := by
  have m0 := xMS_at hM
  obtain ⟨h1, r1, hM1, s1⟩ := s_begin (G := G) (d := d - 1) (nx := nx) (sl := sl) hM
  have tr : ∀ q, (q = wa ∨ q = pa ∨ q = sa ∨ q = oa ∨ q = ca) → h1 q = h q := fun q hq9 => s1 q (hq q hq9)
  obtain ⟨fs, fo, p0, p1, p2, p3, p4⟩ := hP
  obtain ⟨h', r, g1, g2, g3⟩ := s_perf_loop (G := G) (nx := nx) (sl := sl) (pg := pg) hd pg 0 h1 ([], [], true) o cl' none rfl (by omega) hM1 ((tr wa (by simp)).trans hw) ⟨fs, fo, (tr pa (by simp)).trans p0, (tr sa (by simp)).trans p1, (tr oa (by simp)).trans p2, p3, p4⟩ ((tr ca (by simp)).trans hc) hq hco hp
  refine ⟨h', ?_, g1, g2, fun q h1 h9 => (g3 q h1 h9).trans (s1 q h9)⟩
  refine xr_go i50_0 rfl ?_
  refine xr_get i50_1 xf50_30 (by assumption) rfl rfl ?_
  refine xr_go i50_4 rfl ?_
  refine xr_go i50_5 rfl ?_
  refine xr_V i50_6 xc50_36 ⟨rfl, rfl⟩ xa_51 rfl (by assumption) rfl (Nat.le_of_ble_eq_true rfl) (by omega) ⟨Nat.le_of_ble_eq_true rfl, Nat.le_of_ble_eq_true rfl⟩ (r1) ?_
  refine xr_go i50_9 rfl ?_
  refine xr_go i50_10 rfl ?_
  exact r
end XPERF
end
section
/-! ===== the class's small methods ===== -/
def xrng (n : Nat) (x : Int32) : Bool := decide (0 ≤ x) && decide (x < nI n)
theorem xrng_of {n : Nat} {x : Int32} (hn : n < 2 ^ 31) (h : xrng n x = true) : ∃ j, j < n ∧ x = nI j := by
  unfold xrng at h
  simp only [Bool.and_eq_true, decide_eq_true_eq] at h
  obtain ⟨j, hj, rfl⟩ := nI_of (Int32.not_lt.mpr h.1)
  exact ⟨j, (nI_ltI hj hn).mp h.2, rfl⟩
theorem xrng_nI {n j : Nat} (hn : n < 2 ^ 31) (h : j < n) : xrng n (nI j) = true := by
  unfold xrng
  simp only [Bool.and_eq_true, decide_eq_true_eq]
  exact ⟨nI_pos' (by omega), nI_lt h hn⟩
theorem xbi_t {t : Bool} (h : t = true) : xbi t = 1 := by rw [h]; rfl
theorem xbi_f {t : Bool} (h : t = false) : xbi t = 0 := by rw [h]; rfl
theorem xbi_n (t : Bool) : narrow .boolean (.int (xbi t)) = .int (xbi t) := by cases t <;> rfl
theorem xbi_0 {t : Bool} : xbi t = 0 ↔ t = false := by cases t <;> decide
section XLEAF
variable {G : xG} {d : Nat} {h : xH} {nx sl : Nat}
theorem s_isCell (x : Int32) : xRun G d 4 (0, [some (.int x)], [], (h, nx, sl)) (some (.int (xbi (xrng 32 x))), (h, nx, sl)) := by
  refine xr_go i4_0 rfl ?_
  refine xr_if_lt i4_1 (t := 14) (by decide) (fun hc => ?_) (fun hc => ?_)
  · rw [xbi_f (show xrng 32 x = false by unfold xrng; rw [decide_eq_false (fun z => Int32.not_lt.mpr z hc)]; rfl)]
    refine xr_go i4_14 rfl ?_
    exact xr_iret i4_15 xt_4 rfl
  · refine xr_go i4_4 rfl ?_
    refine xr_go i4_5 rfl ?_
    refine xr_icmp_ge i4_7 (t := 14) (by decide) (fun hc2 => ?_) (fun hc2 => ?_)
    · rw [xbi_f (show xrng 32 x = false by unfold xrng; rw [decide_eq_false (p := x < nI 32) (fun z => Int32.not_lt.mpr hc2 z)]; simp)]
      refine xr_go i4_14 rfl ?_
      exact xr_iret i4_15 xt_4 rfl
    · rw [xbi_t (show xrng 32 x = true by unfold xrng; rw [decide_eq_true (Int32.not_lt.mp hc), decide_eq_true (p := x < nI 32) (Int32.not_le.mp hc2)]; rfl)]
      refine xr_go i4_10 rfl ?_
      refine xr_goto i4_11 (t := 15) (by decide) ?_
      exact xr_iret i4_15 xt_4 rfl
theorem s_isServer (x : Int32) : xRun G d 6 (0, [some (.int x)], [], (h, nx, sl)) (some (.int (xbi (xrng 5 x))), (h, nx, sl)) := by
  refine xr_go i6_0 rfl ?_
  refine xr_if_lt i6_1 (t := 13) (by decide) (fun hc => ?_) (fun hc => ?_)
  · rw [xbi_f (show xrng 5 x = false by unfold xrng; rw [decide_eq_false (fun z => Int32.not_lt.mpr z hc)]; rfl)]
    refine xr_go i6_13 rfl ?_
    exact xr_iret i6_14 xt_6 rfl
  · refine xr_go i6_4 rfl ?_
    refine xr_go i6_5 rfl ?_
    refine xr_icmp_ge i6_6 (t := 13) (by decide) (fun hc2 => ?_) (fun hc2 => ?_)
    · rw [xbi_f (show xrng 5 x = false by unfold xrng; rw [decide_eq_false (p := x < nI 5) (fun z => Int32.not_lt.mpr hc2 z)]; simp)]
      refine xr_go i6_13 rfl ?_
      exact xr_iret i6_14 xt_6 rfl
    · rw [xbi_t (show xrng 5 x = true by unfold xrng; rw [decide_eq_true (Int32.not_lt.mp hc), decide_eq_true (p := x < nI 5) (Int32.not_le.mp hc2)]; rfl)]
      refine xr_go i6_9 rfl ?_
      refine xr_goto i6_10 (t := 14) (by decide) ?_
      exact xr_iret i6_14 xt_6 rfl
theorem s_isSession (x : Int32) : xRun G d 7 (0, [some (.int x)], [], (h, nx, sl)) (some (.int (xbi (xrng 8 x))), (h, nx, sl)) := by
  refine xr_go i7_0 rfl ?_
  refine xr_if_lt i7_1 (t := 14) (by decide) (fun hc => ?_) (fun hc => ?_)
  · rw [xbi_f (show xrng 8 x = false by unfold xrng; rw [decide_eq_false (fun z => Int32.not_lt.mpr z hc)]; rfl)]
    refine xr_go i7_14 rfl ?_
    exact xr_iret i7_15 xt_7 rfl
  · refine xr_go i7_4 rfl ?_
    refine xr_go i7_5 rfl ?_
    refine xr_icmp_ge i7_7 (t := 14) (by decide) (fun hc2 => ?_) (fun hc2 => ?_)
    · rw [xbi_f (show xrng 8 x = false by unfold xrng; rw [decide_eq_false (p := x < nI 8) (fun z => Int32.not_lt.mpr hc2 z)]; simp)]
      refine xr_go i7_14 rfl ?_
      exact xr_iret i7_15 xt_7 rfl
    · rw [xbi_t (show xrng 8 x = true by unfold xrng; rw [decide_eq_true (Int32.not_lt.mp hc), decide_eq_true (p := x < nI 8) (Int32.not_le.mp hc2)]; rfl)]
      refine xr_go i7_10 rfl ?_
      refine xr_goto i7_11 (t := 15) (by decide) ?_
      exact xr_iret i7_15 xt_7 rfl
/-- one write comes before another -/
def xbef (sv sp sv' sp' : Int32) : Bool := decide (sp < sp') || (decide (sp = sp') && decide (sv < sv'))
theorem s_before {a b : Nat} {sv sp sv' sp' : Int32} {x2 x3 y2 y3 : Value} (ha : h a = some (.inr (9, [.int sv, .int sp, x2, x3]))) (hb : h b = some (.inr (9, [.int sv', .int sp', y2, y3]))) : xRun G d 78 (0, [some (.ref a), some (.ref b)], [], (h, nx, sl)) (some (.int (xbi (xbef sv sp sv' sp'))), (h, nx, sl)) := by
  unfold xbef
  refine xr_go i78_0 rfl ?_
  refine xr_get i78_1 xf78_16 (by assumption) rfl rfl ?_
  refine xr_go i78_4 rfl ?_
  refine xr_get i78_5 xf78_16 (by assumption) rfl rfl ?_
  refine xr_icmp_lt i78_8 (t := 33) (by decide) (fun hc => ?_) (fun hc => ?_)
  · rw [decide_eq_true hc, Bool.true_or]
    refine xr_go i78_33 rfl ?_
    refine xr_goto i78_34 (t := 38) (by decide) ?_
    exact xr_iret i78_38 xt_78 rfl
  · rw [decide_eq_false hc, Bool.false_or]
    refine xr_go i78_11 rfl ?_
    refine xr_get i78_12 xf78_16 (by assumption) rfl rfl ?_
    refine xr_go i78_15 rfl ?_
    refine xr_get i78_16 xf78_16 (by assumption) rfl rfl ?_
    refine xr_icmp_ne i78_19 (t := 37) (by decide) (fun hc2 => ?_) (fun hc2 => ?_)
    · rw [decide_eq_false hc2, Bool.false_and]
      refine xr_go i78_37 rfl ?_
      exact xr_iret i78_38 xt_78 rfl
    · rw [decide_eq_true hc2, Bool.true_and]
      refine xr_go i78_22 rfl ?_
      refine xr_get i78_23 xf78_13 (by assumption) rfl rfl ?_
      refine xr_go i78_26 rfl ?_
      refine xr_get i78_27 xf78_13 (by assumption) rfl rfl ?_
      refine xr_icmp_ge i78_30 (t := 37) (by decide) (fun hc3 => ?_) (fun hc3 => ?_)
      · rw [decide_eq_false (Int32.not_lt.mpr hc3)]
        refine xr_go i78_37 rfl ?_
        exact xr_iret i78_38 xt_78 rfl
      · rw [decide_eq_true (Int32.not_le.mp hc3)]
        refine xr_go i78_33 rfl ?_
        refine xr_goto i78_34 (t := 38) (by decide) ?_
        exact xr_iret i78_38 xt_78 rfl
theorem s_has {a k : Nat} {x : Int32} {v0 v1 v3 : Value} (ha : h a = some (.inr (4, [v0, v1, .int (nI k), v3]))) : xRun G d 48 (0, [some (.ref a), some (.int x)], [], (h, nx, sl)) (some (.int (xbi (xrng k x))), (h, nx, sl)) := by
  unfold xrng
  refine xr_go i48_0 rfl ?_
  refine xr_if_lt i48_1 (t := 16) (by decide) (fun hc => ?_) (fun hc => ?_)
  · rw [decide_eq_false (fun z => Int32.not_lt.mpr z hc), Bool.false_and]
    refine xr_go i48_16 rfl ?_
    exact xr_iret i48_17 xt_48 rfl
  · rw [decide_eq_true (Int32.not_lt.mp hc), Bool.true_and]
    refine xr_go i48_4 rfl ?_
    refine xr_go i48_5 rfl ?_
    refine xr_get i48_6 xf48_21 (by assumption) rfl rfl ?_
    refine xr_icmp_ge i48_9 (t := 16) (by decide) (fun hc2 => ?_) (fun hc2 => ?_)
    · rw [decide_eq_false (Int32.not_lt.mpr hc2)]
      refine xr_go i48_16 rfl ?_
      exact xr_iret i48_17 xt_48 rfl
    · rw [decide_eq_true (Int32.not_le.mp hc2)]
      refine xr_go i48_12 rfl ?_
      refine xr_goto i48_13 (t := 17) (by decide) ?_
      exact xr_iret i48_17 xt_48 rfl
theorem s_add {a wa b k : Nat} {v1 v3 : Value} {f : Nat → Option Nat} {ew : List Value} (ha : h a = some (.inr (4, [.ref b, v1, .int (nI k), v3]))) (hb : h b = some (.inl (3, 500, .inr (.inr (.inr (.inr f)))))) (hw : h wa = some (.inr (9, ew))) (hab : a ≠ b) (hk : k < 500) : xRun G d 46 (0, [some (.ref a), some (.ref wa)], [], (h, nx, sl)) (some (.int (nI k)), (xup (xup h b (.inl (3, 500, .inr (.inr (.inr (.inr (va_up f k (some wa)))))))) a (.inr (4, [.ref b, v1, .int (nI (k + 1)), v3])), nx, sl)) := by
  refine xr_go i46_0 rfl ?_
  refine xr_get i46_1 xf46_11 (by assumption) rfl rfl ?_
  refine xr_go i46_4 rfl ?_
  refine xr_get i46_5 xf46_21 (by assumption) rfl rfl ?_
  refine xr_go i46_8 rfl ?_
  refine xr_aast i46_9 (by assumption) rfl (by omega) (by omega) (by assumption) rfl (fun g1 eg1 => ?_)
  have k0 : g1 a = some (.inr (4, [.ref b, v1, .int (nI k), v3])) := by rw [eg1, xup_n hab]; exact ha
  refine xr_go i46_10 rfl ?_
  refine xr_go i46_11 rfl ?_
  refine xr_get i46_12 xf46_21 (by assumption) rfl rfl ?_
  refine xr_go i46_15 rfl ?_
  refine xr_go i46_16 rfl ?_
  refine xr_put i46_17 xf46_21 (by assumption) ⟨rfl, Nat.le_of_ble_eq_true rfl, rfl, rfl, Or.inl rfl⟩ (fun g2 eg2 => ?_)
  have hg : g2 = xup (xup h b (.inl (3, 500, .inr (.inr (.inr (.inr (va_up f k (some wa)))))))) a (.inr (4, [.ref b, v1, .int (nI (k + 1)), v3])) := by
    rw [eg2, eg1]
    show xup _ a (.inr (4, [.ref b, v1, .int (nI k + 1), v3])) = _
    rw [nI_1]
  have k2 : g2 a = some (.inr (4, [.ref b, v1, .int (nI (k + 1)), v3])) := by rw [hg]; exact xup_s
  refine xr_go i46_20 rfl ?_
  refine xr_get i46_21 xf46_21 (by assumption) rfl rfl ?_
  refine xr_go i46_24 rfl ?_
  refine xr_go i46_25 rfl ?_
  rw [← hg]
  refine xr_top (nI_pred k) ?_
  exact xr_iret i46_26 xt_46 rfl
theorem s_commitNext {a wa b c k j : Nat} {v2 : Value} {f : Nat → Option Nat} {cm : Nat → Int32} {x0 x1 x2 x3 : Value} (ha : h a = some (.inr (4, [.ref b, .ref c, v2, .int (nI k)]))) (hb : h b = some (.inl (3, 500, .inr (.inr (.inr (.inr f)))))) (hc : h c = some (.inl (0, 500, .inl cm))) (hw : h wa = some (.inr (9, [x0, x1, x2, x3]))) (hf : f j = some wa) (hj : j < 500) (hk : k < 500) (hac : a ≠ c) (hbc : b ≠ c) (hab : a ≠ b) (hwa : wa ≠ a ∧ wa ≠ c ∧ wa ≠ b) : xRun G d 47 (0, [some (.ref a), some (.int (nI j))], [], (h, nx, sl)) (none, (xup (xup (xup h c (.inl (0, 500, .inl (upd cm k (nI j))))) a (.inr (4, [.ref b, .ref c, v2, .int (nI (k + 1))]))) wa (.inr (9, [x0, x1, x2, .int (nI (k + 1))])), nx, sl)) := by
  refine xr_go i47_0 rfl ?_
  refine xr_get i47_1 xf47_17 (by assumption) rfl rfl ?_
  refine xr_go i47_4 rfl ?_
  refine xr_get i47_5 xf47_25 (by assumption) rfl rfl ?_
  refine xr_go i47_8 rfl ?_
  refine xr_iast i47_9 (by assumption) rfl (by omega) (by omega) (fun g1 eg1 => ?_)
  have k0 : g1 a = some (.inr (4, [.ref b, .ref c, v2, .int (nI k)])) := by rw [eg1, xup_n hac]; exact ha
  have k1 : g1 b = some (.inl (3, 500, .inr (.inr (.inr (.inr f))))) := by rw [eg1, xup_n hbc]; exact hb
  have k2 : g1 wa = some (.inr (9, [x0, x1, x2, x3])) := by rw [eg1, xup_n hwa.2.1]; exact hw
  refine xr_go i47_10 rfl ?_
  refine xr_go i47_11 rfl ?_
  refine xr_get i47_12 xf47_25 (by assumption) rfl rfl ?_
  refine xr_go i47_15 rfl ?_
  refine xr_go i47_16 rfl ?_
  refine xr_put i47_17 xf47_25 (by assumption) ⟨rfl, Nat.le_of_ble_eq_true rfl, rfl, rfl, Or.inl rfl⟩ (fun g2 eg2 => ?_)
  have eg2 : g2 = xup g1 a (.inr (4, [.ref b, .ref c, v2, .int (nI (k + 1))])) := by
    rw [eg2]
    show xup _ a (.inr (4, [.ref b, .ref c, v2, .int (nI k + 1)])) = _
    rw [nI_1]
  have j0 : g2 a = some (.inr (4, [.ref b, .ref c, v2, .int (nI (k + 1))])) := by rw [eg2]; exact xup_s
  have j1 : g2 b = some (.inl (3, 500, .inr (.inr (.inr (.inr f))))) := by rw [eg2, xup_n (Ne.symm hab)]; exact k1
  have j2 : g2 wa = some (.inr (9, [x0, x1, x2, x3])) := by rw [eg2, xup_n hwa.1]; exact k2
  refine xr_go i47_20 rfl ?_
  refine xr_get i47_21 xf47_11 (by assumption) rfl rfl ?_
  refine xr_go i47_24 rfl ?_
  refine xr_aald i47_25 (by assumption) (by decide) rfl (by omega) (by omega) (by assumption) ?_
  refine xr_go i47_26 rfl ?_
  refine xr_get i47_27 xf47_25 (by assumption) rfl rfl ?_
  refine xr_put i47_30 xf47_28 (by assumption) ⟨rfl, Nat.le_of_ble_eq_true rfl, rfl, rfl, Or.inl rfl⟩ (fun g3 eg3 => ?_)
  have hg : g3 = xup (xup (xup h c (.inl (0, 500, .inl (upd cm k (nI j))))) a (.inr (4, [.ref b, .ref c, v2, .int (nI (k + 1))]))) wa (.inr (9, [x0, x1, x2, .int (nI (k + 1))])) := by
    rw [eg3, eg2, eg1]
    rfl
  rw [hg]
  exact xr_end i47_33 rfl
theorem s_assures {a : Nat} {v0 v1 : Value} {bits x : Int32} (ha : h a = some (.inr (7, [v0, v1, .int bits]))) : xRun G d 71 (0, [some (.ref a), some (.int x)], [], (h, nx, sl)) (some (.int (xbi (decide (¬ bits &&& x = 0)))), (h, nx, sl)) := by
  refine xr_go i71_0 rfl ?_
  refine xr_get i71_1 xf71_18 (by assumption) rfl rfl ?_
  refine xr_go i71_4 rfl ?_
  refine xr_go i71_5 rfl ?_
  refine xr_if_eq i71_6 (t := 13) (by decide) (fun hc => ?_) (fun hc => ?_)
  · rw [decide_eq_false (fun z => z hc)]
    refine xr_go i71_13 rfl ?_
    exact xr_iret i71_14 xt_71 rfl
  · rw [decide_eq_true hc]
    refine xr_go i71_9 rfl ?_
    refine xr_goto i71_10 (t := 14) (by decide) ?_
    exact xr_iret i71_14 xt_71 rfl
/-- five numbers are at least five others -/
def xatl (f g : Nat → Int32) : Nat → Bool
  | 0 => true
  | n + 1 => xatl f g n && decide (g n ≤ f n)
theorem xatl_iff {f g : Nat → Int32} {n : Nat} : xatl f g n = true ↔ ∀ j, j < n → g j ≤ f j := by
  induction n with
  | zero => simp [xatl]
  | succ n ih =>
    simp only [xatl, Bool.and_eq_true, decide_eq_true_eq, ih]
    constructor
    · intro hz j hj
      rcases Nat.lt_succ_iff_lt_or_eq.mp hj with hj | rfl
      · exact hz.1 j hj
      · exact hz.2
    · exact fun hz => ⟨fun j hj => hz j (by omega), hz n (by omega)⟩
theorem s_atLeast_loop {a b : Nat} {f g : Nat → Int32} (ha : h a = some (.inl (0, 5, .inl f))) (hb : h b = some (.inl (0, 5, .inl g))) : ∀ n i, i + n = 5 → (∀ j, j < i → g j ≤ f j) → xRun G d 72 (2, [some (.ref a), some (.ref b), some (.int (nI i))], [], (h, nx, sl)) (some (.int (xbi (xatl f g 5))), (h, nx, sl)) := by
  intro n
  induction n with
  | zero =>
    intro i hi hj
    rw [xbi_t (xatl_iff.mpr (fun j h9 => hj j (by omega)))]
    refine xr_go i72_2 rfl ?_
    refine xr_go i72_3 rfl ?_
    refine xr_icmp_geT i72_4 (t := 24) (by decide) (nI_le (a := 5) (by omega) (by omega)) ?_
    refine xr_go i72_24 rfl ?_
    exact xr_iret i72_25 xt_72 rfl
  | succ n ih =>
    intro i hi hj
    refine xr_go i72_2 rfl ?_
    refine xr_go i72_3 rfl ?_
    refine xr_icmp_geF i72_4 (t := 24) (by decide) (nI_ge (b := 5) (by omega) (by omega)) ?_
    refine xr_go i72_7 rfl ?_
    refine xr_go i72_8 rfl ?_
    refine xr_iald i72_9 (by assumption) rfl (by omega) (by omega) ?_
    refine xr_go i72_10 rfl ?_
    refine xr_go i72_11 rfl ?_
    refine xr_iald i72_12 (by assumption) rfl (by omega) (by omega) ?_
    refine xr_icmp_ge i72_13 (t := 18) (by decide) (fun hc => ?_) (fun hc => ?_)
    · refine xr_inc1 i72_18 rfl rfl ?_
      refine xr_goto i72_21 (t := 2) (by decide) ?_
      refine ih (i + 1) (by omega) (fun j h9 => ?_)
      rcases Nat.lt_succ_iff_lt_or_eq.mp h9 with h9 | rfl
      · exact hj j h9
      · exact hc
    · rw [xbi_f (show xatl f g 5 = false by
        cases hz : xatl f g 5 with
        | false => rfl
        | true => exact absurd (xatl_iff.mp hz i (by omega)) hc)]
      refine xr_go i72_16 rfl ?_
      exact xr_iret i72_17 xt_72 rfl
theorem s_atLeast {a b : Nat} {f g : Nat → Int32} (ha : h a = some (.inl (0, 5, .inl f))) (hb : h b = some (.inl (0, 5, .inl g))) : xRun G d 72 (0, [some (.ref a), some (.ref b), none], [], (h, nx, sl)) (some (.int (xbi (xatl f g 5))), (h, nx, sl)) := by
  refine xr_go i72_0 rfl ?_
  refine xr_go i72_1 rfl ?_
  exact s_atLeast_loop ha hb 5 0 rfl (fun j hj => by omega)
theorem s_mayWrite {a sa rv wv vv : Nat} {bits : Int32} {fr fw fv : Nat → Int32} {u0 u1 : Value} {us : List Value} (ha : h a = some (.inr (7, [.ref rv, .ref wv, .int bits]))) (hs : h sa = some (.inr (6, u0 :: u1 :: .ref vv :: us))) (h1 : h rv = some (.inl (0, 5, .inl fr))) (h2 : h wv = some (.inl (0, 5, .inl fw))) (h3 : h vv = some (.inl (0, 5, .inl fv))) (hd : 1 ≤ d) : xRun G d 70 (0, [some (.ref a), some (.ref sa)], [], (h, nx, sl)) (some (.int (xbi ((!decide (¬ bits &&& 4 = 0) || xatl fv fr 5) && (!decide (¬ bits &&& 8 = 0) || xatl fv fw 5)))), (h, nx, sl)) := by
  have r4 := s_assures (G := G) (d := d - 1) (nx := nx) (sl := sl) (x := 4) ha
  have r8 := s_assures (G := G) (d := d - 1) (nx := nx) (sl := sl) (x := 8) ha
  have ra := s_atLeast (G := G) (d := d - 1) (nx := nx) (sl := sl) h3 h1
  have rb := s_atLeast (G := G) (d := d - 1) (nx := nx) (sl := sl) h3 h2
  generalize decide (¬ bits &&& 4 = 0) = t1 at r4 ⊢
  generalize decide (¬ bits &&& 8 = 0) = t2 at r8 ⊢
  generalize xatl fv fr 5 = t3 at ra ⊢
  generalize xatl fv fw 5 = t4 at rb ⊢
  have second : xRun G d 70 (22, [some (.ref a), some (.ref sa)], [], (h, nx, sl)) (some (.int (xbi (!t2 || t4))), (h, nx, sl)) := by
    refine xr_go i70_22 rfl ?_
    refine xr_go i70_23 rfl ?_
    refine xr_V i70_25 xc70_22 ⟨rfl, rfl⟩ xa_71 rfl (by assumption) rfl (Nat.le_of_ble_eq_true rfl) (by omega) ⟨Nat.le_of_ble_eq_true rfl, Nat.le_of_ble_eq_true rfl⟩ (r8) ?_
    cases t2 with
    | false =>
      refine xr_if_eqT i70_28 (t := 45) (by decide) rfl ?_
      refine xr_go i70_45 rfl ?_
      refine xr_goto i70_46 (t := 50) (by decide) ?_
      exact xr_iret i70_50 xt_70 rfl
    | true =>
      refine xr_if_eqF i70_28 (t := 45) (by decide) (by decide) ?_
      refine xr_go i70_31 rfl ?_
      refine xr_get i70_32 xf70_26 (by assumption) rfl rfl ?_
      refine xr_go i70_35 rfl ?_
      refine xr_get i70_36 xf70_15 (by assumption) rfl rfl ?_
      refine xr_S i70_39 xc70_31 ⟨by first | exact Or.inl rfl | exact Or.inr rfl, rfl⟩ xa_72 (Nat.le_of_ble_eq_true rfl) (Nat.le_of_ble_eq_true rfl) (by omega) ⟨Nat.le_of_ble_eq_true rfl, Nat.le_of_ble_eq_true rfl⟩ (rb) ?_
      cases t4 with
      | false =>
        refine xr_if_eqT i70_42 (t := 49) (by decide) rfl ?_
        refine xr_go i70_49 rfl ?_
        exact xr_iret i70_50 xt_70 rfl
      | true =>
        refine xr_if_eqF i70_42 (t := 49) (by decide) (by decide) ?_
        refine xr_go i70_45 rfl ?_
        refine xr_goto i70_46 (t := 50) (by decide) ?_
        exact xr_iret i70_50 xt_70 rfl
  refine xr_go i70_0 rfl ?_
  refine xr_go i70_1 rfl ?_
  refine xr_V i70_2 xc70_22 ⟨rfl, rfl⟩ xa_71 rfl (by assumption) rfl (Nat.le_of_ble_eq_true rfl) (by omega) ⟨Nat.le_of_ble_eq_true rfl, Nat.le_of_ble_eq_true rfl⟩ (r4) ?_
  cases t1 with
  | false =>
    refine xr_if_eqT i70_5 (t := 22) (by decide) rfl ?_
    exact second
  | true =>
    refine xr_if_eqF i70_5 (t := 22) (by decide) (by decide) ?_
    refine xr_go i70_8 rfl ?_
    refine xr_get i70_9 xf70_26 (by assumption) rfl rfl ?_
    refine xr_go i70_12 rfl ?_
    refine xr_get i70_13 xf70_9 (by assumption) rfl rfl ?_
    refine xr_S i70_16 xc70_31 ⟨by first | exact Or.inl rfl | exact Or.inr rfl, rfl⟩ xa_72 (Nat.le_of_ble_eq_true rfl) (Nat.le_of_ble_eq_true rfl) (by omega) ⟨Nat.le_of_ble_eq_true rfl, Nat.le_of_ble_eq_true rfl⟩ (ra) ?_
    cases t3 with
    | false =>
      refine xr_if_eqT i70_19 (t := 49) (by decide) rfl ?_
      refine xr_go i70_49 rfl ?_
      exact xr_iret i70_50 xt_70 rfl
    | true =>
      refine xr_if_eqF i70_19 (t := 49) (by decide) (by decide) ?_
      exact second
theorem s_mayRead {a sa rv wv vv : Nat} {bits : Int32} {fr fw fv : Nat → Int32} {u0 u1 : Value} {us : List Value} (ha : h a = some (.inr (7, [.ref rv, .ref wv, .int bits]))) (hs : h sa = some (.inr (6, u0 :: u1 :: .ref vv :: us))) (h1 : h rv = some (.inl (0, 5, .inl fr))) (h2 : h wv = some (.inl (0, 5, .inl fw))) (h3 : h vv = some (.inl (0, 5, .inl fv))) (hd : 1 ≤ d) : xRun G d 73 (0, [some (.ref a), some (.ref sa)], [], (h, nx, sl)) (some (.int (xbi ((!decide (¬ bits &&& 1 = 0) || xatl fv fw 5) && (!decide (¬ bits &&& 2 = 0) || xatl fv fr 5)))), (h, nx, sl)) := by
  have r4 := s_assures (G := G) (d := d - 1) (nx := nx) (sl := sl) (x := 1) ha
  have r8 := s_assures (G := G) (d := d - 1) (nx := nx) (sl := sl) (x := 2) ha
  have ra := s_atLeast (G := G) (d := d - 1) (nx := nx) (sl := sl) h3 h2
  have rb := s_atLeast (G := G) (d := d - 1) (nx := nx) (sl := sl) h3 h1
  generalize decide (¬ bits &&& 1 = 0) = t1 at r4 ⊢
  generalize decide (¬ bits &&& 2 = 0) = t2 at r8 ⊢
  generalize xatl fv fw 5 = t3 at ra ⊢
  generalize xatl fv fr 5 = t4 at rb ⊢
  have second : xRun G d 73 (22, [some (.ref a), some (.ref sa)], [], (h, nx, sl)) (some (.int (xbi (!t2 || t4))), (h, nx, sl)) := by
    refine xr_go i73_22 rfl ?_
    refine xr_go i73_23 rfl ?_
    refine xr_V i73_24 xc73_22 ⟨rfl, rfl⟩ xa_71 rfl (by assumption) rfl (Nat.le_of_ble_eq_true rfl) (by omega) ⟨Nat.le_of_ble_eq_true rfl, Nat.le_of_ble_eq_true rfl⟩ (r8) ?_
    cases t2 with
    | false =>
      refine xr_if_eqT i73_27 (t := 44) (by decide) rfl ?_
      refine xr_go i73_44 rfl ?_
      refine xr_goto i73_45 (t := 49) (by decide) ?_
      exact xr_iret i73_49 xt_73 rfl
    | true =>
      refine xr_if_eqF i73_27 (t := 44) (by decide) (by decide) ?_
      refine xr_go i73_30 rfl ?_
      refine xr_get i73_31 xf73_26 (by assumption) rfl rfl ?_
      refine xr_go i73_34 rfl ?_
      refine xr_get i73_35 xf73_9 (by assumption) rfl rfl ?_
      refine xr_S i73_38 xc73_31 ⟨by first | exact Or.inl rfl | exact Or.inr rfl, rfl⟩ xa_72 (Nat.le_of_ble_eq_true rfl) (Nat.le_of_ble_eq_true rfl) (by omega) ⟨Nat.le_of_ble_eq_true rfl, Nat.le_of_ble_eq_true rfl⟩ (rb) ?_
      cases t4 with
      | false =>
        refine xr_if_eqT i73_41 (t := 48) (by decide) rfl ?_
        refine xr_go i73_48 rfl ?_
        exact xr_iret i73_49 xt_73 rfl
      | true =>
        refine xr_if_eqF i73_41 (t := 48) (by decide) (by decide) ?_
        refine xr_go i73_44 rfl ?_
        refine xr_goto i73_45 (t := 49) (by decide) ?_
        exact xr_iret i73_49 xt_73 rfl
  refine xr_go i73_0 rfl ?_
  refine xr_go i73_1 rfl ?_
  refine xr_V i73_2 xc73_22 ⟨rfl, rfl⟩ xa_71 rfl (by assumption) rfl (Nat.le_of_ble_eq_true rfl) (by omega) ⟨Nat.le_of_ble_eq_true rfl, Nat.le_of_ble_eq_true rfl⟩ (r4) ?_
  cases t1 with
  | false =>
    refine xr_if_eqT i73_5 (t := 22) (by decide) rfl ?_
    exact second
  | true =>
    refine xr_if_eqF i73_5 (t := 22) (by decide) (by decide) ?_
    refine xr_go i73_8 rfl ?_
    refine xr_get i73_9 xf73_26 (by assumption) rfl rfl ?_
    refine xr_go i73_12 rfl ?_
    refine xr_get i73_13 xf73_15 (by assumption) rfl rfl ?_
    refine xr_S i73_16 xc73_31 ⟨by first | exact Or.inl rfl | exact Or.inr rfl, rfl⟩ xa_72 (Nat.le_of_ble_eq_true rfl) (Nat.le_of_ble_eq_true rfl) (by omega) ⟨Nat.le_of_ble_eq_true rfl, Nat.le_of_ble_eq_true rfl⟩ (ra) ?_
    cases t3 with
    | false =>
      refine xr_if_eqT i73_19 (t := 48) (by decide) rfl ?_
      refine xr_go i73_48 rfl ?_
      exact xr_iret i73_49 xt_73 rfl
    | true =>
      refine xr_if_eqF i73_19 (t := 48) (by decide) (by decide) ?_
      exact second
def xmaxi (x y : Int32) : Int32 := if x < y then y else x
/-- the greater of two, at the first n places -/
def xmaxs (f g : Nat → Int32) (n : Nat) : Nat → Int32 := fun j => if j < n then xmaxi (f j) (g j) else f j
theorem s_hasRead_loop {a sa rv vv : Nat} {fr fv : Nat → Int32} {v1 v2 u0 u1 : Value} {us : List Value} (ha : h a = some (.inr (7, [.ref rv, v1, v2]))) (hs : h sa = some (.inr (6, u0 :: u1 :: .ref vv :: us))) (h3 : h vv = some (.inl (0, 5, .inl fv))) (h0 : a ≠ rv ∧ sa ≠ rv ∧ vv ≠ rv) (hd : 1 ≤ d) : ∀ n i g, i + n = 5 → g = xup h rv (.inl (0, 5, .inl (xmaxs fr fv i))) → xRun G d 74 (2, [some (.ref a), some (.ref sa), some (.int (nI i))], [], (g, nx, sl)) (none, (xup h rv (.inl (0, 5, .inl (xmaxs fr fv 5))), nx, sl)) := by
  intro n
  induction n with
  | zero =>
    intro i g hi eg
    have : i = 5 := by omega
    subst this
    refine xr_go i74_2 rfl ?_
    refine xr_go i74_3 rfl ?_
    refine xr_icmp_geT i74_4 (t := 34) (by decide) (nI_le (a := 5) (by omega) (by omega)) ?_
    rw [eg]
    exact xr_end i74_34 rfl
  | succ n ih =>
    intro i g hi eg
    have k0 : g a = some (.inr (7, [.ref rv, v1, v2])) := by rw [eg, xup_n h0.1]; exact ha
    have k1 : g sa = some (.inr (6, u0 :: u1 :: .ref vv :: us)) := by rw [eg, xup_n h0.2.1]; exact hs
    have k2 : g vv = some (.inl (0, 5, .inl fv)) := by rw [eg, xup_n h0.2.2]; exact h3
    have k3 : g rv = some (.inl (0, 5, .inl (xmaxs fr fv i))) := by rw [eg]; exact xup_s
    refine xr_go i74_2 rfl ?_
    refine xr_go i74_3 rfl ?_
    refine xr_icmp_geF i74_4 (t := 34) (by decide) (nI_ge (b := 5) (by omega) (by omega)) ?_
    refine xr_go i74_7 rfl ?_
    refine xr_get i74_8 xf74_9 (by assumption) rfl rfl ?_
    refine xr_go i74_11 rfl ?_
    refine xr_go i74_12 rfl ?_
    refine xr_get i74_13 xf74_9 (by assumption) rfl rfl ?_
    refine xr_go i74_16 rfl ?_
    refine xr_iald i74_17 (by assumption) rfl (by omega) (by omega) ?_
    refine xr_go i74_18 rfl ?_
    refine xr_get i74_19 xf74_26 (by assumption) rfl rfl ?_
    refine xr_go i74_22 rfl ?_
    refine xr_iald i74_23 (by assumption) rfl (by omega) (by omega) ?_
    refine xr_max i74_24 xc74_35 rfl (by omega) (Nat.le_of_ble_eq_true rfl) (rfl) ?_
    refine xr_iast i74_27 (by assumption) rfl (by omega) (by omega) (fun g1 eg1 => ?_)
    refine xr_inc1 i74_28 rfl rfl ?_
    refine xr_goto i74_31 (t := 2) (by decide) ?_
    refine ih (i + 1) g1 (by omega) ?_
    rw [eg1, eg, xup_same]
    congr 5
    funext j
    unfold upd xmaxs
    by_cases hj : j = i
    · subst hj
      simp [xmaxi]
    · by_cases hl : j < i
      · simp [hj, hl, Nat.lt_succ_of_lt hl]
      · rw [if_neg hj, if_neg hl, if_neg (by omega)]
theorem s_hasRead {a sa rv vv : Nat} {fr fv : Nat → Int32} {v1 v2 u0 u1 : Value} {us : List Value} (ha : h a = some (.inr (7, [.ref rv, v1, v2]))) (hs : h sa = some (.inr (6, u0 :: u1 :: .ref vv :: us))) (h1 : h rv = some (.inl (0, 5, .inl fr))) (h3 : h vv = some (.inl (0, 5, .inl fv))) (h0 : a ≠ rv ∧ sa ≠ rv ∧ vv ≠ rv) (hd : 1 ≤ d) : xRun G d 74 (0, [some (.ref a), some (.ref sa), none], [], (h, nx, sl)) (none, (xup h rv (.inl (0, 5, .inl (xmaxs fr fv 5))), nx, sl)) := by
  refine xr_go i74_0 rfl ?_
  refine xr_go i74_1 rfl ?_
  refine s_hasRead_loop ha hs h3 h0 hd 5 0 h rfl ?_
  funext q
  by_cases hq : q = rv
  · subst hq
    rw [xup_s, h1]
    rfl
  · rw [xup_n hq]
def xfill (f : Nat → Int32) (n : Nat) (v : Int32) : Nat → Int32 := fun j => if j < n then v else f j
theorem s_fill_loop {a m : Nat} {f : Nat → Int32} {v : Int32} (hm : m < 2 ^ 31) : ∀ n i g, i + n = m → g = xup h a (.inl (0, m, .inl (xfill f i v))) → xRun G d 122 (5, [some (.ref a), some (.int v), some (.int (nI i)), some (.int (nI m))], [], (g, nx, sl)) (none, (xup h a (.inl (0, m, .inl (xfill f m v))), nx, sl)) := by
  intro n
  induction n with
  | zero =>
    intro i g hi eg
    have : i = m := by omega
    subst this
    refine xr_go i122_5 rfl ?_
    refine xr_go i122_6 rfl ?_
    refine xr_icmp_geT i122_7 (t := 20) (by decide) (nI_le (by omega) (by omega)) ?_
    rw [eg]
    exact xr_end i122_20 rfl
  | succ n ih =>
    intro i g hi eg
    have k0 : g a = some (.inl (0, m, .inl (xfill f i v))) := by rw [eg]; exact xup_s
    refine xr_go i122_5 rfl ?_
    refine xr_go i122_6 rfl ?_
    refine xr_icmp_geF i122_7 (t := 20) (by decide) (nI_ge (by omega) (by omega)) ?_
    refine xr_go i122_10 rfl ?_
    refine xr_go i122_11 rfl ?_
    refine xr_go i122_12 rfl ?_
    refine xr_iast i122_13 (by assumption) rfl (by omega) (by omega) (fun g1 eg1 => ?_)
    refine xr_inc1 i122_14 rfl rfl ?_
    refine xr_goto i122_17 (t := 5) (by decide) ?_
    refine ih (i + 1) g1 (by omega) ?_
    rw [eg1, eg, xup_same]
    congr 5
    funext j
    unfold upd xfill
    by_cases hj : j = i
    · subst hj
      simp
    · by_cases hl : j < i
      · simp [hj, hl, Nat.lt_succ_of_lt hl]
      · rw [if_neg hj, if_neg hl, if_neg (by omega)]
theorem s_fill {a m : Nat} {f : Nat → Int32} {v : Int32} (ha : h a = some (.inl (0, m, .inl f))) (hm : m < 2 ^ 31) : xRun G d 122 (0, [some (.ref a), some (.int v), none, none], [], (h, nx, sl)) (none, (xup h a (.inl (0, m, .inl (xfill f m v))), nx, sl)) := by
  refine xr_go i122_0 rfl ?_
  refine xr_go i122_1 rfl ?_
  refine xr_go i122_2 rfl ?_
  refine xr_alen i122_3 (by assumption) (by decide) ?_
  refine xr_go i122_4 rfl ?_
  refine s_fill_loop hm m 0 h (by omega) ?_
  funext q
  by_cases hq : q = a
  · subst hq
    rw [xup_s, ha]
    rfl
  · rw [xup_n hq]
theorem s_clear {a rv wv : Nat} {fr fw : Nat → Int32} {v2 : Value} (ha : h a = some (.inr (7, [.ref rv, .ref wv, v2]))) (h1 : h rv = some (.inl (0, 5, .inl fr))) (h2 : h wv = some (.inl (0, 5, .inl fw))) (h0 : a ≠ rv ∧ wv ≠ rv) (hd : 1 ≤ d) : xRun G d 75 (0, [some (.ref a)], [], (h, nx, sl)) (none, (xup (xup h rv (.inl (0, 5, .inl (xfill fr 5 0)))) wv (.inl (0, 5, .inl (xfill fw 5 0))), nx, sl)) := by
  refine xr_go i75_0 rfl ?_
  refine xr_get i75_1 xf75_9 (by assumption) rfl rfl ?_
  refine xr_go i75_4 rfl ?_
  refine xr_S i75_5 xc75_41 ⟨by first | exact Or.inl rfl | exact Or.inr rfl, rfl⟩ xa_122 (Nat.le_of_ble_eq_true rfl) (Nat.le_of_ble_eq_true rfl) (by omega) ⟨Nat.le_of_ble_eq_true rfl, Nat.le_of_ble_eq_true rfl⟩ (s_fill h1 (by omega)) ?_
  have k0 : xup h rv (.inl (0, 5, .inl (xfill fr 5 0))) a = some (.inr (7, [.ref rv, .ref wv, v2])) := by rw [xup_n h0.1]; exact ha
  have k2 : xup h rv (.inl (0, 5, .inl (xfill fr 5 0))) wv = some (.inl (0, 5, .inl fw)) := by rw [xup_n h0.2]; exact h2
  refine xr_go i75_8 rfl ?_
  refine xr_get i75_9 xf75_15 (by assumption) rfl rfl ?_
  refine xr_go i75_12 rfl ?_
  refine xr_S i75_13 xc75_41 ⟨by first | exact Or.inl rfl | exact Or.inr rfl, rfl⟩ xa_122 (Nat.le_of_ble_eq_true rfl) (Nat.le_of_ble_eq_true rfl) (by omega) ⟨Nat.le_of_ble_eq_true rfl, Nat.le_of_ble_eq_true rfl⟩ (s_fill k2 (by omega)) ?_
  exact xr_end i75_16 rfl
/-- the byte of an int that is shift bits up -/
def xbyte (x s : Int32) : Int32 := (x.toUInt32 >>> (s.toUInt32 &&& Int32.toUInt32 31)).toInt32 &&& 255
theorem s_addInt1 {a n : Nat} {f : Nat → Int32} {x s : Int32} {res : Option Value × xW} (ha : h a = some (.inr (1, [.ref (a + 1), .int (nI n)]))) (hb : h (a + 1) = some (.inl (0, 400, .inl f))) (hn : n < 400) (hs : ¬ s < 0) (k : ∀ h', h' = xup (xup h (a + 1) (.inl (0, 400, .inl (upd f n (xbyte x s))))) a (.inr (1, [.ref (a + 1), .int (nI (n + 1))])) → xRun G d 21 (3, [some (.ref a), some (.int x), some (.int (s + Int32.ofInt (-8)))], [], (h', nx, sl)) res) : xRun G d 21 (3, [some (.ref a), some (.int x), some (.int s)], [], (h, nx, sl)) res := by
  refine xr_go i21_3 rfl ?_
  refine xr_if_ltF i21_4 (t := 49) (by decide) hs ?_
  refine xr_go i21_7 rfl ?_
  refine xr_get i21_8 xf21_15 (by assumption) rfl rfl ?_
  refine xr_go i21_11 rfl ?_
  refine xr_icmp_geF i21_14 (t := 49) (by decide) (nI_ge (b := 400) hn (by omega)) ?_
  refine xr_go i21_17 rfl ?_
  refine xr_get i21_18 xf21_9 (by assumption) rfl rfl ?_
  refine xr_go i21_21 rfl ?_
  refine xr_get i21_22 xf21_15 (by assumption) rfl rfl ?_
  refine xr_go i21_25 rfl ?_
  refine xr_go i21_26 rfl ?_
  refine xr_go i21_27 rfl ?_
  refine xr_go i21_28 rfl ?_
  refine xr_go i21_31 rfl ?_
  refine xr_iast i21_32 (by assumption) rfl (by omega) (by omega) (fun g1 eg1 => ?_)
  have k0 : g1 a = some (.inr (1, [.ref (a + 1), .int (nI n)])) := by rw [eg1, xup_n (by omega)]; exact ha
  refine xr_go i21_33 rfl ?_
  refine xr_go i21_34 rfl ?_
  refine xr_get i21_35 xf21_15 (by assumption) rfl rfl ?_
  refine xr_go i21_38 rfl ?_
  refine xr_go i21_39 rfl ?_
  refine xr_put i21_40 xf21_15 (by assumption) ⟨rfl, Nat.le_of_ble_eq_true rfl, rfl, rfl, Or.inl rfl⟩ (fun g2 eg2 => ?_)
  have eg2 : g2 = xup (xup h (a + 1) (.inl (0, 400, .inl (upd f n (xbyte x s))))) a (.inr (1, [.ref (a + 1), .int (nI (n + 1))])) := by
    rw [eg2, eg1]
    show xup _ a (.inr (1, [.ref (a + 1), .int (nI n + 1)])) = _
    rw [nI_1]
    rfl
  refine xr_go i21_43 rfl ?_
  refine xr_goto i21_46 (t := 3) (by decide) ?_
  exact k g2 eg2
/-- four bytes more -/
def xfour (f : Nat → Int32) (n : Nat) (x : Int32) : Nat → Int32 := upd (upd (upd (upd f n (xbyte x 24)) (n + 1) (xbyte x 16)) (n + 2) (xbyte x 8)) (n + 3) (xbyte x 0)
theorem s_addInt {a n : Nat} {f : Nat → Int32} (x : Int32) (ha : h a = some (.inr (1, [.ref (a + 1), .int (nI n)]))) (hb : h (a + 1) = some (.inl (0, 400, .inl f))) (hn : n + 4 ≤ 400) : ∃ h', xRun G d 21 (0, [some (.ref a), some (.int x), none], [], (h, nx, sl)) (none, (h', nx, sl)) ∧ h' a = some (.inr (1, [.ref (a + 1), .int (nI (n + 4))])) ∧ h' (a + 1) = some (.inl (0, 400, .inl (xfour f n x))) ∧ xsame a (a + 1) h h' := by
  let up : xH → Nat → (Nat → Int32) → xH := fun g n f => xup (xup g (a + 1) (.inl (0, 400, .inl f))) a (.inr (1, [.ref (a + 1), .int (nI n)]))
  have u0 : ∀ g n f, up g n f a = some (.inr (1, [.ref (a + 1), .int (nI n)])) := fun g n f => xup_s
  have u1 : ∀ g n f, up g n f (a + 1) = some (.inl (0, 400, .inl f)) := fun g n f => by
    show xup _ a _ (a + 1) = _
    rw [xup_n (by omega)]
    exact xup_s
  have us : ∀ g n f, xsame a (a + 1) g (up g n f) := fun g n f => (xsame.up (c := a + 1) (by omega) rfl).trans (xsame.up (c := a) (by omega) rfl)
  refine ⟨up (up (up (up h (n + 1) (upd f n (xbyte x 24))) (n + 2) (upd (upd f n (xbyte x 24)) (n + 1) (xbyte x 16))) (n + 3) (upd (upd (upd f n (xbyte x 24)) (n + 1) (xbyte x 16)) (n + 2) (xbyte x 8))) (n + 4) (xfour f n x), ?_, u0 _ _ _, u1 _ _ _, (((us _ _ _).trans (us _ _ _)).trans (us _ _ _)).trans (us _ _ _)⟩
  refine xr_go i21_0 rfl ?_
  refine xr_go i21_2 rfl ?_
  refine s_addInt1 (s := 24) ha hb (by omega) (by decide) (fun g1 e1 => ?_)
  refine s_addInt1 (s := 16) (n := n + 1) (f := upd f n (xbyte x 24)) (by rw [e1]; exact u0 _ _ _) (by rw [e1]; exact u1 _ _ _) (by omega) (by decide) (fun g2 e2 => ?_)
  refine s_addInt1 (s := 8) (n := n + 2) (f := upd (upd f n (xbyte x 24)) (n + 1) (xbyte x 16)) (by rw [e2]; exact u0 _ _ _) (by rw [e2]; exact u1 _ _ _) (by omega) (by decide) (fun g3 e3 => ?_)
  refine s_addInt1 (s := 0) (n := n + 3) (f := upd (upd (upd f n (xbyte x 24)) (n + 1) (xbyte x 16)) (n + 2) (xbyte x 8)) (by rw [e3]; exact u0 _ _ _) (by rw [e3]; exact u1 _ _ _) (by omega) (by decide) (fun g4 e4 => ?_)
  rw [e4, e3, e2, e1]
  refine xr_go i21_3 rfl ?_
  refine xr_if_ltT i21_4 (t := 49) (by decide) (by decide) ?_
  exact xr_end i21_49 rfl
end XLEAF
end
section
/-! ===== the class's history and servers ===== -/
theorem xupdN {f : Nat → Nat} {k x : Nat} : upd (fun j => nI (f j)) k (nI x) = fun j => nI (va_up f k x j) := by
  funext j
  unfold upd va_up
  split <;> rfl
/-- the history: taken, committed; of each write: address, program's addresses, server, stamp, place, program; the commits -/
def xHist (B tak cmt : Nat) (wad pad psa poa sv sp pl : Nat → Nat) (pg : Nat → List (Nat × Int32)) (cm : Nat → Nat) (h : xH) : Prop :=
  (∃ wf : Nat → Option Nat, h (B + 10) = some (.inr (4, [.ref (B + 11), .ref (B + 12), .int (nI tak), .int (nI cmt)])) ∧ h (B + 11) = some (.inl (3, 500, .inr (.inr (.inr (.inr wf))))) ∧ ∀ w, w < tak → wf w = some (wad w)) ∧
  h (B + 12) = some (.inl (0, 500, .inl (fun j => nI (cm j)))) ∧ tak ≤ 500 ∧ cmt ≤ tak ∧
  ∀ w, w < tak → h (wad w) = some (.inr (9, [.int (nI (sv w)), .int (nI (sp w)), .ref (pad w), .int (nI (pl w))])) ∧ xProg (pad w) (psa w) (poa w) (pg w) h ∧ B + 78 ≤ wad w ∧ B + 78 ≤ pad w ∧ B + 78 ≤ psa w ∧ B + 78 ≤ poa w ∧ sv w < 5 ∧ sp w < 2 ^ 31
theorem xHist_kept {B tak cmt : Nat} {wad pad psa poa sv sp pl : Nat → Nat} {pg : Nat → List (Nat × Int32)} {cm : Nat → Nat} {h h' : xH} (hH : xHist B tak cmt wad pad psa poa sv sp pl pg cm h) (hk : ∀ q, (q = B + 10 ∨ q = B + 11 ∨ q = B + 12 ∨ B + 78 ≤ q) → h' q = h q) : xHist B tak cmt wad pad psa poa sv sp pl pg cm h' := by
  obtain ⟨⟨wf, h1, h2, h3⟩, h4, h5, h6, h7⟩ := hH
  refine ⟨⟨wf, (hk _ (by simp)).trans h1, (hk _ (by simp)).trans h2, h3⟩, (hk _ (by simp)).trans h4, h5, h6, fun w hw => ?_⟩
  obtain ⟨g1, ⟨fs, fo, p0, p1, p2, p3⟩, g3, g4, g5, g6, g7⟩ := h7 w hw
  exact ⟨(hk _ (by omega)).trans g1, ⟨fs, fo, (hk _ (by omega)).trans p0, (hk _ (by omega)).trans p1, (hk _ (by omega)).trans p2, p3⟩, g3, g4, g5, g6, g7⟩
/-- a server: (clock, committed, forgotten, tentatives, done), vector, known, tentative, committedCells, cells, outcomes -/
abbrev xSv : Type := (Nat × Nat × Nat × Nat × Nat) × (Nat → Nat) × (Nat → Nat) × (Nat → Nat) × (Nat → Int32) × (Nat → Int32) × (Nat → Nat)
def xSvF (B a : Nat) (n : Nat × Nat × Nat × Nat × Nat) : List Value := [.ref (B + 10), .ref (B + 13), .ref (a + 1), .ref (a + 2), .ref (a + 3), .ref (a + 4), .ref (a + 5), .ref (a + 6), .int (nI n.1), .int (nI n.2.1), .int (nI n.2.2.1), .int (nI n.2.2.2.1), .int (nI n.2.2.2.2)]
def xSrv (B a : Nat) (S : xSv) (h : xH) : Prop :=
  h a = some (.inr (6, xSvF B a S.1)) ∧ h (a + 1) = some (.inl (0, 5, .inl (fun j => nI (S.2.1 j)))) ∧ h (a + 2) = some (.inl (1, 500, .inl (fun j => nI (S.2.2.1 j)))) ∧ h (a + 3) = some (.inl (0, 500, .inl (fun j => nI (S.2.2.2.1 j)))) ∧ h (a + 4) = some (.inl (0, 32, .inl S.2.2.2.2.1)) ∧ h (a + 5) = some (.inl (0, 32, .inl S.2.2.2.2.2.1)) ∧ h (a + 6) = some (.inl (0, 500, .inl (fun j => nI (S.2.2.2.2.2.2 j))))
theorem xSrv_kept {B a : Nat} {S : xSv} {h h' : xH} (hS : xSrv B a S h) (hk : ∀ q, a ≤ q → q ≤ a + 6 → h' q = h q) : xSrv B a S h' := by
  obtain ⟨h0, h1, h2, h3, h4, h5, h6⟩ := hS
  exact ⟨(hk _ (by omega) (by omega)).trans h0, (hk _ (by omega) (by omega)).trans h1, (hk _ (by omega) (by omega)).trans h2, (hk _ (by omega) (by omega)).trans h3, (hk _ (by omega) (by omega)).trans h4, (hk _ (by omega) (by omega)).trans h5, (hk _ (by omega) (by omega)).trans h6⟩
/-- the order of writes: by stamp, then by server -/
def xlt (sv sp : Nat → Nat) (w v : Nat) : Prop := sp w < sp v ∨ (sp w = sp v ∧ sv w < sv v)
theorem xbef_iff {sv sp : Nat → Nat} {w v : Nat} (h1 : sp w < 2 ^ 31) (h2 : sp v < 2 ^ 31) (h3 : sv w < 5) (h4 : sv v < 5) : xbef (nI (sv w)) (nI (sp w)) (nI (sv v)) (nI (sp v)) = true ↔ xlt sv sp w v := by
  unfold xbef xlt
  simp only [Bool.or_eq_true, Bool.and_eq_true, decide_eq_true_eq, nI_ltI h1 h2, nI_eq h1 h2, nI_ltI (show sv w < 2 ^ 31 by omega) (show sv v < 2 ^ 31 by omega)]
/-- a tentative row while a place is made, and with the new write in it -/
def xshF (tN : Nat → Nat) (ten t : Nat) : Nat → Nat := fun j => if t < j ∧ j ≤ ten then tN (j - 1) else tN j
def xinF (tN : Nat → Nat) (ten t w : Nat) : Nat → Nat := va_up (xshF tN ten t) t w
theorem nI_max {x y : Nat} (hx : x < 2 ^ 31) (hy : y < 2 ^ 31) : (if nI x < nI y then nI y else nI x) = nI (max x y) := by
  by_cases h : x < y
  · rw [if_pos (nI_lt h hy), Nat.max_eq_right (by omega)]
  · rw [if_neg (nI_nlt (by omega) hx), Nat.max_eq_left (by omega)]
section XSERV
variable {G : xG} {d : Nat} {h : xH} {nx sl : Nat} {B a tak cmt : Nat} {wad pad psa poa sv sp pl : Nat → Nat} {pg : Nat → List (Nat × Int32)} {cm : Nat → Nat}
set_option maxHeartbeats 4000000 in
theorem s_learn_loop {S : xSv} {w ten : Nat} (hH : xHist B tak cmt wad pad psa poa sv sp pl pg cm h) (hS : xSrv B a S h) (ha : B + 18 ≤ a ∧ a + 6 < B + 53) (hw : w < tak) (htl : ten < 500) (htk : ∀ j, j < ten → S.2.2.2.1 j < tak) (hd : 1 ≤ d) (L0 : Option Value) : ∀ t g, t ≤ ten → (∀ j, t ≤ j → j < ten → xlt sv sp w (S.2.2.2.1 j)) → g = xup h (a + 3) (.inl (0, 500, .inl (fun j => nI (xshF S.2.2.2.1 ten t j)))) →
    ∃ t', t' ≤ ten ∧ (∀ j, t' ≤ j → j < ten → xlt sv sp w (S.2.2.2.1 j)) ∧ (∀ k, t' = k + 1 → ¬ xlt sv sp w (S.2.2.2.1 k)) ∧ ∀ res, (xRun G d 59 (109, [some (.ref a), some (.int (nI w)), some (.ref (wad w)), some (.int (nI t'))], [], (xup h (a + 3) (.inl (0, 500, .inl (fun j => nI (xshF S.2.2.2.1 ten t' j)))), nx, sl)) res → xRun G d 59 (62, [some (.ref a), some (.int (nI w)), some (.ref (wad w)), some (.int (nI t))], [], (g, nx, sl)) res) := by
  obtain ⟨⟨wf, w1, w2, w3⟩, -, h5, -, w7⟩ := hH
  obtain ⟨s0, s1, s2, s3, s4, s5, s6⟩ := hS
  unfold xSvF at s0
  intro t
  induction t with
  | zero =>
    intro g ht hall eg
    refine ⟨0, by omega, hall, fun k hk => by omega, fun res hres => ?_⟩
    refine xr_go i59_62 rfl ?_
    refine xr_if_leT i59_63 (t := 109) (by decide) (by decide) ?_
    rw [eg]
    exact hres
  | succ t ih =>
    intro g ht hall eg
    have htt : t < ten := by omega
    obtain ⟨q1, -, q3, q4, q5, q6, q7, q8⟩ := w7 w hw
    obtain ⟨u1, -, u3, u4, u5, u6, u7, u8⟩ := w7 _ (htk t htt)
    have e0 : xshF S.2.2.2.1 ten (t + 1) t = S.2.2.2.1 t := by unfold xshF; rw [if_neg (by omega)]
    have k0 : g a = some (.inr (6, [.ref (B + 10), .ref (B + 13), .ref (a + 1), .ref (a + 2), .ref (a + 3), .ref (a + 4), .ref (a + 5), .ref (a + 6), .int (nI S.1.1), .int (nI S.1.2.1), .int (nI S.1.2.2.1), .int (nI S.1.2.2.2.1), .int (nI S.1.2.2.2.2)])) := by rw [eg, xup_n (by omega)]; exact s0
    have k1 : g (B + 10) = some (.inr (4, [.ref (B + 11), .ref (B + 12), .int (nI tak), .int (nI cmt)])) := by rw [eg, xup_n (by omega)]; exact w1
    have k2 : g (B + 11) = some (.inl (3, 500, .inr (.inr (.inr (.inr wf))))) := by rw [eg, xup_n (by omega)]; exact w2
    have k3 : g (a + 3) = some (.inl (0, 500, .inl (fun j => nI (xshF S.2.2.2.1 ten (t + 1) j)))) := by rw [eg]; exact xup_s
    have k4 : g (wad w) = some (.inr (9, [.int (nI (sv w)), .int (nI (sp w)), .ref (pad w), .int (nI (pl w))])) := by rw [eg, xup_n (by omega)]; exact q1
    have k5 : g (wad (S.2.2.2.1 t)) = some (.inr (9, [.int (nI (sv (S.2.2.2.1 t))), .int (nI (sp (S.2.2.2.1 t))), .ref (pad (S.2.2.2.1 t)), .int (nI (pl (S.2.2.2.1 t)))])) := by rw [eg, xup_n (by omega)]; exact u1
    have k6 : wf (S.2.2.2.1 t) = some (wad (S.2.2.2.1 t)) := w3 _ (htk t htt)
    have htk' := htk t htt
    have rb := s_before (G := G) (d := d - 1) (nx := nx) (sl := sl) k4 k5
    have head : ∀ res, xRun G d 59 (86, [some (.ref a), some (.int (nI w)), some (.ref (wad w)), some (.int (nI (t + 1)))], [.int (xbi (xbef (nI (sv w)) (nI (sp w)) (nI (sv (S.2.2.2.1 t))) (nI (sp (S.2.2.2.1 t)))))], (g, nx, sl)) res → xRun G d 59 (62, [some (.ref a), some (.int (nI w)), some (.ref (wad w)), some (.int (nI (t + 1)))], [], (g, nx, sl)) res := by
      intro res hres
      refine xr_go i59_62 rfl ?_
      refine xr_if_leF i59_63 (t := 109) (by decide) (nI_nle (by omega) (by omega)) ?_
      refine xr_go i59_66 rfl ?_
      refine xr_go i59_67 rfl ?_
      refine xr_get i59_68 xf59_47 (by assumption) rfl rfl ?_
      refine xr_get i59_71 xf59_55 (by assumption) rfl rfl ?_
      refine xr_go i59_74 rfl ?_
      refine xr_get i59_75 xf59_19 (by assumption) rfl rfl ?_
      refine xr_go i59_78 rfl ?_
      refine xr_go i59_79 rfl ?_
      refine xr_go i59_80 rfl ?_
      refine xr_iald i59_81 (by assumption) (nI_pred t) (by omega) (by omega) ?_
      try dsimp only
      rw [e0]
      refine xr_aald i59_82 k2 (by decide) rfl (by omega) (by omega) k6 ?_
      refine xr_V i59_83 xc59_75 ⟨rfl, rfl⟩ xa_78 rfl (by assumption) rfl (Nat.le_of_ble_eq_true rfl) (by omega) ⟨Nat.le_of_ble_eq_true rfl, Nat.le_of_ble_eq_true rfl⟩ (rb) ?_
      exact hres
    by_cases hb : xlt sv sp w (S.2.2.2.1 t)
    · obtain ⟨t', c1, c2, c3, c4⟩ := ih (xup h (a + 3) (.inl (0, 500, .inl (fun j => nI (xshF S.2.2.2.1 ten t j))))) (by omega) (fun j hj hj2 => by
        by_cases hjt : j = t
        · subst hjt
          exact hb
        · exact hall j (by omega) hj2) rfl
      refine ⟨t', c1, c2, c3, fun res hres => head _ ?_⟩
      refine xr_if_eqF i59_86 (t := 109) (by decide) (by rw [xbi_t ((xbef_iff q8 u8 q7 u7).mpr hb)]; decide) ?_
      refine xr_go i59_89 rfl ?_
      refine xr_get i59_90 xf59_19 (by assumption) rfl rfl ?_
      refine xr_go i59_93 rfl ?_
      refine xr_go i59_94 rfl ?_
      refine xr_get i59_95 xf59_19 (by assumption) rfl rfl ?_
      refine xr_go i59_98 rfl ?_
      refine xr_go i59_99 rfl ?_
      refine xr_go i59_100 rfl ?_
      refine xr_iald i59_101 (by assumption) (nI_pred t) (by omega) (by omega) ?_
      refine xr_iast i59_102 (by assumption) rfl (by omega) (by omega) (fun g1 eg1 => ?_)
      have hg : g1 = xup h (a + 3) (.inl (0, 500, .inl (fun j => nI (xshF S.2.2.2.1 ten t j)))) := by
        rw [eg1, eg, xup_same]
        try dsimp only
        rw [e0, xupdN]
        congr 5
        funext j
        congr 1
        unfold va_up xshF
        by_cases hj : j = t + 1
        · subst hj
          rw [if_pos rfl, if_pos (by omega)]
          rfl
        · rw [if_neg hj]
          by_cases hj2 : t + 1 < j ∧ j ≤ ten
          · rw [if_pos hj2, if_pos (by omega)]
          · rw [if_neg hj2, if_neg (by omega)]
      rw [hg]
      refine xr_dec1 i59_103 rfl rfl ?_
      refine xr_goto i59_106 (t := 62) (by decide) ?_
      exact c4 res hres
    · refine ⟨t + 1, ht, hall, fun k hk => by
        have : k = t := by omega
        subst this
        exact hb, fun res hres => head _ ?_⟩
      have hf : xbef (nI (sv w)) (nI (sp w)) (nI (sv (S.2.2.2.1 t))) (nI (sp (S.2.2.2.1 t))) = false := by
        cases hz : xbef (nI (sv w)) (nI (sp w)) (nI (sv (S.2.2.2.1 t))) (nI (sp (S.2.2.2.1 t))) with
        | false => rfl
        | true => exact absurd ((xbef_iff q8 u8 q7 u7).mp hz) hb
      refine xr_if_eqT i59_86 (t := 109) (by decide) (xbi_f hf) ?_
      rw [eg]
      exact hres
set_option maxHeartbeats 4000000 in
theorem s_learn {clk com fog ten don w : Nat} {vec kno tN oc : Nat → Nat} {cc ce : Nat → Int32} (hH : xHist B tak cmt wad pad psa poa sv sp pl pg cm h) (hS : xSrv B a ((clk, com, fog, ten, don), vec, kno, tN, cc, ce, oc) h) (ha : B + 18 ≤ a ∧ a + 6 < B + 53) (hw : w < tak) (htl : ten < 500) (htk : ∀ j, j < ten → tN j < tak) (hdn : don ≤ ten) (hcl : clk < 2 ^ 31) (hvl : ∀ j, j < 5 → vec j < 2 ^ 31) (hd : 1 ≤ d) :
    ∃ h' t, xRun G d 59 (0, [some (.ref a), some (.int (nI w)), none, none], [], (h, nx, sl)) (none, (h', nx, sl)) ∧ xSrv B a ((max clk (sp w), com, fog, ten + 1, if t < don then 0 else don), va_up vec (sv w) (max (vec (sv w)) (sp w)), va_up kno w 1, xinF tN ten t w, cc, ce, oc) h' ∧ xsame a (a + 6) h h' ∧ t ≤ ten ∧ (∀ j, t ≤ j → j < ten → xlt sv sp w (tN j)) ∧ (∀ k, t = k + 1 → ¬ xlt sv sp w (tN k)) := by
  have hH0 := hH
  have hS0 := hS
  obtain ⟨⟨wf, w1, w2, w3⟩, -, h5, -, w7⟩ := hH
  obtain ⟨s0, s1, s2, s3, s4, s5, s6⟩ := hS
  unfold xSvF at s0
  dsimp only at s0 s1 s2 s3 s4 s5 s6
  obtain ⟨q1, -, q3, q4, q5, q6, q7, q8⟩ := w7 w hw
  have wfw := w3 w hw
  let g1 : xH := xup h (a + 2) (.inl (1, 500, .inl (fun j => nI (va_up kno w 1 j))))
  let g2 : xH := xup g1 a (.inr (6, xSvF B a (max clk (sp w), com, fog, ten, don)))
  let g3 : xH := xup g2 (a + 1) (.inl (0, 5, .inl (fun j => nI (va_up vec (sv w) (max (vec (sv w)) (sp w)) j))))
  have hsame3 : xsame a (a + 6) h g3 := ((xsame.up (c := a + 2) (by omega) (rfl : g1 = _)).trans (xsame.up (c := a) (by omega) (rfl : g2 = _))).trans (xsame.up (c := a + 1) (by omega) (rfl : g3 = _))
  have hH3 : xHist B tak cmt wad pad psa poa sv sp pl pg cm g3 := xHist_kept hH0 (fun q hq => hsame3 q (by omega))
  have hS3 : xSrv B a ((max clk (sp w), com, fog, ten, don), va_up vec (sv w) (max (vec (sv w)) (sp w)), va_up kno w 1, tN, cc, ce, oc) g3 := by
    refine ⟨?_, xup_s, ?_, ?_, ?_, ?_, ?_⟩
    · show xup g2 (a + 1) _ a = _
      rw [xup_n (by omega)]
      exact xup_s
    · show xup g2 (a + 1) _ (a + 2) = _
      rw [xup_n (by omega)]
      show xup g1 a _ (a + 2) = _
      rw [xup_n (by omega)]
      exact xup_s
    · show xup g2 (a + 1) _ (a + 3) = _
      rw [xup_n (by omega)]
      show xup g1 a _ (a + 3) = _
      rw [xup_n (by omega)]
      show xup h (a + 2) _ (a + 3) = _
      rw [xup_n (by omega)]
      exact s3
    · show xup g2 (a + 1) _ (a + 4) = _
      rw [xup_n (by omega)]
      show xup g1 a _ (a + 4) = _
      rw [xup_n (by omega)]
      show xup h (a + 2) _ (a + 4) = _
      rw [xup_n (by omega)]
      exact s4
    · show xup g2 (a + 1) _ (a + 5) = _
      rw [xup_n (by omega)]
      show xup g1 a _ (a + 5) = _
      rw [xup_n (by omega)]
      show xup h (a + 2) _ (a + 5) = _
      rw [xup_n (by omega)]
      exact s5
    · show xup g2 (a + 1) _ (a + 6) = _
      rw [xup_n (by omega)]
      show xup g1 a _ (a + 6) = _
      rw [xup_n (by omega)]
      show xup h (a + 2) _ (a + 6) = _
      rw [xup_n (by omega)]
      exact s6
  obtain ⟨t, c1, c2, c3, c4⟩ := s_learn_loop (G := G) (nx := nx) (sl := sl) (w := w) (ten := ten) hH3 hS3 ha hw htl htk hd none ten (xup g3 (a + 3) (.inl (0, 500, .inl (fun j => nI (xshF tN ten ten j))))) (Nat.le_refl _) (fun j h1 h2 => by omega) rfl
  have e3 : xup g3 (a + 3) (.inl (0, 500, .inl (fun j => nI (xshF tN ten ten j)))) = g3 := by
    funext q
    by_cases hq : q = a + 3
    · subst hq
      rw [xup_s, hS3.2.2.2.1]
      congr 5
      funext j
      congr 1
      unfold xshF
      rw [if_neg (by omega)]
    · rw [xup_n hq]
  rw [e3] at c4
  let g4 : xH := xup g3 (a + 3) (.inl (0, 500, .inl (fun j => nI (xinF tN ten t w j))))
  let g5 : xH := xup g4 a (.inr (6, xSvF B a (max clk (sp w), com, fog, ten + 1, if t < don then 0 else don)))
  have hS5 : xSrv B a ((max clk (sp w), com, fog, ten + 1, if t < don then 0 else don), va_up vec (sv w) (max (vec (sv w)) (sp w)), va_up kno w 1, xinF tN ten t w, cc, ce, oc) g5 := by
    obtain ⟨v0, v1, v2, v3, v4, v5, v6⟩ := hS3
    refine ⟨xup_s, ?_, ?_, ?_, ?_, ?_, ?_⟩
    · show xup g4 a _ (a + 1) = _
      rw [xup_n (by omega)]
      show xup g3 (a + 3) _ (a + 1) = _
      rw [xup_n (by omega)]
      exact v1
    · show xup g4 a _ (a + 2) = _
      rw [xup_n (by omega)]
      show xup g3 (a + 3) _ (a + 2) = _
      rw [xup_n (by omega)]
      exact v2
    · show xup g4 a _ (a + 3) = _
      rw [xup_n (by omega)]
      exact xup_s
    · show xup g4 a _ (a + 4) = _
      rw [xup_n (by omega)]
      show xup g3 (a + 3) _ (a + 4) = _
      rw [xup_n (by omega)]
      exact v4
    · show xup g4 a _ (a + 5) = _
      rw [xup_n (by omega)]
      show xup g3 (a + 3) _ (a + 5) = _
      rw [xup_n (by omega)]
      exact v5
    · show xup g4 a _ (a + 6) = _
      rw [xup_n (by omega)]
      show xup g3 (a + 3) _ (a + 6) = _
      rw [xup_n (by omega)]
      exact v6
  refine ⟨g5, t, ?_, hS5, (hsame3.trans (xsame.up (c := a + 3) (by omega) (rfl : g4 = _))).trans (xsame.up (c := a) (by omega) (rfl : g5 = _)), c1, c2, c3⟩
  refine xr_go i59_0 rfl ?_
  refine xr_get i59_1 xf59_47 (by assumption) rfl rfl ?_
  refine xr_get i59_4 xf59_55 (by assumption) rfl rfl ?_
  refine xr_go i59_7 rfl ?_
  refine xr_aald i59_8 (by assumption) (by decide) rfl (by omega) (by omega) (by assumption) ?_
  refine xr_go i59_9 rfl ?_
  refine xr_go i59_10 rfl ?_
  refine xr_get i59_11 xf59_15 (by assumption) rfl rfl ?_
  refine xr_go i59_14 rfl ?_
  refine xr_go i59_15 rfl ?_
  refine xr_zast i59_16 (by assumption) rfl (by omega) (by omega) rfl (fun f1 ef1 => ?_)
  have ef1' : f1 = g1 := by
    rw [ef1]
    show _ = xup h (a + 2) _
    congr 5
    exact xupdN
  have k0 : f1 a = some (.inr (6, [.ref (B + 10), .ref (B + 13), .ref (a + 1), .ref (a + 2), .ref (a + 3), .ref (a + 4), .ref (a + 5), .ref (a + 6), .int (nI clk), .int (nI com), .int (nI fog), .int (nI ten), .int (nI don)])) := by rw [ef1, xup_n (by omega)]; exact s0
  have k1 : f1 (wad w) = some (.inr (9, [.int (nI (sv w)), .int (nI (sp w)), .ref (pad w), .int (nI (pl w))])) := by rw [ef1, xup_n (by omega)]; exact q1
  have k2 : f1 (a + 1) = some (.inl (0, 5, .inl (fun j => nI (vec j)))) := by rw [ef1, xup_n (by omega)]; exact s1
  refine xr_go i59_17 rfl ?_
  refine xr_go i59_18 rfl ?_
  refine xr_get i59_19 xf59_31 (by assumption) rfl rfl ?_
  refine xr_go i59_22 rfl ?_
  refine xr_get i59_23 xf59_61 (by assumption) rfl rfl ?_
  refine xr_max i59_26 xc59_66 rfl (by omega) (Nat.le_of_ble_eq_true rfl) (nI_max hcl q8) ?_
  refine xr_put i59_29 xf59_31 (by assumption) ⟨rfl, Nat.le_of_ble_eq_true rfl, rfl, rfl, Or.inl rfl⟩ (fun f2 ef2 => ?_)
  have ef2' : f2 = g2 := by rw [ef2, ef1']; rfl
  have j0 : f2 a = some (.inr (6, [.ref (B + 10), .ref (B + 13), .ref (a + 1), .ref (a + 2), .ref (a + 3), .ref (a + 4), .ref (a + 5), .ref (a + 6), .int (nI (max clk (sp w))), .int (nI com), .int (nI fog), .int (nI ten), .int (nI don)])) := by rw [ef2']; exact xup_s
  have j1 : f2 (wad w) = some (.inr (9, [.int (nI (sv w)), .int (nI (sp w)), .ref (pad w), .int (nI (pl w))])) := by rw [ef2, xup_n (by omega)]; exact k1
  have j2 : f2 (a + 1) = some (.inl (0, 5, .inl (fun j => nI (vec j)))) := by rw [ef2, xup_n (by omega)]; exact k2
  refine xr_go i59_32 rfl ?_
  refine xr_get i59_33 xf59_9 (by assumption) rfl rfl ?_
  refine xr_go i59_36 rfl ?_
  refine xr_get i59_37 xf59_72 (by assumption) rfl rfl ?_
  refine xr_go i59_40 rfl ?_
  refine xr_get i59_41 xf59_9 (by assumption) rfl rfl ?_
  refine xr_go i59_44 rfl ?_
  refine xr_get i59_45 xf59_72 (by assumption) rfl rfl ?_
  refine xr_iald i59_48 (by assumption) rfl (by omega) (by omega) ?_
  refine xr_go i59_49 rfl ?_
  refine xr_get i59_50 xf59_61 (by assumption) rfl rfl ?_
  refine xr_max i59_53 xc59_66 rfl (by omega) (Nat.le_of_ble_eq_true rfl) (nI_max (hvl _ q7) q8) ?_
  refine xr_iast i59_56 (by assumption) rfl (by omega) (by omega) (fun f3 ef3 => ?_)
  have ef3' : f3 = g3 := by
    rw [ef3, ef2']
    show _ = xup g2 (a + 1) _
    congr 5
    exact xupdN
  have i0 : f3 a = some (.inr (6, [.ref (B + 10), .ref (B + 13), .ref (a + 1), .ref (a + 2), .ref (a + 3), .ref (a + 4), .ref (a + 5), .ref (a + 6), .int (nI (max clk (sp w))), .int (nI com), .int (nI fog), .int (nI ten), .int (nI don)])) := by rw [ef3, xup_n (by omega)]; exact j0
  refine xr_go i59_57 rfl ?_
  refine xr_get i59_58 xf59_41 (by assumption) rfl rfl ?_
  refine xr_go i59_61 rfl ?_
  rw [ef3']
  refine c4 _ ?_
  generalize eu : xup g3 (a + 3) (.inl (0, 500, .inl (fun j => nI (xshF tN ten t j)))) = u
  have z0 : u a = some (.inr (6, [.ref (B + 10), .ref (B + 13), .ref (a + 1), .ref (a + 2), .ref (a + 3), .ref (a + 4), .ref (a + 5), .ref (a + 6), .int (nI (max clk (sp w))), .int (nI com), .int (nI fog), .int (nI ten), .int (nI don)])) := by rw [← eu, xup_n (by omega), ← ef3']; exact i0
  have z3 : u (a + 3) = some (.inl (0, 500, .inl (fun j => nI (xshF tN ten t j)))) := by rw [← eu]; exact xup_s
  refine xr_go i59_109 rfl ?_
  refine xr_get i59_110 xf59_19 (by assumption) rfl rfl ?_
  refine xr_go i59_113 rfl ?_
  refine xr_go i59_114 rfl ?_
  refine xr_iast i59_115 (by assumption) rfl (by omega) (by omega) (fun f4 ef4 => ?_)
  have ef4' : f4 = g4 := by
    rw [ef4, ← eu, xup_same]
    show _ = xup g3 (a + 3) _
    congr 5
    exact xupdN
  have y0 : f4 a = some (.inr (6, [.ref (B + 10), .ref (B + 13), .ref (a + 1), .ref (a + 2), .ref (a + 3), .ref (a + 4), .ref (a + 5), .ref (a + 6), .int (nI (max clk (sp w))), .int (nI com), .int (nI fog), .int (nI ten), .int (nI don)])) := by rw [ef4, xup_n (by omega)]; exact z0
  refine xr_go i59_116 rfl ?_
  refine xr_go i59_117 rfl ?_
  refine xr_get i59_118 xf59_41 (by assumption) rfl rfl ?_
  refine xr_go i59_121 rfl ?_
  refine xr_go i59_122 rfl ?_
  refine xr_put i59_123 xf59_41 (by assumption) ⟨rfl, Nat.le_of_ble_eq_true rfl, rfl, rfl, Or.inl rfl⟩ (fun f5 ef5 => ?_)
  have ef5' : f5 = xup g4 a (.inr (6, xSvF B a (max clk (sp w), com, fog, ten + 1, don))) := by
    rw [ef5, ef4']
    show xup g4 a (.inr (6, [.ref (B + 10), .ref (B + 13), .ref (a + 1), .ref (a + 2), .ref (a + 3), .ref (a + 4), .ref (a + 5), .ref (a + 6), .int (nI (max clk (sp w))), .int (nI com), .int (nI fog), .int (nI ten + 1), .int (nI don)])) = _
    rw [nI_1]
    rfl
  have x0 : f5 a = some (.inr (6, [.ref (B + 10), .ref (B + 13), .ref (a + 1), .ref (a + 2), .ref (a + 3), .ref (a + 4), .ref (a + 5), .ref (a + 6), .int (nI (max clk (sp w))), .int (nI com), .int (nI fog), .int (nI (ten + 1)), .int (nI don)])) := by rw [ef5']; exact xup_s
  refine xr_go i59_126 rfl ?_
  refine xr_go i59_127 rfl ?_
  refine xr_get i59_128 xf59_44 (by assumption) rfl rfl ?_
  by_cases htd : t < don
  · refine xr_icmp_geF i59_131 (t := 139) (by decide) (nI_ge htd (by omega)) ?_
    refine xr_go i59_134 rfl ?_
    refine xr_go i59_135 rfl ?_
    refine xr_put i59_136 xf59_44 (by assumption) ⟨rfl, Nat.le_of_ble_eq_true rfl, rfl, rfl, Or.inl rfl⟩ (fun f6 ef6 => ?_)
    have ef6' : f6 = g5 := by
      rw [ef6, ef5', xup_same]
      show _ = xup g4 a _
      rw [if_pos htd]
      rfl
    rw [ef6']
    exact xr_end i59_139 rfl
  · refine xr_icmp_geT i59_131 (t := 139) (by decide) (nI_le (by omega) (by omega)) ?_
    have ef6' : f5 = g5 := by
      rw [ef5']
      show _ = xup g4 a _
      rw [if_neg htd]
    rw [ef6']
    exact xr_end i59_139 rfl
end XSERV
end
section
/-! ===== servers, their tentative writes as lists ===== -/
def xSV (B a clk com fog don : Nat) (vec kno : Nat → Nat) (tl : List Nat) (cc ce : Nat → Int32) (oc : Nat → Nat) (h : xH) : Prop := ∃ tN, xSrv B a ((clk, com, fog, tl.length, don), vec, kno, tN, cc, ce, oc) h ∧ ∀ j, j < tl.length → tN j = tl.getD j 0
theorem xSV_kept {B a clk com fog don : Nat} {vec kno : Nat → Nat} {tl : List Nat} {cc ce : Nat → Int32} {oc : Nat → Nat} {h h' : xH} (hS : xSV B a clk com fog don vec kno tl cc ce oc h) (hk : ∀ q, a ≤ q → q ≤ a + 6 → h' q = h q) : xSV B a clk com fog don vec kno tl cc ce oc h' := by
  obtain ⟨tN, h1, h2⟩ := hS
  exact ⟨tN, xSrv_kept h1 hk, h2⟩
theorem getD_mem {l : List Nat} {j : Nat} (h : j < l.length) : l.getD j 0 ∈ l := by
  rw [List.getD_eq_getElem?_getD, List.getElem?_eq_getElem h]
  exact List.getElem_mem h
theorem getD_app_l {l1 l2 : List Nat} {j : Nat} (h : j < l1.length) : (l1 ++ l2).getD j 0 = l1.getD j 0 := by
  rw [List.getD_eq_getElem?_getD, List.getD_eq_getElem?_getD, List.getElem?_append_left h]
theorem getD_app_r {l1 l2 : List Nat} {j : Nat} (h : l1.length ≤ j) : (l1 ++ l2).getD j 0 = l2.getD (j - l1.length) 0 := by
  rw [List.getD_eq_getElem?_getD, List.getD_eq_getElem?_getD, List.getElem?_append_right h]
theorem getD_take {l : List Nat} {t j : Nat} (h : j < t) : (l.take t).getD j 0 = l.getD j 0 := by
  rw [List.getD_eq_getElem?_getD, List.getD_eq_getElem?_getD, List.getElem?_take_of_lt h]
theorem getD_drop {l : List Nat} {t j : Nat} : (l.drop t).getD j 0 = l.getD (t + j) 0 := by
  rw [List.getD_eq_getElem?_getD, List.getD_eq_getElem?_getD, List.getElem?_drop]
section XSERV2
variable {G : xG} {d : Nat} {h : xH} {nx sl : Nat} {B a tak cmt : Nat} {wad pad psa poa sv sp pl : Nat → Nat} {pg : Nat → List (Nat × Int32)} {cm : Nat → Nat} {clk com fog don : Nat} {vec kno oc : Nat → Nat} {tl : List Nat} {cc ce : Nat → Int32}
theorem l_learn {w : Nat} (hH : xHist B tak cmt wad pad psa poa sv sp pl pg cm h) (hS : xSV B a clk com fog don vec kno tl cc ce oc h) (ha : B + 18 ≤ a ∧ a + 6 < B + 53) (hw : w < tak) (htl : tl.length < 500) (htk : ∀ x ∈ tl, x < tak) (hdn : don ≤ tl.length) (hcl : clk < 2 ^ 31) (hvl : ∀ j, j < 5 → vec j < 2 ^ 31) (hd : 1 ≤ d) :
    ∃ h' t, xRun G d 59 (0, [some (.ref a), some (.int (nI w)), none, none], [], (h, nx, sl)) (none, (h', nx, sl)) ∧ xSV B a (max clk (sp w)) com fog (if t < don then 0 else don) (va_up vec (sv w) (max (vec (sv w)) (sp w))) (va_up kno w 1) (tl.take t ++ w :: tl.drop t) cc ce oc h' ∧ xsame a (a + 6) h h' ∧ t ≤ tl.length ∧ (∀ x ∈ tl.drop t, xlt sv sp w x) ∧ (∀ k, t = k + 1 → ¬ xlt sv sp w (tl.getD k 0)) := by
  obtain ⟨tN, h1, h2⟩ := hS
  obtain ⟨h', t, r, g1, g2, g3, g4, g5⟩ := s_learn (G := G) (nx := nx) (sl := sl) hH h1 ha hw htl (fun j hj => by rw [h2 j hj]; exact htk _ (getD_mem hj)) hdn hcl hvl hd
  have hlen : (tl.take t ++ w :: tl.drop t).length = tl.length + 1 := by
    simp only [List.length_append, List.length_cons, List.length_take, List.length_drop]
    omega
  refine ⟨h', t, r, ⟨xinF tN tl.length t w, by rw [hlen]; exact g1, fun j hj => ?_⟩, g2, g3, fun x hx => ?_, fun k hk => ?_⟩
  · rw [hlen] at hj
    unfold xinF va_up xshF
    have htl2 : (tl.take t).length = t := by rw [List.length_take]; omega
    by_cases h3 : j = t
    · subst h3
      rw [if_pos rfl, getD_app_r (by omega), htl2, Nat.sub_self]
      rfl
    · rw [if_neg h3]
      by_cases h4 : t < j
      · rw [if_pos (by omega), getD_app_r (by omega), htl2, show j - t = (j - t - 1) + 1 by omega, List.getD_cons_succ, getD_drop, h2 _ (by omega)]
        congr 1
        omega
      · rw [if_neg (by omega), getD_app_l (by omega), getD_take (by omega)]
        exact h2 j (by omega)
  · obtain ⟨i, hi, rfl⟩ := List.getElem_of_mem hx
    rw [List.getElem_drop]
    rw [List.length_drop] at hi
    have := g4 (t + i) (by omega) (by omega)
    rw [h2 _ (by omega), List.getD_eq_getElem?_getD, List.getElem?_eq_getElem (by omega)] at this
    exact this
  · have := g5 k hk
    rw [h2 k (by omega)] at this
    exact this
theorem xcpyN {f g : Nat → Nat} {s t n : Nat} : va_cpy (fun j => nI (f j)) (fun j => nI (g j)) s t n = fun j => nI (va_cpy f g s t n j) := by
  funext j
  unfold va_cpy
  split <;> rfl
theorem s_remove_loop {S : xSv} {w : Nat} {l1 l2 : List Nat} {res : Option Value × xW} (hS : xSrv B a S h) (hten : S.1.2.2.2.1 = (l1 ++ w :: l2).length) (hlen : (l1 ++ w :: l2).length ≤ 500) (htN : ∀ j, j < (l1 ++ w :: l2).length → S.2.2.2.1 j = (l1 ++ w :: l2).getD j 0) (hw : w ∉ l1) (hb : ∀ x ∈ l1 ++ w :: l2, x < 500) : ∀ n i, i + n = l1.length → xRun G d 63 (26, [some (.ref a), some (.int (nI w)), some (.int (nI l1.length))], [], (h, nx, sl)) res → xRun G d 63 (2, [some (.ref a), some (.int (nI w)), some (.int (nI i))], [], (h, nx, sl)) res := by
  obtain ⟨s0, s1, s2, s3, s4, s5, s6⟩ := hS
  unfold xSvF at s0
  have hL : (l1 ++ w :: l2).length = l1.length + l2.length + 1 := by simp; omega
  intro n
  induction n with
  | zero =>
    intro i hi hres
    have hil : i = l1.length := by omega
    subst hil
    have hv : S.2.2.2.1 l1.length = w := by
      rw [htN _ (by omega), getD_app_r (Nat.le_refl _), Nat.sub_self]
      rfl
    refine xr_go i63_2 rfl ?_
    refine xr_go i63_3 rfl ?_
    refine xr_get i63_4 xf63_41 (by assumption) rfl rfl ?_
    refine xr_icmp_geF i63_7 (t := 26) (by decide) (nI_ge (by omega) (by omega)) ?_
    refine xr_go i63_10 rfl ?_
    refine xr_get i63_11 xf63_19 (by assumption) rfl rfl ?_
    refine xr_go i63_14 rfl ?_
    refine xr_iald i63_15 (by assumption) rfl (by omega) (by omega) ?_
    refine xr_go i63_16 rfl ?_
    refine xr_icmp_eqT i63_17 (t := 26) (by decide) (by rw [hv]) ?_
    exact hres
  | succ n ih =>
    intro i hi hres
    have hil : i < l1.length := by omega
    have hv : S.2.2.2.1 i = l1.getD i 0 := by rw [htN _ (by omega), getD_app_l hil]
    have hm := getD_mem hil
    have hx := hb _ (List.mem_append_left (w :: l2) hm)
    have hwb := hb w (by simp)
    refine xr_go i63_2 rfl ?_
    refine xr_go i63_3 rfl ?_
    refine xr_get i63_4 xf63_41 (by assumption) rfl rfl ?_
    refine xr_icmp_geF i63_7 (t := 26) (by decide) (nI_ge (by omega) (by omega)) ?_
    refine xr_go i63_10 rfl ?_
    refine xr_get i63_11 xf63_19 (by assumption) rfl rfl ?_
    refine xr_go i63_14 rfl ?_
    refine xr_iald i63_15 (by assumption) rfl (by omega) (by omega) ?_
    refine xr_go i63_16 rfl ?_
    refine xr_icmp_eqF i63_17 (t := 26) (by decide) (by rw [hv, nI_eq (by omega) (by omega)]; exact fun z => hw (z ▸ hm)) ?_
    refine xr_inc1 i63_20 rfl rfl ?_
    refine xr_goto i63_23 (t := 2) (by decide) ?_
    exact ih (i + 1) (by omega) hres
theorem l_remove {w : Nat} {l1 l2 : List Nat} (hS : xSV B a clk com fog don vec kno (l1 ++ w :: l2) cc ce oc h) (hlen : (l1 ++ w :: l2).length ≤ 500) (hw : w ∉ l1) (hb : ∀ x ∈ l1 ++ w :: l2, x < 500) (hd : 1 ≤ d) :
    ∃ h', xRun G d 63 (0, [some (.ref a), some (.int (nI w)), none], [], (h, nx, sl)) (none, (h', nx, sl)) ∧ xSV B a clk com fog don vec kno (l1 ++ l2) cc ce oc h' ∧ xsame a (a + 6) h h' := by
  obtain ⟨tN, hS1, htN⟩ := hS
  have hS0 := hS1
  obtain ⟨s0, s1, s2, s3, s4, s5, s6⟩ := hS1
  unfold xSvF at s0
  dsimp only at s0 s1 s2 s3 s4 s5 s6
  have hL : (l1 ++ w :: l2).length = l1.length + l2.length + 1 := by simp; omega
  have hL2 : (l1 ++ l2).length = l1.length + l2.length := by simp
  let g1 : xH := xup h a (.inr (6, xSvF B a (clk, com, fog, (l1 ++ l2).length, don)))
  let g2 : xH := xup g1 (a + 3) (.inl (0, 500, .inl (fun j => nI (va_cpy tN tN (l1.length + 1) l1.length l2.length j))))
  refine ⟨g2, ?_, ⟨va_cpy tN tN (l1.length + 1) l1.length l2.length, ⟨?_, ?_, ?_, xup_s, ?_, ?_, ?_⟩, fun j hj => ?_⟩, (xsame.up (c := a) (by omega) (rfl : g1 = _)).trans (xsame.up (c := a + 3) (by omega) (rfl : g2 = _))⟩
  · refine xr_go i63_0 rfl ?_
    refine xr_go i63_1 rfl ?_
    refine s_remove_loop (S := ((clk, com, fog, (l1 ++ w :: l2).length, don), vec, kno, tN, cc, ce, oc)) hS0 rfl hlen htN hw hb l1.length 0 (by omega) ?_
    refine xr_go i63_26 rfl ?_
    refine xr_go i63_27 rfl ?_
    refine xr_get i63_28 xf63_41 (by assumption) rfl rfl ?_
    refine xr_icmp_geF i63_31 (t := 65) (by decide) (nI_ge (by omega) (by omega)) ?_
    refine xr_go i63_34 rfl ?_
    refine xr_go i63_35 rfl ?_
    refine xr_get i63_36 xf63_41 (by assumption) rfl rfl ?_
    refine xr_go i63_39 rfl ?_
    refine xr_go i63_40 rfl ?_
    refine xr_put i63_41 xf63_41 (by assumption) ⟨rfl, Nat.le_of_ble_eq_true rfl, rfl, rfl, Or.inl rfl⟩ (fun f1 ef1 => ?_)
    have ef1' : f1 = g1 := by
      rw [ef1]
      show xup h a (.inr (6, [.ref (B + 10), .ref (B + 13), .ref (a + 1), .ref (a + 2), .ref (a + 3), .ref (a + 4), .ref (a + 5), .ref (a + 6), .int (nI clk), .int (nI com), .int (nI fog), .int (nI (l1 ++ w :: l2).length - 1), .int (nI don)])) = _
      rw [hL, nI_pred, ← hL2]
      rfl
    have k0 : f1 a = some (.inr (6, [.ref (B + 10), .ref (B + 13), .ref (a + 1), .ref (a + 2), .ref (a + 3), .ref (a + 4), .ref (a + 5), .ref (a + 6), .int (nI clk), .int (nI com), .int (nI fog), .int (nI (l1 ++ l2).length), .int (nI don)])) := by rw [ef1']; exact xup_s
    have k3 : f1 (a + 3) = some (.inl (0, 500, .inl (fun j => nI (tN j)))) := by rw [ef1, xup_n (by omega)]; exact s3
    refine xr_go i63_44 rfl ?_
    refine xr_get i63_45 xf63_19 (by assumption) rfl rfl ?_
    refine xr_go i63_48 rfl ?_
    refine xr_go i63_49 rfl ?_
    refine xr_go i63_50 rfl ?_
    refine xr_go i63_51 rfl ?_
    refine xr_get i63_52 xf63_19 (by assumption) rfl rfl ?_
    refine xr_go i63_55 rfl ?_
    refine xr_go i63_56 rfl ?_
    refine xr_get i63_57 xf63_41 (by assumption) rfl rfl ?_
    refine xr_go i63_60 rfl ?_
    refine xr_go i63_61 rfl ?_
    refine xr_copy i63_62 xc63_104 rfl (by omega) (Nat.le_of_ble_eq_true rfl) k3 k3 (n := l2.length) (dp := l1.length) (sp := l1.length + 1) (by show nI (l1 ++ l2).length - nI l1.length = _; rw [hL2, pk_sub (by omega)]; congr 1; omega) rfl (nI_1 _) (by omega) (by omega) (by omega) (fun f2 ef2 => ?_)
    have ef2' : f2 = g2 := by
      rw [ef2, ef1', xcpyN]
    rw [ef2']
    exact xr_end i63_65 rfl
  · show xup g1 (a + 3) _ a = _
    rw [xup_n (by omega)]
    exact xup_s
  · show xup g1 (a + 3) _ (a + 1) = _
    rw [xup_n (by omega)]
    show xup h a _ (a + 1) = _
    rw [xup_n (by omega)]
    exact s1
  · show xup g1 (a + 3) _ (a + 2) = _
    rw [xup_n (by omega)]
    show xup h a _ (a + 2) = _
    rw [xup_n (by omega)]
    exact s2
  · show xup g1 (a + 3) _ (a + 4) = _
    rw [xup_n (by omega)]
    show xup h a _ (a + 4) = _
    rw [xup_n (by omega)]
    exact s4
  · show xup g1 (a + 3) _ (a + 5) = _
    rw [xup_n (by omega)]
    show xup h a _ (a + 5) = _
    rw [xup_n (by omega)]
    exact s5
  · show xup g1 (a + 3) _ (a + 6) = _
    rw [xup_n (by omega)]
    show xup h a _ (a + 6) = _
    rw [xup_n (by omega)]
    exact s6
  · rw [hL2] at hj
    unfold va_cpy
    by_cases hj1 : j < l1.length
    · rw [if_neg (by omega), getD_app_l hj1, htN _ (by omega), getD_app_l hj1]
    · rw [if_pos (by omega), getD_app_r (by omega), htN _ (by omega), getD_app_r (by omega), show l1.length + 1 + (j - l1.length) - l1.length = (j - l1.length) + 1 by omega, List.getD_cons_succ]
/-- a program that comes to an end whatever it is done on -/
def xOKp (p : List (Nat × Int32)) : Prop := ∀ (x y : Int32) (c : Nat → Int32), ∃ (o : Nat) (c' : Nat → Int32), o ≤ 6 ∧ xperf x y c p ([], [], true) = some (nI o, c')
def xpO (p : List (Nat × Int32)) (x y : Int32) (c : Nat → Int32) : Nat := match xperf x y c p ([], [], true) with
  | some q => q.1.toNatClampNeg
  | none => 0
def xpC (p : List (Nat × Int32)) (x y : Int32) (c : Nat → Int32) : Nat → Int32 := match xperf x y c p ([], [], true) with
  | some q => q.2
  | none => c
theorem xOKp.run {p : List (Nat × Int32)} (h : xOKp p) (x y : Int32) (c : Nat → Int32) : xperf x y c p ([], [], true) = some (nI (xpO p x y c), xpC p x y c) ∧ xpO p x y c ≤ 6 := by
  obtain ⟨o, c', h1, h2⟩ := h x y c
  have e1 : xpO p x y c = o := by
    unfold xpO
    rw [h2]
    exact nI_clamp (by omega)
  have e2 : xpC p x y c = c' := by
    unfold xpC
    rw [h2]
  rw [e1, e2]
  exact ⟨h2, h1⟩
/-- a server of the class does a write on cells of its own (at ca: 4 the committed, 5 the others) -/
theorem l_perf {w ca : Nat} {c : Nat → Int32} {bb : List Int32} {ee : List (Nat × Int32)} {tt : Bool} (hH : xHist B tak cmt wad pad psa poa sv sp pl pg cm h) (hM : xMS (B + 13) bb ee tt h) (hw : w < tak) (hok : xOKp (pg w)) (hca : B + 18 ≤ ca ∧ ca < B + 78) (hc : h ca = some (.inl (0, 32, .inl c))) (hd : 3 ≤ d) :
    ∃ h', xRun G d 50 (0, [some (.ref (B + 13)), some (.ref (wad w)), some (.ref ca), none, none, none], [], (h, nx, sl)) (some (.int (nI (xpO (pg w) (nI (sv w)) (nI (sp w)) c))), (h', nx, sl)) ∧ h' ca = some (.inl (0, 32, .inl (xpC (pg w) (nI (sv w)) (nI (sp w)) c))) ∧ (∃ b e t, xMS (B + 13) b e t h') ∧ ∀ q, q ≠ ca → (q < B + 13 ∨ B + 16 < q) → h' q = h q := by
  obtain ⟨-, -, -, -, w7⟩ := hH
  obtain ⟨q1, q2, q3, q4, q5, q6, q7, q8⟩ := w7 w hw
  exact s_perform hd hM q1 q2 hc (fun q hq => by omega) (by omega) (hok.run _ _ _).1
end XSERV2
end
section
/-! ===== servers: the next commit, catching up ===== -/
section XSERV3
variable {G : xG} {d : Nat} {h : xH} {nx sl : Nat} {B a tak cmt : Nat} {wad pad psa poa sv sp pl : Nat → Nat} {pg : Nat → List (Nat × Int32)} {cm : Nat → Nat} {clk com fog don : Nat} {vec kno oc : Nat → Nat} {tl : List Nat} {cc ce : Nat → Int32}
theorem xMS_kept {a : Nat} {b : List Int32} {e : List (Nat × Int32)} {t : Bool} {h h' : xH} (hM : xMS a b e t h) (hk : ∀ q, a ≤ q → q ≤ a + 3 → h' q = h q) : xMS a b e t h' := by
  obtain ⟨vals, tg, sm, ⟨m0, m1, m2, m3⟩, r⟩ := hM
  exact ⟨vals, tg, sm, ⟨(hk _ (by omega) (by omega)).trans m0, (hk _ (by omega) (by omega)).trans m1, (hk _ (by omega) (by omega)).trans m2, (hk _ (by omega) (by omega)).trans m3⟩, r⟩
/-- only the server at a and the machine may have changed -/
def xsm (B a : Nat) (h h' : xH) : Prop := ∀ q, (q < a ∨ a + 6 < q) → (q < B + 13 ∨ B + 16 < q) → h' q = h q
theorem xsm.trans {h h1 h2 : xH} (x : xsm B a h h1) (y : xsm B a h1 h2) : xsm B a h h2 := fun q h1 h2 => (y q h1 h2).trans (x q h1 h2)
theorem xsame.sm {h h' : xH} (x : xsame a (a + 6) h h') : xsm B a h h' := fun q h1 _ => x q h1
set_option maxHeartbeats 4000000 in
theorem l_next_tail {w : Nat} {l1 l2 : List Nat} {bb : List Int32} {ee : List (Nat × Int32)} {tt : Bool} (hH : xHist B tak cmt wad pad psa poa sv sp pl pg cm h) (hM : xMS (B + 13) bb ee tt h) (hS : xSV B a clk com fog don vec kno (l1 ++ w :: l2) cc ce oc h) (ha : B + 18 ≤ a ∧ a + 6 < B + 53) (hw : w < tak) (hok : xOKp (pg w)) (hlen : (l1 ++ w :: l2).length ≤ 500) (hw1 : w ∉ l1) (hb : ∀ x ∈ l1 ++ w :: l2, x < 500) (hcom : com < 500) (hd : 4 ≤ d) :
    ∃ h', xRun G d 62 (27, [some (.ref a), some (.int (nI w))], [], (h, nx, sl)) (none, (h', nx, sl)) ∧ xSV B a clk (com + 1) fog 0 vec kno (l1 ++ l2) (xpC (pg w) (nI (sv w)) (nI (sp w)) cc) ce (va_up oc w (xpO (pg w) (nI (sv w)) (nI (sp w)) cc)) h' ∧ (∃ b e t, xMS (B + 13) b e t h') ∧ xsm B a h h' := by
  have a0 : ∃ x, h a = some (.inr (6, x)) := by
    obtain ⟨tN, s, -⟩ := hS
    exact ⟨_, s.1⟩
  obtain ⟨x0, a0⟩ := a0
  obtain ⟨h1, r1, hS1, sm1⟩ := l_remove (G := G) (d := d - 1) (nx := nx) (sl := sl) hS hlen hw1 hb (by omega)
  have hH1 := xHist_kept hH (h' := h1) (fun q hq => sm1 q (by omega))
  have hM1 := xMS_kept hM (h' := h1) (fun q h1 h2 => sm1 q (by omega))
  obtain ⟨tN, ⟨s0, s1, s2, s3, s4, s5, s6⟩, htN⟩ := hS1
  unfold xSvF at s0
  dsimp only at s0 s1 s2 s3 s4 s5 s6
  generalize hT : (l1 ++ l2).length = ten at s0 htN
  let g2 : xH := xup h1 a (.inr (6, xSvF B a (clk, com + 1, fog, ten, don)))
  have sm2 : xsame a (a + 6) h1 g2 := xsame.up (c := a) (by omega) rfl
  have hH2 := xHist_kept hH1 (h' := g2) (fun q hq => sm2 q (by omega))
  have hM2 := xMS_kept hM1 (h' := g2) (fun q h1 h2 => sm2 q (by omega))
  have c4 : g2 (a + 4) = some (.inl (0, 32, .inl cc)) := by
    show xup h1 a _ (a + 4) = _
    rw [xup_n (by omega)]
    exact s4
  obtain ⟨h3, r3, p1, p2, p3⟩ := l_perf (G := G) (d := d - 1) (nx := nx) (sl := sl) (ca := a + 4) hH2 hM2 hw hok (by omega) c4 (by omega)
  obtain ⟨⟨wf, w1, w2, w3⟩, -, h5, -, w7⟩ := hH2
  have wfw := w3 w hw
  have e0 : g2 a = some (.inr (6, xSvF B a (clk, com + 1, fog, ten, don))) := xup_s
  unfold xSvF at e0
  dsimp only at e0
  have e1 : ∀ q, a < q → q ≤ a + 6 → q ≠ a + 4 → h3 q = h1 q := fun q h1 h2 h9 => (p3 q h9 (by omega)).trans (xup_n (by omega))
  have f0 : h3 a = some (.inr (6, [.ref (B + 10), .ref (B + 13), .ref (a + 1), .ref (a + 2), .ref (a + 3), .ref (a + 4), .ref (a + 5), .ref (a + 6), .int (nI clk), .int (nI (com + 1)), .int (nI fog), .int (nI ten), .int (nI don)])) := (p3 a (by omega) (by omega)).trans e0
  have f6 : h3 (a + 6) = some (.inl (0, 500, .inl (fun j => nI (oc j)))) := (e1 _ (by omega) (by omega) (by omega)).trans s6
  let g4 : xH := xup h3 (a + 6) (.inl (0, 500, .inl (fun j => nI (va_up oc w (xpO (pg w) (nI (sv w)) (nI (sp w)) cc) j))))
  let g5 : xH := xup g4 a (.inr (6, xSvF B a (clk, com + 1, fog, ten, 0)))
  refine ⟨g5, ?_, ⟨tN, ?_, by rw [hT]; exact htN⟩, ?_, ?_⟩
  · refine xr_go i62_27 rfl ?_
    refine xr_go i62_28 rfl ?_
    refine xr_V i62_29 xc62_86 ⟨rfl, rfl⟩ xa_63 rfl (by assumption) rfl (Nat.le_of_ble_eq_true rfl) (by omega) ⟨Nat.le_of_ble_eq_true rfl, Nat.le_of_ble_eq_true rfl⟩ (r1) ?_
    refine xr_go i62_32 rfl ?_
    refine xr_go i62_33 rfl ?_
    refine xr_get i62_34 xf62_35 (by assumption) rfl rfl ?_
    refine xr_go i62_37 rfl ?_
    refine xr_go i62_38 rfl ?_
    refine xr_put i62_39 xf62_35 (by assumption) ⟨rfl, Nat.le_of_ble_eq_true rfl, rfl, rfl, Or.inl rfl⟩ (fun f2 ef2 => ?_)
    have ef2' : f2 = g2 := by
      rw [ef2]
      show xup h1 a (.inr (6, [.ref (B + 10), .ref (B + 13), .ref (a + 1), .ref (a + 2), .ref (a + 3), .ref (a + 4), .ref (a + 5), .ref (a + 6), .int (nI clk), .int (nI com + 1), .int (nI fog), .int (nI ten), .int (nI don)])) = _
      rw [nI_1]
      rfl
    rw [ef2']
    have m0 := xMS_at hM2
    refine xr_go i62_42 rfl ?_
    refine xr_get i62_43 xf62_28 (by assumption) rfl rfl ?_
    refine xr_go i62_46 rfl ?_
    refine xr_go i62_47 rfl ?_
    refine xr_get i62_48 xf62_51 (by assumption) rfl rfl ?_
    refine xr_go i62_51 rfl ?_
    refine xr_get i62_52 xf62_47 (by assumption) rfl rfl ?_
    refine xr_get i62_55 xf62_55 (by assumption) rfl rfl ?_
    refine xr_go i62_58 rfl ?_
    refine xr_aald i62_59 (by assumption) (by decide) rfl (by omega) (by omega) (by assumption) ?_
    refine xr_go i62_60 rfl ?_
    refine xr_get i62_61 xf62_22 (by assumption) rfl rfl ?_
    refine xr_V i62_64 xc62_89 ⟨rfl, rfl⟩ xa_50 rfl (by assumption) rfl (Nat.le_of_ble_eq_true rfl) (by omega) ⟨Nat.le_of_ble_eq_true rfl, Nat.le_of_ble_eq_true rfl⟩ (r3) ?_
    refine xr_iast i62_67 (by assumption) rfl (by omega) (by omega) (fun f4 ef4 => ?_)
    have ef4' : f4 = g4 := by
      rw [ef4]
      show _ = xup h3 (a + 6) _
      congr 5
      exact xupdN
    have k0 : f4 a = some (.inr (6, [.ref (B + 10), .ref (B + 13), .ref (a + 1), .ref (a + 2), .ref (a + 3), .ref (a + 4), .ref (a + 5), .ref (a + 6), .int (nI clk), .int (nI (com + 1)), .int (nI fog), .int (nI ten), .int (nI don)])) := by rw [ef4, xup_n (by omega)]; exact f0
    refine xr_go i62_68 rfl ?_
    refine xr_go i62_69 rfl ?_
    refine xr_put i62_70 xf62_44 (by assumption) ⟨rfl, Nat.le_of_ble_eq_true rfl, rfl, rfl, Or.inl rfl⟩ (fun f5 ef5 => ?_)
    have ef5' : f5 = g5 := by rw [ef5, ef4']; rfl
    rw [ef5']
    exact xr_end i62_73 rfl
  · rw [hT]
    refine ⟨xup_s, ?_, ?_, ?_, ?_, ?_, ?_⟩
    · show xup g4 a _ (a + 1) = _
      rw [xup_n (by omega)]
      show xup h3 (a + 6) _ (a + 1) = _
      rw [xup_n (by omega), e1 _ (by omega) (by omega) (by omega)]
      exact s1
    · show xup g4 a _ (a + 2) = _
      rw [xup_n (by omega)]
      show xup h3 (a + 6) _ (a + 2) = _
      rw [xup_n (by omega), e1 _ (by omega) (by omega) (by omega)]
      exact s2
    · show xup g4 a _ (a + 3) = _
      rw [xup_n (by omega)]
      show xup h3 (a + 6) _ (a + 3) = _
      rw [xup_n (by omega), e1 _ (by omega) (by omega) (by omega)]
      exact s3
    · show xup g4 a _ (a + 4) = _
      rw [xup_n (by omega)]
      show xup h3 (a + 6) _ (a + 4) = _
      rw [xup_n (by omega)]
      exact p1
    · show xup g4 a _ (a + 5) = _
      rw [xup_n (by omega)]
      show xup h3 (a + 6) _ (a + 5) = _
      rw [xup_n (by omega), e1 _ (by omega) (by omega) (by omega)]
      exact s5
    · show xup g4 a _ (a + 6) = _
      rw [xup_n (by omega)]
      exact xup_s
  · obtain ⟨b, e, t, hm⟩ := p2
    refine ⟨b, e, t, xMS_kept hm (fun q h1 h2 => ?_)⟩
    show xup g4 a _ q = _
    rw [xup_n (by omega)]
    show xup h3 (a + 6) _ q = _
    rw [xup_n (by omega)]
  · intro q h1' h2'
    show xup g4 a _ q = _
    rw [xup_n (by omega)]
    show xup h3 (a + 6) _ q = _
    rw [xup_n (by omega), p3 q (by omega) h2']
    show xup h1 a _ q = _
    rw [xup_n (by omega)]
    exact sm1 q h1'
/-- the next commit, of a write that the server knows as tentative -/
theorem l_next_known {l1 l2 : List Nat} {bb : List Int32} {ee : List (Nat × Int32)} {tt : Bool} (hH : xHist B tak cmt wad pad psa poa sv sp pl pg cm h) (hM : xMS (B + 13) bb ee tt h) (hS : xSV B a clk com fog don vec kno (l1 ++ cm com :: l2) cc ce oc h) (ha : B + 18 ≤ a ∧ a + 6 < B + 53) (hcom : com < cmt) (hw : cm com < tak) (hok : xOKp (pg (cm com))) (hk : kno (cm com) = 1) (hlen : (l1 ++ cm com :: l2).length ≤ 500) (hw1 : cm com ∉ l1) (hb : ∀ x ∈ l1 ++ cm com :: l2, x < 500) (hd : 4 ≤ d) :
    ∃ h', xRun G d 62 (0, [some (.ref a), none], [], (h, nx, sl)) (none, (h', nx, sl)) ∧ xSV B a clk (com + 1) fog 0 vec kno (l1 ++ l2) (xpC (pg (cm com)) (nI (sv (cm com))) (nI (sp (cm com))) cc) ce (va_up oc (cm com) (xpO (pg (cm com)) (nI (sv (cm com))) (nI (sp (cm com))) cc)) h' ∧ (∃ b e t, xMS (B + 13) b e t h') ∧ xsm B a h h' := by
  have hH0 := hH
  obtain ⟨⟨wf, w1, w2, w3⟩, w4, w5, w6, w7⟩ := hH
  obtain ⟨h', r, g⟩ := l_next_tail (G := G) (nx := nx) (sl := sl) hH0 hM hS ha hw hok hlen hw1 hb (by omega) hd
  refine ⟨h', ?_, g⟩
  obtain ⟨tN, ⟨s0, s1, s2, s3, s4, s5, s6⟩, htN⟩ := hS
  unfold xSvF at s0
  dsimp only at s0 s1 s2 s3 s4 s5 s6
  refine xr_go i62_0 rfl ?_
  refine xr_get i62_1 xf62_47 (by assumption) rfl rfl ?_
  refine xr_get i62_4 xf62_79 (by assumption) rfl rfl ?_
  refine xr_go i62_7 rfl ?_
  refine xr_get i62_8 xf62_35 (by assumption) rfl rfl ?_
  refine xr_iald i62_11 (by assumption) rfl (by omega) (by omega) ?_
  refine xr_go i62_12 rfl ?_
  refine xr_go i62_13 rfl ?_
  refine xr_get i62_14 xf62_15 (by assumption) rfl rfl ?_
  refine xr_go i62_17 rfl ?_
  refine xr_zald i62_18 (by assumption) rfl (by omega) (by omega) ?_
  refine xr_if_neT i62_19 (t := 27) (by decide) (by rw [hk]; decide) ?_
  exact r
/-- the next commit, of a write that the server doesn't know -/
theorem l_next_new {bb : List Int32} {ee : List (Nat × Int32)} {tt : Bool} (hH : xHist B tak cmt wad pad psa poa sv sp pl pg cm h) (hM : xMS (B + 13) bb ee tt h) (hS : xSV B a clk com fog don vec kno tl cc ce oc h) (ha : B + 18 ≤ a ∧ a + 6 < B + 53) (hcom : com < cmt) (hw : cm com < tak) (hok : xOKp (pg (cm com))) (hk : kno (cm com) = 0) (hlen : tl.length < 500) (hw1 : cm com ∉ tl) (hb : ∀ x ∈ tl, x < tak) (hdn : don ≤ tl.length) (hcl : clk < 2 ^ 31) (hvl : ∀ j, j < 5 → vec j < 2 ^ 31) (hd : 4 ≤ d) :
    ∃ h', xRun G d 62 (0, [some (.ref a), none], [], (h, nx, sl)) (none, (h', nx, sl)) ∧ xSV B a (max clk (sp (cm com))) (com + 1) fog 0 (va_up vec (sv (cm com)) (max (vec (sv (cm com))) (sp (cm com)))) (va_up kno (cm com) 1) tl (xpC (pg (cm com)) (nI (sv (cm com))) (nI (sp (cm com))) cc) ce (va_up oc (cm com) (xpO (pg (cm com)) (nI (sv (cm com))) (nI (sp (cm com))) cc)) h' ∧ (∃ b e t, xMS (B + 13) b e t h') ∧ xsm B a h h' := by
  have hH0 := hH
  obtain ⟨⟨wf, w1, w2, w3⟩, w4, w5, w6, w7⟩ := hH
  obtain ⟨h1, t, r1, hS1, sm1, ht, -, -⟩ := l_learn (G := G) (d := d - 1) (nx := nx) (sl := sl) hH0 hS ha hw hlen hb hdn hcl hvl (by omega)
  have hH1 := xHist_kept hH0 (h' := h1) (fun q hq => sm1 q (by omega))
  have hM1 := xMS_kept hM (h' := h1) (fun q h1 h2 => sm1 q (by omega))
  have hL : (tl.take t ++ cm com :: tl.drop t).length = tl.length + 1 := by
    simp only [List.length_append, List.length_cons, List.length_take, List.length_drop]
    omega
  obtain ⟨h', r, g1, g2, g3⟩ := l_next_tail (G := G) (nx := nx) (sl := sl) hH1 hM1 hS1 ha hw hok (by omega) (fun z => hw1 (List.mem_of_mem_take z)) (fun x hx => by
    rcases List.mem_append.mp hx with hx | hx
    · have := hb x (List.mem_of_mem_take hx)
      omega
    · rcases List.mem_cons.mp hx with rfl | hx
      · omega
      · have := hb x (List.mem_of_mem_drop hx)
        omega) (by omega) hd
  rw [List.take_append_drop] at g1
  refine ⟨h', ?_, g1, g2, sm1.sm.trans g3⟩
  obtain ⟨tN, ⟨s0, s1, s2, s3, s4, s5, s6⟩, htN⟩ := hS
  unfold xSvF at s0
  dsimp only at s0 s1 s2 s3 s4 s5 s6
  refine xr_go i62_0 rfl ?_
  refine xr_get i62_1 xf62_47 (by assumption) rfl rfl ?_
  refine xr_get i62_4 xf62_79 (by assumption) rfl rfl ?_
  refine xr_go i62_7 rfl ?_
  refine xr_get i62_8 xf62_35 (by assumption) rfl rfl ?_
  refine xr_iald i62_11 (by assumption) rfl (by omega) (by omega) ?_
  refine xr_go i62_12 rfl ?_
  refine xr_go i62_13 rfl ?_
  refine xr_get i62_14 xf62_15 (by assumption) rfl rfl ?_
  refine xr_go i62_17 rfl ?_
  refine xr_zald i62_18 (by assumption) rfl (by omega) (by omega) ?_
  refine xr_if_neF i62_19 (t := 27) (by decide) (by rw [hk]; decide) ?_
  refine xr_go i62_22 rfl ?_
  refine xr_go i62_23 rfl ?_
  refine xr_V i62_24 xc62_82 ⟨rfl, rfl⟩ xa_59 rfl (by assumption) rfl (Nat.le_of_ble_eq_true rfl) (by omega) ⟨Nat.le_of_ble_eq_true rfl, Nat.le_of_ble_eq_true rfl⟩ (r1) ?_
  exact r
/-- doing writes one behind another: the cells behind them -/
def xruns (sv sp : Nat → Nat) (pg : Nat → List (Nat × Int32)) (c : Nat → Int32) (l : List Nat) : Nat → Int32 := l.foldl (fun c w => xpC (pg w) (nI (sv w)) (nI (sp w)) c) c
/-- and their outcomes -/
def xouts (sv sp : Nat → Nat) (pg : Nat → List (Nat × Int32)) : List Nat → (Nat → Int32) → (Nat → Nat) → (Nat → Nat)
  | [], _, oc => oc
  | w :: l, c, oc => xouts sv sp pg l (xpC (pg w) (nI (sv w)) (nI (sp w)) c) (va_up oc w (xpO (pg w) (nI (sv w)) (nI (sp w)) c))
set_option maxHeartbeats 4000000 in
theorem l_catch_loop (ha : B + 18 ≤ a ∧ a + 6 < B + 53) (hok : ∀ w, w < tak → xOKp (pg w)) (htk : ∀ x ∈ tl, x < tak) (hlen : tl.length ≤ 500) (hd : 4 ≤ d) : ∀ (rest : List Nat) (i : Nat) (h : xH) (ce : Nat → Int32) (oc : Nat → Nat) (L2 : Option Value), tl.drop i = rest → i + rest.length = tl.length → xHist B tak cmt wad pad psa poa sv sp pl pg cm h → (∃ b e t, xMS (B + 13) b e t h) → xSV B a clk com fog don vec kno tl cc ce oc h →
    ∃ h', xRun G d 61 (27, [some (.ref a), some (.int (nI i)), L2], [], (h, nx, sl)) (none, (h', nx, sl)) ∧ xSV B a clk com fog tl.length vec kno tl cc (xruns sv sp pg ce rest) (xouts sv sp pg rest ce oc) h' ∧ (∃ b e t, xMS (B + 13) b e t h') ∧ xsm B a h h' := by
  intro rest
  induction rest with
  | nil =>
    intro i h ce oc L2 hdr hi hH hM hS
    simp only [List.length_nil, Nat.add_zero] at hi
    obtain ⟨tN, ⟨s0, s1, s2, s3, s4, s5, s6⟩, htN⟩ := hS
    unfold xSvF at s0
    dsimp only at s0 s1 s2 s3 s4 s5 s6
    let g1 : xH := xup h a (.inr (6, xSvF B a (clk, com, fog, tl.length, tl.length)))
    refine ⟨g1, ?_, ⟨tN, ⟨xup_s, ?_, ?_, ?_, ?_, ?_, ?_⟩, htN⟩, ?_, ?_⟩
    · refine xr_go i61_27 rfl ?_
      refine xr_go i61_28 rfl ?_
      refine xr_get i61_29 xf61_41 (by assumption) rfl rfl ?_
      refine xr_icmp_geT i61_32 (t := 74) (by decide) (nI_le (by omega) (by omega)) ?_
      refine xr_go i61_74 rfl ?_
      refine xr_go i61_75 rfl ?_
      refine xr_get i61_76 xf61_41 (by assumption) rfl rfl ?_
      refine xr_put i61_79 xf61_44 (by assumption) ⟨rfl, Nat.le_of_ble_eq_true rfl, rfl, rfl, Or.inl rfl⟩ (fun f1 ef1 => ?_)
      have ef1' : f1 = g1 := by rw [ef1]; rfl
      rw [ef1']
      exact xr_end i61_82 rfl
    · exact (xup_n (by omega)).trans s1
    · exact (xup_n (by omega)).trans s2
    · exact (xup_n (by omega)).trans s3
    · exact (xup_n (by omega)).trans s4
    · exact (xup_n (by omega)).trans s5
    · exact (xup_n (by omega)).trans s6
    · obtain ⟨b, e, t, hm⟩ := hM
      exact ⟨b, e, t, xMS_kept hm (fun q h1 h2 => xup_n (by omega))⟩
    · exact fun q h1 h2 => xup_n (by omega)
  | cons w rest ih =>
    intro i h ce oc L2 hdr hi hH hM hS
    simp only [List.length_cons] at hi
    have hH0 := hH
    have hS0 := hS
    obtain ⟨tN, ⟨s0, s1, s2, s3, s4, s5, s6⟩, htN⟩ := hS
    unfold xSvF at s0
    dsimp only at s0 s1 s2 s3 s4 s5 s6
    obtain ⟨⟨wf, w1, w2, w3⟩, w4, w5, w6, w7⟩ := hH
    have hil : i < tl.length := by omega
    have hwi : tl.getD i 0 = w := by
      rw [List.getD_eq_getElem?_getD]
      have := congrArg (fun l => l[0]?) hdr
      simp only [List.getElem?_drop, Nat.add_zero, List.getElem?_cons_zero] at this
      rw [this]
      rfl
    have hdr2 : tl.drop (i + 1) = rest := by
      have := congrArg (fun l => l.drop 1) hdr
      simpa [List.drop_drop] using this
    have hwm : w ∈ tl := hwi ▸ getD_mem hil
    have hw := htk w hwm
    have hti : tN i = w := (htN i hil).trans hwi
    have wfw := w3 w hw
    obtain ⟨b9, e9, t9, hm⟩ := hM
    have m0 := xMS_at hm
    obtain ⟨h3, r3, p1, p2, p3⟩ := l_perf (G := G) (d := d - 1) (nx := nx) (sl := sl) (ca := a + 5) hH0 hm hw (hok w hw) (by omega) s5 (by omega)
    have e1 : ∀ q, a ≤ q → q ≤ a + 6 → q ≠ a + 5 → h3 q = h q := fun q h1 h2 h9 => p3 q h9 (by omega)
    let g4 : xH := xup h3 (a + 6) (.inl (0, 500, .inl (fun j => nI (va_up oc w (xpO (pg w) (nI (sv w)) (nI (sp w)) ce) j))))
    have sm4 : xsm B a h g4 := fun q h1 h2 => by
      show xup h3 (a + 6) _ q = _
      rw [xup_n (by omega)]
      exact p3 q (by omega) h2
    have hH4 := xHist_kept hH0 (h' := g4) (fun q hq => sm4 q (by omega) (by omega))
    have hM4 : ∃ b e t, xMS (B + 13) b e t g4 := by
      obtain ⟨b, e, t, hm4⟩ := p2
      exact ⟨b, e, t, xMS_kept hm4 (fun q h1 h2 => xup_n (by omega))⟩
    have f6 : h3 (a + 6) = some (.inl (0, 500, .inl (fun j => nI (oc j)))) := (e1 _ (by omega) (by omega) (by omega)).trans s6
    have hS4 : xSV B a clk com fog don vec kno tl cc (xpC (pg w) (nI (sv w)) (nI (sp w)) ce) (va_up oc w (xpO (pg w) (nI (sv w)) (nI (sp w)) ce)) g4 := by
      refine ⟨tN, ⟨?_, ?_, ?_, ?_, ?_, ?_, xup_s⟩, htN⟩
      · exact (xup_n (by omega)).trans ((e1 _ (by omega) (by omega) (by omega)).trans s0)
      · exact (xup_n (by omega)).trans ((e1 _ (by omega) (by omega) (by omega)).trans s1)
      · exact (xup_n (by omega)).trans ((e1 _ (by omega) (by omega) (by omega)).trans s2)
      · exact (xup_n (by omega)).trans ((e1 _ (by omega) (by omega) (by omega)).trans s3)
      · exact (xup_n (by omega)).trans ((e1 _ (by omega) (by omega) (by omega)).trans s4)
      · exact (xup_n (by omega)).trans p1
    obtain ⟨h', r, g1, g2, g3⟩ := ih (i + 1) g4 _ _ (some (.int (nI w))) hdr2 (by omega) hH4 hM4 hS4
    refine ⟨h', ?_, g1, g2, sm4.trans g3⟩
    refine xr_go i61_27 rfl ?_
    refine xr_go i61_28 rfl ?_
    refine xr_get i61_29 xf61_41 (by assumption) rfl rfl ?_
    refine xr_icmp_geF i61_32 (t := 74) (by decide) (nI_ge (by omega) (by omega)) ?_
    refine xr_go i61_35 rfl ?_
    refine xr_get i61_36 xf61_19 (by assumption) rfl rfl ?_
    refine xr_go i61_39 rfl ?_
    refine xr_iald i61_40 (by assumption) rfl (by omega) (by omega) ?_
    rw [hti]
    refine xr_go i61_41 rfl ?_
    refine xr_go i61_42 rfl ?_
    refine xr_get i61_43 xf61_28 (by assumption) rfl rfl ?_
    refine xr_go i61_46 rfl ?_
    refine xr_go i61_47 rfl ?_
    refine xr_get i61_48 xf61_51 (by assumption) rfl rfl ?_
    refine xr_go i61_51 rfl ?_
    refine xr_get i61_52 xf61_47 (by assumption) rfl rfl ?_
    refine xr_get i61_55 xf61_55 (by assumption) rfl rfl ?_
    refine xr_go i61_58 rfl ?_
    refine xr_aald i61_59 (by assumption) (by decide) rfl (by omega) (by omega) (by assumption) ?_
    refine xr_go i61_60 rfl ?_
    refine xr_get i61_61 xf61_25 (by assumption) rfl rfl ?_
    refine xr_V i61_64 xc61_89 ⟨rfl, rfl⟩ xa_50 rfl (by assumption) rfl (Nat.le_of_ble_eq_true rfl) (by omega) ⟨Nat.le_of_ble_eq_true rfl, Nat.le_of_ble_eq_true rfl⟩ (r3) ?_
    refine xr_iast i61_67 (by assumption) rfl (by omega) (by omega) (fun f4 ef4 => ?_)
    have ef4' : f4 = g4 := by
      rw [ef4]
      show _ = xup h3 (a + 6) _
      congr 5
      exact xupdN
    rw [ef4']
    refine xr_inc1 i61_68 rfl rfl ?_
    refine xr_goto i61_71 (t := 27) (by decide) ?_
    exact r
end XSERV3
end
section
/-! ===== what a server of the class stands for: its clock, how much it knows as committed and has forgotten, what it knows ===== -/
def xcms (cm : Nat → Nat) (com : Nat) : List Nat := (List.range com).map cm
theorem xcms_len {cm : Nat → Nat} {com : Nat} : (xcms cm com).length = com := by simp [xcms]
theorem xcms_succ {cm : Nat → Nat} {com : Nat} : xcms cm (com + 1) = xcms cm com ++ [cm com] := by simp [xcms, List.range_succ]
theorem xcms_getD {cm : Nat → Nat} {com r : Nat} (h : r < com) : (xcms cm com).getD r 0 = cm r := by
  rw [List.getD_eq_getElem?_getD]
  simp [xcms, h]
theorem xcms_mem {cm : Nat → Nat} {com w : Nat} : w ∈ xcms cm com ↔ ∃ r, r < com ∧ cm r = w := by simp [xcms]
theorem xcms_take {cm : Nat → Nat} {com r : Nat} (h : r ≤ com) : (xcms cm com).take r = xcms cm r := by
  unfold xcms
  rw [← List.map_take, List.take_range, Nat.min_eq_left h]
def xz : Nat → Int32 := fun _ => 0
theorem xruns_app {sv sp : Nat → Nat} {pg : Nat → List (Nat × Int32)} {c : Nat → Int32} {l1 l2 : List Nat} : xruns sv sp pg c (l1 ++ l2) = xruns sv sp pg (xruns sv sp pg c l1) l2 := by simp [xruns]
theorem xruns_one {sv sp : Nat → Nat} {pg : Nat → List (Nat × Int32)} {c : Nat → Int32} {w : Nat} : xruns sv sp pg c [w] = xpC (pg w) (nI (sv w)) (nI (sp w)) c := rfl
/-- the outcome of the write at place p of an order -/
def xoutAt (sv sp : Nat → Nat) (pg : Nat → List (Nat × Int32)) (ord : List Nat) (p : Nat) : Nat := xpO (pg (ord.getD p 0)) (nI (sv (ord.getD p 0))) (nI (sp (ord.getD p 0))) (xruns sv sp pg xz (ord.take p))
theorem xoutAt_app {sv sp : Nat → Nat} {pg : Nat → List (Nat × Int32)} {l1 l2 : List Nat} {p : Nat} (h : p < l1.length) : xoutAt sv sp pg (l1 ++ l2) p = xoutAt sv sp pg l1 p := by
  unfold xoutAt
  rw [getD_app_l h, List.take_append_of_le_length (by omega)]
theorem xouts_not {sv sp : Nat → Nat} {pg : Nat → List (Nat × Int32)} : ∀ (l : List Nat) (c : Nat → Int32) (oc : Nat → Nat) (w : Nat), w ∉ l → xouts sv sp pg l c oc w = oc w := by
  intro l
  induction l with
  | nil => intro c oc w _; rfl
  | cons x l ih =>
    intro c oc w hw
    unfold xouts
    rw [ih _ _ _ (fun z => hw (List.mem_cons_of_mem _ z))]
    unfold va_up
    rw [if_neg (show ¬ w = x from fun z => hw (by rw [z]; exact List.mem_cons_self))]
theorem xouts_at {sv sp : Nat → Nat} {pg : Nat → List (Nat × Int32)} : ∀ (l pre : List Nat) (c : Nat → Int32) (oc : Nat → Nat), c = xruns sv sp pg xz pre → (pre ++ l).Nodup → ∀ j, j < l.length → xouts sv sp pg l c oc (l.getD j 0) = xoutAt sv sp pg (pre ++ l) (pre.length + j) := by
  intro l
  induction l with
  | nil => intro pre c oc _ _ j hj; simp at hj
  | cons x l ih =>
    intro pre c oc hc hn j hj
    unfold xouts
    cases j with
    | zero =>
      have hx : x ∉ l := by
        have := (List.nodup_append.mp hn).2.1
        exact (List.nodup_cons.mp this).1
      rw [List.getD_cons_zero, xouts_not _ _ _ _ hx]
      unfold va_up
      rw [if_pos rfl]
      unfold xoutAt
      rw [Nat.add_zero, getD_app_r (Nat.le_refl _), Nat.sub_self, List.getD_cons_zero, List.take_left, hc]
    | succ j =>
      rw [List.getD_cons_succ]
      have := ih (pre ++ [x]) (xpC (pg x) (nI (sv x)) (nI (sp x)) c) (va_up oc x (xpO (pg x) (nI (sv x)) (nI (sp x)) c)) (by rw [xruns_app, xruns_one, hc]) (by simpa using hn) j (by simpa using hj)
      rw [this]
      simp only [List.append_assoc, List.singleton_append, List.length_append, List.length_singleton]
      congr 1
      omega
/-- the tentative writes: sorted, just those that are known and not committed there -/
def xTL (tak : Nat) (sv sp cm kno : Nat → Nat) (com : Nat) (tl : List Nat) : Prop := tl.Pairwise (xlt sv sp) ∧ ∀ w, w ∈ tl ↔ (w < tak ∧ kno w = 1 ∧ w ∉ xcms cm com)
/-- what is so of the writes of a history -/
def xHU (tak cmt : Nat) (sv sp cm : Nat → Nat) : Prop := (∀ w v, w < tak → v < tak → sp w = sp v → sv w = sv v → w = v) ∧ (∀ r, r < cmt → cm r < tak) ∧ ∀ r q, r < cmt → q < cmt → cm r = cm q → r = q
theorem xlt_irr {sv sp : Nat → Nat} {w : Nat} : ¬ xlt sv sp w w := by unfold xlt; omega
theorem xlt_trans {sv sp : Nat → Nat} {u v w : Nat} (h1 : xlt sv sp u v) (h2 : xlt sv sp v w) : xlt sv sp u w := by unfold xlt at *; omega
theorem xlt_tot {tak cmt : Nat} {sv sp cm : Nat → Nat} (hU : xHU tak cmt sv sp cm) {w v : Nat} (h1 : w < tak) (h2 : v < tak) (h3 : w ≠ v) (h4 : ¬ xlt sv sp w v) : xlt sv sp v w := by
  unfold xlt at *
  by_cases e : sp w = sp v
  · by_cases e2 : sv w = sv v
    · exact absurd (hU.1 w v h1 h2 e e2) h3
    · omega
  · omega
theorem xTL_nodup {tak com : Nat} {sv sp cm kno : Nat → Nat} {tl : List Nat} (h : xTL tak sv sp cm kno com tl) : tl.Nodup := List.Pairwise.imp (fun {a b} hab => fun z => xlt_irr (z ▸ hab)) h.1
theorem xcms_nodup {tak cmt com : Nat} {sv sp cm : Nat → Nat} (hU : xHU tak cmt sv sp cm) (hc : com ≤ cmt) : (xcms cm com).Nodup := by
  unfold xcms
  rw [List.Nodup, List.pairwise_map]
  refine List.Pairwise.imp_of_mem (fun {a b} ha hb hab => ?_) (List.nodup_range (n := com))
  have ha := List.mem_range.mp ha
  have hb := List.mem_range.mp hb
  exact fun z => hab (hU.2.2 a b (by omega) (by omega) z)
theorem xord_nodup {tak cmt com : Nat} {sv sp cm kno : Nat → Nat} {tl : List Nat} (hU : xHU tak cmt sv sp cm) (hc : com ≤ cmt) (h : xTL tak sv sp cm kno com tl) : (xcms cm com ++ tl).Nodup := by
  refine List.nodup_append.mpr ⟨xcms_nodup hU hc, xTL_nodup h, fun a ha b hb => fun z => ?_⟩
  exact ((h.2 b).mp hb).2.2 (z ▸ ha)
/-- a new write among the sorted -/
theorem xTL_ins {tak cmt com w t : Nat} {sv sp cm kno : Nat → Nat} {tl : List Nat} (hU : xHU tak cmt sv sp cm) (h : xTL tak sv sp cm kno com tl) (hw : w < tak) (hk : kno w = 0) (hc : w ∉ xcms cm com) (h1 : ∀ x ∈ tl.drop t, xlt sv sp w x) (h2 : ∀ k, t = k + 1 → ¬ xlt sv sp w (tl.getD k 0)) (ht : t ≤ tl.length) : xTL tak sv sp cm (va_up kno w 1) com (tl.take t ++ w :: tl.drop t) := by
  have hwt : w ∉ tl := fun z => by
    have := ((h.2 w).mp z).2.1
    omega
  refine ⟨?_, fun v => ?_⟩
  · have hp : (tl.take t ++ tl.drop t).Pairwise (xlt sv sp) := by rw [List.take_append_drop]; exact h.1
    obtain ⟨p1, p2, p3⟩ := List.pairwise_append.mp hp
    refine List.pairwise_append.mpr ⟨p1, List.pairwise_cons.mpr ⟨h1, p2⟩, fun a ha b hb => ?_⟩
    rcases List.mem_cons.mp hb with rfl | hb
    · cases t with
      | zero => simp at ha
      | succ k =>
        have hk1 : k < tl.length := by omega
        have hx := h2 k rfl
        have hxm := getD_mem hk1
        have hlast : xlt sv sp (tl.getD k 0) b := xlt_tot hU hw ((h.2 _).mp hxm).1 (fun z => hwt (z ▸ hxm)) hx
        obtain ⟨i, hi, rfl⟩ := List.getElem_of_mem ha
        rw [List.length_take] at hi
        rw [List.getElem_take]
        by_cases hik : i = k
        · subst hik
          rw [List.getD_eq_getElem?_getD, List.getElem?_eq_getElem hk1] at hlast
          exact hlast
        · have := (List.pairwise_iff_getElem.mp h.1) i k (by omega) hk1 (by omega)
          rw [List.getD_eq_getElem?_getD, List.getElem?_eq_getElem hk1] at hlast
          exact xlt_trans this hlast
    · exact p3 a ha b hb
  · unfold va_up
    constructor
    · intro hv
      rcases List.mem_append.mp hv with hv | hv
      · have := (h.2 v).mp (List.mem_of_mem_take hv)
        refine ⟨this.1, ?_, this.2.2⟩
        split
        · rfl
        · exact this.2.1
      · rcases List.mem_cons.mp hv with rfl | hv
        · exact ⟨hw, by rw [if_pos rfl], hc⟩
        · have := (h.2 v).mp (List.mem_of_mem_drop hv)
          refine ⟨this.1, ?_, this.2.2⟩
          split
          · rfl
          · exact this.2.1
    · rintro ⟨g1, g2, g3⟩
      by_cases hvw : v = w
      · subst hvw
        exact List.mem_append_right _ List.mem_cons_self
      · rw [if_neg hvw] at g2
        have := (h.2 v).mpr ⟨g1, g2, g3⟩
        rw [← List.take_append_drop t tl] at this
        rcases List.mem_append.mp this with h9 | h9
        · exact List.mem_append_left _ h9
        · exact List.mem_append_right _ (List.mem_cons_of_mem _ h9)
/-- WHAT A SERVER STANDS FOR -/
def xSI (B a tak cmt : Nat) (sv sp : Nat → Nat) (pg : Nat → List (Nat × Int32)) (cm : Nat → Nat) (clk com fog : Nat) (kno : Nat → Nat) (h : xH) : Prop :=
  ∃ (don : Nat) (vec : Nat → Nat) (tl : List Nat) (cc ce : Nat → Int32) (oc : Nat → Nat), xSV B a clk com fog don vec kno tl cc ce oc h ∧ xTL tak sv sp cm kno com tl ∧ (∀ w, kno w = 0 ∨ kno w = 1) ∧ (∀ w, kno w = 1 → w < tak) ∧ (∀ r, r < com → kno (cm r) = 1) ∧ com ≤ cmt ∧ fog ≤ com ∧ clk < 2 ^ 31 ∧ (∀ w, kno w = 1 → sp w ≤ clk) ∧
  (∀ j, j < 5 → vec j < 2 ^ 31 ∧ (∀ w, kno w = 1 → sv w = j → sp w ≤ vec j) ∧ (vec j = 0 ∨ ∃ w, kno w = 1 ∧ sv w = j ∧ vec j = sp w)) ∧
  cc = xruns sv sp pg xz (xcms cm com) ∧ don ≤ tl.length ∧ (don ≠ 0 → ce = xruns sv sp pg xz (xcms cm com ++ tl.take don)) ∧ (∀ p, p < com + don → oc ((xcms cm com ++ tl).getD p 0) = xoutAt sv sp pg (xcms cm com ++ tl) p) ∧ (∀ k, 32 ≤ k → cc k = 0 ∧ ce k = 0) ∧ ∀ w, oc w ≤ 6
end
section
/-! ===== servers: learning, committing, in these words ===== -/
theorem nd_le : ∀ (n : Nat) (l : List Nat), l.Nodup → (∀ x ∈ l, x < n) → l.length ≤ n := by
  intro n
  induction n with
  | zero =>
    intro l _ h
    cases l with
    | nil => simp
    | cons x l => exact absurd (h x List.mem_cons_self) (by omega)
  | succ n ih =>
    intro l hn h
    by_cases hm : n ∈ l
    · have h1 := ih (l.erase n) (hn.erase n) (fun x hx => by
        have := (hn.mem_erase_iff).mp hx
        have := h x this.2
        omega)
      have := List.length_erase_of_mem hm
      omega
    · have := ih l hn (fun x hx => by
        have := h x hx
        have : x ≠ n := fun z => hm (z ▸ hx)
        omega)
      omega
theorem xchg_hi {e : List (Nat × Int32)} {c : Nat → Int32} {k : Nat} (he : ∀ p ∈ e, p.1 < 32) (hk : 32 ≤ k) : xchg e c k = c k := by
  unfold xchg
  induction e generalizing c with
  | nil => rfl
  | cons p e ih =>
    rw [List.foldl_cons, ih (fun q hq => he q (List.mem_cons_of_mem _ hq))]
    unfold upd
    have := he p List.mem_cons_self
    rw [if_neg (by omega)]
theorem xperf_hi {x y : Int32} {c c' : Nat → Int32} {o : Int32} : ∀ (p : List (Nat × Int32)) (s : xS), xperf x y c p s = some (o, c') → ∀ k, 32 ≤ k → c' k = c k := by
  intro p
  induction p with
  | nil => intro s h k hk; cases h; rfl
  | cons q p ih =>
    intro s h k hk
    unfold xperf at h
    split at h
    · split at h
      · split at h
        · rename_i hall
          cases h
          exact xchg_hi (fun q hq => of_decide_eq_true (List.all_eq_true.mp hall q hq)) hk
        · cases h
      · exact ih _ h k hk
    · split at h
      · split at h
        · split at h
          · exact ih _ h k hk
          · cases h
        · exact ih _ h k hk
      · cases h
theorem xpC_hi {p : List (Nat × Int32)} (hp : xOKp p) {x y : Int32} {c : Nat → Int32} {k : Nat} (hk : 32 ≤ k) : xpC p x y c k = c k := xperf_hi p _ (hp.run x y c).1 k hk
theorem va_up_same {f : Nat → Nat} {w x : Nat} (h : f w = x) : va_up f w x = f := by
  funext j
  unfold va_up
  split
  · rename_i hj; rw [hj, h]
  · rfl
section XSI
variable {G : xG} {d : Nat} {h : xH} {nx sl : Nat} {B a tak cmt : Nat} {wad pad psa poa sv sp pl : Nat → Nat} {pg : Nat → List (Nat × Int32)} {cm : Nat → Nat} {clk com fog : Nat} {kno : Nat → Nat}
theorem xTL_len {tl : List Nat} (ht : xTL tak sv sp cm kno com tl) : tl.length ≤ tak := nd_le tak tl (xTL_nodup ht) (fun x hx => ((ht.2 x).mp hx).1)
theorem xTL_lt {tl : List Nat} {w : Nat} (ht : xTL tak sv sp cm kno com tl) (hw : w < tak) (h : w ∉ tl) : tl.length < tak := by
  have := nd_le tak (w :: tl) (List.nodup_cons.mpr ⟨h, xTL_nodup ht⟩) (fun x hx => by
    rcases List.mem_cons.mp hx with rfl | hx
    · exact hw
    · exact ((ht.2 x).mp hx).1)
  simp only [List.length_cons] at this
  omega
theorem xvec_up {vec : Nat → Nat} {w : Nat} (hw : sp w < 2 ^ 31) (h : ∀ j, j < 5 → vec j < 2 ^ 31 ∧ (∀ w, kno w = 1 → sv w = j → sp w ≤ vec j) ∧ (vec j = 0 ∨ ∃ w, kno w = 1 ∧ sv w = j ∧ vec j = sp w)) : ∀ j, j < 5 → va_up vec (sv w) (max (vec (sv w)) (sp w)) j < 2 ^ 31 ∧ (∀ v, va_up kno w 1 v = 1 → sv v = j → sp v ≤ va_up vec (sv w) (max (vec (sv w)) (sp w)) j) ∧ (va_up vec (sv w) (max (vec (sv w)) (sp w)) j = 0 ∨ ∃ v, va_up kno w 1 v = 1 ∧ sv v = j ∧ va_up vec (sv w) (max (vec (sv w)) (sp w)) j = sp v) := by
  intro j hj
  obtain ⟨h1, h2, h3⟩ := h j hj
  have hkw : va_up kno w 1 w = 1 := by simp [va_up]
  have hku : ∀ v, kno v = 1 → va_up kno w 1 v = 1 := fun v hv => by
    unfold va_up
    split
    · rfl
    · exact hv
  by_cases e : j = sv w
  · subst e
    have e1 : va_up vec (sv w) (max (vec (sv w)) (sp w)) (sv w) = max (vec (sv w)) (sp w) := by simp [va_up]
    rw [e1]
    refine ⟨by omega, fun v hv hs => ?_, ?_⟩
    · by_cases hvw : v = w
      · subst hvw
        omega
      · unfold va_up at hv
        rw [if_neg hvw] at hv
        have := h2 v hv hs
        omega
    · by_cases hle : sp w ≤ vec (sv w)
      · rw [Nat.max_eq_left hle]
        rcases h3 with h3 | ⟨v, g1, g2, g3⟩
        · exact Or.inl h3
        · exact Or.inr ⟨v, hku v g1, g2, g3⟩
      · rw [Nat.max_eq_right (by omega)]
        exact Or.inr ⟨w, hkw, rfl, rfl⟩
  · have e1 : va_up vec (sv w) (max (vec (sv w)) (sp w)) j = vec j := by simp [va_up, e]
    rw [e1]
    refine ⟨h1, fun v hv hs => ?_, ?_⟩
    · by_cases hvw : v = w
      · subst hvw
        exact absurd hs.symm e
      · unfold va_up at hv
        rw [if_neg hvw] at hv
        exact h2 v hv hs
    · rcases h3 with h3 | ⟨v, g1, g2, g3⟩
      · exact Or.inl h3
      · exact Or.inr ⟨v, hku v g1, g2, g3⟩
theorem xkno_up {w : Nat} (hw : w < tak) (h1 : ∀ w, kno w = 0 ∨ kno w = 1) (h2 : ∀ w, kno w = 1 → w < tak) : (∀ v, va_up kno w 1 v = 0 ∨ va_up kno w 1 v = 1) ∧ (∀ v, va_up kno w 1 v = 1 → v < tak) := by
  refine ⟨fun v => ?_, fun v hv => ?_⟩
  · unfold va_up
    split
    · exact Or.inr rfl
    · exact h1 v
  · unfold va_up at hv
    split at hv
    · rename_i e; rw [e]; exact hw
    · exact h2 v hv
theorem q_learn {w : Nat} (hH : xHist B tak cmt wad pad psa poa sv sp pl pg cm h) (hU : xHU tak cmt sv sp cm) (hS : xSI B a tak cmt sv sp pg cm clk com fog kno h) (ha : B + 18 ≤ a ∧ a + 6 < B + 53) (hw : w < tak) (hk : kno w = 0) (hd : 1 ≤ d) :
    ∃ h', xRun G d 59 (0, [some (.ref a), some (.int (nI w)), none, none], [], (h, nx, sl)) (none, (h', nx, sl)) ∧ xSI B a tak cmt sv sp pg cm (max clk (sp w)) com fog (va_up kno w 1) h' ∧ xsame a (a + 6) h h' := by
  obtain ⟨don, vec, tl, cc, ce, oc, hV, hT, k1, k2, k3, k4, k5, k6, k7, k8, k9, k10, k11, k12, k13, k14⟩ := hS
  have hspw : sp w < 2 ^ 31 := (hH.2.2.2.2 w hw).2.2.2.2.2.2.2
  have ht5 : tak ≤ 500 := hH.2.2.1
  have hwt : w ∉ tl := fun z => by
    have := ((hT.2 w).mp z).2.1
    omega
  have hwc : w ∉ xcms cm com := fun z => by
    obtain ⟨r, hr, e⟩ := xcms_mem.mp z
    have := k3 r hr
    rw [e] at this
    omega
  have hlt := xTL_lt hT hw hwt
  obtain ⟨h', t, r, g1, g2, g3, g4, g5⟩ := l_learn (G := G) (nx := nx) (sl := sl) hH hV ha hw (by omega) (fun x hx => ((hT.2 x).mp hx).1) k10 k6 (fun j hj => (k8 j hj).1) hd
  refine ⟨h', r, ⟨_, _, _, _, _, _, g1, xTL_ins hU hT hw hk hwc g4 g5 g3, (xkno_up hw k1 k2).1, (xkno_up hw k1 k2).2, fun q hq => ?_, k4, k5, by omega, fun v hv => ?_, xvec_up hspw k8, k9, ?_, ?_, ?_, k13, k14⟩, g2⟩
  · unfold va_up
    split
    · rfl
    · exact k3 q hq
  · by_cases hvw : v = w
    · subst hvw
      omega
    · unfold va_up at hv
      rw [if_neg hvw] at hv
      have := k7 v hv
      omega
  · have : (tl.take t ++ w :: tl.drop t).length = tl.length + 1 := by
      simp only [List.length_append, List.length_cons, List.length_take, List.length_drop]
      omega
    rw [this]
    split <;> omega
  · intro hne
    by_cases htd : t < don
    · rw [if_pos htd] at hne
      exact absurd rfl hne
    · rw [if_neg htd] at hne ⊢
      have e : (tl.take t ++ w :: tl.drop t).take don = tl.take don := by
        rw [List.take_append_of_le_length (by rw [List.length_take]; omega), List.take_take, Nat.min_eq_left (by omega)]
      rw [e]
      exact k11 hne
  · intro p hp
    have e1 : xcms cm com ++ (tl.take t ++ w :: tl.drop t) = (xcms cm com ++ tl.take t) ++ (w :: tl.drop t) := by simp
    have e2 : xcms cm com ++ tl = (xcms cm com ++ tl.take t) ++ tl.drop t := by simp
    have hl : (xcms cm com ++ tl.take t).length = com + t := by
      rw [List.length_append, xcms_len, List.length_take]
      omega
    have hpl : p < com + t ∧ p < com + don := by
      by_cases htd : t < don
      · rw [if_pos htd] at hp
        omega
      · rw [if_neg htd] at hp
        omega
    rw [e1, xoutAt_app (by omega), getD_app_l (by omega)]
    have := k12 p hpl.2
    rw [e2, xoutAt_app (by omega), getD_app_l (by omega)] at this
    exact this
/-- the next commit: what it makes of a server's inner state -/
theorem xnext_inv {w : Nat} {tl tl' : List Nat} {cc ce : Nat → Int32} {oc : Nat → Nat} {don : Nat} (hU : xHU tak cmt sv sp cm) (hwe : w = cm com) (hcm : com < cmt) (hok : xOKp (pg w)) (hT' : xTL tak sv sp cm (va_up kno w 1) (com + 1) tl') (k9 : cc = xruns sv sp pg xz (xcms cm com)) (k12 : ∀ p, p < com + don → oc ((xcms cm com ++ tl).getD p 0) = xoutAt sv sp pg (xcms cm com ++ tl) p) (k13 : ∀ k, 32 ≤ k → cc k = 0 ∧ ce k = 0) (k14 : ∀ w, oc w ≤ 6) :
    xpC (pg w) (nI (sv w)) (nI (sp w)) cc = xruns sv sp pg xz (xcms cm (com + 1)) ∧ (∀ p, p < (com + 1) + 0 → va_up oc w (xpO (pg w) (nI (sv w)) (nI (sp w)) cc) ((xcms cm (com + 1) ++ tl').getD p 0) = xoutAt sv sp pg (xcms cm (com + 1) ++ tl') p) ∧ (∀ k, 32 ≤ k → xpC (pg w) (nI (sv w)) (nI (sp w)) cc k = 0 ∧ ce k = 0) ∧ ∀ v, va_up oc w (xpO (pg w) (nI (sv w)) (nI (sp w)) cc) v ≤ 6 := by
  refine ⟨by rw [xcms_succ, xruns_app, xruns_one, k9, hwe], fun p hp => ?_, fun k hk => ⟨by rw [xpC_hi hok hk]; exact (k13 k hk).1, (k13 k hk).2⟩, fun v => ?_⟩
  · rw [xoutAt_app (by rw [xcms_len]; omega), getD_app_l (by rw [xcms_len]; omega)]
    by_cases hpc : p = com
    · subst hpc
      rw [xcms_getD (by omega)]
      unfold xoutAt va_up
      rw [xcms_getD (by omega), if_pos hwe.symm, xcms_take (by omega), ← k9, hwe]
    · have h1 := k12 p (by omega)
      rw [xoutAt_app (by rw [xcms_len]; omega), getD_app_l (by rw [xcms_len]; omega), xcms_getD (by omega)] at h1
      rw [xcms_getD (by omega)]
      unfold va_up
      rw [if_neg (by rw [hwe]; exact fun z => hpc (hU.2.2 p com (by omega) hcm z)), h1, xcms_succ, xoutAt_app (by rw [xcms_len]; omega)]
  · unfold va_up
    split
    · exact (hok.run _ _ _).2
    · exact k14 v
theorem q_next {bb : List Int32} {ee : List (Nat × Int32)} {tt : Bool} (hH : xHist B tak cmt wad pad psa poa sv sp pl pg cm h) (hU : xHU tak cmt sv sp cm) (hok : ∀ w, w < tak → xOKp (pg w)) (hM : xMS (B + 13) bb ee tt h) (hS : xSI B a tak cmt sv sp pg cm clk com fog kno h) (ha : B + 18 ≤ a ∧ a + 6 < B + 53) (hcm : com < cmt) (hd : 4 ≤ d) :
    ∃ h', xRun G d 62 (0, [some (.ref a), none], [], (h, nx, sl)) (none, (h', nx, sl)) ∧ xSI B a tak cmt sv sp pg cm (max clk (sp (cm com))) (com + 1) fog (va_up kno (cm com) 1) h' ∧ (∃ b e t, xMS (B + 13) b e t h') ∧ xsm B a h h' := by
  obtain ⟨don, vec, tl, cc, ce, oc, hV, hT, k1, k2, k3, k4, k5, k6, k7, k8, k9, k10, k11, k12, k13, k14⟩ := hS
  have hw := hU.2.1 com hcm
  have hspw : sp (cm com) < 2 ^ 31 := (hH.2.2.2.2 _ hw).2.2.2.2.2.2.2
  have ht5 : tak ≤ 500 := hH.2.2.1
  have hwc : cm com ∉ xcms cm com := fun z => by
    obtain ⟨r, hr, e⟩ := xcms_mem.mp z
    have := hU.2.2 r com (by omega) hcm e
    omega
  have hk3 : ∀ r, r < com + 1 → va_up kno (cm com) 1 (cm r) = 1 := fun r hr => by
    unfold va_up
    split
    · rfl
    · rename_i hne
      exact k3 r (by
        have : r ≠ com := fun z => hne (by rw [z])
        omega)
  have hk7 : ∀ v, va_up kno (cm com) 1 v = 1 → sp v ≤ max clk (sp (cm com)) := fun v hv => by
    by_cases hvw : v = cm com
    · subst hvw
      omega
    · unfold va_up at hv
      rw [if_neg hvw] at hv
      have := k7 v hv
      omega
  rcases k1 (cm com) with hk | hk
  · have hwt : cm com ∉ tl := fun z => by
      have := ((hT.2 _).mp z).2.1
      omega
    have hlt := xTL_lt hT hw hwt
    have hT' : xTL tak sv sp cm (va_up kno (cm com) 1) (com + 1) tl := by
      refine ⟨hT.1, fun v => ?_⟩
      rw [hT.2 v, xcms_succ]
      unfold va_up
      constructor
      · rintro ⟨g1, g2, g3⟩
        have hne : v ≠ cm com := fun z => by rw [z] at g2; omega
        exact ⟨g1, by rw [if_neg hne]; exact g2, by simp [g3, hne]⟩
      · rintro ⟨g1, g2, g3⟩
        have hne : v ≠ cm com := fun z => g3 (by simp [z])
        rw [if_neg hne] at g2
        exact ⟨g1, g2, fun z => g3 (List.mem_append_left _ z)⟩
    obtain ⟨h', r, g1, g2, g3⟩ := l_next_new (G := G) (nx := nx) (sl := sl) hH hM hV ha hcm hw (hok _ hw) hk (by omega) hwt (fun x hx => ((hT.2 x).mp hx).1) k10 k6 (fun j hj => (k8 j hj).1) hd
    obtain ⟨n1, n2, n3, n4⟩ := xnext_inv (tl := tl) (don := don) hU rfl hcm (hok _ hw) hT' k9 k12 k13 k14
    exact ⟨h', r, ⟨_, _, _, _, _, _, g1, hT', (xkno_up hw k1 k2).1, (xkno_up hw k1 k2).2, hk3, hcm, by omega, by omega, hk7, xvec_up hspw k8, n1, by omega, fun z => absurd rfl z, n2, n3, n4⟩, g2, g3⟩
  · have hwt : cm com ∈ tl := (hT.2 _).mpr ⟨hw, hk, hwc⟩
    obtain ⟨l1, l2, rfl⟩ := List.append_of_mem hwt
    have hnd := xTL_nodup hT
    have hw1 : cm com ∉ l1 := fun z => (List.nodup_append.mp hnd).2.2 _ z _ List.mem_cons_self rfl
    have hw2 : cm com ∉ l2 := (List.nodup_cons.mp (List.nodup_append.mp hnd).2.1).1
    have hlt := xTL_len hT
    have eku : va_up kno (cm com) 1 = kno := va_up_same hk
    have ecl : max clk (sp (cm com)) = clk := Nat.max_eq_left (k7 _ hk)
    have hT' : xTL tak sv sp cm (va_up kno (cm com) 1) (com + 1) (l1 ++ l2) := by
      rw [eku]
      obtain ⟨p1, p2, p3⟩ := List.pairwise_append.mp hT.1
      refine ⟨List.pairwise_append.mpr ⟨p1, (List.pairwise_cons.mp p2).2, fun x hx y hy => p3 x hx y (List.mem_cons_of_mem _ hy)⟩, fun v => ?_⟩
      have := hT.2 v
      rw [xcms_succ]
      by_cases hv : v = cm com
      · subst hv
        constructor
        · intro hm
          rcases List.mem_append.mp hm with hm | hm
          · exact absurd hm hw1
          · exact absurd hm hw2
        · rintro ⟨-, -, g3⟩
          exact absurd (List.mem_append_right _ (List.mem_singleton.mpr rfl)) g3
      · have e1 : v ∈ l1 ++ cm com :: l2 ↔ v ∈ l1 ++ l2 := by simp [hv]
        rw [← e1, this]
        simp [hv]
    obtain ⟨h', r, g1, g2, g3⟩ := l_next_known (G := G) (nx := nx) (sl := sl) hH hM hV ha hcm hw (hok _ hw) hk (by omega) hw1 (fun x hx => by
      have := ((hT.2 x).mp hx).1
      omega) hd
    obtain ⟨n1, n2, n3, n4⟩ := xnext_inv (tl := l1 ++ cm com :: l2) (don := don) hU rfl hcm (hok _ hw) hT' k9 k12 k13 k14
    refine ⟨h', r, ⟨0, vec, l1 ++ l2, _, ce, _, ?_, hT', (xkno_up hw k1 k2).1, (xkno_up hw k1 k2).2, hk3, hcm, by omega, by omega, hk7, by rw [eku]; exact k8, n1, by omega, fun z => absurd rfl z, n2, n3, n4⟩, g2, g3⟩
    rw [eku, ecl]
    exact g1
end XSI
end
section
/-! ===== servers: reading ===== -/
section XSI3
variable {G : xG} {d : Nat} {h : xH} {nx sl : Nat} {B a tak cmt : Nat} {wad pad psa poa sv sp pl : Nat → Nat} {pg : Nat → List (Nat × Int32)} {cm : Nat → Nat} {clk com fog : Nat} {kno : Nat → Nat}
theorem xcpy_cells {cc ce : Nat → Int32} (hz : ∀ k, 32 ≤ k → cc k = 0 ∧ ce k = 0) : va_cpy cc ce 0 0 32 = cc := by
  funext k
  unfold va_cpy
  by_cases hk : k < 32
  · rw [if_pos (by omega)]
    congr 1
    omega
  · rw [if_neg (by omega), (hz k (by omega)).1, (hz k (by omega)).2]
/-- the whole order of a server -/
def xord (cm : Nat → Nat) (com : Nat) (tl : List Nat) : List Nat := xcms cm com ++ tl
theorem q_catch {bb : List Int32} {ee : List (Nat × Int32)} {tt : Bool} (hH : xHist B tak cmt wad pad psa poa sv sp pl pg cm h) (hU : xHU tak cmt sv sp cm) (hok : ∀ w, w < tak → xOKp (pg w)) (hM : xMS (B + 13) bb ee tt h) (hS : xSI B a tak cmt sv sp pg cm clk com fog kno h) (ha : B + 18 ≤ a ∧ a + 6 < B + 53) (hd : 4 ≤ d) :
    ∃ h' vec tl cc ce oc, xRun G d 61 (0, [some (.ref a), none, none], [], (h, nx, sl)) (none, (h', nx, sl)) ∧ xSV B a clk com fog tl.length vec kno tl cc ce oc h' ∧ xTL tak sv sp cm kno com tl ∧ ce = xruns sv sp pg xz (xord cm com tl) ∧ cc = xruns sv sp pg xz (xcms cm com) ∧ (∀ p, p < (xord cm com tl).length → oc ((xord cm com tl).getD p 0) = xoutAt sv sp pg (xord cm com tl) p) ∧ xSI B a tak cmt sv sp pg cm clk com fog kno h' ∧ (∃ b e t, xMS (B + 13) b e t h') ∧ xsm B a h h' := by
  obtain ⟨don, vec, tl, cc, ce, oc, hV, hT, k1, k2, k3, k4, k5, k6, k7, k8, k9, k10, k11, k12, k13, k14⟩ := hS
  have ht5 : tak ≤ 500 := hH.2.2.1
  have hlen := xTL_len hT
  have hnd := xord_nodup hU k4 hT
  have finish : ∀ (h1 : xH) (ce1 : Nat → Int32), xHist B tak cmt wad pad psa poa sv sp pl pg cm h1 → (∃ b e t, xMS (B + 13) b e t h1) → xSV B a clk com fog don vec kno tl cc ce1 oc h1 → ce1 = xruns sv sp pg xz (xcms cm com ++ tl.take don) → (∀ k, 32 ≤ k → ce1 k = 0) → xsm B a h h1 →
      ∃ h' ce oc, xRun G d 61 (22, [some (.ref a), none, none], [], (h1, nx, sl)) (none, (h', nx, sl)) ∧ xSV B a clk com fog tl.length vec kno tl cc ce oc h' ∧ ce = xruns sv sp pg xz (xord cm com tl) ∧ (∀ p, p < (xord cm com tl).length → oc ((xord cm com tl).getD p 0) = xoutAt sv sp pg (xord cm com tl) p) ∧ (∀ k, 32 ≤ k → ce k = 0) ∧ (∀ w, oc w ≤ 6) ∧ (∃ b e t, xMS (B + 13) b e t h') ∧ xsm B a h h' := by
    intro h1 ce1 hH1 hM1 hV1 hce hz hsm
    obtain ⟨h', r, g1, g2, g3⟩ := l_catch_loop (G := G) (nx := nx) (sl := sl) (don := don) ha hok (fun x hx => ((hT.2 x).mp hx).1) (by omega) hd (tl.drop don) don h1 ce1 oc none rfl (by rw [List.length_drop]; omega) hH1 hM1 hV1
    have eord : xcms cm com ++ tl.take don ++ tl.drop don = xord cm com tl := by unfold xord; simp
    refine ⟨h', _, _, ?_, g1, by rw [hce, ← xruns_app, eord], fun p hp => ?_, ?_, ?_, g2, hsm.trans g3⟩
    · obtain ⟨tN, ⟨s0, s1, s2, s3, s4, s5, s6⟩, htN⟩ := hV1
      unfold xSvF at s0
      dsimp only at s0 s1 s2 s3 s4 s5 s6
      refine xr_go i61_22 rfl ?_
      refine xr_get i61_23 xf61_44 (by assumption) rfl rfl ?_
      refine xr_go i61_26 rfl ?_
      exact r
    · have hl : (xord cm com tl).length = com + tl.length := by unfold xord; rw [List.length_append, xcms_len]
      have hl2 : (xcms cm com ++ tl.take don).length = com + don := by rw [List.length_append, xcms_len, List.length_take]; omega
      by_cases hp2 : p < com + don
      · rw [xouts_not]
        · exact k12 p hp2
        · intro hm
          have hnd2 : ((xcms cm com ++ tl.take don) ++ tl.drop don).Nodup := by rw [eord]; exact hnd
          refine (List.nodup_append.mp hnd2).2.2 _ ?_ _ hm rfl
          rw [← eord, getD_app_l (by omega)]
          exact getD_mem (by omega)
      · have hj : p - (com + don) < (tl.drop don).length := by rw [List.length_drop]; omega
        have e1 : (xord cm com tl).getD p 0 = (tl.drop don).getD (p - (com + don)) 0 := by
          rw [← eord, getD_app_r (by omega), hl2]
        rw [e1, xouts_at (tl.drop don) (xcms cm com ++ tl.take don) ce1 oc hce (by rw [eord]; exact hnd) _ hj, eord, hl2]
        congr 1
        omega
    · intro k hk
      have : ∀ (l : List Nat) (c : Nat → Int32), (∀ x ∈ l, x < tak) → c k = 0 → xruns sv sp pg c l k = 0 := by
        intro l
        induction l with
        | nil => intro c _ hc; exact hc
        | cons x l ih =>
          intro c hx hc
          show xruns sv sp pg (xpC (pg x) (nI (sv x)) (nI (sp x)) c) l k = 0
          refine ih _ (fun y hy => hx y (List.mem_cons_of_mem _ hy)) ?_
          rw [xpC_hi (hok x (hx x List.mem_cons_self)) hk]
          exact hc
      exact this _ _ (fun x hx => ((hT.2 x).mp (List.mem_of_mem_drop hx)).1) (hz k hk)
    · have : ∀ (l : List Nat) (c : Nat → Int32) (oc : Nat → Nat), (∀ x ∈ l, x < tak) → (∀ w, oc w ≤ 6) → ∀ w, xouts sv sp pg l c oc w ≤ 6 := by
        intro l
        induction l with
        | nil => intro c oc _ hc; exact hc
        | cons x l ih =>
          intro c oc hx hc
          unfold xouts
          refine ih _ _ (fun y hy => hx y (List.mem_cons_of_mem _ hy)) (fun w => ?_)
          unfold va_up
          split
          · exact ((hok x (hx x List.mem_cons_self)).run _ _ _).2
          · exact hc w
      exact this _ _ _ (fun x hx => ((hT.2 x).mp (List.mem_of_mem_drop hx)).1) k14
  have wrap : ∀ h' ce oc, xRun G d 61 (0, [some (.ref a), none, none], [], (h, nx, sl)) (none, (h', nx, sl)) ∧ xSV B a clk com fog tl.length vec kno tl cc ce oc h' ∧ ce = xruns sv sp pg xz (xord cm com tl) ∧ (∀ p, p < (xord cm com tl).length → oc ((xord cm com tl).getD p 0) = xoutAt sv sp pg (xord cm com tl) p) ∧ (∀ k, 32 ≤ k → ce k = 0) ∧ (∀ w, oc w ≤ 6) ∧ (∃ b e t, xMS (B + 13) b e t h') ∧ xsm B a h h' → ∃ h' vec tl cc ce oc, xRun G d 61 (0, [some (.ref a), none, none], [], (h, nx, sl)) (none, (h', nx, sl)) ∧ xSV B a clk com fog tl.length vec kno tl cc ce oc h' ∧ xTL tak sv sp cm kno com tl ∧ ce = xruns sv sp pg xz (xord cm com tl) ∧ cc = xruns sv sp pg xz (xcms cm com) ∧ (∀ p, p < (xord cm com tl).length → oc ((xord cm com tl).getD p 0) = xoutAt sv sp pg (xord cm com tl) p) ∧ xSI B a tak cmt sv sp pg cm clk com fog kno h' ∧ (∃ b e t, xMS (B + 13) b e t h') ∧ xsm B a h h' := by
    rintro h' ce oc ⟨r, g1, g2, g3, g4, g5, g6, g7⟩
    refine ⟨h', vec, tl, cc, ce, oc, r, g1, hT, g2, k9, g3, ⟨tl.length, vec, tl, cc, ce, oc, g1, hT, k1, k2, k3, k4, k5, k6, k7, k8, k9, Nat.le_refl _, fun _ => by rw [List.take_length]; exact g2, fun p hp => ?_, fun k hk => ⟨(k13 k hk).1, g4 k hk⟩, g5⟩, g6, g7⟩
    exact g3 p (by unfold xord; rw [List.length_append, xcms_len]; exact hp)
  by_cases hd0 : don = 0
  · obtain ⟨tN, ⟨s0, s1, s2, s3, s4, s5, s6⟩, htN⟩ := hV
    unfold xSvF at s0
    dsimp only at s0 s1 s2 s3 s4 s5 s6
    let g1 : xH := xup h (a + 5) (.inl (0, 32, .inl cc))
    have sm1 : xsm B a h g1 := fun q h1 h2 => xup_n (by omega)
    have hH1 := xHist_kept hH (h' := g1) (fun q hq => sm1 q (by omega) (by omega))
    obtain ⟨h', ce', oc', r, g⟩ := finish g1 cc hH1 ⟨bb, ee, tt, xMS_kept hM (fun q h1 h2 => xup_n (by omega))⟩ ⟨tN, ⟨(xup_n (by omega)).trans s0, (xup_n (by omega)).trans s1, (xup_n (by omega)).trans s2, (xup_n (by omega)).trans s3, (xup_n (by omega)).trans s4, xup_s, (xup_n (by omega)).trans s6⟩, htN⟩ (by rw [hd0]; simpa using k9) (fun k hk => (k13 k hk).1) sm1
    refine wrap h' ce' oc' ⟨?_, g⟩
    refine xr_go i61_0 rfl ?_
    refine xr_get i61_1 xf61_44 (by assumption) rfl rfl ?_
    refine xr_if_neF i61_4 (t := 22) (by decide) (by rw [hd0]; decide) ?_
    refine xr_go i61_7 rfl ?_
    refine xr_get i61_8 xf61_22 (by assumption) rfl rfl ?_
    refine xr_go i61_11 rfl ?_
    refine xr_go i61_12 rfl ?_
    refine xr_get i61_13 xf61_25 (by assumption) rfl rfl ?_
    refine xr_go i61_16 rfl ?_
    refine xr_go i61_17 rfl ?_
    refine xr_copy i61_19 xc61_104 rfl (by omega) (Nat.le_of_ble_eq_true rfl) s4 s5 (n := 32) (dp := 0) (sp := 0) rfl rfl rfl (by omega) (by omega) (by omega) (fun f2 ef2 => ?_)
    have ef2' : f2 = g1 := by rw [ef2, xcpy_cells k13]
    rw [ef2']
    exact r
  · obtain ⟨h', ce', oc', r, g⟩ := finish h ce hH ⟨bb, ee, tt, hM⟩ hV (k11 hd0) (fun k hk => (k13 k hk).2) (fun q _ _ => rfl)
    refine wrap h' ce' oc' ⟨?_, g⟩
    obtain ⟨tN, ⟨s0, s1, s2, s3, s4, s5, s6⟩, htN⟩ := hV
    unfold xSvF at s0
    dsimp only at s0 s1 s2 s3 s4 s5 s6
    refine xr_go i61_0 rfl ?_
    refine xr_get i61_1 xf61_44 (by assumption) rfl rfl ?_
    refine xr_if_neT i61_4 (t := 22) (by decide) (nI_ne0 (by omega) (by omega)) ?_
    exact r
/-- the cells of a server: of what is committed, or of all that it knows -/
theorem q_value {c : Nat} {b : Int32} {bb : List Int32} {ee : List (Nat × Int32)} {tt : Bool} (hH : xHist B tak cmt wad pad psa poa sv sp pl pg cm h) (hU : xHU tak cmt sv sp cm) (hok : ∀ w, w < tak → xOKp (pg w)) (hM : xMS (B + 13) bb ee tt h) (hS : xSI B a tak cmt sv sp pg cm clk com fog kno h) (ha : B + 18 ≤ a ∧ a + 6 < B + 53) (hc : c < 32) (hd : 5 ≤ d) :
    ∃ h' tl, xRun G d 60 (0, [some (.ref a), some (.int (nI c)), some (.int b)], [], (h, nx, sl)) (some (.int (if b = 0 then xruns sv sp pg xz (xord cm com tl) c else xruns sv sp pg xz (xcms cm com) c)), (h', nx, sl)) ∧ xTL tak sv sp cm kno com tl ∧ xSI B a tak cmt sv sp pg cm clk com fog kno h' ∧ (∃ b e t, xMS (B + 13) b e t h') ∧ xsm B a h h' := by
  by_cases hb : b = 0
  · obtain ⟨h', vec, tl, cc, ce, oc, r, g1, g2, g3, g4, g5, g6, g7, g8⟩ := q_catch (G := G) (d := d - 1) (nx := nx) (sl := sl) hH hU hok hM hS ha (by omega)
    refine ⟨h', tl, ?_, g2, g6, g7, g8⟩
    obtain ⟨don, vec0, tl0, cc0, ce0, oc0, ⟨tN0, ⟨s0, -⟩, -⟩, -⟩ := hS
    unfold xSvF at s0
    obtain ⟨tN, ⟨t0, t1, t2, t3, t4, t5, t6⟩, htN⟩ := g1
    unfold xSvF at t0
    dsimp only at t0 t1 t2 t3 t4 t5 t6
    rw [if_pos hb]
    refine xr_go i60_0 rfl ?_
    refine xr_if_eqT i60_1 (t := 11) (by decide) hb ?_
    refine xr_go i60_11 rfl ?_
    refine xr_V i60_12 xc60_101 ⟨rfl, rfl⟩ xa_61 rfl (by assumption) rfl (Nat.le_of_ble_eq_true rfl) (by omega) ⟨Nat.le_of_ble_eq_true rfl, Nat.le_of_ble_eq_true rfl⟩ (r) ?_
    refine xr_go i60_15 rfl ?_
    refine xr_get i60_16 xf60_25 (by assumption) rfl rfl ?_
    refine xr_go i60_19 rfl ?_
    refine xr_iald i60_20 (by assumption) rfl (by omega) (by omega) ?_
    rw [g3]
    exact xr_iret i60_21 xt_60 rfl
  · have hS0 := hS
    obtain ⟨don, vec, tl, cc, ce, oc, ⟨tN, ⟨s0, s1, s2, s3, s4, s5, s6⟩, htN⟩, hT, k1, k2, k3, k4, k5, k6, k7, k8, k9, -⟩ := hS
    unfold xSvF at s0
    dsimp only at s0 s1 s2 s3 s4 s5 s6
    refine ⟨h, tl, ?_, hT, hS0, ⟨bb, ee, tt, hM⟩, fun q _ _ => rfl⟩
    rw [if_neg hb]
    refine xr_go i60_0 rfl ?_
    refine xr_if_eqF i60_1 (t := 11) (by decide) hb ?_
    refine xr_go i60_4 rfl ?_
    refine xr_get i60_5 xf60_22 (by assumption) rfl rfl ?_
    refine xr_go i60_8 rfl ?_
    refine xr_iald i60_9 (by assumption) rfl (by omega) (by omega) ?_
    rw [k9]
    exact xr_iret i60_10 xt_60 rfl
theorem q_outcome {w : Nat} {bb : List Int32} {ee : List (Nat × Int32)} {tt : Bool} (hH : xHist B tak cmt wad pad psa poa sv sp pl pg cm h) (hU : xHU tak cmt sv sp cm) (hok : ∀ w, w < tak → xOKp (pg w)) (hM : xMS (B + 13) bb ee tt h) (hS : xSI B a tak cmt sv sp pg cm clk com fog kno h) (ha : B + 18 ≤ a ∧ a + 6 < B + 53) (hw : w < tak) (hd : 5 ≤ d) :
    ∃ h' tl v, xRun G d 68 (0, [some (.ref a), some (.int (nI w))], [], (h, nx, sl)) (some (.int v), (h', nx, sl)) ∧ xTL tak sv sp cm kno com tl ∧ (kno w = 0 → v = -2) ∧ (kno w = 1 → ∀ p, p < (xord cm com tl).length → (xord cm com tl).getD p 0 = w → v = nI (xoutAt sv sp pg (xord cm com tl) p)) ∧ xSI B a tak cmt sv sp pg cm clk com fog kno h' ∧ (∃ b e t, xMS (B + 13) b e t h') ∧ xsm B a h h' := by
  have hS0 := hS
  obtain ⟨don, vec, tl, cc, ce, oc, ⟨tN, ⟨s0, s1, s2, s3, s4, s5, s6⟩, htN⟩, hT, k1, k2, -⟩ := hS
  unfold xSvF at s0
  dsimp only at s0 s1 s2 s3 s4 s5 s6
  have ht5 : tak ≤ 500 := hH.2.2.1
  rcases k1 w with hk | hk
  · refine ⟨h, tl, -2, ?_, hT, fun _ => rfl, fun z => by omega, hS0, ⟨bb, ee, tt, hM⟩, fun q _ _ => rfl⟩
    refine xr_go i68_0 rfl ?_
    refine xr_get i68_1 xf68_15 (by assumption) rfl rfl ?_
    refine xr_go i68_4 rfl ?_
    refine xr_zald i68_5 (by assumption) rfl (by omega) (by omega) ?_
    refine xr_if_neF i68_6 (t := 12) (by decide) (by rw [hk]; decide) ?_
    refine xr_go i68_9 rfl ?_
    exact xr_iret i68_11 xt_68 rfl
  · obtain ⟨h', vec1, tl1, cc1, ce1, oc1, r, g1, g2, g3, g4, g5, g6, g7, g8⟩ := q_catch (G := G) (d := d - 1) (nx := nx) (sl := sl) hH hU hok hM hS0 ha (by omega)
    obtain ⟨tN1, ⟨t0, t1, t2, t3, t4, t5, t6⟩, htN1⟩ := g1
    unfold xSvF at t0
    dsimp only at t0 t1 t2 t3 t4 t5 t6
    refine ⟨h', tl1, nI (oc1 w), ?_, g2, fun z => by omega, fun _ p hp he => by rw [← he, g5 p hp], g6, g7, g8⟩
    refine xr_go i68_0 rfl ?_
    refine xr_get i68_1 xf68_15 (by assumption) rfl rfl ?_
    refine xr_go i68_4 rfl ?_
    refine xr_zald i68_5 (by assumption) rfl (by omega) (by omega) ?_
    refine xr_if_neT i68_6 (t := 12) (by decide) (by rw [hk]; decide) ?_
    refine xr_go i68_12 rfl ?_
    refine xr_V i68_13 xc68_101 ⟨rfl, rfl⟩ xa_61 rfl (by assumption) rfl (Nat.le_of_ble_eq_true rfl) (by omega) ⟨Nat.le_of_ble_eq_true rfl, Nat.le_of_ble_eq_true rfl⟩ (r) ?_
    refine xr_go i68_16 rfl ?_
    refine xr_get i68_17 xf68_28 (by assumption) rfl rfl ?_
    refine xr_go i68_20 rfl ?_
    refine xr_iald i68_21 (by assumption) rfl (by omega) (by omega) ?_
    exact xr_iret i68_22 xt_68 rfl
end XSI3
end
section
/-! ===== servers: meeting ===== -/
section XSI4
variable {G : xG} {d : Nat} {h : xH} {nx sl : Nat} {B a tak cmt : Nat} {wad pad psa poa sv sp pl : Nat → Nat} {pg : Nat → List (Nat × Int32)} {cm : Nat → Nat} {clk com fog : Nat} {kno : Nat → Nat}
theorem q_writeAt {x : Int32} (hH : xHist B tak cmt wad pad psa poa sv sp pl pg cm h) (hS : xSI B a tak cmt sv sp pg cm clk com fog kno h) (ha : B + 18 ≤ a ∧ a + 6 < B + 53) : ∃ tl, xTL tak sv sp cm kno com tl ∧ xRun G d 67 (0, [some (.ref a), some (.int x)], [], (h, nx, sl)) (some (.int (if xrng (com + tl.length) x = true then nI ((xord cm com tl).getD x.toNatClampNeg 0) else -2)), (h, nx, sl)) := by
  obtain ⟨don, vec, tl, cc, ce, oc, ⟨tN, ⟨s0, s1, s2, s3, s4, s5, s6⟩, htN⟩, hT, k1, k2, k3, k4, -⟩ := hS
  obtain ⟨⟨wf, w1, w2, w3⟩, w4, w5, w6, w7⟩ := hH
  unfold xSvF at s0
  dsimp only at s0 s1 s2 s3 s4 s5 s6
  have hlen := xTL_len hT
  refine ⟨tl, hT, ?_⟩
  by_cases hr : xrng (com + tl.length) x = true
  · rw [if_pos hr]
    obtain ⟨j, hj, rfl⟩ := xrng_of (by omega) hr
    rw [nI_clamp (by omega)]
    refine xr_go i67_0 rfl ?_
    refine xr_if_ltF i67_1 (t := 17) (by decide) (nI_pos (by omega)) ?_
    refine xr_go i67_4 rfl ?_
    refine xr_go i67_5 rfl ?_
    refine xr_get i67_6 xf67_35 (by assumption) rfl rfl ?_
    refine xr_go i67_9 rfl ?_
    refine xr_get i67_10 xf67_41 (by assumption) rfl rfl ?_
    refine xr_go i67_13 rfl ?_
    refine xr_icmp_ltT i67_14 (t := 20) (by decide) (by show nI j < nI com + nI tl.length; rw [nI_add]; exact nI_lt hj (by omega)) ?_
    refine xr_go i67_20 rfl ?_
    refine xr_go i67_21 rfl ?_
    refine xr_get i67_22 xf67_35 (by assumption) rfl rfl ?_
    by_cases hjc : j < com
    · refine xr_icmp_geF i67_25 (t := 40) (by decide) (nI_ge hjc (by omega)) ?_
      refine xr_go i67_28 rfl ?_
      refine xr_get i67_29 xf67_47 (by assumption) rfl rfl ?_
      refine xr_get i67_32 xf67_79 (by assumption) rfl rfl ?_
      refine xr_go i67_35 rfl ?_
      refine xr_iald i67_36 (by assumption) rfl (by omega) (by omega) ?_
      refine xr_goto i67_37 (t := 51) (by decide) ?_
      unfold xord
      rw [getD_app_l (by rw [xcms_len]; exact hjc), xcms_getD hjc]
      exact xr_iret i67_51 xt_67 rfl
    · refine xr_icmp_geT i67_25 (t := 40) (by decide) (nI_le (by omega) (by omega)) ?_
      refine xr_go i67_40 rfl ?_
      refine xr_get i67_41 xf67_19 (by assumption) rfl rfl ?_
      refine xr_go i67_44 rfl ?_
      refine xr_go i67_45 rfl ?_
      refine xr_get i67_46 xf67_35 (by assumption) rfl rfl ?_
      refine xr_go i67_49 rfl ?_
      refine xr_iald i67_50 (by assumption) (show nI j - nI com = nI (j - com) from pk_sub (by omega)) (by omega) (by omega) ?_
      unfold xord
      rw [getD_app_r (by rw [xcms_len]; omega), xcms_len, ← htN _ (by omega)]
      exact xr_iret i67_51 xt_67 rfl
  · rw [if_neg hr]
    have tail : xRun G d 67 (17, [some (.ref a), some (.int x)], [], (h, nx, sl)) (some (.int (-2)), (h, nx, sl)) := by
      refine xr_go i67_17 rfl ?_
      exact xr_iret i67_19 xt_67 rfl
    refine xr_go i67_0 rfl ?_
    refine xr_if_lt i67_1 (t := 17) (by decide) (fun hc => ?_) (fun hc => ?_)
    · exact tail
    · refine xr_go i67_4 rfl ?_
      refine xr_go i67_5 rfl ?_
      refine xr_get i67_6 xf67_35 (by assumption) rfl rfl ?_
      refine xr_go i67_9 rfl ?_
      refine xr_get i67_10 xf67_41 (by assumption) rfl rfl ?_
      refine xr_go i67_13 rfl ?_
      have hnl : ¬ x < nI com + nI tl.length := by
        rw [nI_add]
        intro z
        apply hr
        unfold xrng
        rw [decide_eq_true (Int32.not_lt.mp hc), decide_eq_true z]
        rfl
      refine xr_icmp_ltF i67_14 (t := 20) (by decide) hnl ?_
      exact tail
/-- n commits more -/
def xadv (sp cm : Nat → Nat) : Nat → Nat → Nat → (Nat → Nat) → Nat × (Nat → Nat)
  | 0, clk, _, kno => (clk, kno)
  | n + 1, clk, com, kno => xadv sp cm n (max clk (sp (cm com))) (com + 1) (va_up kno (cm com) 1)
theorem q_forgotten_loop (hU : xHU tak cmt sv sp cm) (hok : ∀ w, w < tak → xOKp (pg w)) (ha : B + 18 ≤ a ∧ a + 6 < B + 53) (hd : 5 ≤ d) (hc5 : cmt ≤ 500) {m : Nat} (hm : m ≤ cmt) : ∀ (n : Nat) (h : xH) (clk com : Nat) (kno : Nat → Nat), com + n = m → xHist B tak cmt wad pad psa poa sv sp pl pg cm h → (∃ b e t, xMS (B + 13) b e t h) → xSI B a tak cmt sv sp pg cm clk com fog kno h →
    ∃ h', xSI B a tak cmt sv sp pg cm (xadv sp cm n clk com kno).1 m fog (xadv sp cm n clk com kno).2 h' ∧ (∃ b e t, xMS (B + 13) b e t h') ∧ xsm B a h h' ∧ xHist B tak cmt wad pad psa poa sv sp pl pg cm h' ∧ ∀ res, xRun G d 64 (20, [some (.ref a), some (.int (nI m)), some (.int (nI m))], [], (h', nx, sl)) res → xRun G d 64 (5, [some (.ref a), some (.int (nI m)), some (.int (nI com))], [], (h, nx, sl)) res := by
  intro n
  induction n with
  | zero =>
    intro h clk com kno hn hH hM hS
    have : com = m := by omega
    subst this
    refine ⟨h, hS, hM, fun q _ _ => rfl, hH, fun res hres => ?_⟩
    refine xr_go i64_5 rfl ?_
    refine xr_go i64_6 rfl ?_
    refine xr_icmp_geT i64_7 (t := 20) (by decide) (nI_le (by omega) (by omega)) ?_
    exact hres
  | succ n ih =>
    intro h clk com kno hn hH hM hS
    obtain ⟨b, e, t, hM⟩ := hM
    have s0 : ∃ x, h a = some (.inr (6, x)) := by
      obtain ⟨_, _, _, _, _, _, ⟨_, hs, -⟩, -⟩ := hS
      exact ⟨_, hs.1⟩
    obtain ⟨x0, s0⟩ := s0
    obtain ⟨h1, r1, hS1, hM1, sm1⟩ := q_next (G := G) (d := d - 1) (nx := nx) (sl := sl) hH hU hok hM hS ha (by omega) (by omega)
    have hH1 := xHist_kept hH (h' := h1) (fun q hq => sm1 q (by omega) (by omega))
    obtain ⟨h', g1, g2, g3, g4, g5⟩ := ih h1 _ (com + 1) _ (by omega) hH1 hM1 hS1
    refine ⟨h', g1, g2, sm1.trans g3, g4, fun res hres => ?_⟩
    refine xr_go i64_5 rfl ?_
    refine xr_go i64_6 rfl ?_
    refine xr_icmp_geF i64_7 (t := 20) (by decide) (nI_ge (by omega) (by omega)) ?_
    refine xr_go i64_10 rfl ?_
    refine xr_V i64_11 xc64_95 ⟨rfl, rfl⟩ xa_62 rfl (by assumption) rfl (Nat.le_of_ble_eq_true rfl) (by omega) ⟨Nat.le_of_ble_eq_true rfl, Nat.le_of_ble_eq_true rfl⟩ (r1) ?_
    refine xr_inc1 i64_14 rfl rfl ?_
    refine xr_goto i64_17 (t := 5) (by decide) ?_
    exact g5 res hres
theorem q_forgotten {m : Nat} (hH : xHist B tak cmt wad pad psa poa sv sp pl pg cm h) (hU : xHU tak cmt sv sp cm) (hok : ∀ w, w < tak → xOKp (pg w)) (hM : ∃ b e t, xMS (B + 13) b e t h) (hS : xSI B a tak cmt sv sp pg cm clk com fog kno h) (ha : B + 18 ≤ a ∧ a + 6 < B + 53) (hm : m ≤ cmt) (hcm : com ≤ m) (hd : 5 ≤ d) :
    ∃ h', xRun G d 64 (0, [some (.ref a), some (.int (nI m)), none], [], (h, nx, sl)) (none, (h', nx, sl)) ∧ xSI B a tak cmt sv sp pg cm (xadv sp cm (m - com) clk com kno).1 m m (xadv sp cm (m - com) clk com kno).2 h' ∧ (∃ b e t, xMS (B + 13) b e t h') ∧ xsm B a h h' := by
  have hc5 : cmt ≤ 500 := by
    have := hH.2.2.1
    have := hH.2.2.2.1
    omega
  obtain ⟨h1, hS1, hM1, sm1, hH1, run⟩ := q_forgotten_loop (G := G) (nx := nx) (sl := sl) hU hok ha hd hc5 hm (m - com) h clk com kno (by omega) hH hM hS
  obtain ⟨don, vec, tl, cc, ce, oc, ⟨tN, ⟨s0, s1, s2, s3, s4, s5, s6⟩, htN⟩, hT, k1, k2, k3, k4, k5, kk⟩ := hS1
  unfold xSvF at s0
  dsimp only at s0 s1 s2 s3 s4 s5 s6
  let g1 : xH := xup h1 a (.inr (6, xSvF B a ((xadv sp cm (m - com) clk com kno).1, m, m, tl.length, don)))
  refine ⟨g1, ?_, ⟨don, vec, tl, cc, ce, oc, ⟨tN, ⟨xup_s, ?_, ?_, ?_, ?_, ?_, ?_⟩, htN⟩, hT, k1, k2, k3, k4, Nat.le_refl _, kk⟩, ?_, ?_⟩
  · have z0 : ∃ x9 y9, h a = some (.inr (6, x9)) ∧ x9[9]? = some (Value.int (nI com)) ∧ y9 = x9 := by
      obtain ⟨_, _, _, _, _, _, ⟨_, hs, -⟩, -⟩ := hS
      exact ⟨_, _, hs.1, rfl, rfl⟩
    obtain ⟨x9, y9, z1, z2, -⟩ := z0
    refine xr_go i64_0 rfl ?_
    refine xr_get i64_1 xf64_35 z1 rfl z2 ?_
    refine xr_go i64_4 rfl ?_
    refine run _ ?_
    refine xr_go i64_20 rfl ?_
    refine xr_go i64_21 rfl ?_
    refine xr_put i64_22 xf64_38 (by assumption) ⟨rfl, Nat.le_of_ble_eq_true rfl, rfl, rfl, Or.inl rfl⟩ (fun f1 ef1 => ?_)
    have ef1' : f1 = g1 := by rw [ef1]; rfl
    rw [ef1']
    exact xr_end i64_25 rfl
  · exact (xup_n (by omega)).trans s1
  · exact (xup_n (by omega)).trans s2
  · exact (xup_n (by omega)).trans s3
  · exact (xup_n (by omega)).trans s4
  · exact (xup_n (by omega)).trans s5
  · exact (xup_n (by omega)).trans s6
  · obtain ⟨b, e, t, hm1⟩ := hM1
    exact ⟨b, e, t, xMS_kept hm1 (fun q h1 h2 => xup_n (by omega))⟩
  · exact sm1.trans (fun q h1 h2 => xup_n (by omega))
theorem nI_min_sub {l g c : Nat} (hl : l < 2 ^ 31) (hg : g ≤ 500) (hc : c ≤ 500) : xmaxi 0 (if nI g - nI c < nI l then nI g - nI c else nI l) = nI (min l (g - c)) := by
  unfold xmaxi
  by_cases h : c ≤ g
  · rw [pk_sub h]
    by_cases h2 : g - c < l
    · rw [if_pos (nI_lt h2 hl), Nat.min_eq_right (by omega)]
      by_cases h3 : g - c = 0
      · rw [h3, if_neg (by decide)]
        rfl
      · rw [if_pos (show (0 : Int32) < nI (g - c) from nI_lt (a := 0) (by omega) (by omega))]
    · rw [if_neg (nI_nlt (by omega) (by omega)), Nat.min_eq_left (by omega)]
      by_cases h3 : l = 0
      · rw [h3, if_neg (by decide)]
        rfl
      · rw [if_pos (show (0 : Int32) < nI l from nI_lt (a := 0) (by omega) hl)]
  · have hneg := pk_sneg (a := g) (b := c) (by omega) (by omega)
    have hlt : nI g - nI c < nI l := by
      have h1 : (nI g - nI c).toInt < 0 := by simpa using Int32.lt_iff_toInt_lt.mp hneg
      have h2 : (nI l).toInt = (l : Int) := nI_toInt hl
      rw [Int32.lt_iff_toInt_lt, h2]
      omega
    rw [if_pos hlt, if_neg (show ¬ (0 : Int32) < nI g - nI c from fun z => by
      exact Int32.lt_irrefl (Int32.lt_trans hneg z))]
    rw [show g - c = 0 by omega, Nat.min_zero]
    rfl
theorem q_commits_loop (hU : xHU tak cmt sv sp cm) (hok : ∀ w, w < tak → xOKp (pg w)) (ha : B + 18 ≤ a ∧ a + 6 < B + 53) (hd : 5 ≤ d) (hc5 : cmt ≤ 500) {m : Nat} (L1 L2 : Option Value) (hm : m < 2 ^ 31) : ∀ (n i : Nat) (h : xH) (clk com : Nat) (kno : Nat → Nat), i + n = m → com + n ≤ cmt → xHist B tak cmt wad pad psa poa sv sp pl pg cm h → (∃ b e t, xMS (B + 13) b e t h) → xSI B a tak cmt sv sp pg cm clk com fog kno h →
    ∃ h', xSI B a tak cmt sv sp pg cm (xadv sp cm n clk com kno).1 (com + n) fog (xadv sp cm n clk com kno).2 h' ∧ (∃ b e t, xMS (B + 13) b e t h') ∧ xsm B a h h' ∧ xRun G d 65 (21, [some (.ref a), L1, L2, some (.int (nI m)), some (.int (nI i))], [], (h, nx, sl)) (some (.int (nI m)), (h', nx, sl)) := by
  intro n
  induction n with
  | zero =>
    intro i h clk com kno hn hcn hH hM hS
    refine ⟨h, hS, hM, fun q _ _ => rfl, ?_⟩
    refine xr_go i65_21 rfl ?_
    refine xr_go i65_23 rfl ?_
    refine xr_icmp_geT i65_24 (t := 37) (by decide) (nI_le (by omega) (by omega)) ?_
    refine xr_go i65_37 rfl ?_
    exact xr_iret i65_38 xt_65 rfl
  | succ n ih =>
    intro i h clk com kno hn hcn hH hM hS
    obtain ⟨b, e, t, hM⟩ := hM
    have s0 : ∃ x, h a = some (.inr (6, x)) := by
      obtain ⟨_, _, _, _, _, _, ⟨_, hs, -⟩, -⟩ := hS
      exact ⟨_, hs.1⟩
    obtain ⟨x0, s0⟩ := s0
    obtain ⟨h1, r1, hS1, hM1, sm1⟩ := q_next (G := G) (d := d - 1) (nx := nx) (sl := sl) hH hU hok hM hS ha (by omega) (by omega)
    have hH1 := xHist_kept hH (h' := h1) (fun q hq => sm1 q (by omega) (by omega))
    obtain ⟨h', g1, g2, g3, g4⟩ := ih (i + 1) h1 _ (com + 1) _ (by omega) (by omega) hH1 hM1 hS1
    refine ⟨h', by rw [show com + (n + 1) = com + 1 + n by omega]; exact g1, g2, sm1.trans g3, ?_⟩
    refine xr_go i65_21 rfl ?_
    refine xr_go i65_23 rfl ?_
    refine xr_icmp_geF i65_24 (t := 37) (by decide) (nI_ge (by omega) (by omega)) ?_
    refine xr_go i65_27 rfl ?_
    refine xr_V i65_28 xc65_95 ⟨rfl, rfl⟩ xa_62 rfl (by assumption) rfl (Nat.le_of_ble_eq_true rfl) (by omega) ⟨Nat.le_of_ble_eq_true rfl, Nat.le_of_ble_eq_true rfl⟩ (r1) ?_
    refine xr_inc1 i65_31 rfl rfl ?_
    refine xr_goto i65_34 (t := 21) (by decide) ?_
    exact g4
theorem q_commits {a2 clk2 com2 fog2 l : Nat} {kno2 : Nat → Nat} (hH : xHist B tak cmt wad pad psa poa sv sp pl pg cm h) (hU : xHU tak cmt sv sp cm) (hok : ∀ w, w < tak → xOKp (pg w)) (hM : ∃ b e t, xMS (B + 13) b e t h) (hS : xSI B a tak cmt sv sp pg cm clk com fog kno h) (hS2 : xSI B a2 tak cmt sv sp pg cm clk2 com2 fog2 kno2 h) (ha : B + 18 ≤ a ∧ a + 6 < B + 53) (hl : l < 2 ^ 31) (hd : 5 ≤ d) :
    ∃ h', xRun G d 65 (0, [some (.ref a), some (.ref a2), some (.int (nI l)), none, none], [], (h, nx, sl)) (some (.int (nI (min l (com2 - com)))), (h', nx, sl)) ∧ xSI B a tak cmt sv sp pg cm (xadv sp cm (min l (com2 - com)) clk com kno).1 (com + min l (com2 - com)) fog (xadv sp cm (min l (com2 - com)) clk com kno).2 h' ∧ (∃ b e t, xMS (B + 13) b e t h') ∧ xsm B a h h' := by
  have hc5 : cmt ≤ 500 := by
    have := hH.2.2.1
    have := hH.2.2.2.1
    omega
  have z0 : ∃ x9, h a = some (.inr (6, x9)) ∧ x9[9]? = some (Value.int (nI com)) := by
    obtain ⟨_, _, _, _, _, _, ⟨_, hs, -⟩, -⟩ := hS
    exact ⟨_, hs.1, rfl⟩
  have z2 : ∃ x9, h a2 = some (.inr (6, x9)) ∧ x9[9]? = some (Value.int (nI com2)) := by
    obtain ⟨_, _, _, _, _, _, ⟨_, hs, -⟩, -⟩ := hS2
    exact ⟨_, hs.1, rfl⟩
  have hcc : com ≤ cmt := by
    obtain ⟨_, _, _, _, _, _, -, -, -, -, -, hh, -⟩ := hS
    exact hh
  have hcc2 : com2 ≤ cmt := by
    obtain ⟨_, _, _, _, _, _, -, -, -, -, -, hh, -⟩ := hS2
    exact hh
  obtain ⟨x9, z1, z3⟩ := z0
  obtain ⟨y9, z4, z5⟩ := z2
  obtain ⟨h', g1, g2, g3, g4⟩ := q_commits_loop (G := G) (nx := nx) (sl := sl) hU hok ha hd hc5 (m := min l (com2 - com)) (some (.ref a2)) (some (.int (nI l))) (by omega) (min l (com2 - com)) 0 h clk com kno (by omega) (by omega) hH hM hS
  refine ⟨h', ?_, g1, g2, g3⟩
  refine xr_go i65_0 rfl ?_
  refine xr_go i65_1 rfl ?_
  refine xr_go i65_2 rfl ?_
  refine xr_get i65_3 xf65_35 z4 rfl z5 ?_
  refine xr_go i65_6 rfl ?_
  refine xr_get i65_7 xf65_35 z1 rfl z3 ?_
  refine xr_go i65_10 rfl ?_
  refine xr_min i65_11 xc65_98 rfl (by omega) (Nat.le_of_ble_eq_true rfl) (rfl) ?_
  refine xr_max i65_14 xc65_66 rfl (by omega) (Nat.le_of_ble_eq_true rfl) (nI_min_sub hl (by omega) (by omega)) ?_
  refine xr_go i65_17 rfl ?_
  refine xr_go i65_18 rfl ?_
  refine xr_go i65_19 rfl ?_
  exact g4
/-- tentative writes that are brought, at most n -/
def xbring (sp : Nat → Nat) : List Nat → Nat → Nat → (Nat → Nat) → Nat × Nat × (Nat → Nat)
  | [], _, clk, kno => (0, clk, kno)
  | _ :: _, 0, clk, kno => (0, clk, kno)
  | x :: l, n + 1, clk, kno => if kno x = 0 then ((xbring sp l n (max clk (sp x)) (va_up kno x 1)).1 + 1, (xbring sp l n (max clk (sp x)) (va_up kno x 1)).2) else xbring sp l (n + 1) clk kno
set_option maxHeartbeats 4000000 in
theorem q_tentative_loop {a2 clk2 com2 fog2 don2 : Nat} {vec2 kno2 oc2 : Nat → Nat} {cc2 ce2 : Nat → Int32} {tl2 : List Nat} (hU : xHU tak cmt sv sp cm) (ha : B + 18 ≤ a ∧ a + 6 < B + 53) (ha2 : a2 + 6 < a ∨ a + 6 < a2) (htk : ∀ x ∈ tl2, x < tak) (ht5 : tl2.length ≤ 500) (hd : 2 ≤ d) {lim : Nat} (hl : lim < 2 ^ 31) : ∀ (rest : List Nat) (i many n : Nat) (h : xH) (clk : Nat) (kno : Nat → Nat), tl2.drop i = rest → i + rest.length = tl2.length → many + n = lim → many ≤ i → xHist B tak cmt wad pad psa poa sv sp pl pg cm h → xSI B a tak cmt sv sp pg cm clk com fog kno h → xSV B a2 clk2 com2 fog2 don2 vec2 kno2 tl2 cc2 ce2 oc2 h →
    ∃ h', xRun G d 66 (5, [some (.ref a), some (.ref a2), some (.int (nI lim)), some (.int (nI many)), some (.int (nI i))], [], (h, nx, sl)) (some (.int (nI (many + (xbring sp rest n clk kno).1))), (h', nx, sl)) ∧ xSI B a tak cmt sv sp pg cm (xbring sp rest n clk kno).2.1 com fog (xbring sp rest n clk kno).2.2 h' ∧ xsame a (a + 6) h h' := by
  intro rest
  induction rest with
  | nil =>
    intro i many n h clk kno hdr hi hmn hmi hH hS hV
    simp only [List.length_nil, Nat.add_zero] at hi
    obtain ⟨tN, ⟨s0, s1, s2, s3, s4, s5, s6⟩, htN⟩ := hV
    unfold xSvF at s0
    dsimp only at s0 s1 s2 s3 s4 s5 s6
    refine ⟨h, ?_, hS, xsame.refl⟩
    show xRun G d 66 _ (some (.int (nI many)), (h, nx, sl))
    refine xr_go i66_5 rfl ?_
    refine xr_go i66_7 rfl ?_
    refine xr_get i66_8 xf66_41 (by assumption) rfl rfl ?_
    refine xr_icmp_geT i66_11 (t := 54) (by decide) (nI_le (by omega) (by omega)) ?_
    refine xr_go i66_54 rfl ?_
    exact xr_iret i66_55 xt_66 rfl
  | cons x rest ih =>
    intro i many n h clk kno hdr hi hmn hmi hH hS hV
    simp only [List.length_cons] at hi
    have hV0 := hV
    obtain ⟨tN, ⟨s0, s1, s2, s3, s4, s5, s6⟩, htN⟩ := hV
    unfold xSvF at s0
    dsimp only at s0 s1 s2 s3 s4 s5 s6
    have hil : i < tl2.length := by omega
    have hxi : tl2.getD i 0 = x := by
      rw [List.getD_eq_getElem?_getD]
      have := congrArg (fun l => l[0]?) hdr
      simp only [List.getElem?_drop, Nat.add_zero, List.getElem?_cons_zero] at this
      rw [this]
      rfl
    have hdr2 : tl2.drop (i + 1) = rest := by
      have := congrArg (fun l => l.drop 1) hdr
      simpa [List.drop_drop] using this
    have hx := htk x (hxi ▸ getD_mem hil)
    have hti : tN i = x := (htN i hil).trans hxi
    have ht500 : tak ≤ 500 := hH.2.2.1
    cases n with
    | zero =>
      refine ⟨h, ?_, hS, xsame.refl⟩
      show xRun G d 66 _ (some (.int (nI many)), (h, nx, sl))
      refine xr_go i66_5 rfl ?_
      refine xr_go i66_7 rfl ?_
      refine xr_get i66_8 xf66_41 (by assumption) rfl rfl ?_
      refine xr_icmp_geF i66_11 (t := 54) (by decide) (nI_ge (by omega) (by omega)) ?_
      refine xr_go i66_14 rfl ?_
      refine xr_go i66_15 rfl ?_
      refine xr_icmp_geT i66_16 (t := 54) (by decide) (nI_le (by omega) (by omega)) ?_
      refine xr_go i66_54 rfl ?_
      exact xr_iret i66_55 xt_66 rfl
    | succ n =>
      have hS0 := hS
      obtain ⟨don, vec, tl, cc, ce, oc, ⟨tN1, ⟨u0, u1, u2, u3, u4, u5, u6⟩, htN1⟩, hT, k1, -⟩ := hS
      unfold xSvF at u0
      dsimp only at u0 u1 u2 u3 u4 u5 u6
      rcases k1 x with hk | hk
      · obtain ⟨h1, r1, hS1, sm1⟩ := q_learn (G := G) (d := d - 1) (nx := nx) (sl := sl) hH hU hS0 ha hx hk (by omega)
        have hH1 := xHist_kept hH (h' := h1) (fun q hq => sm1 q (by omega))
        have hV1 := xSV_kept hV0 (h' := h1) (fun q h1 h2 => sm1 q (by omega))
        obtain ⟨h', r, g1, g2⟩ := ih (i + 1) (many + 1) n h1 _ _ hdr2 (by omega) (by omega) (by omega) hH1 hS1 hV1
        have ex : xbring sp (x :: rest) (n + 1) clk kno = ((xbring sp rest n (max clk (sp x)) (va_up kno x 1)).1 + 1, (xbring sp rest n (max clk (sp x)) (va_up kno x 1)).2) := by
          show (if kno x = 0 then _ else _) = _
          rw [if_pos hk]
        rw [ex]
        refine ⟨h', ?_, g1, sm1.trans g2⟩
        show xRun G d 66 _ (some (.int (nI (many + ((xbring sp rest n (max clk (sp x)) (va_up kno x 1)).1 + 1)))), (h', nx, sl))
        rw [show many + ((xbring sp rest n (max clk (sp x)) (va_up kno x 1)).1 + 1) = many + 1 + (xbring sp rest n (max clk (sp x)) (va_up kno x 1)).1 by omega]
        refine xr_go i66_5 rfl ?_
        refine xr_go i66_7 rfl ?_
        refine xr_get i66_8 xf66_41 (by assumption) rfl rfl ?_
        refine xr_icmp_geF i66_11 (t := 54) (by decide) (nI_ge (by omega) (by omega)) ?_
        refine xr_go i66_14 rfl ?_
        refine xr_go i66_15 rfl ?_
        refine xr_icmp_geF i66_16 (t := 54) (by decide) (nI_ge (by omega) (by omega)) ?_
        refine xr_go i66_19 rfl ?_
        refine xr_get i66_20 xf66_15 (by assumption) rfl rfl ?_
        refine xr_go i66_23 rfl ?_
        refine xr_get i66_24 xf66_19 (by assumption) rfl rfl ?_
        refine xr_go i66_27 rfl ?_
        refine xr_iald i66_29 (by assumption) rfl (by omega) (by omega) ?_
        rw [hti]
        refine xr_zald i66_30 (by assumption) rfl (by omega) (by omega) ?_
        refine xr_if_neF i66_31 (t := 48) (by decide) (by rw [hk]; decide) ?_
        refine xr_go i66_34 rfl ?_
        refine xr_go i66_35 rfl ?_
        refine xr_get i66_36 xf66_19 (by assumption) rfl rfl ?_
        refine xr_go i66_39 rfl ?_
        refine xr_iald i66_41 (by assumption) rfl (by omega) (by omega) ?_
        rw [hti]
        refine xr_V i66_42 xc66_82 ⟨rfl, rfl⟩ xa_59 rfl (by assumption) rfl (Nat.le_of_ble_eq_true rfl) (by omega) ⟨Nat.le_of_ble_eq_true rfl, Nat.le_of_ble_eq_true rfl⟩ (r1) ?_
        refine xr_inc1 i66_45 rfl rfl ?_
        refine xr_inc1 i66_48 rfl rfl ?_
        refine xr_goto i66_51 (t := 5) (by decide) ?_
        exact r
      · obtain ⟨h', r, g1, g2⟩ := ih (i + 1) many (n + 1) h _ _ hdr2 (by omega) (by omega) (by omega) hH hS0 hV0
        have ex : xbring sp (x :: rest) (n + 1) clk kno = xbring sp rest (n + 1) clk kno := by
          show (if kno x = 0 then _ else _) = _
          rw [if_neg (by omega)]
        rw [ex]
        refine ⟨h', ?_, g1, g2⟩
        refine xr_go i66_5 rfl ?_
        refine xr_go i66_7 rfl ?_
        refine xr_get i66_8 xf66_41 (by assumption) rfl rfl ?_
        refine xr_icmp_geF i66_11 (t := 54) (by decide) (nI_ge (by omega) (by omega)) ?_
        refine xr_go i66_14 rfl ?_
        refine xr_go i66_15 rfl ?_
        refine xr_icmp_geF i66_16 (t := 54) (by decide) (nI_ge (by omega) (by omega)) ?_
        refine xr_go i66_19 rfl ?_
        refine xr_get i66_20 xf66_15 (by assumption) rfl rfl ?_
        refine xr_go i66_23 rfl ?_
        refine xr_get i66_24 xf66_19 (by assumption) rfl rfl ?_
        refine xr_go i66_27 rfl ?_
        refine xr_iald i66_29 (by assumption) rfl (by omega) (by omega) ?_
        rw [hti]
        refine xr_zald i66_30 (by assumption) rfl (by omega) (by omega) ?_
        refine xr_if_neT i66_31 (t := 48) (by decide) (by rw [hk]; decide) ?_
        refine xr_inc1 i66_48 rfl rfl ?_
        refine xr_goto i66_51 (t := 5) (by decide) ?_
        exact r
theorem q_tentative {a2 clk2 com2 fog2 l : Nat} {kno2 : Nat → Nat} (hH : xHist B tak cmt wad pad psa poa sv sp pl pg cm h) (hU : xHU tak cmt sv sp cm) (hS : xSI B a tak cmt sv sp pg cm clk com fog kno h) (hS2 : xSI B a2 tak cmt sv sp pg cm clk2 com2 fog2 kno2 h) (ha : B + 18 ≤ a ∧ a + 6 < B + 53) (ha2 : a2 + 6 < a ∨ a + 6 < a2) (hl : l < 2 ^ 31) (hd : 2 ≤ d) :
    ∃ h' tl2, xTL tak sv sp cm kno2 com2 tl2 ∧ xRun G d 66 (0, [some (.ref a), some (.ref a2), some (.int (nI l)), none, none], [], (h, nx, sl)) (some (.int (nI (xbring sp tl2 l clk kno).1)), (h', nx, sl)) ∧ xSI B a tak cmt sv sp pg cm (xbring sp tl2 l clk kno).2.1 com fog (xbring sp tl2 l clk kno).2.2 h' ∧ xsame a (a + 6) h h' := by
  obtain ⟨don, vec, tl, cc, ce, oc, hV, hT, -⟩ := hS2
  have hlen := xTL_len hT
  have ht500 : tak ≤ 500 := hH.2.2.1
  obtain ⟨h', r, g1, g2⟩ := q_tentative_loop (G := G) (nx := nx) (sl := sl) hU ha ha2 (fun x hx => ((hT.2 x).mp hx).1) (by omega) hd hl tl 0 0 l h clk kno rfl (by omega) (by omega) (by omega) hH hS hV
  rw [Nat.zero_add] at r
  refine ⟨h', tl, hT, ?_, g1, g2⟩
  refine xr_go i66_0 rfl ?_
  refine xr_go i66_1 rfl ?_
  refine xr_go i66_2 rfl ?_
  refine xr_go i66_3 rfl ?_
  exact r
end XSI4
end
section
/-! ===== the class as a whole: what it stands for ===== -/
theorem xsorted_eq {sv sp : Nat → Nat} : ∀ (l1 l2 : List Nat), l1.Pairwise (xlt sv sp) → l2.Pairwise (xlt sv sp) → (∀ w, w ∈ l1 ↔ w ∈ l2) → l1 = l2 := by
  intro l1
  induction l1 with
  | nil =>
    intro l2 _ _ h
    cases l2 with
    | nil => rfl
    | cons b l2 => exact absurd ((h b).mpr List.mem_cons_self) (by simp)
  | cons a l1 ih =>
    intro l2 p1 p2 h
    cases l2 with
    | nil => exact absurd ((h a).mp List.mem_cons_self) (by simp)
    | cons b l2 =>
      obtain ⟨a1, a2⟩ := List.pairwise_cons.mp p1
      obtain ⟨b1, b2⟩ := List.pairwise_cons.mp p2
      have hab : a = b := by
        rcases List.mem_cons.mp ((h a).mp List.mem_cons_self) with e | e
        · exact e
        · rcases List.mem_cons.mp ((h b).mpr List.mem_cons_self) with e2 | e2
          · exact e2.symm
          · exact absurd (xlt_trans (a1 b e2) (b1 a e)) xlt_irr
      subst hab
      rw [ih l2 a2 b2 (fun w => ?_)]
      constructor
      · intro hw
        rcases List.mem_cons.mp ((h w).mp (List.mem_cons_of_mem _ hw)) with e | e
        · subst e
          exact absurd (a1 _ hw) xlt_irr
        · exact e
      · intro hw
        rcases List.mem_cons.mp ((h w).mpr (List.mem_cons_of_mem _ hw)) with e | e
        · subst e
          exact absurd (b1 _ hw) xlt_irr
        · exact e
theorem xTL_uniq {tak com : Nat} {sv sp cm kno : Nat → Nat} {t1 t2 : List Nat} (h1 : xTL tak sv sp cm kno com t1) (h2 : xTL tak sv sp cm kno com t2) : t1 = t2 := xsorted_eq t1 t2 h1.1 h2.1 (fun w => (h1.2 w).trans (h2.2 w).symm)
/-- the tentative writes in their order -/
noncomputable def xtl (tak : Nat) (sv sp cm kno : Nat → Nat) (com : Nat) : List Nat := Classical.epsilon (fun l => xTL tak sv sp cm kno com l)
theorem xtl_eq {tak com : Nat} {sv sp cm kno : Nat → Nat} {t : List Nat} (h : xTL tak sv sp cm kno com t) : xtl tak sv sp cm kno com = t := xTL_uniq (Classical.epsilon_spec (p := fun l => xTL tak sv sp cm kno com l) ⟨t, h⟩) h
/-- the whole order that a server knows -/
noncomputable def xLs (tak : Nat) (sv sp cm kno : Nat → Nat) (com : Nat) : List Nat := xord cm com (xtl tak sv sp cm kno com)
theorem xLs_eq {tak com : Nat} {sv sp cm kno : Nat → Nat} {t : List Nat} (h : xTL tak sv sp cm kno com t) : xLs tak sv sp cm kno com = xord cm com t := by unfold xLs; rw [xtl_eq h]
/-- an entry of a version vector: the largest stamp of a server's known writes -/
def xvm (sv sp kno : Nat → Nat) (j : Nat) : Nat → Nat
  | 0 => 0
  | n + 1 => if kno n = 1 ∧ sv n = j then max (xvm sv sp kno j n) (sp n) else xvm sv sp kno j n
theorem xvm_ge {sv sp kno : Nat → Nat} {j : Nat} : ∀ n w, w < n → kno w = 1 → sv w = j → sp w ≤ xvm sv sp kno j n := by
  intro n
  induction n with
  | zero => intro w h; omega
  | succ n ih =>
    intro w hw h1 h2
    unfold xvm
    by_cases e : w = n
    · subst e
      rw [if_pos ⟨h1, h2⟩]
      omega
    · have := ih w (by omega) h1 h2
      split <;> omega
theorem xvm_in {sv sp kno : Nat → Nat} {j : Nat} : ∀ n, xvm sv sp kno j n = 0 ∨ ∃ w, w < n ∧ kno w = 1 ∧ sv w = j ∧ xvm sv sp kno j n = sp w := by
  intro n
  induction n with
  | zero => exact Or.inl rfl
  | succ n ih =>
    unfold xvm
    split
    · rename_i hk
      by_cases hl : xvm sv sp kno j n ≤ sp n
      · exact Or.inr ⟨n, by omega, hk.1, hk.2, Nat.max_eq_right hl⟩
      · rw [Nat.max_eq_left (by omega)]
        rcases ih with h | ⟨w, h1, h2⟩
        · exact Or.inl h
        · exact Or.inr ⟨w, by omega, h2⟩
    · rcases ih with h | ⟨w, h1, h2⟩
      · exact Or.inl h
      · exact Or.inr ⟨w, by omega, h2⟩
theorem xvm_eq {tak v : Nat} {sv sp kno : Nat → Nat} {j : Nat} (hk : ∀ w, kno w = 1 → w < tak) (h1 : ∀ w, kno w = 1 → sv w = j → sp w ≤ v) (h2 : v = 0 ∨ ∃ w, kno w = 1 ∧ sv w = j ∧ v = sp w) : v = xvm sv sp kno j tak := by
  refine Nat.le_antisymm ?_ ?_
  · rcases h2 with h2 | ⟨w, g1, g2, g3⟩
    · omega
    · rw [g3]
      exact xvm_ge tak w (hk w g1) g1 g2
  · rcases xvm_in (sv := sv) (sp := sp) (kno := kno) (j := j) tak with h | ⟨w, g1, g2, g3, g4⟩
    · omega
    · rw [g4]
      exact h1 w g2 g3
/-- a session -/
def xSe (a bit : Nat) (rd wr : Nat → Nat) (h : xH) : Prop := ∃ fr fw, h a = some (.inr (7, [.ref (a + 1), .ref (a + 2), .int (nI bit)])) ∧ h (a + 1) = some (.inl (0, 5, .inl fr)) ∧ h (a + 2) = some (.inl (0, 5, .inl fw)) ∧ bit < 16 ∧ ∀ k, k < 5 → fr k = nI (rd k) ∧ fw k = nI (wr k) ∧ rd k < 2 ^ 31 ∧ wr k < 2 ^ 31
theorem xSe_kept {a bit : Nat} {rd wr : Nat → Nat} {h h' : xH} (hS : xSe a bit rd wr h) (hk : ∀ q, a ≤ q → q ≤ a + 2 → h' q = h q) : xSe a bit rd wr h' := by
  obtain ⟨fr, fw, h1, h2, h3, h4⟩ := hS
  exact ⟨fr, fw, (hk _ (by omega) (by omega)).trans h1, (hk _ (by omega) (by omega)).trans h2, (hk _ (by omega) (by omega)).trans h3, h4⟩
/-- the tape -/
def xTp (B tn : Nat) (tb : Nat → Nat) (h : xH) : Prop := ∃ f, h (B + 1) = some (.inr (1, [.ref (B + 2), .int (nI tn)])) ∧ h (B + 2) = some (.inl (0, 400, .inl f)) ∧ tn ≤ 400 ∧ ∀ j, j < tn → f j = nI (tb j) ∧ tb j < 256
theorem xTp_kept {B tn : Nat} {tb : Nat → Nat} {h h' : xH} (hT : xTp B tn tb h) (h1 : h' (B + 1) = h (B + 1)) (h2 : h' (B + 2) = h (B + 2)) : xTp B tn tb h' := by
  obtain ⟨f, g1, g2, g3⟩ := hT
  exact ⟨f, h1.trans g1, h2.trans g2, g3⟩
/-- the compiler's rows, whatever they hold -/
def xCo (B : Nat) (h : xH) : Prop := ∃ (s a p f z : Int32) (fk fp fn fs fo : Nat → Int32), h (B + 3) = some (.inr (2, [.ref (B + 1), .ref (B + 4), .ref (B + 8), .ref (B + 9), .int s, .int a, .int p, .int f])) ∧ h (B + 4) = some (.inr (3, [.ref (B + 5), .ref (B + 6), .ref (B + 7), .int z])) ∧ h (B + 5) = some (.inl (0, 401, .inl fk)) ∧ h (B + 6) = some (.inl (0, 401, .inl fp)) ∧ h (B + 7) = some (.inl (0, 401, .inl fn)) ∧ h (B + 8) = some (.inl (0, 406, .inl fs)) ∧ h (B + 9) = some (.inl (0, 406, .inl fo))
theorem xCo_kept {B : Nat} {h h' : xH} (hC : xCo B h) (hk : ∀ q, B + 3 ≤ q → q ≤ B + 9 → h' q = h q) : xCo B h' := by
  obtain ⟨s, a, p, f, z, fk, fp, fn, fs, fo, h0, h1, h2, h3, h4, h5, h6⟩ := hC
  exact ⟨s, a, p, f, z, fk, fp, fn, fs, fo, (hk _ (by omega) (by omega)).trans h0, (hk _ (by omega) (by omega)).trans h1, (hk _ (by omega) (by omega)).trans h2, (hk _ (by omega) (by omega)).trans h3, (hk _ (by omega) (by omega)).trans h4, (hk _ (by omega) (by omega)).trans h5, (hk _ (by omega) (by omega)).trans h6⟩
/-- the object itself and its two rows -/
def xTop (B : Nat) (lv : Value) (h : xH) : Prop := h B = some (.inr (0, [.ref (B + 1), .ref (B + 3), .ref (B + 10), .ref (B + 17), .ref (B + 53), lv])) ∧ (∃ sf, h (B + 17) = some (.inl (4, 5, .inr (.inr (.inr (.inr sf))))) ∧ ∀ i, i < 5 → sf i = some (B + 18 + 7 * i)) ∧ ∃ ef, h (B + 53) = some (.inl (5, 8, .inr (.inr (.inr (.inr ef))))) ∧ ∀ j, j < 8 → ef j = some (B + 54 + 3 * j)
theorem xTop_kept {B : Nat} {lv : Value} {h h' : xH} (hT : xTop B lv h) (h1 : h' B = h B) (h2 : h' (B + 17) = h (B + 17)) (h3 : h' (B + 53) = h (B + 53)) : xTop B lv h' := by
  obtain ⟨g1, ⟨sf, g2, g3⟩, ⟨ef, g4, g5⟩⟩ := hT
  exact ⟨h1.trans g1, ⟨sf, h2.trans g2, g3⟩, ⟨ef, h3.trans g4, g5⟩⟩
/-- the latest program -/
def xLat (B nx : Nat) (lv : Value) (lat : Option (List (Nat × Int32))) (h : xH) : Prop := (lat = none ∧ lv = .null) ∨ ∃ p pa sa oa, lat = some p ∧ lv = .ref pa ∧ xProg pa sa oa p h ∧ xOKp p ∧ B + 119 ≤ pa ∧ B + 119 ≤ sa ∧ B + 119 ≤ oa ∧ pa < nx ∧ sa < nx ∧ oa < nx
theorem xLat_kept {B nx nx' : Nat} {lv : Value} {lat : Option (List (Nat × Int32))} {h h' : xH} (hL : xLat B nx lv lat h) (hn : nx ≤ nx') (hk : ∀ q, B + 119 ≤ q → q < nx → (∀ fs, h q ≠ some (.inr (9, fs))) → h' q = h q) : xLat B nx' lv lat h' := by
  rcases hL with hL | ⟨p, pa, sa, oa, e1, e2, ⟨fs, fo, p0, p1, p2, p3⟩, e4, h1, h2, h3, h4, h5, h6⟩
  · exact Or.inl hL
  · refine Or.inr ⟨p, pa, sa, oa, e1, e2, ⟨fs, fo, (hk _ h1 h4 (fun _ z => ?_)).trans p0, (hk _ h2 h5 (fun _ z => ?_)).trans p1, (hk _ h3 h6 (fun _ z => ?_)).trans p2, p3⟩, e4, h1, h2, h3, Nat.lt_of_lt_of_le h4 hn, Nat.lt_of_lt_of_le h5 hn, Nat.lt_of_lt_of_le h6 hn⟩
    · rw [p0] at z; cases z
    · rw [p1] at z; cases z
    · rw [p2] at z; cases z
/-- where the writes lie -/
def xWd (B nx tak : Nat) (wad pad psa poa : Nat → Nat) : Prop := (∀ w, w < tak → B + 119 ≤ wad w ∧ B + 119 ≤ pad w ∧ B + 119 ≤ psa w ∧ B + 119 ≤ poa w ∧ wad w < nx ∧ pad w < nx ∧ psa w < nx ∧ poa w < nx) ∧ ∀ w v, w < tak → v < tak → wad w = wad v → w = v
/-- what is so of writes and servers together -/
def xGI (tak cmt : Nat) (sv pl cm clk com : Nat → Nat) (kno : Nat → Nat → Nat) : Prop := com 0 = cmt ∧ (∀ w, w < tak → kno (sv w) w = 1) ∧ (∀ i, i < 5 → clk i ≤ 1000000000 + tak) ∧ ∀ w, w < tak → (pl w = 0 ∧ w ∉ xcms cm cmt) ∨ (1 ≤ pl w ∧ pl w ≤ cmt ∧ cm (pl w - 1) = w)
/-- WHAT THE CLASS STANDS FOR -/
def xDS (B nx tak cmt : Nat) (sv sp pl cm : Nat → Nat) (pg : Nat → List (Nat × Int32)) (clk com fog : Nat → Nat) (kno : Nat → Nat → Nat) (bit : Nat → Nat) (rd wr : Nat → Nat → Nat) (lat : Option (List (Nat × Int32))) (tn : Nat) (tb : Nat → Nat) (h : xH) : Prop :=
  ∃ (lv : Value) (wad pad psa poa : Nat → Nat), xTop B lv h ∧ xLat B nx lv lat h ∧ xTp B tn tb h ∧ xCo B h ∧ xHist B tak cmt wad pad psa poa sv sp pl pg cm h ∧ xWd B nx tak wad pad psa poa ∧ xHU tak cmt sv sp cm ∧ (∀ w, w < tak → xOKp (pg w)) ∧ (∃ b e t, xMS (B + 13) b e t h) ∧ (∀ i, i < 5 → xSI B (B + 18 + 7 * i) tak cmt sv sp pg cm (clk i) (com i) (fog i) (kno i) h) ∧ (∀ j, j < 8 → xSe (B + 54 + 3 * j) (bit j) (rd j) (wr j) h) ∧ xGI tak cmt sv pl cm clk com kno ∧ B + 119 ≤ nx
theorem xSI_kept {B a tak cmt : Nat} {sv sp : Nat → Nat} {pg : Nat → List (Nat × Int32)} {cm : Nat → Nat} {clk com fog : Nat} {kno : Nat → Nat} {h h' : xH} (hS : xSI B a tak cmt sv sp pg cm clk com fog kno h) (hk : ∀ q, a ≤ q → q ≤ a + 6 → h' q = h q) : xSI B a tak cmt sv sp pg cm clk com fog kno h' := by
  obtain ⟨don, vec, tl, cc, ce, oc, hV, g⟩ := hS
  exact ⟨don, vec, tl, cc, ce, oc, xSV_kept hV hk, g⟩
/-- what the other side does leaves the class as it is -/
theorem xDS_kept {B nx nx' tak cmt : Nat} {sv sp pl cm : Nat → Nat} {pg : Nat → List (Nat × Int32)} {clk com fog : Nat → Nat} {kno : Nat → Nat → Nat} {bit : Nat → Nat} {rd wr : Nat → Nat → Nat} {lat : Option (List (Nat × Int32))} {tn : Nat} {tb : Nat → Nat} {h h' : xH} (hD : xDS B nx tak cmt sv sp pl cm pg clk com fog kno bit rd wr lat tn tb h) (hn : nx ≤ nx') (hk : ∀ q, B ≤ q → (q < B + 78 ∨ B + 119 ≤ q) → q < nx → h' q = h q) : xDS B nx' tak cmt sv sp pl cm pg clk com fog kno bit rd wr lat tn tb h' := by
  obtain ⟨lv, wad, pad, psa, poa, h1, h2, h3, h4, h5, h6, h7, h8, ⟨b, e, t, h9⟩, h10, h11, h12, h13⟩ := hD
  refine ⟨lv, wad, pad, psa, poa, xTop_kept h1 (hk _ (by omega) (by omega) (by omega)) (hk _ (by omega) (by omega) (by omega)) (hk _ (by omega) (by omega) (by omega)), xLat_kept h2 hn (fun q g1 g2 _ => hk q (by omega) (Or.inr g1) g2), xTp_kept h3 (hk _ (by omega) (by omega) (by omega)) (hk _ (by omega) (by omega) (by omega)), xCo_kept h4 (fun q g1 g2 => hk _ (by omega) (by omega) (by omega)), ?_, ?_, h7, h8, ⟨b, e, t, xMS_kept h9 (fun q g1 g2 => hk _ (by omega) (by omega) (by omega))⟩, fun i hi => xSI_kept (h10 i hi) (fun q g1 g2 => hk _ (by omega) (by omega) (by omega)), fun j hj => xSe_kept (h11 j hj) (fun q g1 g2 => hk _ (by omega) (by omega) (by omega)), h12, by omega⟩
  · obtain ⟨⟨wf, g1, g2, g3⟩, g4, g5, g6, g7⟩ := h5
    refine ⟨⟨wf, (hk _ (by omega) (by omega) (by omega)).trans g1, (hk _ (by omega) (by omega) (by omega)).trans g2, g3⟩, (hk _ (by omega) (by omega) (by omega)).trans g4, g5, g6, fun w hw => ?_⟩
    obtain ⟨k1, ⟨fs, fo, p0, p1, p2, p3⟩, k2⟩ := g7 w hw
    obtain ⟨m1, m2, m3, m4, m5, m6, m7, m8⟩ := h6.1 w hw
    exact ⟨(hk _ (by omega) (Or.inr m1) m5).trans k1, ⟨fs, fo, (hk _ (by omega) (Or.inr m2) m6).trans p0, (hk _ (by omega) (Or.inr m3) m7).trans p1, (hk _ (by omega) (Or.inr m4) m8).trans p2, p3⟩, k2⟩
  · refine ⟨fun w hw => ?_, h6.2⟩
    obtain ⟨m1, m2, m3, m4, m5, m6, m7, m8⟩ := h6.1 w hw
    exact ⟨m1, m2, m3, m4, by omega, by omega, by omega, by omega⟩
/-- what is the same of the class's heap for the other side -/
def xoth (B nx : Nat) (h h' : xH) : Prop := ∀ q, (q < B ∨ B + 78 ≤ q) → q < nx → (∀ fs, h q ≠ some (.inr (9, fs))) → h' q = h q
theorem xsm.oth {B a nx : Nat} {h h' : xH} (hs : xsm B a h h') (ha : B + 18 ≤ a ∧ a + 6 < B + 53) : xoth B nx h h' := fun q h1 _ _ => hs q (by omega) (by omega)
theorem xsame.oth {B a b nx : Nat} {h h' : xH} (hs : xsame a b h h') (ha : B ≤ a ∧ b < B + 78) : xoth B nx h h' := fun q h1 _ _ => hs q (by omega)
theorem xoth.refl {B nx : Nat} {h : xH} : xoth B nx h h := fun _ _ _ _ => rfl
end
section
/-! ===== the class: looking ===== -/
theorem xbi_1 {t : Bool} (h : t = true) : ¬ xbi t = 0 := by rw [h]; decide
theorem xgo_eq {pc t : Nat} {off : Int} {L : xL} {st : List Value} {w : xW} (ht : (pc : Int) + off = (t : Int)) : xgo pc off L st w = some (.inl (t, L, st, w)) := by
  unfold xgo
  rw [ht, if_pos (by omega), Int.toNat_natCast]
theorem xr_tsw {G : xG} {d mi pc : Nat} {L : xL} {r : List Value} {h : xH} {nx sl : Nat} {res : Option Value × xW} {df lo hi : Int} {offs : Array Int} {x : Int32} {t : Nat} (hI : xI mi pc = some (.tableswitch df lo hi offs)) (hx : x.toInt < lo ∨ hi < x.toInt) (ht : (pc : Int) + df = (t : Int)) (k : xRun G d mi (t, L, r, (h, nx, sl)) res) : xRun G d mi (pc, L, .int x :: r, (h, nx, sl)) res := by
  refine xr_go hI (f' := (t, L, r, (h, nx, sl))) ?_ k
  show xtsw df lo hi offs pc L (.int x :: r) (h, nx, sl) = _
  unfold xtsw
  simp only [if_pos hx]
  exact xgo_eq ht
theorem xr_lsw {G : xG} {d mi pc : Nat} {L : xL} {r : List Value} {h : xH} {nx sl : Nat} {res : Option Value × xW} {df : Int} {ps : Array (Int × Int)} {x : Int32} {t : Nat} (hI : xI mi pc = some (.lookupswitch df ps)) (hs : (ps.toList.zip (ps.toList.drop 1)).all (fun (a, next) => a.1 < next.1) = true) (hx : Op.lookupswitch.offset ps.toList df x.toInt = df) (ht : (pc : Int) + df = (t : Int)) (k : xRun G d mi (t, L, r, (h, nx, sl)) res) : xRun G d mi (pc, L, .int x :: r, (h, nx, sl)) res := by
  refine xr_go hI (f' := (t, L, r, (h, nx, sl))) ?_ k
  show xlsw df ps pc L (.int x :: r) (h, nx, sl) = _
  unfold xlsw
  simp only [hs, if_true, hx]
  exact xgo_eq ht
/-- answers -/
def aN (x : Int32) : Nat := x.toNatClampNeg
theorem aN_nI {j : Nat} (h : j < 2 ^ 31) : aN (nI j) = j := nI_clamp h
noncomputable def aCount (tak : Nat) (sv sp cm clk com fog : Nat → Nat) (kno : Nat → Nat → Nat) (x y : Int32) : Int32 := if xrng 5 x = true then (if y = 0 then nI (xLs tak sv sp cm (kno (aN x)) (com (aN x))).length else if y = 1 then nI (com (aN x)) else if y = 2 then nI (fog (aN x)) else if y = 3 then nI (clk (aN x)) else -1) else -1
noncomputable def aOrder (tak : Nat) (sv sp cm com : Nat → Nat) (kno : Nat → Nat → Nat) (x y : Int32) : Int32 := if xrng 5 x = true then (if xrng (xLs tak sv sp cm (kno (aN x)) (com (aN x))).length y = true then nI ((xLs tak sv sp cm (kno (aN x)) (com (aN x))).getD (aN y) 0) else -2) else -1
def aLook (tak : Nat) (sv sp pl : Nat → Nat) (x y : Int32) : Int32 := if xrng 3 y = true then (if xrng tak x = true then (if y = 0 then nI (sv (aN x)) else if y = 1 then nI (sp (aN x)) else nI (pl (aN x))) else -2) else -1
def aStamp (tak : Nat) (sv sp : Nat → Nat) (kno rd wr : Nat → Nat → Nat) (x y z : Int32) : Int32 := if xrng 5 z = true then (if x = 0 ∧ xrng 5 y = true then nI (xvm sv sp (kno (aN y)) (aN z) tak) else if x = 1 ∧ xrng 8 y = true then nI (rd (aN y) (aN z)) else if x = 2 ∧ xrng 8 y = true then nI (wr (aN y) (aN z)) else -1) else -1
section XLOOK
variable {G : xG} {d : Nat} {h : xH} {sl : Nat} {B nx tak cmt : Nat} {sv sp pl cm : Nat → Nat} {pg : Nat → List (Nat × Int32)} {clk com fog : Nat → Nat} {kno : Nat → Nat → Nat} {bit : Nat → Nat} {rd wr : Nat → Nat → Nat} {lat : Option (List (Nat × Int32))} {tn : Nat} {tb : Nat → Nat}
theorem D_writes (hD : xDS B nx tak cmt sv sp pl cm pg clk com fog kno bit rd wr lat tn tb h) : xRun G d 19 (0, [some (.ref B)], [], (h, nx, sl)) (some (.int (nI tak)), (h, nx, sl)) := by
  obtain ⟨lv, wad, pad, psa, poa, ⟨t1, ⟨sf, t2, t3⟩, ⟨ef, t4, t5⟩⟩, h2, h3, h4, ⟨⟨wf, w1, w2, w3⟩, w4⟩, -⟩ := hD
  refine xr_go i19_0 rfl ?_
  refine xr_get i19_1 xf19_28 (by assumption) rfl rfl ?_
  refine xr_get i19_4 xf19_79 (by assumption) rfl rfl ?_
  exact xr_iret i19_7 xt_19 rfl
theorem D_count (hD : xDS B nx tak cmt sv sp pl cm pg clk com fog kno bit rd wr lat tn tb h) (x y : Int32) (hd : 1 ≤ d) : xRun G d 18 (0, [some (.ref B), some (.int x), some (.int y), none], [], (h, nx, sl)) (some (.int (aCount tak sv sp cm clk com fog kno x y)), (h, nx, sl)) := by
  obtain ⟨lv, wad, pad, psa, poa, ⟨t1, ⟨sf, t2, t3⟩, ⟨ef, t4, t5⟩⟩, h2, h3, h4, h5, h6, h7, h8, h9, h10, h11, h12, h13⟩ := hD
  unfold aCount
  by_cases hx : xrng 5 x = true
  · rw [if_pos hx]
    obtain ⟨s, hs, rfl⟩ := xrng_of (by omega) hx
    rw [aN_nI (by omega)]
    have t6 := t3 s hs
    obtain ⟨don, vec, tl, cc, ce, oc, ⟨tN, ⟨s0, s1, s2, s3, s4, s5, s6⟩, htN⟩, hT, k⟩ := h10 s hs
    unfold xSvF at s0
    dsimp only at s0 s1 s2 s3 s4 s5 s6
    refine xr_go i18_0 rfl ?_
    refine xr_S i18_1 xc18_71 ⟨by first | exact Or.inl rfl | exact Or.inr rfl, rfl⟩ xa_6 (Nat.le_of_ble_eq_true rfl) (Nat.le_of_ble_eq_true rfl) (by omega) ⟨Nat.le_of_ble_eq_true rfl, Nat.le_of_ble_eq_true rfl⟩ (s_isServer (nI s)) ?_
    refine xr_if_neT i18_4 (t := 9) (by decide) (xbi_1 hx) ?_
    refine xr_go i18_9 rfl ?_
    refine xr_get i18_10 xf18_37 (by assumption) rfl rfl ?_
    refine xr_go i18_13 rfl ?_
    refine xr_aald i18_14 (by assumption) (by decide) rfl (by omega) (by omega) (by assumption) ?_
    refine xr_go i18_15 rfl ?_
    refine xr_go i18_16 rfl ?_
    by_cases y0 : y = 0
    · rw [if_pos y0]
      subst y0
      rw [xLs_eq hT, show (xord cm (com s) tl).length = com s + tl.length by unfold xord; rw [List.length_append, xcms_len], ← nI_add]
      refine xr_go i18_17 rfl ?_
      refine xr_go i18_48 rfl ?_
      refine xr_get i18_49 xf18_153 (by assumption) rfl rfl ?_
      refine xr_go i18_52 rfl ?_
      refine xr_get i18_53 xf18_135 (by assumption) rfl rfl ?_
      refine xr_go i18_56 rfl ?_
      exact xr_iret i18_57 xt_18 rfl
    rw [if_neg y0]
    by_cases y1 : y = 1
    · rw [if_pos y1]
      subst y1
      refine xr_go i18_17 rfl ?_
      refine xr_go i18_58 rfl ?_
      refine xr_get i18_59 xf18_153 (by assumption) rfl rfl ?_
      exact xr_iret i18_62 xt_18 rfl
    rw [if_neg y1]
    by_cases y2 : y = 2
    · rw [if_pos y2]
      subst y2
      refine xr_go i18_17 rfl ?_
      refine xr_go i18_63 rfl ?_
      refine xr_get i18_64 xf18_150 (by assumption) rfl rfl ?_
      exact xr_iret i18_67 xt_18 rfl
    rw [if_neg y2]
    by_cases y3 : y = 3
    · rw [if_pos y3]
      subst y3
      refine xr_go i18_17 rfl ?_
      refine xr_go i18_68 rfl ?_
      refine xr_get i18_69 xf18_86 (by assumption) rfl rfl ?_
      exact xr_iret i18_72 xt_18 rfl
    rw [if_neg y3]
    refine xr_tsw i18_17 (t := 73) ?_ (by decide) ?_
    · have e0 : y.toInt ≠ 0 := fun z => y0 (Int32.toInt_inj.mp z)
      have e1 : y.toInt ≠ 1 := fun z => y1 (Int32.toInt_inj.mp z)
      have e2 : y.toInt ≠ 2 := fun z => y2 (Int32.toInt_inj.mp z)
      have e3 : y.toInt ≠ 3 := fun z => y3 (Int32.toInt_inj.mp z)
      omega
    · refine xr_go i18_73 rfl ?_
      exact xr_iret i18_74 xt_18 rfl
  · rw [if_neg hx]
    refine xr_go i18_0 rfl ?_
    refine xr_S i18_1 xc18_71 ⟨by first | exact Or.inl rfl | exact Or.inr rfl, rfl⟩ xa_6 (Nat.le_of_ble_eq_true rfl) (Nat.le_of_ble_eq_true rfl) (by omega) ⟨Nat.le_of_ble_eq_true rfl, Nat.le_of_ble_eq_true rfl⟩ (s_isServer x) ?_
    refine xr_if_neF i18_4 (t := 9) (by decide) (by rw [Bool.not_eq_true] at hx; rw [hx]; decide) ?_
    refine xr_go i18_7 rfl ?_
    exact xr_iret i18_8 xt_18 rfl
theorem D_order (hD : xDS B nx tak cmt sv sp pl cm pg clk com fog kno bit rd wr lat tn tb h) (x y : Int32) (hd : 1 ≤ d) : xRun G d 14 (0, [some (.ref B), some (.int x), some (.int y)], [], (h, nx, sl)) (some (.int (aOrder tak sv sp cm com kno x y)), (h, nx, sl)) := by
  obtain ⟨lv, wad, pad, psa, poa, ⟨t1, ⟨sf, t2, t3⟩, ⟨ef, t4, t5⟩⟩, h2, h3, h4, h5, h6, h7, h8, h9, h10, h11, h12, h13⟩ := hD
  unfold aOrder
  by_cases hx : xrng 5 x = true
  · rw [if_pos hx]
    obtain ⟨s, hs, rfl⟩ := xrng_of (by omega) hx
    rw [aN_nI (by omega)]
    have t6 := t3 s hs
    obtain ⟨tl, hT, r⟩ := q_writeAt (G := G) (d := d - 1) (nx := nx) (sl := sl) (x := y) h5 (h10 s hs) (by omega)
    have s0 : ∃ x, h (B + 18 + 7 * s) = some (.inr (6, x)) := by
      obtain ⟨_, _, _, _, _, _, ⟨_, hs, -⟩, -⟩ := h10 s hs
      exact ⟨_, hs.1⟩
    obtain ⟨x0, s0⟩ := s0
    rw [xLs_eq hT, show (xord cm (com s) tl).length = com s + tl.length by unfold xord; rw [List.length_append, xcms_len]]
    refine xr_go i14_0 rfl ?_
    refine xr_S i14_1 xc14_71 ⟨by first | exact Or.inl rfl | exact Or.inr rfl, rfl⟩ xa_6 (Nat.le_of_ble_eq_true rfl) (Nat.le_of_ble_eq_true rfl) (by omega) ⟨Nat.le_of_ble_eq_true rfl, Nat.le_of_ble_eq_true rfl⟩ (s_isServer (nI s)) ?_
    refine xr_if_neT i14_4 (t := 9) (by decide) (xbi_1 hx) ?_
    refine xr_go i14_9 rfl ?_
    refine xr_get i14_10 xf14_37 (by assumption) rfl rfl ?_
    refine xr_go i14_13 rfl ?_
    refine xr_aald i14_14 (by assumption) (by decide) rfl (by omega) (by omega) (by assumption) ?_
    refine xr_go i14_15 rfl ?_
    refine xr_V i14_16 xc14_166 ⟨rfl, rfl⟩ xa_67 rfl (by assumption) rfl (Nat.le_of_ble_eq_true rfl) (by omega) ⟨Nat.le_of_ble_eq_true rfl, Nat.le_of_ble_eq_true rfl⟩ (r) ?_
    exact xr_iret i14_19 xt_14 rfl
  · rw [if_neg hx]
    refine xr_go i14_0 rfl ?_
    refine xr_S i14_1 xc14_71 ⟨by first | exact Or.inl rfl | exact Or.inr rfl, rfl⟩ xa_6 (Nat.le_of_ble_eq_true rfl) (Nat.le_of_ble_eq_true rfl) (by omega) ⟨Nat.le_of_ble_eq_true rfl, Nat.le_of_ble_eq_true rfl⟩ (s_isServer x) ?_
    refine xr_if_neF i14_4 (t := 9) (by decide) (by rw [Bool.not_eq_true] at hx; rw [hx]; decide) ?_
    refine xr_go i14_7 rfl ?_
    exact xr_iret i14_8 xt_14 rfl
theorem D_look (hD : xDS B nx tak cmt sv sp pl cm pg clk com fog kno bit rd wr lat tn tb h) (x y : Int32) (hd : 1 ≤ d) : xRun G d 16 (0, [some (.ref B), some (.int x), some (.int y), none], [], (h, nx, sl)) (some (.int (aLook tak sv sp pl x y)), (h, nx, sl)) := by
  obtain ⟨lv, wad, pad, psa, poa, ⟨t1, ⟨sf, t2, t3⟩, ⟨ef, t4, t5⟩⟩, h2, h3, h4, ⟨⟨wf, w1, w2, w3⟩, w4, w5, w6, w7⟩, -⟩ := hD
  unfold aLook
  by_cases hy : xrng 3 y = true
  · rw [if_pos hy]
    obtain ⟨k, hk, rfl⟩ := xrng_of (by omega) hy
    refine xr_go i16_0 rfl ?_
    refine xr_if_ltF i16_1 (t := 9) (by decide) (nI_pos (by omega)) ?_
    refine xr_go i16_4 rfl ?_
    refine xr_go i16_5 rfl ?_
    refine xr_icmp_leT i16_6 (t := 11) (by decide) (show nI k ≤ nI 2 from nI_le (by omega) (by omega)) ?_
    refine xr_go i16_11 rfl ?_
    refine xr_get i16_12 xf16_28 (by assumption) rfl rfl ?_
    refine xr_go i16_15 rfl ?_
    refine xr_V i16_16 xc16_170 ⟨rfl, rfl⟩ xa_48 rfl (by assumption) rfl (Nat.le_of_ble_eq_true rfl) (by omega) ⟨Nat.le_of_ble_eq_true rfl, Nat.le_of_ble_eq_true rfl⟩ (s_has (x := x) w1) ?_
    by_cases hx : xrng tak x = true
    · rw [if_pos hx]
      obtain ⟨w, hw, rfl⟩ := xrng_of (by omega) hx
      rw [aN_nI (by omega)]
      obtain ⟨v1, -⟩ := w7 w hw
      have v2 := w3 w hw
      refine xr_if_neT i16_19 (t := 25) (by decide) (xbi_1 hx) ?_
      refine xr_go i16_25 rfl ?_
      refine xr_get i16_26 xf16_28 (by assumption) rfl rfl ?_
      refine xr_get i16_29 xf16_176 (by assumption) rfl rfl ?_
      refine xr_go i16_32 rfl ?_
      refine xr_aald i16_33 (by assumption) (by decide) rfl (by omega) (by omega) (by assumption) ?_
      refine xr_go i16_34 rfl ?_
      refine xr_go i16_35 rfl ?_
      match k, hk with
      | 0, _ =>
        refine xr_go i16_36 rfl ?_
        refine xr_go i16_64 rfl ?_
        refine xr_get i16_65 xf16_180 (by assumption) rfl rfl ?_
        exact xr_iret i16_68 xt_16 rfl
      | 1, _ =>
        refine xr_go i16_36 rfl ?_
        refine xr_go i16_69 rfl ?_
        refine xr_get i16_70 xf16_183 (by assumption) rfl rfl ?_
        exact xr_iret i16_73 xt_16 rfl
      | 2, _ =>
        refine xr_go i16_36 rfl ?_
        refine xr_go i16_74 rfl ?_
        refine xr_get i16_75 xf16_186 (by assumption) rfl rfl ?_
        exact xr_iret i16_78 xt_16 rfl
    · rw [if_neg hx]
      refine xr_if_neF i16_19 (t := 25) (by decide) (by rw [Bool.not_eq_true] at hx; rw [hx]; decide) ?_
      refine xr_go i16_22 rfl ?_
      exact xr_iret i16_24 xt_16 rfl
  · rw [if_neg hy]
    have tail : xRun G d 16 (9, [some (.ref B), some (.int x), some (.int y), none], [], (h, nx, sl)) (some (.int (-1)), (h, nx, sl)) := by
      refine xr_go i16_9 rfl ?_
      exact xr_iret i16_10 xt_16 rfl
    refine xr_go i16_0 rfl ?_
    refine xr_if_lt i16_1 (t := 9) (by decide) (fun hc => ?_) (fun hc => ?_)
    · exact tail
    · refine xr_go i16_4 rfl ?_
      refine xr_go i16_5 rfl ?_
      refine xr_icmp_leF i16_6 (t := 11) (by decide) (fun z => hy ?_) tail
      unfold xrng
      rw [decide_eq_true (Int32.not_lt.mp hc), decide_eq_true (show y < nI 3 from ?_)]
      · rfl
      · have := Int32.le_iff_toInt_le.mp z
        rw [Int32.lt_iff_toInt_lt]
        have e2 : (2 : Int32).toInt = 2 := rfl
        have e3 : (nI 3).toInt = 3 := rfl
        have e4 : y.toInt ≤ (2 : Int32).toInt := this
        omega
theorem D_stamp (hD : xDS B nx tak cmt sv sp pl cm pg clk com fog kno bit rd wr lat tn tb h) (x y z : Int32) (hd : 1 ≤ d) : xRun G d 17 (0, [some (.ref B), some (.int x), some (.int y), some (.int z)], [], (h, nx, sl)) (some (.int (aStamp tak sv sp kno rd wr x y z)), (h, nx, sl)) := by
  obtain ⟨lv, wad, pad, psa, poa, ⟨t1, ⟨sf, t2, t3⟩, ⟨ef, t4, t5⟩⟩, h2, h3, h4, h5, h6, h7, h8, h9, h10, h11, h12, h13⟩ := hD
  unfold aStamp
  by_cases hz : xrng 5 z = true
  · rw [if_pos hz]
    obtain ⟨k, hk, rfl⟩ := xrng_of (by omega) hz
    rw [aN_nI (by omega)]
    have c3 : ∀ v, v = -1 → xRun G d 17 (80, [some (.ref B), some (.int x), some (.int y), some (.int (nI k))], [], (h, nx, sl)) (some (.int v), (h, nx, sl)) := by
      rintro v rfl
      refine xr_go i17_80 rfl ?_
      exact xr_iret i17_81 xt_17 rfl
    have c2 : ∀ v, v = (if x = 2 ∧ xrng 8 y = true then nI (wr (aN y) k) else -1) → xRun G d 17 (56, [some (.ref B), some (.int x), some (.int y), some (.int (nI k))], [], (h, nx, sl)) (some (.int v), (h, nx, sl)) := by
      intro v hv
      refine xr_go i17_56 rfl ?_
      refine xr_go i17_57 rfl ?_
      refine xr_icmp_ne i17_58 (t := 80) (by decide) (fun hx2 => ?_) (fun hx2 => ?_)
      · exact c3 v (by rw [hv, if_neg (fun e => hx2 e.1)])
      · refine xr_go i17_61 rfl ?_
        refine xr_S i17_62 xc17_75 ⟨by first | exact Or.inl rfl | exact Or.inr rfl, rfl⟩ xa_7 (Nat.le_of_ble_eq_true rfl) (Nat.le_of_ble_eq_true rfl) (by omega) ⟨Nat.le_of_ble_eq_true rfl, Nat.le_of_ble_eq_true rfl⟩ (s_isSession y) ?_
        by_cases hy : xrng 8 y = true
        · refine xr_if_eqF i17_65 (t := 80) (by decide) (xbi_1 hy) ?_
          obtain ⟨s, hs, rfl⟩ := xrng_of (by omega) hy
          obtain ⟨fr, fw, g1, g2, g3, g4, g5⟩ := h11 s hs
          have g6 := t5 s hs
          rw [if_pos ⟨by simpa using hx2, hy⟩, aN_nI (by omega), ← (g5 k hk).2.1] at hv
          rw [hv]
          refine xr_go i17_68 rfl ?_
          refine xr_get i17_69 xf17_46 (by assumption) rfl rfl ?_
          refine xr_go i17_72 rfl ?_
          refine xr_aald i17_73 (by assumption) (by decide) rfl (by omega) (by omega) (by assumption) ?_
          refine xr_get i17_74 xf17_107 (by assumption) rfl rfl ?_
          refine xr_go i17_77 rfl ?_
          refine xr_iald i17_78 (by assumption) rfl (by omega) (by omega) ?_
          exact xr_iret i17_79 xt_17 rfl
        · refine xr_if_eqT i17_65 (t := 80) (by decide) (xbi_f (by simpa using hy)) ?_
          exact c3 v (by rw [hv, if_neg (fun e => hy e.2)])
    have c1 : ∀ v, v = (if x = 1 ∧ xrng 8 y = true then nI (rd (aN y) k) else if x = 2 ∧ xrng 8 y = true then nI (wr (aN y) k) else -1) → xRun G d 17 (32, [some (.ref B), some (.int x), some (.int y), some (.int (nI k))], [], (h, nx, sl)) (some (.int v), (h, nx, sl)) := by
      intro v hv
      refine xr_go i17_32 rfl ?_
      refine xr_go i17_33 rfl ?_
      refine xr_icmp_ne i17_34 (t := 56) (by decide) (fun hx1 => ?_) (fun hx1 => ?_)
      · exact c2 v (by rw [hv, if_neg (fun e => hx1 e.1)])
      · refine xr_go i17_37 rfl ?_
        refine xr_S i17_38 xc17_75 ⟨by first | exact Or.inl rfl | exact Or.inr rfl, rfl⟩ xa_7 (Nat.le_of_ble_eq_true rfl) (Nat.le_of_ble_eq_true rfl) (by omega) ⟨Nat.le_of_ble_eq_true rfl, Nat.le_of_ble_eq_true rfl⟩ (s_isSession y) ?_
        by_cases hy : xrng 8 y = true
        · refine xr_if_eqF i17_41 (t := 56) (by decide) (xbi_1 hy) ?_
          obtain ⟨s, hs, rfl⟩ := xrng_of (by omega) hy
          obtain ⟨fr, fw, g1, g2, g3, g4, g5⟩ := h11 s hs
          have g6 := t5 s hs
          rw [if_pos ⟨by simpa using hx1, hy⟩, aN_nI (by omega), ← (g5 k hk).1] at hv
          rw [hv]
          refine xr_go i17_44 rfl ?_
          refine xr_get i17_45 xf17_46 (by assumption) rfl rfl ?_
          refine xr_go i17_48 rfl ?_
          refine xr_aald i17_49 (by assumption) (by decide) rfl (by omega) (by omega) (by assumption) ?_
          refine xr_get i17_50 xf17_192 (by assumption) rfl rfl ?_
          refine xr_go i17_53 rfl ?_
          refine xr_iald i17_54 (by assumption) rfl (by omega) (by omega) ?_
          exact xr_iret i17_55 xt_17 rfl
        · refine xr_if_eqT i17_41 (t := 56) (by decide) (xbi_f (by simpa using hy)) ?_
          exact c2 v (by rw [hv, if_neg (fun e => hy e.2)])
    refine xr_go i17_0 rfl ?_
    refine xr_S i17_1 xc17_71 ⟨by first | exact Or.inl rfl | exact Or.inr rfl, rfl⟩ xa_6 (Nat.le_of_ble_eq_true rfl) (Nat.le_of_ble_eq_true rfl) (by omega) ⟨Nat.le_of_ble_eq_true rfl, Nat.le_of_ble_eq_true rfl⟩ (s_isServer (nI k)) ?_
    refine xr_if_neT i17_4 (t := 9) (by decide) (xbi_1 hz) ?_
    refine xr_go i17_9 rfl ?_
    refine xr_if_ne i17_10 (t := 32) (by decide) (fun hx0 => ?_) (fun hx0 => ?_)
    · exact c1 _ (by rw [if_neg (fun e => hx0 e.1)])
    · refine xr_go i17_13 rfl ?_
      refine xr_S i17_14 xc17_71 ⟨by first | exact Or.inl rfl | exact Or.inr rfl, rfl⟩ xa_6 (Nat.le_of_ble_eq_true rfl) (Nat.le_of_ble_eq_true rfl) (by omega) ⟨Nat.le_of_ble_eq_true rfl, Nat.le_of_ble_eq_true rfl⟩ (s_isServer y) ?_
      by_cases hy : xrng 5 y = true
      · refine xr_if_eqF i17_17 (t := 32) (by decide) (xbi_1 hy) ?_
        rw [if_pos ⟨by simpa using hx0, hy⟩]
        obtain ⟨s, hs, rfl⟩ := xrng_of (by omega) hy
        rw [aN_nI (by omega)]
        obtain ⟨don, vec, tl, cc, ce, oc, ⟨tN, ⟨s0, s1, s2, s3, s4, s5, s6⟩, htN⟩, hT, k1, k2, k3, k4, k5, k6, k7, k8, -⟩ := h10 s hs
        unfold xSvF at s0
        dsimp only at s0 s1 s2 s3 s4 s5 s6
        have g6 := t3 s hs
        rw [← xvm_eq k2 (k8 k hk).2.1 (k8 k hk).2.2]
        refine xr_go i17_20 rfl ?_
        refine xr_get i17_21 xf17_37 (by assumption) rfl rfl ?_
        refine xr_go i17_24 rfl ?_
        refine xr_aald i17_25 (by assumption) (by decide) rfl (by omega) (by omega) (by assumption) ?_
        refine xr_get i17_26 xf17_189 (by assumption) rfl rfl ?_
        refine xr_go i17_29 rfl ?_
        refine xr_iald i17_30 (by assumption) rfl (by omega) (by omega) ?_
        exact xr_iret i17_31 xt_17 rfl
      · refine xr_if_eqT i17_17 (t := 32) (by decide) (xbi_f (by simpa using hy)) ?_
        exact c1 _ (by rw [if_neg (fun e => hy e.2)])
  · rw [if_neg hz]
    refine xr_go i17_0 rfl ?_
    refine xr_S i17_1 xc17_71 ⟨by first | exact Or.inl rfl | exact Or.inr rfl, rfl⟩ xa_6 (Nat.le_of_ble_eq_true rfl) (Nat.le_of_ble_eq_true rfl) (by omega) ⟨Nat.le_of_ble_eq_true rfl, Nat.le_of_ble_eq_true rfl⟩ (s_isServer z) ?_
    refine xr_if_neF i17_4 (t := 9) (by decide) (by rw [Bool.not_eq_true] at hz; rw [hz]; decide) ?_
    refine xr_go i17_7 rfl ?_
    exact xr_iret i17_8 xt_17 rfl
end XLOOK
end
section
/-! ===== the class: cells, outcomes, forgetting, sessions ===== -/
theorem vu_at {α : Type} {f : Nat → α} {i : Nat} {x : α} : va_up f i x i = x := by simp [va_up]
theorem vu_ne {α : Type} {f : Nat → α} {i j : Nat} {x : α} (h : j ≠ i) : va_up f i x j = f j := by simp [va_up, h]
theorem vu_id {α : Type} {f : Nat → α} {i : Nat} : va_up f i (f i) = f := by
  funext j
  unfold va_up
  split
  · rename_i h; rw [h]
  · rfl
theorem xidx {l : List Nat} {w : Nat} (h : w ∈ l) : l.idxOf w < l.length ∧ l.getD (l.idxOf w) 0 = w := by
  have h1 := List.idxOf_lt_length_iff.mpr h
  refine ⟨h1, ?_⟩
  rw [List.getD_eq_getElem?_getD, List.getElem?_eq_getElem h1]
  exact List.getElem_idxOf h1
theorem xord_mem {tak com : Nat} {sv sp cm kno : Nat → Nat} {tl : List Nat} {w : Nat} (hT : xTL tak sv sp cm kno com tl) (hw : w < tak) (hk : kno w = 1) : w ∈ xord cm com tl := by
  unfold xord
  by_cases h : w ∈ xcms cm com
  · exact List.mem_append_left _ h
  · exact List.mem_append_right _ ((hT.2 w).mpr ⟨hw, hk, h⟩)
/-- answers -/
noncomputable def aVal (tak : Nat) (sv sp cm : Nat → Nat) (pg : Nat → List (Nat × Int32)) (com : Nat) (kno : Nat → Nat) (c : Nat) (b : Int32) : Int32 := xruns sv sp pg xz (if b = 0 then xLs tak sv sp cm kno com else xcms cm com) c
noncomputable def aCell (tak : Nat) (sv sp cm : Nat → Nat) (pg : Nat → List (Nat × Int32)) (com : Nat → Nat) (kno : Nat → Nat → Nat) (x y b : Int32) : Int64 := if xrng 5 x = true ∧ xrng 32 y = true then (aVal tak sv sp cm pg (com (aN x)) (kno (aN x)) (aN y) b).toInt64 else 1099511627776
noncomputable def aOut (tak : Nat) (sv sp cm : Nat → Nat) (pg : Nat → List (Nat × Int32)) (com : Nat → Nat) (kno : Nat → Nat → Nat) (x y : Int32) : Int32 := if xrng 5 x = true then (if xrng tak y = true ∧ kno (aN x) (aN y) = 1 then nI (xoutAt sv sp pg (xLs tak sv sp cm (kno (aN x)) (com (aN x))) ((xLs tak sv sp cm (kno (aN x)) (com (aN x))).idxOf (aN y))) else -2) else -1
/-- at least: a vector of what is known, and another -/
def aAtl (tak : Nat) (sv sp kno g : Nat → Nat) : Bool := (List.range 5).all (fun k => decide (g k ≤ xvm sv sp kno k tak))
def aMay (tak : Nat) (sv sp kno : Nat → Nat) (bit : Nat) (c1 c2 : Int32) (g1 g2 : Nat → Nat) : Bool := (!decide (¬ nI bit &&& c1 = 0) || aAtl tak sv sp kno g1) && (!decide (¬ nI bit &&& c2 = 0) || aAtl tak sv sp kno g2)
noncomputable def aRead (tak : Nat) (sv sp cm : Nat → Nat) (pg : Nat → List (Nat × Int32)) (com : Nat → Nat) (kno : Nat → Nat → Nat) (bit : Nat → Nat) (rd wr : Nat → Nat → Nat) (x y c b : Int32) : Int64 := if xrng 5 x = true ∧ xrng 8 y = true ∧ xrng 32 c = true then (if aMay tak sv sp (kno (aN x)) (bit (aN y)) 1 2 (wr (aN y)) (rd (aN y)) = true then (aVal tak sv sp cm pg (com (aN x)) (kno (aN x)) (aN c) b).toInt64 else 1099511627777) else 1099511627776
def bRead (tak : Nat) (sv sp : Nat → Nat) (kno : Nat → Nat → Nat) (bit : Nat → Nat) (rd wr : Nat → Nat → Nat) (x y c : Int32) : Nat → Nat → Nat := if xrng 5 x = true ∧ xrng 8 y = true ∧ xrng 32 c = true ∧ aMay tak sv sp (kno (aN x)) (bit (aN y)) 1 2 (wr (aN y)) (rd (aN y)) = true then va_up rd (aN y) (fun k => max (rd (aN y) k) (xvm sv sp (kno (aN x)) k tak)) else rd
def aForget (com fog : Nat → Nat) (x y : Int32) : Int32 := if xrng 5 x = true ∧ ¬ y < 0 then nI (fog (aN x) + min (aN y) (com (aN x) - fog (aN x))) else -1
def bForget (com fog : Nat → Nat) (x y : Int32) : Nat → Nat := if xrng 5 x = true ∧ ¬ y < 0 then va_up fog (aN x) (fog (aN x) + min (aN y) (com (aN x) - fog (aN x))) else fog
def aAssure (bit : Nat → Nat) (x y : Int32) : Int32 := if xrng 8 x = true ∧ xrng 16 y = true then nI (bit (aN x)) else -1
def bAssure (bit : Nat → Nat) (x y : Int32) : Nat → Nat := if xrng 8 x = true ∧ xrng 16 y = true then va_up bit (aN x) (aN y) else bit
def bClear (v : Nat → Nat → Nat) (x y z : Int32) : Nat → Nat → Nat := if xrng 8 x = true ∧ xrng 16 y = true ∧ ¬ z = 0 then va_up v (aN x) (fun _ => 0) else v
theorem xand16 {y : Int32} : y &&& -16 = 0 ↔ xrng 16 y = true := by
  constructor
  · intro hy
    have e : y = y &&& 15 := by
      have h1 : y.toBitVec &&& (-16 : Int32).toBitVec = 0#32 := by
        have := congrArg Int32.toBitVec hy
        simpa using this
      have h2 : y.toBitVec = y.toBitVec &&& 15#32 := by
        have h3 : y.toBitVec = (y.toBitVec &&& (-16 : Int32).toBitVec) ||| (y.toBitVec &&& 15#32) := by
          rw [← BitVec.and_or_distrib_left, show (-16 : Int32).toBitVec ||| 15#32 = BitVec.allOnes 32 from by decide, BitVec.and_allOnes]
        rw [h3] at *
        rw [h1]
        simp [BitVec.and_assoc]
      apply Int32.toBitVec_inj.mp
      simpa using h2
    have h4 : y.toBitVec.toNat ≤ 15 := by
      have := congrArg (fun z => (Int32.toBitVec z).toNat) e
      simp only [Int32.toBitVec_and, BitVec.toNat_and] at this
      rw [this]
      exact Nat.and_le_right
    have h5 : y = nI y.toBitVec.toNat := by
      apply Int32.toBitVec_inj.mp
      apply BitVec.eq_of_toNat_eq
      show _ = (BitVec.ofNat 32 _).toNat
      rw [BitVec.toNat_ofNat, Nat.mod_eq_of_lt (by omega)]
    rw [h5]
    exact xrng_nI (by omega) (by omega)
  · intro hy
    obtain ⟨j, hj, rfl⟩ := xrng_of (by omega) hy
    have key : ∀ k : Fin 16, nI k.val &&& -16 = 0 := by decide
    exact key ⟨j, hj⟩
theorem aAtl_iff {tak : Nat} {sv sp kno g : Nat → Nat} : aAtl tak sv sp kno g = true ↔ ∀ k, k < 5 → g k ≤ xvm sv sp kno k tak := by
  unfold aAtl
  simp only [List.all_eq_true, List.mem_range, decide_eq_true_eq]
section XCELL
variable {G : xG} {d : Nat} {h h' : xH} {sl : Nat} {B nx tak cmt : Nat} {sv sp pl cm : Nat → Nat} {pg : Nat → List (Nat × Int32)} {clk com fog : Nat → Nat} {kno : Nat → Nat → Nat} {bit : Nat → Nat} {rd wr : Nat → Nat → Nat} {lat : Option (List (Nat × Int32))} {tn : Nat} {tb : Nat → Nat}
/-- one server changed -/
theorem xDS_srv {i clk' com' fog' : Nat} {kno' : Nat → Nat} (hD : xDS B nx tak cmt sv sp pl cm pg clk com fog kno bit rd wr lat tn tb h) (hi : i < 5) (sm : xsm B (B + 18 + 7 * i) h h') (hM : ∃ b e t, xMS (B + 13) b e t h') (hS : xSI B (B + 18 + 7 * i) tak cmt sv sp pg cm clk' com' fog' kno' h') (hG : xGI tak cmt sv pl cm (va_up clk i clk') (va_up com i com') (va_up kno i kno')) : xDS B nx tak cmt sv sp pl cm pg (va_up clk i clk') (va_up com i com') (va_up fog i fog') (va_up kno i kno') bit rd wr lat tn tb h' := by
  obtain ⟨lv, wad, pad, psa, poa, h1, h2, h3, h4, h5, h6, h7, h8, -, h10, h11, h12, h13⟩ := hD
  refine ⟨lv, wad, pad, psa, poa, xTop_kept h1 (sm _ (by omega) (by omega)) (sm _ (by omega) (by omega)) (sm _ (by omega) (by omega)), xLat_kept h2 (Nat.le_refl _) (fun q g1 g2 _ => sm q (by omega) (by omega)), xTp_kept h3 (sm _ (by omega) (by omega)) (sm _ (by omega) (by omega)), xCo_kept h4 (fun q g1 g2 => sm _ (by omega) (by omega)), xHist_kept h5 (fun q hq => sm q (by omega) (by omega)), h6, h7, h8, hM, fun k hk => ?_, fun j hj => xSe_kept (h11 j hj) (fun q g1 g2 => sm _ (by omega) (by omega)), hG, h13⟩
  by_cases hki : k = i
  · subst hki
    rw [vu_at, vu_at, vu_at, vu_at]
    exact hS
  · rw [vu_ne hki, vu_ne hki, vu_ne hki, vu_ne hki]
    exact xSI_kept (h10 k hk) (fun q g1 g2 => sm q (by omega) (by omega))
theorem xDS_srv0 {i : Nat} (hD : xDS B nx tak cmt sv sp pl cm pg clk com fog kno bit rd wr lat tn tb h) (hi : i < 5) (sm : xsm B (B + 18 + 7 * i) h h') (hM : ∃ b e t, xMS (B + 13) b e t h') (hS : xSI B (B + 18 + 7 * i) tak cmt sv sp pg cm (clk i) (com i) (fog i) (kno i) h') : xDS B nx tak cmt sv sp pl cm pg clk com fog kno bit rd wr lat tn tb h' := by
  have hG : xGI tak cmt sv pl cm clk com kno := by
    obtain ⟨lv, wad, pad, psa, poa, h1, h2, h3, h4, h5, h6, h7, h8, -, h10, h11, h12, h13⟩ := hD
    exact h12
  have := xDS_srv hD hi sm hM hS (by rw [vu_id, vu_id, vu_id]; exact hG)
  rw [vu_id, vu_id, vu_id, vu_id] at this
  exact this
/-- one session changed -/
theorem xDS_ses {j bit' : Nat} {rd' wr' : Nat → Nat} (hD : xDS B nx tak cmt sv sp pl cm pg clk com fog kno bit rd wr lat tn tb h) (hj : j < 8) (sm : xsame (B + 54 + 3 * j) (B + 56 + 3 * j) h h') (hS : xSe (B + 54 + 3 * j) bit' rd' wr' h') : xDS B nx tak cmt sv sp pl cm pg clk com fog kno (va_up bit j bit') (va_up rd j rd') (va_up wr j wr') lat tn tb h' := by
  obtain ⟨lv, wad, pad, psa, poa, h1, h2, h3, h4, h5, h6, h7, h8, ⟨b, e, t, h9⟩, h10, h11, h12, h13⟩ := hD
  refine ⟨lv, wad, pad, psa, poa, xTop_kept h1 (sm _ (by omega)) (sm _ (by omega)) (sm _ (by omega)), xLat_kept h2 (Nat.le_refl _) (fun q g1 g2 _ => sm q (by omega)), xTp_kept h3 (sm _ (by omega)) (sm _ (by omega)), xCo_kept h4 (fun q g1 g2 => sm _ (by omega)), xHist_kept h5 (fun q hq => sm q (by omega)), h6, h7, h8, ⟨b, e, t, xMS_kept h9 (fun q g1 g2 => sm q (by omega))⟩, fun k hk => xSI_kept (h10 k hk) (fun q g1 g2 => sm q (by omega)), fun k hk => ?_, h12, h13⟩
  by_cases hki : k = j
  · subst hki
    rw [vu_at, vu_at, vu_at]
    exact hS
  · rw [vu_ne hki, vu_ne hki, vu_ne hki]
    exact xSe_kept (h11 k hk) (fun q g1 g2 => sm q (by omega))
theorem D_cell (hD : xDS B nx tak cmt sv sp pl cm pg clk com fog kno bit rd wr lat tn tb h) (x y b : Int32) (hd : 6 ≤ d) : ∃ h', xRun G d 13 (0, [some (.ref B), some (.int x), some (.int y), some (.int b)], [], (h, nx, sl)) (some (.long (aCell tak sv sp cm pg com kno x y b)), (h', nx, sl)) ∧ xDS B nx tak cmt sv sp pl cm pg clk com fog kno bit rd wr lat tn tb h' ∧ xoth B nx h h' := by
  have hD0 := hD
  obtain ⟨lv, wad, pad, psa, poa, ⟨t1, ⟨sf, t2, t3⟩, ⟨ef, t4, t5⟩⟩, h2, h3, h4, h5, h6, h7, h8, ⟨bb, ee, tt, h9⟩, h10, h11, h12, h13⟩ := hD
  unfold aCell
  have tail : xRun G d 13 (14, [some (.ref B), some (.int x), some (.int y), some (.int b)], [], (h, nx, sl)) (some (.long 1099511627776), (h, nx, sl)) := by
    refine xr_ldc2 i13_14 xl13_114 rfl ?_
    exact xr_lret i13_17 xt_13
  by_cases hx : xrng 5 x = true
  · by_cases hy : xrng 32 y = true
    · rw [if_pos ⟨hx, hy⟩]
      obtain ⟨s, hs, rfl⟩ := xrng_of (by omega) hx
      obtain ⟨c, hc, rfl⟩ := xrng_of (by omega) hy
      rw [aN_nI (by omega), aN_nI (by omega)]
      have t6 := t3 s hs
      obtain ⟨h', tl, r, hT, g1, g2, g3⟩ := q_value (G := G) (d := d - 1) (nx := nx) (sl := sl) (c := c) (b := b) h5 h7 h8 h9 (h10 s hs) (by omega) hc (by omega)
      have s0 : ∃ x, h (B + 18 + 7 * s) = some (.inr (6, x)) := by
        obtain ⟨_, _, _, _, _, _, ⟨_, hs, -⟩, -⟩ := h10 s hs
        exact ⟨_, hs.1⟩
      obtain ⟨x0, s0⟩ := s0
      refine ⟨h', ?_, xDS_srv0 hD0 hs g3 g2 g1, g3.oth (by omega)⟩
      have e : aVal tak sv sp cm pg (com s) (kno s) c b = (if b = 0 then xruns sv sp pg xz (xord cm (com s) tl) c else xruns sv sp pg xz (xcms cm (com s)) c) := by
        unfold aVal
        rw [xLs_eq hT]
        split <;> rfl
      rw [e]
      refine xr_go i13_0 rfl ?_
      refine xr_S i13_1 xc13_71 ⟨by first | exact Or.inl rfl | exact Or.inr rfl, rfl⟩ xa_6 (Nat.le_of_ble_eq_true rfl) (Nat.le_of_ble_eq_true rfl) (by omega) ⟨Nat.le_of_ble_eq_true rfl, Nat.le_of_ble_eq_true rfl⟩ (s_isServer (nI s)) ?_
      refine xr_if_eqF i13_4 (t := 14) (by decide) (xbi_1 hx) ?_
      refine xr_go i13_7 rfl ?_
      refine xr_S i13_8 xc13_111 ⟨by first | exact Or.inl rfl | exact Or.inr rfl, rfl⟩ xa_4 (Nat.le_of_ble_eq_true rfl) (Nat.le_of_ble_eq_true rfl) (by omega) ⟨Nat.le_of_ble_eq_true rfl, Nat.le_of_ble_eq_true rfl⟩ (s_isCell (nI c)) ?_
      refine xr_if_neT i13_11 (t := 18) (by decide) (xbi_1 hy) ?_
      refine xr_go i13_18 rfl ?_
      refine xr_get i13_19 xf13_37 (by assumption) rfl rfl ?_
      refine xr_go i13_22 rfl ?_
      refine xr_aald i13_23 (by assumption) (by decide) rfl (by omega) (by omega) (by assumption) ?_
      refine xr_go i13_24 rfl ?_
      refine xr_go i13_25 rfl ?_
      refine xr_V i13_26 xc13_125 ⟨rfl, rfl⟩ xa_60 rfl (by assumption) rfl (Nat.le_of_ble_eq_true rfl) (by omega) ⟨Nat.le_of_ble_eq_true rfl, Nat.le_of_ble_eq_true rfl⟩ (r) ?_
      refine xr_go i13_29 rfl ?_
      exact xr_lret i13_30 xt_13
    · rw [if_neg (fun z => hy z.2)]
      refine ⟨h, ?_, hD0, xoth.refl⟩
      refine xr_go i13_0 rfl ?_
      refine xr_S i13_1 xc13_71 ⟨by first | exact Or.inl rfl | exact Or.inr rfl, rfl⟩ xa_6 (Nat.le_of_ble_eq_true rfl) (Nat.le_of_ble_eq_true rfl) (by omega) ⟨Nat.le_of_ble_eq_true rfl, Nat.le_of_ble_eq_true rfl⟩ (s_isServer x) ?_
      refine xr_if_eqF i13_4 (t := 14) (by decide) (xbi_1 hx) ?_
      refine xr_go i13_7 rfl ?_
      refine xr_S i13_8 xc13_111 ⟨by first | exact Or.inl rfl | exact Or.inr rfl, rfl⟩ xa_4 (Nat.le_of_ble_eq_true rfl) (Nat.le_of_ble_eq_true rfl) (by omega) ⟨Nat.le_of_ble_eq_true rfl, Nat.le_of_ble_eq_true rfl⟩ (s_isCell y) ?_
      refine xr_if_neF i13_11 (t := 18) (by decide) (by rw [Bool.not_eq_true] at hy; rw [hy]; decide) ?_
      exact tail
  · rw [if_neg (fun z => hx z.1)]
    refine ⟨h, ?_, hD0, xoth.refl⟩
    refine xr_go i13_0 rfl ?_
    refine xr_S i13_1 xc13_71 ⟨by first | exact Or.inl rfl | exact Or.inr rfl, rfl⟩ xa_6 (Nat.le_of_ble_eq_true rfl) (Nat.le_of_ble_eq_true rfl) (by omega) ⟨Nat.le_of_ble_eq_true rfl, Nat.le_of_ble_eq_true rfl⟩ (s_isServer x) ?_
    refine xr_if_eqT i13_4 (t := 14) (by decide) (xbi_f (by simpa using hx)) ?_
    exact tail
theorem D_outcome (hD : xDS B nx tak cmt sv sp pl cm pg clk com fog kno bit rd wr lat tn tb h) (x y : Int32) (hd : 6 ≤ d) : ∃ h', xRun G d 15 (0, [some (.ref B), some (.int x), some (.int y)], [], (h, nx, sl)) (some (.int (aOut tak sv sp cm pg com kno x y)), (h', nx, sl)) ∧ xDS B nx tak cmt sv sp pl cm pg clk com fog kno bit rd wr lat tn tb h' ∧ xoth B nx h h' := by
  have hD0 := hD
  obtain ⟨lv, wad, pad, psa, poa, ⟨t1, ⟨sf, t2, t3⟩, ⟨ef, t4, t5⟩⟩, h2, h3, h4, h5, h6, h7, h8, ⟨bb, ee, tt, h9⟩, h10, h11, h12, h13⟩ := hD
  obtain ⟨⟨wf, w1, w2, w3⟩, w4, w5, w6, w7⟩ := h5
  unfold aOut
  by_cases hx : xrng 5 x = true
  · rw [if_pos hx]
    by_cases hy : xrng tak y = true
    · obtain ⟨s, hs, rfl⟩ := xrng_of (by omega) hx
      obtain ⟨w, hw, rfl⟩ := xrng_of (by omega) hy
      rw [aN_nI (by omega), aN_nI (by omega)]
      have t6 := t3 s hs
      obtain ⟨h', tl, v, r, hT, e0, e1, g1, g2, g3⟩ := q_outcome (G := G) (d := d - 1) (nx := nx) (sl := sl) (w := w) ⟨⟨wf, w1, w2, w3⟩, w4, w5, w6, w7⟩ h7 h8 h9 (h10 s hs) (by omega) hw (by omega)
      have s0 : ∃ x, h (B + 18 + 7 * s) = some (.inr (6, x)) := by
        obtain ⟨_, _, _, _, _, _, ⟨_, hs, -⟩, -⟩ := h10 s hs
        exact ⟨_, hs.1⟩
      obtain ⟨x0, s0⟩ := s0
      have k01 : kno s w = 0 ∨ kno s w = 1 := by
        obtain ⟨_, _, _, _, _, _, -, -, k, -⟩ := h10 s hs
        exact k w
      have ev : (if xrng tak (nI w) = true ∧ kno s w = 1 then nI (xoutAt sv sp pg (xLs tak sv sp cm (kno s) (com s)) ((xLs tak sv sp cm (kno s) (com s)).idxOf w)) else -2) = v := by
        rcases k01 with k | k
        · rw [if_neg (fun z => by omega), e0 k]
        · rw [if_pos ⟨hy, k⟩, xLs_eq hT]
          have hm := xidx (xord_mem hT hw k)
          rw [e1 k _ hm.1 hm.2]
      rw [ev]
      refine ⟨h', ?_, xDS_srv0 hD0 hs g3 g2 g1, g3.oth (by omega)⟩
      refine xr_go i15_0 rfl ?_
      refine xr_S i15_1 xc15_71 ⟨by first | exact Or.inl rfl | exact Or.inr rfl, rfl⟩ xa_6 (Nat.le_of_ble_eq_true rfl) (Nat.le_of_ble_eq_true rfl) (by omega) ⟨Nat.le_of_ble_eq_true rfl, Nat.le_of_ble_eq_true rfl⟩ (s_isServer (nI s)) ?_
      refine xr_if_neT i15_4 (t := 9) (by decide) (xbi_1 hx) ?_
      refine xr_go i15_9 rfl ?_
      refine xr_get i15_10 xf15_28 (by assumption) rfl rfl ?_
      refine xr_go i15_13 rfl ?_
      refine xr_V i15_14 xc15_170 ⟨rfl, rfl⟩ xa_48 rfl (by assumption) rfl (Nat.le_of_ble_eq_true rfl) (by omega) ⟨Nat.le_of_ble_eq_true rfl, Nat.le_of_ble_eq_true rfl⟩ (s_has (x := nI w) w1) ?_
      refine xr_if_neT i15_17 (t := 23) (by decide) (xbi_1 hy) ?_
      refine xr_go i15_23 rfl ?_
      refine xr_get i15_24 xf15_37 (by assumption) rfl rfl ?_
      refine xr_go i15_27 rfl ?_
      refine xr_aald i15_28 (by assumption) (by decide) rfl (by omega) (by omega) (by assumption) ?_
      refine xr_go i15_29 rfl ?_
      refine xr_V i15_30 xc15_173 ⟨rfl, rfl⟩ xa_68 rfl (by assumption) rfl (Nat.le_of_ble_eq_true rfl) (by omega) ⟨Nat.le_of_ble_eq_true rfl, Nat.le_of_ble_eq_true rfl⟩ (r) ?_
      exact xr_iret i15_33 xt_15 rfl
    · rw [if_neg (fun z => hy z.1)]
      refine ⟨h, ?_, hD0, xoth.refl⟩
      refine xr_go i15_0 rfl ?_
      refine xr_S i15_1 xc15_71 ⟨by first | exact Or.inl rfl | exact Or.inr rfl, rfl⟩ xa_6 (Nat.le_of_ble_eq_true rfl) (Nat.le_of_ble_eq_true rfl) (by omega) ⟨Nat.le_of_ble_eq_true rfl, Nat.le_of_ble_eq_true rfl⟩ (s_isServer x) ?_
      refine xr_if_neT i15_4 (t := 9) (by decide) (xbi_1 hx) ?_
      refine xr_go i15_9 rfl ?_
      refine xr_get i15_10 xf15_28 (by assumption) rfl rfl ?_
      refine xr_go i15_13 rfl ?_
      refine xr_V i15_14 xc15_170 ⟨rfl, rfl⟩ xa_48 rfl (by assumption) rfl (Nat.le_of_ble_eq_true rfl) (by omega) ⟨Nat.le_of_ble_eq_true rfl, Nat.le_of_ble_eq_true rfl⟩ (s_has (x := y) w1) ?_
      refine xr_if_neF i15_17 (t := 23) (by decide) (by rw [Bool.not_eq_true] at hy; rw [hy]; decide) ?_
      refine xr_go i15_20 rfl ?_
      exact xr_iret i15_22 xt_15 rfl
  · rw [if_neg hx]
    refine ⟨h, ?_, hD0, xoth.refl⟩
    refine xr_go i15_0 rfl ?_
    refine xr_S i15_1 xc15_71 ⟨by first | exact Or.inl rfl | exact Or.inr rfl, rfl⟩ xa_6 (Nat.le_of_ble_eq_true rfl) (Nat.le_of_ble_eq_true rfl) (by omega) ⟨Nat.le_of_ble_eq_true rfl, Nat.le_of_ble_eq_true rfl⟩ (s_isServer x) ?_
    refine xr_if_neF i15_4 (t := 9) (by decide) (by rw [Bool.not_eq_true] at hx; rw [hx]; decide) ?_
    refine xr_go i15_7 rfl ?_
    exact xr_iret i15_8 xt_15 rfl
theorem D_forget (hD : xDS B nx tak cmt sv sp pl cm pg clk com fog kno bit rd wr lat tn tb h) (x y : Int32) (hd : 1 ≤ d) : ∃ h', xRun G d 12 (0, [some (.ref B), some (.int x), some (.int y), none], [], (h, nx, sl)) (some (.int (aForget com fog x y)), (h', nx, sl)) ∧ xDS B nx tak cmt sv sp pl cm pg clk com (bForget com fog x y) kno bit rd wr lat tn tb h' ∧ xoth B nx h h' := by
  have hD0 := hD
  obtain ⟨lv, wad, pad, psa, poa, ⟨t1, ⟨sf, t2, t3⟩, ⟨ef, t4, t5⟩⟩, h2, h3, h4, h5, h6, h7, h8, ⟨bb, ee, tt, h9⟩, h10, h11, h12, h13⟩ := hD
  unfold aForget bForget
  have tail : xRun G d 12 (11, [some (.ref B), some (.int x), some (.int y), none], [], (h, nx, sl)) (some (.int (-1)), (h, nx, sl)) := by
    refine xr_go i12_11 rfl ?_
    exact xr_iret i12_12 xt_12 rfl
  by_cases hx : xrng 5 x = true
  · by_cases hy : y < 0
    · rw [if_neg (fun z => z.2 hy), if_neg (fun z => z.2 hy)]
      refine ⟨h, ?_, hD0, xoth.refl⟩
      refine xr_go i12_0 rfl ?_
      refine xr_S i12_1 xc12_71 ⟨by first | exact Or.inl rfl | exact Or.inr rfl, rfl⟩ xa_6 (Nat.le_of_ble_eq_true rfl) (Nat.le_of_ble_eq_true rfl) (by omega) ⟨Nat.le_of_ble_eq_true rfl, Nat.le_of_ble_eq_true rfl⟩ (s_isServer x) ?_
      refine xr_if_eqF i12_4 (t := 11) (by decide) (xbi_1 hx) ?_
      refine xr_go i12_7 rfl ?_
      refine xr_if_geF i12_8 (t := 13) (by decide) (Int32.not_le.mpr hy) ?_
      exact tail
    · rw [if_pos ⟨hx, hy⟩, if_pos ⟨hx, hy⟩]
      obtain ⟨s, hs, rfl⟩ := xrng_of (by omega) hx
      obtain ⟨n, hn, rfl⟩ := nI_of hy
      rw [aN_nI (by omega), aN_nI hn]
      have t6 := t3 s hs
      have hS0 := h10 s hs
      obtain ⟨don, vec, tl, cc, ce, oc, ⟨tN, ⟨s0, s1, s2, s3, s4, s5, s6⟩, htN⟩, hT, k1, k2, k3, k4, k5, k6⟩ := hS0
      have h500 : com s ≤ 500 := by
        have := h5.2.2.1
        have := h5.2.2.2.1
        omega
      let fo := fog s + min n (com s - fog s)
      let h' : xH := xup h (B + 18 + 7 * s) (.inr (6, xSvF B (B + 18 + 7 * s) (clk s, com s, fo, tl.length, don)))
      have sm : xsm B (B + 18 + 7 * s) h h' := fun q g1 g2 => xup_n (by omega)
      have hS' : xSI B (B + 18 + 7 * s) tak cmt sv sp pg cm (clk s) (com s) fo (kno s) h' := by
        refine ⟨don, vec, tl, cc, ce, oc, ⟨tN, ⟨xup_s, ?_, ?_, ?_, ?_, ?_, ?_⟩, htN⟩, hT, k1, k2, k3, k4, ?_, k6⟩
        · exact (xup_n (by omega)).trans s1
        · exact (xup_n (by omega)).trans s2
        · exact (xup_n (by omega)).trans s3
        · exact (xup_n (by omega)).trans s4
        · exact (xup_n (by omega)).trans s5
        · exact (xup_n (by omega)).trans s6
        · show fog s + min n (com s - fog s) ≤ com s
          omega
      have hr := xDS_srv hD0 hs sm ⟨bb, ee, tt, xMS_kept h9 (fun q g1 g2 => xup_n (by omega))⟩ hS' (by rw [vu_id, vu_id, vu_id]; exact h12)
      rw [vu_id, vu_id, vu_id] at hr
      refine ⟨h', ?_, hr, sm.oth (by omega)⟩
      unfold xSvF at s0
      dsimp only at s0 s1 s2 s3 s4 s5 s6
      refine xr_go i12_0 rfl ?_
      refine xr_S i12_1 xc12_71 ⟨by first | exact Or.inl rfl | exact Or.inr rfl, rfl⟩ xa_6 (Nat.le_of_ble_eq_true rfl) (Nat.le_of_ble_eq_true rfl) (by omega) ⟨Nat.le_of_ble_eq_true rfl, Nat.le_of_ble_eq_true rfl⟩ (s_isServer (nI s)) ?_
      refine xr_if_eqF i12_4 (t := 11) (by decide) (xbi_1 hx) ?_
      refine xr_go i12_7 rfl ?_
      refine xr_if_geT i12_8 (t := 13) (by decide) (nI_pos' hn) ?_
      refine xr_go i12_13 rfl ?_
      refine xr_get i12_14 xf12_37 (by assumption) rfl rfl ?_
      refine xr_go i12_17 rfl ?_
      refine xr_aald i12_18 (by assumption) (by decide) rfl (by omega) (by omega) (by assumption) ?_
      refine xr_go i12_19 rfl ?_
      refine xr_go i12_20 rfl ?_
      refine xr_go i12_21 rfl ?_
      refine xr_get i12_22 xf12_150 (by assumption) rfl rfl ?_
      refine xr_go i12_25 rfl ?_
      refine xr_go i12_26 rfl ?_
      refine xr_get i12_27 xf12_153 (by assumption) rfl rfl ?_
      refine xr_go i12_30 rfl ?_
      refine xr_get i12_31 xf12_150 (by assumption) rfl rfl ?_
      refine xr_go i12_34 rfl ?_
      refine xr_top (show _ = nI (com s - fog s) from pk_sub k5) ?_
      refine xr_min i12_35 xc12_138 rfl (by omega) (Nat.le_of_ble_eq_true rfl) ((show _ = nI (min n (com s - fog s)) from ?_)) ?_
      · by_cases hlt : com s - fog s < n
        · rw [if_pos (nI_lt hlt hn), Nat.min_eq_right (by omega)]
        · rw [if_neg (nI_nlt (by omega) (by omega)), Nat.min_eq_left (by omega)]
      · refine xr_go i12_38 rfl ?_
        refine xr_top (show _ = nI fo from nI_add _ _) ?_
        refine xr_put i12_39 xf12_150 (by assumption) ⟨rfl, Nat.le_of_ble_eq_true rfl, rfl, rfl, Or.inl rfl⟩ (fun f1 ef1 => ?_)
        have ef1' : f1 = h' := ef1
        rw [ef1']
        have s9 : h' (B + 18 + 7 * s) = some (.inr (6, xSvF B (B + 18 + 7 * s) (clk s, com s, fo, tl.length, don))) := xup_s
        unfold xSvF at s9
        refine xr_go i12_42 rfl ?_
        refine xr_get i12_43 xf12_150 (by assumption) rfl rfl ?_
        exact xr_iret i12_46 xt_12 rfl
  · rw [if_neg (fun z => hx z.1), if_neg (fun z => hx z.1)]
    refine ⟨h, ?_, hD0, xoth.refl⟩
    refine xr_go i12_0 rfl ?_
    refine xr_S i12_1 xc12_71 ⟨by first | exact Or.inl rfl | exact Or.inr rfl, rfl⟩ xa_6 (Nat.le_of_ble_eq_true rfl) (Nat.le_of_ble_eq_true rfl) (by omega) ⟨Nat.le_of_ble_eq_true rfl, Nat.le_of_ble_eq_true rfl⟩ (s_isServer x) ?_
    refine xr_if_eqT i12_4 (t := 11) (by decide) (xbi_f (by simpa using hx)) ?_
    exact tail
end XCELL
end
section
/-! ===== the class: sessions, the tape ===== -/
theorem xoth.trans {B nx : Nat} {h h1 h2 : xH} (a : xoth B nx h h1) (b : xoth B nx h1 h2) : xoth B nx h h2 := fun q g1 g2 g3 => by
  have e := a q g1 g2 g3
  rw [← e]
  exact b q g1 g2 (fun fs => by rw [e]; exact g3 fs)
theorem xatl_a {tak : Nat} {sv sp kno vec g : Nat → Nat} {f : Nat → Int32} (h1 : ∀ k, k < 5 → f k = nI (g k) ∧ g k < 2 ^ 31) (h2 : ∀ k, k < 5 → vec k = xvm sv sp kno k tak ∧ vec k < 2 ^ 31) : xatl (fun j => nI (vec j)) f 5 = aAtl tak sv sp kno g := by
  rw [Bool.eq_iff_iff, xatl_iff, aAtl_iff]
  constructor
  · intro z k hk
    have := z k hk
    rw [(h1 k hk).1, nI_leI (h1 k hk).2 (h2 k hk).2, (h2 k hk).1] at this
    exact this
  · intro z k hk
    rw [(h1 k hk).1, nI_leI (h1 k hk).2 (h2 k hk).2, (h2 k hk).1]
    exact z k hk
/-- bytes of an int, the first one highest -/
def abyte (x : Int32) (i : Nat) : Nat := (x.toBitVec.toNat / 2 ^ (24 - 8 * i)) % 256
theorem abyte_lt {x : Int32} {i : Nat} : abyte x i < 256 := Nat.mod_lt _ (by omega)
theorem abyte_eq {x : Int32} {i : Nat} (hi : i < 4) : xbyte x (nI (24 - 8 * i)) = nI (abyte x i) := by
  have key : ∀ s : Nat, s < 32 → xbyte x (nI s) = nI ((x.toBitVec.toNat / 2 ^ s) % 256) := by
    intro s hs
    unfold xbyte
    apply Int32.toBitVec_inj.mp
    apply BitVec.eq_of_toNat_eq
    have e1 : ((nI s).toUInt32 &&& Int32.toUInt32 31) = UInt32.ofNat s := by
      have : ∀ k : Fin 32, ((nI k.val).toUInt32 &&& Int32.toUInt32 31) = UInt32.ofNat k.val := by decide
      exact this ⟨s, hs⟩
    rw [e1]
    have e2 : ((x.toUInt32 >>> UInt32.ofNat s).toInt32 &&& 255 : Int32).toBitVec.toNat = (x.toBitVec.toNat >>> s) &&& 255 := by
      have : ((x.toUInt32 >>> UInt32.ofNat s).toInt32 &&& 255 : Int32).toBitVec = (x.toUInt32 >>> UInt32.ofNat s).toBitVec &&& 255#32 := rfl
      rw [this, BitVec.toNat_and]
      congr 1
      show (x.toUInt32 >>> UInt32.ofNat s).toNat = _
      rw [UInt32.toNat_shiftRight]
      have e3 : (UInt32.ofNat s).toNat % 32 = s := by
        show (s % 2 ^ 32) % 32 = s
        omega
      rw [e3]
      rfl
    rw [e2, Nat.shiftRight_eq_div_pow]
    show _ &&& (2 ^ 8 - 1) = _
    rw [Nat.and_two_pow_sub_one_eq_mod]
    show _ = (BitVec.ofNat 32 _).toNat
    rw [BitVec.toNat_ofNat]
    omega
  exact key _ (by omega)
def bAdd (tb : Nat → Nat) (n : Nat) (x : Int32) : Nat → Nat := fun k => if n ≤ k ∧ k < n + 4 then abyte x (k - n) else tb k
def bFeed (tn : Nat) (tb : Nat → Nat) (a b c d e : Int32) : Nat → Nat := if 380 < tn then tb else bAdd (bAdd (bAdd (bAdd (bAdd tb tn a) (tn + 4) b) (tn + 8) c) (tn + 12) d) (tn + 16) e
def aFeed (tn : Nat) : Int32 := if 380 < tn then -3 else nI (tn + 20)
def nFeed (tn : Nat) : Nat := if 380 < tn then tn else tn + 20
def aEnd (tn : Nat) (x : Int32) : Int32 := if xrng (tn + 1) x = true then x else -1
def nEnd (tn : Nat) (x : Int32) : Nat := if xrng (tn + 1) x = true then aN x else tn
section XSESS
variable {G : xG} {d : Nat} {h h' : xH} {sl : Nat} {B nx tak cmt : Nat} {sv sp pl cm : Nat → Nat} {pg : Nat → List (Nat × Int32)} {clk com fog : Nat → Nat} {kno : Nat → Nat → Nat} {bit : Nat → Nat} {rd wr : Nat → Nat → Nat} {lat : Option (List (Nat × Int32))} {tn : Nat} {tb : Nat → Nat}
theorem t_addInt (x : Int32) (hT : xTp B tn tb h) (hn : tn + 4 ≤ 400) : ∃ h', xRun G d 21 (0, [some (.ref (B + 1)), some (.int x), none], [], (h, nx, sl)) (none, (h', nx, sl)) ∧ xTp B (tn + 4) (bAdd tb tn x) h' ∧ xsame (B + 1) (B + 2) h h' := by
  obtain ⟨f, h1, h2, h3, h4⟩ := hT
  obtain ⟨h', r, g1, g2, g3⟩ := s_addInt (G := G) (d := d) (nx := nx) (sl := sl) x h1 h2 hn
  refine ⟨h', r, ⟨_, g1, g2, hn, fun j hj => ?_⟩, g3⟩
  unfold bAdd xfour upd
  by_cases hlt : j < tn
  · rw [if_neg (by omega), if_neg (by omega), if_neg (by omega), if_neg (by omega), if_neg (by omega)]
    exact h4 j hlt
  · have e : (if tn ≤ j ∧ j < tn + 4 then abyte x (j - tn) else tb j) = abyte x (j - tn) := if_pos (by omega)
    rw [e]
    refine ⟨?_, abyte_lt⟩
    have h5 : j = tn ∨ j = tn + 1 ∨ j = tn + 2 ∨ j = tn + 3 := by omega
    rcases h5 with rfl | rfl | rfl | rfl
    · rw [if_neg (by omega), if_neg (by omega), if_neg (by omega), if_pos rfl, Nat.sub_self]
      exact abyte_eq (i := 0) (by omega)
    · rw [if_neg (by omega), if_neg (by omega), if_pos rfl, Nat.add_sub_cancel_left]
      exact abyte_eq (i := 1) (by omega)
    · rw [if_neg (by omega), if_pos rfl, Nat.add_sub_cancel_left]
      exact abyte_eq (i := 2) (by omega)
    · rw [if_pos rfl, Nat.add_sub_cancel_left]
      exact abyte_eq (i := 3) (by omega)
/-- only the tape changed -/
theorem xDS_tape {tn' : Nat} {tb' : Nat → Nat} (hD : xDS B nx tak cmt sv sp pl cm pg clk com fog kno bit rd wr lat tn tb h) (hT : xTp B tn' tb' h') (sm : xsame (B + 1) (B + 2) h h') : xDS B nx tak cmt sv sp pl cm pg clk com fog kno bit rd wr lat tn' tb' h' := by
  obtain ⟨lv, wad, pad, psa, poa, h1, h2, h3, h4, h5, h6, h7, h8, ⟨b, e, t, h9⟩, h10, h11, h12, h13⟩ := hD
  exact ⟨lv, wad, pad, psa, poa, xTop_kept h1 (sm _ (by omega)) (sm _ (by omega)) (sm _ (by omega)), xLat_kept h2 (Nat.le_refl _) (fun q g1 g2 _ => sm q (by omega)), hT, xCo_kept h4 (fun q g1 g2 => sm _ (by omega)), xHist_kept h5 (fun q hq => sm q (by omega)), h6, h7, h8, ⟨b, e, t, xMS_kept h9 (fun q g1 g2 => sm q (by omega))⟩, fun k hk => xSI_kept (h10 k hk) (fun q g1 g2 => sm q (by omega)), fun k hk => xSe_kept (h11 k hk) (fun q g1 g2 => sm q (by omega)), h12, h13⟩
theorem D_feed (hD : xDS B nx tak cmt sv sp pl cm pg clk com fog kno bit rd wr lat tn tb h) (a b c d1 e : Int32) (hd : 1 ≤ d) : ∃ h', xRun G d 1 (0, [some (.ref B), some (.int a), some (.int b), some (.int c), some (.int d1), some (.int e)], [], (h, nx, sl)) (some (.int (aFeed tn)), (h', nx, sl)) ∧ xDS B nx tak cmt sv sp pl cm pg clk com fog kno bit rd wr lat (nFeed tn) (bFeed tn tb a b c d1 e) h' ∧ xoth B nx h h' := by
  have hD0 := hD
  obtain ⟨lv, wad, pad, psa, poa, ⟨t1, t2⟩, h2, h3, -⟩ := hD
  unfold aFeed nFeed bFeed
  have h30 := h3
  obtain ⟨f, f1, f2, f3, f4⟩ := h3
  by_cases hn : 380 < tn
  · rw [if_pos hn, if_pos hn, if_pos hn]
    refine ⟨h, ?_, hD0, xoth.refl⟩
    refine xr_go i1_0 rfl ?_
    refine xr_get i1_1 xf1_12 (by assumption) rfl rfl ?_
    refine xr_get i1_4 xf1_55 (by assumption) rfl rfl ?_
    refine xr_go i1_7 rfl ?_
    refine xr_icmp_leF i1_10 (t := 16) (by decide) (show ¬ nI tn ≤ nI 380 from nI_ge hn (by omega)) ?_
    refine xr_go i1_13 rfl ?_
    exact xr_iret i1_15 xt_1 rfl
  · rw [if_neg hn, if_neg hn, if_neg hn]
    obtain ⟨g1, r1, p1, s1⟩ := t_addInt (G := G) (d := d - 1) (nx := nx) (sl := sl) a h30 (by omega)
    obtain ⟨g2, r2, p2, s2⟩ := t_addInt (G := G) (d := d - 1) (nx := nx) (sl := sl) b p1 (by omega)
    obtain ⟨g3, r3, p3, s3⟩ := t_addInt (G := G) (d := d - 1) (nx := nx) (sl := sl) c p2 (by omega)
    obtain ⟨g4, r4, p4, s4⟩ := t_addInt (G := G) (d := d - 1) (nx := nx) (sl := sl) d1 p3 (by omega)
    obtain ⟨g5, r5, p5, s5⟩ := t_addInt (G := G) (d := d - 1) (nx := nx) (sl := sl) e p4 (by omega)
    have sm : xsame (B + 1) (B + 2) h g5 := ((((s1.trans s2).trans s3).trans s4).trans s5)
    refine ⟨g5, ?_, xDS_tape hD0 p5 sm, sm.oth (by omega)⟩
    have u1 := (s1 B (by omega)).trans t1
    have u2 := (s2 B (by omega)).trans u1
    have u3 := (s3 B (by omega)).trans u2
    have u4 := (s4 B (by omega)).trans u3
    have u5 := (s5 B (by omega)).trans u4
    obtain ⟨_, v1, -⟩ := p1
    obtain ⟨_, v2, -⟩ := p2
    obtain ⟨_, v3, -⟩ := p3
    obtain ⟨_, v4, -⟩ := p4
    obtain ⟨_, v5, -⟩ := p5
    refine xr_go i1_0 rfl ?_
    refine xr_get i1_1 xf1_12 (by assumption) rfl rfl ?_
    refine xr_get i1_4 xf1_55 (by assumption) rfl rfl ?_
    refine xr_go i1_7 rfl ?_
    refine xr_icmp_leT i1_10 (t := 16) (by decide) (show nI tn ≤ nI 380 from nI_le (by omega) (by omega)) ?_
    refine xr_go i1_16 rfl ?_
    refine xr_get i1_17 xf1_12 (by assumption) rfl rfl ?_
    refine xr_go i1_20 rfl ?_
    refine xr_V i1_21 xc1_59 ⟨rfl, rfl⟩ xa_21 rfl (by assumption) rfl (Nat.le_of_ble_eq_true rfl) (by omega) ⟨Nat.le_of_ble_eq_true rfl, Nat.le_of_ble_eq_true rfl⟩ (r1) ?_
    refine xr_go i1_24 rfl ?_
    refine xr_get i1_25 xf1_12 (by assumption) rfl rfl ?_
    refine xr_go i1_28 rfl ?_
    refine xr_V i1_29 xc1_59 ⟨rfl, rfl⟩ xa_21 rfl (by assumption) rfl (Nat.le_of_ble_eq_true rfl) (by omega) ⟨Nat.le_of_ble_eq_true rfl, Nat.le_of_ble_eq_true rfl⟩ (r2) ?_
    refine xr_go i1_32 rfl ?_
    refine xr_get i1_33 xf1_12 (by assumption) rfl rfl ?_
    refine xr_go i1_36 rfl ?_
    refine xr_V i1_37 xc1_59 ⟨rfl, rfl⟩ xa_21 rfl (by assumption) rfl (Nat.le_of_ble_eq_true rfl) (by omega) ⟨Nat.le_of_ble_eq_true rfl, Nat.le_of_ble_eq_true rfl⟩ (r3) ?_
    refine xr_go i1_40 rfl ?_
    refine xr_get i1_41 xf1_12 (by assumption) rfl rfl ?_
    refine xr_go i1_44 rfl ?_
    refine xr_V i1_46 xc1_59 ⟨rfl, rfl⟩ xa_21 rfl (by assumption) rfl (Nat.le_of_ble_eq_true rfl) (by omega) ⟨Nat.le_of_ble_eq_true rfl, Nat.le_of_ble_eq_true rfl⟩ (r4) ?_
    refine xr_go i1_49 rfl ?_
    refine xr_get i1_50 xf1_12 (by assumption) rfl rfl ?_
    refine xr_go i1_53 rfl ?_
    refine xr_V i1_55 xc1_59 ⟨rfl, rfl⟩ xa_21 rfl (by assumption) rfl (Nat.le_of_ble_eq_true rfl) (by omega) ⟨Nat.le_of_ble_eq_true rfl, Nat.le_of_ble_eq_true rfl⟩ (r5) ?_
    refine xr_go i1_58 rfl ?_
    refine xr_get i1_59 xf1_12 (by assumption) rfl rfl ?_
    refine xr_get i1_62 xf1_55 (by assumption) rfl rfl ?_
    exact xr_iret i1_65 xt_1 rfl
theorem D_end (hD : xDS B nx tak cmt sv sp pl cm pg clk com fog kno bit rd wr lat tn tb h) (x : Int32) : ∃ h', xRun G d 2 (0, [some (.ref B), some (.int x)], [], (h, nx, sl)) (some (.int (aEnd tn x)), (h', nx, sl)) ∧ xDS B nx tak cmt sv sp pl cm pg clk com fog kno bit rd wr lat (nEnd tn x) tb h' ∧ xoth B nx h h' := by
  have hD0 := hD
  obtain ⟨lv, wad, pad, psa, poa, ⟨t1, t2⟩, h2, h3, -⟩ := hD
  unfold aEnd nEnd
  obtain ⟨f, f1, f2, f3, f4⟩ := h3
  by_cases hx : xrng (tn + 1) x = true
  · rw [if_pos hx, if_pos hx]
    obtain ⟨n, hn, rfl⟩ := xrng_of (by omega) hx
    rw [aN_nI (by omega)]
    let h' : xH := xup h (B + 1) (.inr (1, [.ref (B + 2), .int (nI n)]))
    have sm : xsame (B + 1) (B + 2) h h' := fun q hq => xup_n (by omega)
    refine ⟨h', ?_, xDS_tape hD0 ⟨f, xup_s, (xup_n (by omega)).trans f2, by omega, fun j hj => f4 j (by omega)⟩ sm, sm.oth (by omega)⟩
    refine xr_go i2_0 rfl ?_
    refine xr_if_ltF i2_1 (t := 15) (by decide) (nI_pos (by omega)) ?_
    refine xr_go i2_4 rfl ?_
    refine xr_go i2_5 rfl ?_
    refine xr_get i2_6 xf2_12 (by assumption) rfl rfl ?_
    refine xr_get i2_9 xf2_55 (by assumption) rfl rfl ?_
    refine xr_icmp_leT i2_12 (t := 17) (by decide) (nI_le (by omega) (by omega)) ?_
    refine xr_go i2_17 rfl ?_
    refine xr_get i2_18 xf2_12 (by assumption) rfl rfl ?_
    refine xr_go i2_21 rfl ?_
    refine xr_put i2_22 xf2_55 (by assumption) ⟨rfl, Nat.le_of_ble_eq_true rfl, rfl, rfl, Or.inl rfl⟩ (fun g1 eg1 => ?_)
    have eg : g1 = h' := eg1
    rw [eg]
    refine xr_go i2_25 rfl ?_
    exact xr_iret i2_26 xt_2 rfl
  · rw [if_neg hx, if_neg hx]
    refine ⟨h, ?_, hD0, xoth.refl⟩
    have tail : xRun G d 2 (15, [some (.ref B), some (.int x)], [], (h, nx, sl)) (some (.int (-1)), (h, nx, sl)) := by
      refine xr_go i2_15 rfl ?_
      exact xr_iret i2_16 xt_2 rfl
    refine xr_go i2_0 rfl ?_
    refine xr_if_lt i2_1 (t := 15) (by decide) (fun hc => ?_) (fun hc => ?_)
    · exact tail
    · refine xr_go i2_4 rfl ?_
      refine xr_go i2_5 rfl ?_
      refine xr_get i2_6 xf2_12 (by assumption) rfl rfl ?_
      refine xr_get i2_9 xf2_55 (by assumption) rfl rfl ?_
      refine xr_icmp_leF i2_12 (t := 17) (by decide) (fun z => hx ?_) tail
      unfold xrng
      obtain ⟨j, hj, rfl⟩ := nI_of hc
      have := (nI_leI hj (by omega)).mp z
      rw [decide_eq_true (nI_pos' hj), decide_eq_true (nI_lt (by omega) (by omega))]
      rfl
theorem D_assure (hD : xDS B nx tak cmt sv sp pl cm pg clk com fog kno bit rd wr lat tn tb h) (x y z : Int32) (hd : 2 ≤ d) : ∃ h', xRun G d 9 (0, [some (.ref B), some (.int x), some (.int y), some (.int z), none, none], [], (h, nx, sl)) (some (.int (aAssure bit x y)), (h', nx, sl)) ∧ xDS B nx tak cmt sv sp pl cm pg clk com fog kno (bAssure bit x y) (bClear rd x y z) (bClear wr x y z) lat tn tb h' ∧ xoth B nx h h' := by
  have hD0 := hD
  obtain ⟨lv, wad, pad, psa, poa, ⟨t1, ⟨sf, t2, t3⟩, ⟨ef, t4, t5⟩⟩, h2, h3, h4, h5, h6, h7, h8, ⟨bb, ee, tt, h9⟩, h10, h11, h12, h13⟩ := hD
  unfold aAssure bAssure bClear
  have tail : xRun G d 9 (14, [some (.ref B), some (.int x), some (.int y), some (.int z), none, none], [], (h, nx, sl)) (some (.int (-1)), (h, nx, sl)) := by
    refine xr_go i9_14 rfl ?_
    exact xr_iret i9_15 xt_9 rfl
  by_cases hx : xrng 8 x = true
  · by_cases hy : xrng 16 y = true
    · rw [if_pos ⟨hx, hy⟩, if_pos ⟨hx, hy⟩]
      have hy2 := xand16.mpr hy
      obtain ⟨s, hs, rfl⟩ := xrng_of (by omega) hx
      obtain ⟨n, hn, rfl⟩ := xrng_of (by omega) hy
      rw [aN_nI (by omega), aN_nI (by omega)]
      have t6 := t5 s hs
      obtain ⟨fr, fw, g1, g2, g3, g4, g5⟩ := h11 s hs
      let k1 : xH := xup h (B + 54 + 3 * s) (.inr (7, [.ref (B + 54 + 3 * s + 1), .ref (B + 54 + 3 * s + 2), .int (nI n)]))
      by_cases hz : z = 0
      · rw [if_neg (fun e => e.2.2 hz), if_neg (fun e => e.2.2 hz)]
        have sm : xsame (B + 54 + 3 * s) (B + 56 + 3 * s) h k1 := fun q hq => xup_n (by omega)
        have hr := xDS_ses hD0 hs sm (bit' := n) (rd' := rd s) (wr' := wr s) ⟨fr, fw, xup_s, (xup_n (by omega)).trans g2, (xup_n (by omega)).trans g3, hn, g5⟩
        rw [vu_id, vu_id] at hr
        refine ⟨k1, ?_, hr, sm.oth (by omega)⟩
        refine xr_go i9_0 rfl ?_
        refine xr_S i9_1 xc9_75 ⟨by first | exact Or.inl rfl | exact Or.inr rfl, rfl⟩ xa_7 (Nat.le_of_ble_eq_true rfl) (Nat.le_of_ble_eq_true rfl) (by omega) ⟨Nat.le_of_ble_eq_true rfl, Nat.le_of_ble_eq_true rfl⟩ (s_isSession (nI s)) ?_
        refine xr_if_eqF i9_4 (t := 14) (by decide) (xbi_1 hx) ?_
        refine xr_go i9_7 rfl ?_
        refine xr_go i9_8 rfl ?_
        refine xr_go i9_10 rfl ?_
        refine xr_if_eqT i9_11 (t := 16) (by decide) (show nI n &&& -16 = 0 from hy2) ?_
        refine xr_go i9_16 rfl ?_
        refine xr_get i9_17 xf9_46 (by assumption) rfl rfl ?_
        refine xr_go i9_20 rfl ?_
        refine xr_aald i9_21 (by assumption) (by decide) rfl (by omega) (by omega) (by assumption) ?_
        refine xr_go i9_22 rfl ?_
        refine xr_go i9_24 rfl ?_
        refine xr_get i9_26 xf9_129 (by assumption) rfl rfl ?_
        refine xr_go i9_29 rfl ?_
        refine xr_go i9_31 rfl ?_
        refine xr_go i9_33 rfl ?_
        refine xr_put i9_34 xf9_129 (by assumption) ⟨rfl, Nat.le_of_ble_eq_true rfl, rfl, rfl, Or.inl rfl⟩ (fun k2 ek2 => ?_)
        have ek : k2 = k1 := ek2
        rw [ek]
        refine xr_go i9_37 rfl ?_
        refine xr_if_eqT i9_38 (t := 46) (by decide) hz ?_
        refine xr_go i9_46 rfl ?_
        exact xr_iret i9_48 xt_9 rfl
      · rw [if_pos ⟨hx, hy, hz⟩, if_pos ⟨hx, hy, hz⟩]
        let k3 : xH := xup (xup k1 (B + 54 + 3 * s + 1) (.inl (0, 5, .inl (xfill fr 5 0)))) (B + 54 + 3 * s + 2) (.inl (0, 5, .inl (xfill fw 5 0)))
        have u0 : k1 (B + 54 + 3 * s) = some (.inr (7, [.ref (B + 54 + 3 * s + 1), .ref (B + 54 + 3 * s + 2), .int (nI n)])) := xup_s
        have u1 : k1 (B + 54 + 3 * s + 1) = some (.inl (0, 5, .inl fr)) := (xup_n (by omega)).trans g2
        have u2 : k1 (B + 54 + 3 * s + 2) = some (.inl (0, 5, .inl fw)) := (xup_n (by omega)).trans g3
        have r1 := s_clear (G := G) (d := d - 1) (nx := nx) (sl := sl) u0 u1 u2 ⟨by omega, by omega⟩ (by omega)
        have sm : xsame (B + 54 + 3 * s) (B + 56 + 3 * s) h k3 := fun q hq => (xup_n (by omega)).trans ((xup_n (by omega)).trans (xup_n (by omega)))
        have hr := xDS_ses hD0 hs sm (bit' := n) (rd' := fun _ => 0) (wr' := fun _ => 0) ⟨xfill fr 5 0, xfill fw 5 0, (xup_n (by omega)).trans ((xup_n (by omega)).trans xup_s), (xup_n (by omega)).trans xup_s, xup_s, hn, fun k hk => ?_⟩
        · refine ⟨k3, ?_, hr, sm.oth (by omega)⟩
          refine xr_go i9_0 rfl ?_
          refine xr_S i9_1 xc9_75 ⟨by first | exact Or.inl rfl | exact Or.inr rfl, rfl⟩ xa_7 (Nat.le_of_ble_eq_true rfl) (Nat.le_of_ble_eq_true rfl) (by omega) ⟨Nat.le_of_ble_eq_true rfl, Nat.le_of_ble_eq_true rfl⟩ (s_isSession (nI s)) ?_
          refine xr_if_eqF i9_4 (t := 14) (by decide) (xbi_1 hx) ?_
          refine xr_go i9_7 rfl ?_
          refine xr_go i9_8 rfl ?_
          refine xr_go i9_10 rfl ?_
          refine xr_if_eqT i9_11 (t := 16) (by decide) (show nI n &&& -16 = 0 from hy2) ?_
          refine xr_go i9_16 rfl ?_
          refine xr_get i9_17 xf9_46 (by assumption) rfl rfl ?_
          refine xr_go i9_20 rfl ?_
          refine xr_aald i9_21 (by assumption) (by decide) rfl (by omega) (by omega) (by assumption) ?_
          refine xr_go i9_22 rfl ?_
          refine xr_go i9_24 rfl ?_
          refine xr_get i9_26 xf9_129 (by assumption) rfl rfl ?_
          refine xr_go i9_29 rfl ?_
          refine xr_go i9_31 rfl ?_
          refine xr_go i9_33 rfl ?_
          refine xr_put i9_34 xf9_129 (by assumption) ⟨rfl, Nat.le_of_ble_eq_true rfl, rfl, rfl, Or.inl rfl⟩ (fun k2 ek2 => ?_)
          have ek : k2 = k1 := ek2
          rw [ek]
          refine xr_go i9_37 rfl ?_
          refine xr_if_eqF i9_38 (t := 46) (by decide) hz ?_
          refine xr_go i9_41 rfl ?_
          refine xr_V i9_43 xc9_132 ⟨rfl, rfl⟩ xa_75 rfl (by assumption) rfl (Nat.le_of_ble_eq_true rfl) (by omega) ⟨Nat.le_of_ble_eq_true rfl, Nat.le_of_ble_eq_true rfl⟩ (r1) ?_
          refine xr_go i9_46 rfl ?_
          exact xr_iret i9_48 xt_9 rfl
        · unfold xfill
          rw [if_pos hk, if_pos hk]
          exact ⟨rfl, rfl, Nat.two_pow_pos 31, Nat.two_pow_pos 31⟩
    · rw [if_neg (fun e => hy e.2), if_neg (fun e => hy e.2), if_neg (fun e => hy e.2.1), if_neg (fun e => hy e.2.1)]
      refine ⟨h, ?_, hD0, xoth.refl⟩
      refine xr_go i9_0 rfl ?_
      refine xr_S i9_1 xc9_75 ⟨by first | exact Or.inl rfl | exact Or.inr rfl, rfl⟩ xa_7 (Nat.le_of_ble_eq_true rfl) (Nat.le_of_ble_eq_true rfl) (by omega) ⟨Nat.le_of_ble_eq_true rfl, Nat.le_of_ble_eq_true rfl⟩ (s_isSession x) ?_
      refine xr_if_eqF i9_4 (t := 14) (by decide) (xbi_1 hx) ?_
      refine xr_go i9_7 rfl ?_
      refine xr_go i9_8 rfl ?_
      refine xr_go i9_10 rfl ?_
      refine xr_if_eqF i9_11 (t := 16) (by decide) (show ¬ y &&& -16 = 0 from fun e => hy (xand16.mp e)) ?_
      exact tail
  · rw [if_neg (fun e => hx e.1), if_neg (fun e => hx e.1), if_neg (fun e => hx e.1), if_neg (fun e => hx e.1)]
    refine ⟨h, ?_, hD0, xoth.refl⟩
    refine xr_go i9_0 rfl ?_
    refine xr_S i9_1 xc9_75 ⟨by first | exact Or.inl rfl | exact Or.inr rfl, rfl⟩ xa_7 (Nat.le_of_ble_eq_true rfl) (Nat.le_of_ble_eq_true rfl) (by omega) ⟨Nat.le_of_ble_eq_true rfl, Nat.le_of_ble_eq_true rfl⟩ (s_isSession x) ?_
    refine xr_if_eqT i9_4 (t := 14) (by decide) (xbi_f (by simpa using hx)) ?_
    exact tail
theorem D_read (hD : xDS B nx tak cmt sv sp pl cm pg clk com fog kno bit rd wr lat tn tb h) (x y c b : Int32) (hd : 6 ≤ d) : ∃ h', xRun G d 8 (0, [some (.ref B), some (.int x), some (.int y), some (.int c), some (.int b), none, none], [], (h, nx, sl)) (some (.long (aRead tak sv sp cm pg com kno bit rd wr x y c b)), (h', nx, sl)) ∧ xDS B nx tak cmt sv sp pl cm pg clk com fog kno bit (bRead tak sv sp kno bit rd wr x y c) wr lat tn tb h' ∧ xoth B nx h h' := by
  have hD0 := hD
  obtain ⟨lv, wad, pad, psa, poa, ⟨t1, ⟨sf, t2, t3⟩, ⟨ef, t4, t5⟩⟩, h2, h3, h4, h5, h6, h7, h8, ⟨bb, ee, tt, h9⟩, h10, h11, h12, h13⟩ := hD
  unfold aRead bRead
  have tail : xRun G d 8 (21, [some (.ref B), some (.int x), some (.int y), some (.int c), some (.int b), none, none], [], (h, nx, sl)) (some (.long 1099511627776), (h, nx, sl)) := by
    refine xr_ldc2 i8_21 xl8_114 rfl ?_
    exact xr_lret i8_24 xt_8
  by_cases hx : xrng 5 x = true
  · by_cases hy : xrng 8 y = true
    · by_cases hc : xrng 32 c = true
      · rw [if_pos ⟨hx, hy, hc⟩]
        obtain ⟨s, hs, rfl⟩ := xrng_of (by omega) hx
        obtain ⟨j, hj, rfl⟩ := xrng_of (by omega) hy
        obtain ⟨k, hk, rfl⟩ := xrng_of (by omega) hc
        rw [aN_nI (by omega), aN_nI (by omega), aN_nI (by omega)]
        have t6 := t3 s hs
        have t7 := t5 j hj
        obtain ⟨fr, fw, g1, g2, g3, g4, g5⟩ := h11 j hj
        have hS0 := h10 s hs
        obtain ⟨don, vec, tl, cc, ce, oc, ⟨tN, ⟨s0, s1, s2, s3, s4, s5, s6⟩, htN⟩, hT, k1, k2, k3, k4, k5, k6, k7, k8, -⟩ := hS0
        unfold xSvF at s0
        dsimp only at s0 s1 s2 s3 s4 s5 s6
        have hvec : ∀ k, k < 5 → vec k = xvm sv sp (kno s) k tak ∧ vec k < 2 ^ 31 := fun k hk => ⟨xvm_eq k2 (k8 k hk).2.1 (k8 k hk).2.2, (k8 k hk).1⟩
        have hmay : aMay tak sv sp (kno s) (bit j) 1 2 (wr j) (rd j) = ((!decide (¬ nI (bit j) &&& 1 = 0) || xatl (fun j => nI (vec j)) fw 5) && (!decide (¬ nI (bit j) &&& 2 = 0) || xatl (fun j => nI (vec j)) fr 5)) := by
          unfold aMay
          rw [xatl_a (g := wr j) (fun k hk => ⟨(g5 k hk).2.1, (g5 k hk).2.2.2⟩) hvec, xatl_a (g := rd j) (fun k hk => ⟨(g5 k hk).1, (g5 k hk).2.2.1⟩) hvec]
        have rm := s_mayRead (G := G) (d := d - 1) (nx := nx) (sl := sl) g1 s0 g2 g3 s1 (by omega)
        rw [← hmay] at rm
        by_cases hm : aMay tak sv sp (kno s) (bit j) 1 2 (wr j) (rd j) = true
        · rw [if_pos hm, if_pos ⟨hx, hy, hc, hm⟩]
          have rh := s_hasRead (G := G) (d := d - 1) (nx := nx) (sl := sl) g1 s0 g2 s1 ⟨by omega, by omega, by omega⟩ (by omega)
          let p1 : xH := xup h (B + 54 + 3 * j + 1) (.inl (0, 5, .inl (xmaxs fr (fun j => nI (vec j)) 5)))
          have sm : xsame (B + 54 + 3 * j) (B + 56 + 3 * j) h p1 := fun q hq => xup_n (by omega)
          have hr := xDS_ses hD0 hj sm (bit' := bit j) (rd' := fun k => max (rd j k) (xvm sv sp (kno s) k tak)) (wr' := wr j) ⟨xmaxs fr (fun j => nI (vec j)) 5, fw, (xup_n (by omega)).trans g1, xup_s, (xup_n (by omega)).trans g3, g4, fun k hk => ?_⟩
          · rw [vu_id, vu_id] at hr
            have hr0 := hr
            obtain ⟨lv', wad', pad', psa', poa', u1, u2, u3, u4, u5, u6, u7, u8, ⟨bb', ee', tt', u9⟩, u10, u11, u12, u13⟩ := hr0
            obtain ⟨h', tl', r, hT', e1, e2, e3⟩ := q_value (G := G) (d := d - 1) (nx := nx) (sl := sl) (c := k) (b := b) u5 u7 u8 u9 (u10 s hs) (by omega) hk (by omega)
            have e : aVal tak sv sp cm pg (com s) (kno s) k b = (if b = 0 then xruns sv sp pg xz (xord cm (com s) tl') k else xruns sv sp pg xz (xcms cm (com s)) k) := by
              unfold aVal
              rw [xLs_eq hT']
              split <;> rfl
            rw [e]
            refine ⟨h', ?_, xDS_srv0 hr hs e3 e2 e1, (sm.oth (by omega)).trans (e3.oth (by omega))⟩
            have s0' : ∃ x, p1 (B + 18 + 7 * s) = some (.inr (6, x)) := ⟨_, (xup_n (by omega)).trans s0⟩
            obtain ⟨x0, s0'⟩ := s0'
            refine xr_go i8_0 rfl ?_
            refine xr_S i8_1 xc8_71 ⟨by first | exact Or.inl rfl | exact Or.inr rfl, rfl⟩ xa_6 (Nat.le_of_ble_eq_true rfl) (Nat.le_of_ble_eq_true rfl) (by omega) ⟨Nat.le_of_ble_eq_true rfl, Nat.le_of_ble_eq_true rfl⟩ (s_isServer (nI s)) ?_
            refine xr_if_eqF i8_4 (t := 21) (by decide) (xbi_1 hx) ?_
            refine xr_go i8_7 rfl ?_
            refine xr_S i8_8 xc8_75 ⟨by first | exact Or.inl rfl | exact Or.inr rfl, rfl⟩ xa_7 (Nat.le_of_ble_eq_true rfl) (Nat.le_of_ble_eq_true rfl) (by omega) ⟨Nat.le_of_ble_eq_true rfl, Nat.le_of_ble_eq_true rfl⟩ (s_isSession (nI j)) ?_
            refine xr_if_eqF i8_11 (t := 21) (by decide) (xbi_1 hy) ?_
            refine xr_go i8_14 rfl ?_
            refine xr_S i8_15 xc8_111 ⟨by first | exact Or.inl rfl | exact Or.inr rfl, rfl⟩ xa_4 (Nat.le_of_ble_eq_true rfl) (Nat.le_of_ble_eq_true rfl) (by omega) ⟨Nat.le_of_ble_eq_true rfl, Nat.le_of_ble_eq_true rfl⟩ (s_isCell (nI k)) ?_
            refine xr_if_neT i8_18 (t := 25) (by decide) (xbi_1 hc) ?_
            refine xr_go i8_25 rfl ?_
            refine xr_get i8_26 xf8_37 (by assumption) rfl rfl ?_
            refine xr_go i8_29 rfl ?_
            refine xr_aald i8_30 (by assumption) (by decide) rfl (by omega) (by omega) (by assumption) ?_
            refine xr_go i8_31 rfl ?_
            refine xr_go i8_33 rfl ?_
            refine xr_get i8_34 xf8_46 (by assumption) rfl rfl ?_
            refine xr_go i8_37 rfl ?_
            refine xr_aald i8_38 (by assumption) (by decide) rfl (by omega) (by omega) (by assumption) ?_
            refine xr_go i8_39 rfl ?_
            refine xr_go i8_41 rfl ?_
            refine xr_go i8_43 rfl ?_
            refine xr_V i8_45 xc8_116 ⟨rfl, rfl⟩ xa_73 rfl (by assumption) rfl (Nat.le_of_ble_eq_true rfl) (by omega) ⟨Nat.le_of_ble_eq_true rfl, Nat.le_of_ble_eq_true rfl⟩ (rm) ?_
            refine xr_if_neT i8_48 (t := 55) (by decide) (xbi_1 hm) ?_
            refine xr_go i8_55 rfl ?_
            refine xr_go i8_57 rfl ?_
            refine xr_V i8_59 xc8_121 ⟨rfl, rfl⟩ xa_74 rfl (by assumption) rfl (Nat.le_of_ble_eq_true rfl) (by omega) ⟨Nat.le_of_ble_eq_true rfl, Nat.le_of_ble_eq_true rfl⟩ (rh) ?_
            refine xr_go i8_62 rfl ?_
            refine xr_go i8_64 rfl ?_
            refine xr_go i8_65 rfl ?_
            refine xr_V i8_67 xc8_125 ⟨rfl, rfl⟩ xa_60 rfl (by assumption) rfl (Nat.le_of_ble_eq_true rfl) (by omega) ⟨Nat.le_of_ble_eq_true rfl, Nat.le_of_ble_eq_true rfl⟩ (r) ?_
            refine xr_go i8_70 rfl ?_
            exact xr_lret i8_71 xt_8
          · unfold xmaxs
            rw [if_pos hk, (g5 k hk).1]
            dsimp only
            rw [← (hvec k hk).1]
            refine ⟨nI_max (g5 k hk).2.2.1 (hvec k hk).2, (g5 k hk).2.1, ?_, (g5 k hk).2.2.2⟩
            have := (g5 k hk).2.2.1
            have := (hvec k hk).2
            show max _ _ < _
            omega
        · rw [if_neg hm, if_neg (fun e => hm e.2.2.2)]
          refine ⟨h, ?_, hD0, xoth.refl⟩
          refine xr_go i8_0 rfl ?_
          refine xr_S i8_1 xc8_71 ⟨by first | exact Or.inl rfl | exact Or.inr rfl, rfl⟩ xa_6 (Nat.le_of_ble_eq_true rfl) (Nat.le_of_ble_eq_true rfl) (by omega) ⟨Nat.le_of_ble_eq_true rfl, Nat.le_of_ble_eq_true rfl⟩ (s_isServer (nI s)) ?_
          refine xr_if_eqF i8_4 (t := 21) (by decide) (xbi_1 hx) ?_
          refine xr_go i8_7 rfl ?_
          refine xr_S i8_8 xc8_75 ⟨by first | exact Or.inl rfl | exact Or.inr rfl, rfl⟩ xa_7 (Nat.le_of_ble_eq_true rfl) (Nat.le_of_ble_eq_true rfl) (by omega) ⟨Nat.le_of_ble_eq_true rfl, Nat.le_of_ble_eq_true rfl⟩ (s_isSession (nI j)) ?_
          refine xr_if_eqF i8_11 (t := 21) (by decide) (xbi_1 hy) ?_
          refine xr_go i8_14 rfl ?_
          refine xr_S i8_15 xc8_111 ⟨by first | exact Or.inl rfl | exact Or.inr rfl, rfl⟩ xa_4 (Nat.le_of_ble_eq_true rfl) (Nat.le_of_ble_eq_true rfl) (by omega) ⟨Nat.le_of_ble_eq_true rfl, Nat.le_of_ble_eq_true rfl⟩ (s_isCell (nI k)) ?_
          refine xr_if_neT i8_18 (t := 25) (by decide) (xbi_1 hc) ?_
          refine xr_go i8_25 rfl ?_
          refine xr_get i8_26 xf8_37 (by assumption) rfl rfl ?_
          refine xr_go i8_29 rfl ?_
          refine xr_aald i8_30 (by assumption) (by decide) rfl (by omega) (by omega) (by assumption) ?_
          refine xr_go i8_31 rfl ?_
          refine xr_go i8_33 rfl ?_
          refine xr_get i8_34 xf8_46 (by assumption) rfl rfl ?_
          refine xr_go i8_37 rfl ?_
          refine xr_aald i8_38 (by assumption) (by decide) rfl (by omega) (by omega) (by assumption) ?_
          refine xr_go i8_39 rfl ?_
          refine xr_go i8_41 rfl ?_
          refine xr_go i8_43 rfl ?_
          refine xr_V i8_45 xc8_116 ⟨rfl, rfl⟩ xa_73 rfl (by assumption) rfl (Nat.le_of_ble_eq_true rfl) (by omega) ⟨Nat.le_of_ble_eq_true rfl, Nat.le_of_ble_eq_true rfl⟩ (rm) ?_
          refine xr_if_neF i8_48 (t := 55) (by decide) (by rw [Bool.not_eq_true] at hm; rw [hm]; decide) ?_
          refine xr_ldc2 i8_51 xl8_119 rfl ?_
          exact xr_lret i8_54 xt_8
      · rw [if_neg (fun e => hc e.2.2), if_neg (fun e => hc e.2.2.1)]
        refine ⟨h, ?_, hD0, xoth.refl⟩
        refine xr_go i8_0 rfl ?_
        refine xr_S i8_1 xc8_71 ⟨by first | exact Or.inl rfl | exact Or.inr rfl, rfl⟩ xa_6 (Nat.le_of_ble_eq_true rfl) (Nat.le_of_ble_eq_true rfl) (by omega) ⟨Nat.le_of_ble_eq_true rfl, Nat.le_of_ble_eq_true rfl⟩ (s_isServer x) ?_
        refine xr_if_eqF i8_4 (t := 21) (by decide) (xbi_1 hx) ?_
        refine xr_go i8_7 rfl ?_
        refine xr_S i8_8 xc8_75 ⟨by first | exact Or.inl rfl | exact Or.inr rfl, rfl⟩ xa_7 (Nat.le_of_ble_eq_true rfl) (Nat.le_of_ble_eq_true rfl) (by omega) ⟨Nat.le_of_ble_eq_true rfl, Nat.le_of_ble_eq_true rfl⟩ (s_isSession y) ?_
        refine xr_if_eqF i8_11 (t := 21) (by decide) (xbi_1 hy) ?_
        refine xr_go i8_14 rfl ?_
        refine xr_S i8_15 xc8_111 ⟨by first | exact Or.inl rfl | exact Or.inr rfl, rfl⟩ xa_4 (Nat.le_of_ble_eq_true rfl) (Nat.le_of_ble_eq_true rfl) (by omega) ⟨Nat.le_of_ble_eq_true rfl, Nat.le_of_ble_eq_true rfl⟩ (s_isCell c) ?_
        refine xr_if_neF i8_18 (t := 25) (by decide) (by rw [Bool.not_eq_true] at hc; rw [hc]; decide) ?_
        exact tail
    · rw [if_neg (fun e => hy e.2.1), if_neg (fun e => hy e.2.1)]
      refine ⟨h, ?_, hD0, xoth.refl⟩
      refine xr_go i8_0 rfl ?_
      refine xr_S i8_1 xc8_71 ⟨by first | exact Or.inl rfl | exact Or.inr rfl, rfl⟩ xa_6 (Nat.le_of_ble_eq_true rfl) (Nat.le_of_ble_eq_true rfl) (by omega) ⟨Nat.le_of_ble_eq_true rfl, Nat.le_of_ble_eq_true rfl⟩ (s_isServer x) ?_
      refine xr_if_eqF i8_4 (t := 21) (by decide) (xbi_1 hx) ?_
      refine xr_go i8_7 rfl ?_
      refine xr_S i8_8 xc8_75 ⟨by first | exact Or.inl rfl | exact Or.inr rfl, rfl⟩ xa_7 (Nat.le_of_ble_eq_true rfl) (Nat.le_of_ble_eq_true rfl) (by omega) ⟨Nat.le_of_ble_eq_true rfl, Nat.le_of_ble_eq_true rfl⟩ (s_isSession y) ?_
      refine xr_if_eqT i8_11 (t := 21) (by decide) (xbi_f (by simpa using hy)) ?_
      exact tail
  · rw [if_neg (fun e => hx e.1), if_neg (fun e => hx e.1)]
    refine ⟨h, ?_, hD0, xoth.refl⟩
    refine xr_go i8_0 rfl ?_
    refine xr_S i8_1 xc8_71 ⟨by first | exact Or.inl rfl | exact Or.inr rfl, rfl⟩ xa_6 (Nat.le_of_ble_eq_true rfl) (Nat.le_of_ble_eq_true rfl) (by omega) ⟨Nat.le_of_ble_eq_true rfl, Nat.le_of_ble_eq_true rfl⟩ (s_isServer x) ?_
    refine xr_if_eqT i8_4 (t := 21) (by decide) (xbi_f (by simpa using hx)) ?_
    exact tail
end XSESS
end
