section
-- ===== PART A: goes FIRST, ahead of the names: the tables' words, and 'selects' of the private methods out of them =====
/-- a private method of a class that the tables say can be made, by its rows of tables_1 -/
def lw_okq (q : MethodName × Nat) : Prop := (q.1.cls ≠ "java/lang/invoke/MethodHandle" ∧ q.1.cls ≠ "java/lang/invoke/VarHandle") ∧ Cond.instantiable q.1.cls q.2 ∈ tables_1 ∧ Cond.privateMethod q.1 ∈ tables_1 ∧ Cond.instanceMethod q.1 ∈ tables_1
theorem lw_p0 : lw_okq (⟨"DriftStore$Tokens", "scanToken", "(LDriftStore$Tape;I)I"⟩, 4) := ⟨⟨by decide +kernel, by decide +kernel⟩, List.mem_of_getElem? (i := 51) (by decide +kernel), List.mem_of_getElem? (i := 270) (by decide +kernel), List.mem_of_getElem? (i := 271) (by decide +kernel)⟩
theorem lw_p1 : lw_okq (⟨"DriftStore$Tokens", "scanWord", "(LDriftStore$Tape;I)I"⟩, 4) := ⟨⟨by decide +kernel, by decide +kernel⟩, List.mem_of_getElem? (i := 51) (by decide +kernel), List.mem_of_getElem? (i := 274) (by decide +kernel), List.mem_of_getElem? (i := 275) (by decide +kernel)⟩
theorem lw_p2 : lw_okq (⟨"DriftStore$Tokens", "scanNumber", "(LDriftStore$Tape;I)I"⟩, 4) := ⟨⟨by decide +kernel, by decide +kernel⟩, List.mem_of_getElem? (i := 51) (by decide +kernel), List.mem_of_getElem? (i := 339) (by decide +kernel), List.mem_of_getElem? (i := 340) (by decide +kernel)⟩
theorem lw_p3 : lw_okq (⟨"DriftStore$Compiler", "accept", "(I)Z"⟩, 8) := ⟨⟨by decide +kernel, by decide +kernel⟩, List.mem_of_getElem? (i := 45) (by decide +kernel), List.mem_of_getElem? (i := 348) (by decide +kernel), List.mem_of_getElem? (i := 349) (by decide +kernel)⟩
theorem lw_p4 : lw_okq (⟨"DriftStore$Compiler", "parseTest", "()V"⟩, 8) := ⟨⟨by decide +kernel, by decide +kernel⟩, List.mem_of_getElem? (i := 45) (by decide +kernel), List.mem_of_getElem? (i := 352) (by decide +kernel), List.mem_of_getElem? (i := 353) (by decide +kernel)⟩
theorem lw_p5 : lw_okq (⟨"DriftStore$Compiler", "parseSum", "(I)V"⟩, 8) := ⟨⟨by decide +kernel, by decide +kernel⟩, List.mem_of_getElem? (i := 45) (by decide +kernel), List.mem_of_getElem? (i := 356) (by decide +kernel), List.mem_of_getElem? (i := 357) (by decide +kernel)⟩
theorem lw_p6 : lw_okq (⟨"DriftStore$Compiler", "parseTerm", "(I)V"⟩, 8) := ⟨⟨by decide +kernel, by decide +kernel⟩, List.mem_of_getElem? (i := 45) (by decide +kernel), List.mem_of_getElem? (i := 360) (by decide +kernel), List.mem_of_getElem? (i := 361) (by decide +kernel)⟩
theorem lw_p7 : lw_okq (⟨"DriftStore$Compiler", "parsePart", "(I)V"⟩, 8) := ⟨⟨by decide +kernel, by decide +kernel⟩, List.mem_of_getElem? (i := 45) (by decide +kernel), List.mem_of_getElem? (i := 364) (by decide +kernel), List.mem_of_getElem? (i := 365) (by decide +kernel)⟩
theorem lw_p8 : lw_okq (⟨"DriftStore$Compiler", "require", "(I)V"⟩, 8) := ⟨⟨by decide +kernel, by decide +kernel⟩, List.mem_of_getElem? (i := 45) (by decide +kernel), List.mem_of_getElem? (i := 368) (by decide +kernel), List.mem_of_getElem? (i := 369) (by decide +kernel)⟩
theorem lw_p9 : lw_okq (⟨"DriftStore$Compiler", "fail", "()V"⟩, 8) := ⟨⟨by decide +kernel, by decide +kernel⟩, List.mem_of_getElem? (i := 45) (by decide +kernel), List.mem_of_getElem? (i := 372) (by decide +kernel), List.mem_of_getElem? (i := 373) (by decide +kernel)⟩
theorem lw_p10 : lw_okq (⟨"DriftStore$Compiler", "kind", "()I"⟩, 8) := ⟨⟨by decide +kernel, by decide +kernel⟩, List.mem_of_getElem? (i := 45) (by decide +kernel), List.mem_of_getElem? (i := 376) (by decide +kernel), List.mem_of_getElem? (i := 377) (by decide +kernel)⟩
theorem lw_p11 : lw_okq (⟨"DriftStore$Compiler", "parseCellNumber", "()I"⟩, 8) := ⟨⟨by decide +kernel, by decide +kernel⟩, List.mem_of_getElem? (i := 45) (by decide +kernel), List.mem_of_getElem? (i := 380) (by decide +kernel), List.mem_of_getElem? (i := 381) (by decide +kernel)⟩
theorem lw_p12 : lw_okq (⟨"DriftStore$Compiler", "emit", "(II)V"⟩, 8) := ⟨⟨by decide +kernel, by decide +kernel⟩, List.mem_of_getElem? (i := 45) (by decide +kernel), List.mem_of_getElem? (i := 387) (by decide +kernel), List.mem_of_getElem? (i := 388) (by decide +kernel)⟩
theorem lw_p13 : lw_okq (⟨"DriftStore$Compiler", "parseEffects", "()V"⟩, 8) := ⟨⟨by decide +kernel, by decide +kernel⟩, List.mem_of_getElem? (i := 45) (by decide +kernel), List.mem_of_getElem? (i := 391) (by decide +kernel), List.mem_of_getElem? (i := 392) (by decide +kernel)⟩
theorem lw_p14 : lw_okq (⟨"DriftStore$Session", "assures", "(I)Z"⟩, 3) := ⟨⟨by decide +kernel, by decide +kernel⟩, List.mem_of_getElem? (i := 205) (by decide +kernel), List.mem_of_getElem? (i := 446) (by decide +kernel), List.mem_of_getElem? (i := 447) (by decide +kernel)⟩
theorem lw_p15 : lw_okq (⟨"DriftStore$Server", "catchUp", "()V"⟩, 13) := ⟨⟨by decide +kernel, by decide +kernel⟩, List.mem_of_getElem? (i := 150) (by decide +kernel), List.mem_of_getElem? (i := 517) (by decide +kernel), List.mem_of_getElem? (i := 518) (by decide +kernel)⟩
def lw_privs_1 : List (MethodName × Nat) := [(⟨"DriftStore$Tokens", "scanToken", "(LDriftStore$Tape;I)I"⟩, 4), (⟨"DriftStore$Tokens", "scanWord", "(LDriftStore$Tape;I)I"⟩, 4), (⟨"DriftStore$Tokens", "scanNumber", "(LDriftStore$Tape;I)I"⟩, 4), (⟨"DriftStore$Compiler", "accept", "(I)Z"⟩, 8), (⟨"DriftStore$Compiler", "parseTest", "()V"⟩, 8), (⟨"DriftStore$Compiler", "parseSum", "(I)V"⟩, 8), (⟨"DriftStore$Compiler", "parseTerm", "(I)V"⟩, 8), (⟨"DriftStore$Compiler", "parsePart", "(I)V"⟩, 8), (⟨"DriftStore$Compiler", "require", "(I)V"⟩, 8), (⟨"DriftStore$Compiler", "fail", "()V"⟩, 8), (⟨"DriftStore$Compiler", "kind", "()I"⟩, 8), (⟨"DriftStore$Compiler", "parseCellNumber", "()I"⟩, 8), (⟨"DriftStore$Compiler", "emit", "(II)V"⟩, 8), (⟨"DriftStore$Compiler", "parseEffects", "()V"⟩, 8), (⟨"DriftStore$Session", "assures", "(I)Z"⟩, 3), (⟨"DriftStore$Server", "catchUp", "()V"⟩, 13)]
theorem lw_r1 : ∀ q ∈ lw_privs_1, lw_okq q := List.forall_mem_cons.mpr ⟨lw_p0, List.forall_mem_cons.mpr ⟨lw_p1, List.forall_mem_cons.mpr ⟨lw_p2, List.forall_mem_cons.mpr ⟨lw_p3, List.forall_mem_cons.mpr ⟨lw_p4, List.forall_mem_cons.mpr ⟨lw_p5, List.forall_mem_cons.mpr ⟨lw_p6, List.forall_mem_cons.mpr ⟨lw_p7, List.forall_mem_cons.mpr ⟨lw_p8, List.forall_mem_cons.mpr ⟨lw_p9, List.forall_mem_cons.mpr ⟨lw_p10, List.forall_mem_cons.mpr ⟨lw_p11, List.forall_mem_cons.mpr ⟨lw_p12, List.forall_mem_cons.mpr ⟨lw_p13, List.forall_mem_cons.mpr ⟨lw_p14, List.forall_mem_cons.mpr ⟨lw_p15, fun _ h => absurd h List.not_mem_nil⟩⟩⟩⟩⟩⟩⟩⟩⟩⟩⟩⟩⟩⟩⟩⟩
theorem lw_p16 : lw_okq (⟨"DriftStore$Machine", "beginRule", "()V"⟩, 6) := ⟨⟨by decide +kernel, by decide +kernel⟩, List.mem_of_getElem? (i := 124) (by decide +kernel), List.mem_of_getElem? (i := 526) (by decide +kernel), List.mem_of_getElem? (i := 527) (by decide +kernel)⟩
theorem lw_p17 : lw_okq (⟨"DriftStore$Machine", "doStep", "(IILDriftStore$Write;[I)V"⟩, 6) := ⟨⟨by decide +kernel, by decide +kernel⟩, List.mem_of_getElem? (i := 124) (by decide +kernel), List.mem_of_getElem? (i := 530) (by decide +kernel), List.mem_of_getElem? (i := 531) (by decide +kernel)⟩
theorem lw_p18 : lw_okq (⟨"DriftStore$Machine", "push", "(I)V"⟩, 6) := ⟨⟨by decide +kernel, by decide +kernel⟩, List.mem_of_getElem? (i := 124) (by decide +kernel), List.mem_of_getElem? (i := 534) (by decide +kernel), List.mem_of_getElem? (i := 535) (by decide +kernel)⟩
theorem lw_p19 : lw_okq (⟨"DriftStore$Machine", "keepEffect", "(I)V"⟩, 6) := ⟨⟨by decide +kernel, by decide +kernel⟩, List.mem_of_getElem? (i := 124) (by decide +kernel), List.mem_of_getElem? (i := 538) (by decide +kernel), List.mem_of_getElem? (i := 539) (by decide +kernel)⟩
theorem lw_p20 : lw_okq (⟨"DriftStore$Machine", "pop", "()I"⟩, 6) := ⟨⟨by decide +kernel, by decide +kernel⟩, List.mem_of_getElem? (i := 124) (by decide +kernel), List.mem_of_getElem? (i := 542) (by decide +kernel), List.mem_of_getElem? (i := 543) (by decide +kernel)⟩
theorem lw_p21 : lw_okq (⟨"DriftStore$Machine", "combine", "(I)V"⟩, 6) := ⟨⟨by decide +kernel, by decide +kernel⟩, List.mem_of_getElem? (i := 124) (by decide +kernel), List.mem_of_getElem? (i := 546) (by decide +kernel), List.mem_of_getElem? (i := 547) (by decide +kernel)⟩
theorem lw_p22 : lw_okq (⟨"DriftStore$Machine", "changeCells", "([I)V"⟩, 6) := ⟨⟨by decide +kernel, by decide +kernel⟩, List.mem_of_getElem? (i := 124) (by decide +kernel), List.mem_of_getElem? (i := 550) (by decide +kernel), List.mem_of_getElem? (i := 551) (by decide +kernel)⟩
theorem lw_p23 : lw_okq (⟨"DriftStore$Server", "removeTentative", "(I)V"⟩, 13) := ⟨⟨by decide +kernel, by decide +kernel⟩, List.mem_of_getElem? (i := 150) (by decide +kernel), List.mem_of_getElem? (i := 579) (by decide +kernel), List.mem_of_getElem? (i := 580) (by decide +kernel)⟩
theorem lw_p24 : lw_okq (⟨"DriftStoreModel", "step", "()V"⟩, 34) := ⟨⟨by decide +kernel, by decide +kernel⟩, List.mem_of_getElem? (i := 645) (by decide +kernel), List.mem_of_getElem? (i := 774) (by decide +kernel), List.mem_of_getElem? (i := 775) (by decide +kernel)⟩
theorem lw_p25 : lw_okq (⟨"DriftStoreModel", "is", "(Ljava/lang/String;)Z"⟩, 34) := ⟨⟨by decide +kernel, by decide +kernel⟩, List.mem_of_getElem? (i := 645) (by decide +kernel), List.mem_of_getElem? (i := 782) (by decide +kernel), List.mem_of_getElem? (i := 783) (by decide +kernel)⟩
theorem lw_p26 : lw_okq (⟨"DriftStoreModel", "rule", "()Z"⟩, 34) := ⟨⟨by decide +kernel, by decide +kernel⟩, List.mem_of_getElem? (i := 645) (by decide +kernel), List.mem_of_getElem? (i := 804) (by decide +kernel), List.mem_of_getElem? (i := 805) (by decide +kernel)⟩
theorem lw_p27 : lw_okq (⟨"DriftStoreModel", "bad", "()Z"⟩, 34) := ⟨⟨by decide +kernel, by decide +kernel⟩, List.mem_of_getElem? (i := 645) (by decide +kernel), List.mem_of_getElem? (i := 808) (by decide +kernel), List.mem_of_getElem? (i := 809) (by decide +kernel)⟩
theorem lw_p28 : lw_okq (⟨"DriftStoreModel", "put", "(I)V"⟩, 34) := ⟨⟨by decide +kernel, by decide +kernel⟩, List.mem_of_getElem? (i := 645) (by decide +kernel), List.mem_of_getElem? (i := 812) (by decide +kernel), List.mem_of_getElem? (i := 813) (by decide +kernel)⟩
theorem lw_p29 : lw_okq (⟨"DriftStoreModel", "compare", "()Z"⟩, 34) := ⟨⟨by decide +kernel, by decide +kernel⟩, List.mem_of_getElem? (i := 645) (by decide +kernel), List.mem_of_getElem? (i := 816) (by decide +kernel), List.mem_of_getElem? (i := 817) (by decide +kernel)⟩
theorem lw_p30 : lw_okq (⟨"DriftStoreModel", "whole", "()Z"⟩, 34) := ⟨⟨by decide +kernel, by decide +kernel⟩, List.mem_of_getElem? (i := 645) (by decide +kernel), List.mem_of_getElem? (i := 820) (by decide +kernel), List.mem_of_getElem? (i := 821) (by decide +kernel)⟩
theorem lw_p31 : lw_okq (⟨"DriftStoreModel", "sum", "(I)Z"⟩, 34) := ⟨⟨by decide +kernel, by decide +kernel⟩, List.mem_of_getElem? (i := 645) (by decide +kernel), List.mem_of_getElem? (i := 824) (by decide +kernel), List.mem_of_getElem? (i := 825) (by decide +kernel)⟩
def lw_privs_2 : List (MethodName × Nat) := [(⟨"DriftStore$Machine", "beginRule", "()V"⟩, 6), (⟨"DriftStore$Machine", "doStep", "(IILDriftStore$Write;[I)V"⟩, 6), (⟨"DriftStore$Machine", "push", "(I)V"⟩, 6), (⟨"DriftStore$Machine", "keepEffect", "(I)V"⟩, 6), (⟨"DriftStore$Machine", "pop", "()I"⟩, 6), (⟨"DriftStore$Machine", "combine", "(I)V"⟩, 6), (⟨"DriftStore$Machine", "changeCells", "([I)V"⟩, 6), (⟨"DriftStore$Server", "removeTentative", "(I)V"⟩, 13), (⟨"DriftStoreModel", "step", "()V"⟩, 34), (⟨"DriftStoreModel", "is", "(Ljava/lang/String;)Z"⟩, 34), (⟨"DriftStoreModel", "rule", "()Z"⟩, 34), (⟨"DriftStoreModel", "bad", "()Z"⟩, 34), (⟨"DriftStoreModel", "put", "(I)V"⟩, 34), (⟨"DriftStoreModel", "compare", "()Z"⟩, 34), (⟨"DriftStoreModel", "whole", "()Z"⟩, 34), (⟨"DriftStoreModel", "sum", "(I)Z"⟩, 34)]
theorem lw_r2 : ∀ q ∈ lw_privs_2, lw_okq q := List.forall_mem_cons.mpr ⟨lw_p16, List.forall_mem_cons.mpr ⟨lw_p17, List.forall_mem_cons.mpr ⟨lw_p18, List.forall_mem_cons.mpr ⟨lw_p19, List.forall_mem_cons.mpr ⟨lw_p20, List.forall_mem_cons.mpr ⟨lw_p21, List.forall_mem_cons.mpr ⟨lw_p22, List.forall_mem_cons.mpr ⟨lw_p23, List.forall_mem_cons.mpr ⟨lw_p24, List.forall_mem_cons.mpr ⟨lw_p25, List.forall_mem_cons.mpr ⟨lw_p26, List.forall_mem_cons.mpr ⟨lw_p27, List.forall_mem_cons.mpr ⟨lw_p28, List.forall_mem_cons.mpr ⟨lw_p29, List.forall_mem_cons.mpr ⟨lw_p30, List.forall_mem_cons.mpr ⟨lw_p31, fun _ h => absurd h List.not_mem_nil⟩⟩⟩⟩⟩⟩⟩⟩⟩⟩⟩⟩⟩⟩⟩⟩
theorem lw_p32 : lw_okq (⟨"DriftStoreModel", "term", "(I)Z"⟩, 34) := ⟨⟨by decide +kernel, by decide +kernel⟩, List.mem_of_getElem? (i := 645) (by decide +kernel), List.mem_of_getElem? (i := 828) (by decide +kernel), List.mem_of_getElem? (i := 829) (by decide +kernel)⟩
theorem lw_p33 : lw_okq (⟨"DriftStoreModel", "part", "(I)Z"⟩, 34) := ⟨⟨by decide +kernel, by decide +kernel⟩, List.mem_of_getElem? (i := 645) (by decide +kernel), List.mem_of_getElem? (i := 832) (by decide +kernel), List.mem_of_getElem? (i := 833) (by decide +kernel)⟩
theorem lw_p34 : lw_okq (⟨"DriftStoreModel", "take", "(Ljava/lang/String;)Z"⟩, 34) := ⟨⟨by decide +kernel, by decide +kernel⟩, List.mem_of_getElem? (i := 645) (by decide +kernel), List.mem_of_getElem? (i := 838) (by decide +kernel), List.mem_of_getElem? (i := 839) (by decide +kernel)⟩
theorem lw_p35 : lw_okq (⟨"DriftStoreModel", "cell", "()Z"⟩, 34) := ⟨⟨by decide +kernel, by decide +kernel⟩, List.mem_of_getElem? (i := 645) (by decide +kernel), List.mem_of_getElem? (i := 842) (by decide +kernel), List.mem_of_getElem? (i := 843) (by decide +kernel)⟩
theorem lw_p36 : lw_okq (⟨"DriftStoreModel", "isAtLeast", "(I[I)Z"⟩, 34) := ⟨⟨by decide +kernel, by decide +kernel⟩, List.mem_of_getElem? (i := 645) (by decide +kernel), List.mem_of_getElem? (i := 864) (by decide +kernel), List.mem_of_getElem? (i := 865) (by decide +kernel)⟩
theorem lw_p37 : lw_okq (⟨"DriftStoreModel", "vector", "(II)I"⟩, 34) := ⟨⟨by decide +kernel, by decide +kernel⟩, List.mem_of_getElem? (i := 645) (by decide +kernel), List.mem_of_getElem? (i := 868) (by decide +kernel), List.mem_of_getElem? (i := 869) (by decide +kernel)⟩
theorem lw_p38 : lw_okq (⟨"DriftStoreModel", "run", "(IZ)V"⟩, 34) := ⟨⟨by decide +kernel, by decide +kernel⟩, List.mem_of_getElem? (i := 645) (by decide +kernel), List.mem_of_getElem? (i := 883) (by decide +kernel), List.mem_of_getElem? (i := 884) (by decide +kernel)⟩
theorem lw_p39 : lw_okq (⟨"DriftStoreModel", "arrange", "(I)V"⟩, 34) := ⟨⟨by decide +kernel, by decide +kernel⟩, List.mem_of_getElem? (i := 645) (by decide +kernel), List.mem_of_getElem? (i := 887) (by decide +kernel), List.mem_of_getElem? (i := 888) (by decide +kernel)⟩
theorem lw_p40 : lw_okq (⟨"DriftStoreModel", "isCommitted", "(II)Z"⟩, 34) := ⟨⟨by decide +kernel, by decide +kernel⟩, List.mem_of_getElem? (i := 645) (by decide +kernel), List.mem_of_getElem? (i := 891) (by decide +kernel), List.mem_of_getElem? (i := 892) (by decide +kernel)⟩
theorem lw_p41 : lw_okq (⟨"DriftStoreModel", "isBefore", "(II)Z"⟩, 34) := ⟨⟨by decide +kernel, by decide +kernel⟩, List.mem_of_getElem? (i := 645) (by decide +kernel), List.mem_of_getElem? (i := 895) (by decide +kernel), List.mem_of_getElem? (i := 896) (by decide +kernel)⟩
theorem lw_p42 : lw_okq (⟨"DriftStoreModel", "perform", "(I)I"⟩, 34) := ⟨⟨by decide +kernel, by decide +kernel⟩, List.mem_of_getElem? (i := 645) (by decide +kernel), List.mem_of_getElem? (i := 900) (by decide +kernel), List.mem_of_getElem? (i := 901) (by decide +kernel)⟩
theorem lw_p43 : lw_okq (⟨"DriftStoreModel", "holds", "(I)Z"⟩, 34) := ⟨⟨by decide +kernel, by decide +kernel⟩, List.mem_of_getElem? (i := 645) (by decide +kernel), List.mem_of_getElem? (i := 904) (by decide +kernel), List.mem_of_getElem? (i := 905) (by decide +kernel)⟩
theorem lw_p44 : lw_okq (⟨"DriftStoreModel", "value", "(I)I"⟩, 34) := ⟨⟨by decide +kernel, by decide +kernel⟩, List.mem_of_getElem? (i := 645) (by decide +kernel), List.mem_of_getElem? (i := 908) (by decide +kernel), List.mem_of_getElem? (i := 909) (by decide +kernel)⟩
theorem lw_p45 : lw_okq (⟨"DriftStoreModel", "learn", "(II)V"⟩, 34) := ⟨⟨by decide +kernel, by decide +kernel⟩, List.mem_of_getElem? (i := 645) (by decide +kernel), List.mem_of_getElem? (i := 925) (by decide +kernel), List.mem_of_getElem? (i := 926) (by decide +kernel)⟩
def lw_privs_3 : List (MethodName × Nat) := [(⟨"DriftStoreModel", "term", "(I)Z"⟩, 34), (⟨"DriftStoreModel", "part", "(I)Z"⟩, 34), (⟨"DriftStoreModel", "take", "(Ljava/lang/String;)Z"⟩, 34), (⟨"DriftStoreModel", "cell", "()Z"⟩, 34), (⟨"DriftStoreModel", "isAtLeast", "(I[I)Z"⟩, 34), (⟨"DriftStoreModel", "vector", "(II)I"⟩, 34), (⟨"DriftStoreModel", "run", "(IZ)V"⟩, 34), (⟨"DriftStoreModel", "arrange", "(I)V"⟩, 34), (⟨"DriftStoreModel", "isCommitted", "(II)Z"⟩, 34), (⟨"DriftStoreModel", "isBefore", "(II)Z"⟩, 34), (⟨"DriftStoreModel", "perform", "(I)I"⟩, 34), (⟨"DriftStoreModel", "holds", "(I)Z"⟩, 34), (⟨"DriftStoreModel", "value", "(I)I"⟩, 34), (⟨"DriftStoreModel", "learn", "(II)V"⟩, 34)]
theorem lw_r3 : ∀ q ∈ lw_privs_3, lw_okq q := List.forall_mem_cons.mpr ⟨lw_p32, List.forall_mem_cons.mpr ⟨lw_p33, List.forall_mem_cons.mpr ⟨lw_p34, List.forall_mem_cons.mpr ⟨lw_p35, List.forall_mem_cons.mpr ⟨lw_p36, List.forall_mem_cons.mpr ⟨lw_p37, List.forall_mem_cons.mpr ⟨lw_p38, List.forall_mem_cons.mpr ⟨lw_p39, List.forall_mem_cons.mpr ⟨lw_p40, List.forall_mem_cons.mpr ⟨lw_p41, List.forall_mem_cons.mpr ⟨lw_p42, List.forall_mem_cons.mpr ⟨lw_p43, List.forall_mem_cons.mpr ⟨lw_p44, List.forall_mem_cons.mpr ⟨lw_p45, fun _ h => absurd h List.not_mem_nil⟩⟩⟩⟩⟩⟩⟩⟩⟩⟩⟩⟩⟩⟩
def lw_privs : List (MethodName × Nat) := lw_privs_1 ++ (lw_privs_2 ++ (lw_privs_3))
def lw_tbl : List Cond := k2_sels lw_privs ++ tables_1
theorem lw_privs_ok : ∀ q ∈ lw_privs, lw_okq q := by
  show ∀ q ∈ lw_privs_1 ++ (lw_privs_2 ++ (lw_privs_3)), lw_okq q
  exact List.forall_mem_append.mpr ⟨lw_r1, List.forall_mem_append.mpr ⟨lw_r2, lw_r3⟩⟩
end
section
/-! ===== names, by program (wip/gen/lay02.py): classes, methods, links, with the places of their words in lw_tbl ===== -/
def xT0 : u_T := fun k => match k with
  | 0 => ("DriftStore", "tape", "LDriftStore$Tape;", true)
  | 1 => ("DriftStore", "compiler", "LDriftStore$Compiler;", true)
  | 2 => ("DriftStore", "history", "LDriftStore$History;", true)
  | 3 => ("DriftStore", "servers", "[LDriftStore$Server;", true)
  | 4 => ("DriftStore", "sessions", "[LDriftStore$Session;", true)
  | _ => ("DriftStore", "latest", "LDriftStore$Program;", false)
def xty0 : Nat → FieldType := fun k => match k with
  | 0 => .object "DriftStore$Tape"
  | 1 => .object "DriftStore$Compiler"
  | 2 => .object "DriftStore$History"
  | 3 => .array (.object "DriftStore$Server")
  | 4 => .array (.object "DriftStore$Session")
  | _ => .object "DriftStore$Program"
def xT1 : u_T := fun k => match k with
  | 0 => ("DriftStore$Tape", "bytes", "[I", true)
  | _ => ("DriftStore$Tape", "length", "I", false)
def xty1 : Nat → FieldType := fun k => match k with
  | 0 => .array .int
  | _ => .int
def xT2 : u_T := fun k => match k with
  | 0 => ("DriftStore$Compiler", "tape", "LDriftStore$Tape;", true)
  | 1 => ("DriftStore$Compiler", "tokens", "LDriftStore$Tokens;", true)
  | 2 => ("DriftStore$Compiler", "steps", "[I", true)
  | 3 => ("DriftStore$Compiler", "operands", "[I", true)
  | 4 => ("DriftStore$Compiler", "size", "I", false)
  | 5 => ("DriftStore$Compiler", "at", "I", false)
  | 6 => ("DriftStore$Compiler", "parts", "I", false)
  | _ => ("DriftStore$Compiler", "fault", "I", false)
def xty2 : Nat → FieldType := fun k => match k with
  | 0 => .object "DriftStore$Tape"
  | 1 => .object "DriftStore$Tokens"
  | 2 => .array .int
  | 3 => .array .int
  | 4 => .int
  | 5 => .int
  | 6 => .int
  | _ => .int
def xT3 : u_T := fun k => match k with
  | 0 => ("DriftStore$Tokens", "kinds", "[I", true)
  | 1 => ("DriftStore$Tokens", "places", "[I", true)
  | 2 => ("DriftStore$Tokens", "numbers", "[I", true)
  | _ => ("DriftStore$Tokens", "size", "I", false)
def xty3 : Nat → FieldType := fun k => match k with
  | 0 => .array .int
  | 1 => .array .int
  | 2 => .array .int
  | _ => .int
def xT4 : u_T := fun k => match k with
  | 0 => ("DriftStore$History", "writes", "[LDriftStore$Write;", true)
  | 1 => ("DriftStore$History", "commits", "[I", true)
  | 2 => ("DriftStore$History", "taken", "I", false)
  | _ => ("DriftStore$History", "committed", "I", false)
def xty4 : Nat → FieldType := fun k => match k with
  | 0 => .array (.object "DriftStore$Write")
  | 1 => .array .int
  | 2 => .int
  | _ => .int
def xT5 : u_T := fun k => match k with
  | 0 => ("DriftStore$Machine", "values", "[I", true)
  | 1 => ("DriftStore$Machine", "targets", "[I", true)
  | 2 => ("DriftStore$Machine", "sums", "[I", true)
  | 3 => ("DriftStore$Machine", "depth", "I", false)
  | 4 => ("DriftStore$Machine", "effects", "I", false)
  | _ => ("DriftStore$Machine", "holds", "Z", false)
def xty5 : Nat → FieldType := fun k => match k with
  | 0 => .array .int
  | 1 => .array .int
  | 2 => .array .int
  | 3 => .int
  | 4 => .int
  | _ => .boolean
def xT6 : u_T := fun k => match k with
  | 0 => ("DriftStore$Server", "history", "LDriftStore$History;", true)
  | 1 => ("DriftStore$Server", "machine", "LDriftStore$Machine;", true)
  | 2 => ("DriftStore$Server", "vector", "[I", true)
  | 3 => ("DriftStore$Server", "known", "[Z", true)
  | 4 => ("DriftStore$Server", "tentative", "[I", true)
  | 5 => ("DriftStore$Server", "committedCells", "[I", true)
  | 6 => ("DriftStore$Server", "cells", "[I", true)
  | 7 => ("DriftStore$Server", "outcomes", "[I", true)
  | 8 => ("DriftStore$Server", "clock", "I", false)
  | 9 => ("DriftStore$Server", "committed", "I", false)
  | 10 => ("DriftStore$Server", "forgotten", "I", false)
  | 11 => ("DriftStore$Server", "tentatives", "I", false)
  | _ => ("DriftStore$Server", "done", "I", false)
def xty6 : Nat → FieldType := fun k => match k with
  | 0 => .object "DriftStore$History"
  | 1 => .object "DriftStore$Machine"
  | 2 => .array .int
  | 3 => .array .boolean
  | 4 => .array .int
  | 5 => .array .int
  | 6 => .array .int
  | 7 => .array .int
  | 8 => .int
  | 9 => .int
  | 10 => .int
  | 11 => .int
  | _ => .int
def xT7 : u_T := fun k => match k with
  | 0 => ("DriftStore$Session", "readVector", "[I", true)
  | 1 => ("DriftStore$Session", "writeVector", "[I", true)
  | _ => ("DriftStore$Session", "assurances", "I", false)
def xty7 : Nat → FieldType := fun k => match k with
  | 0 => .array .int
  | 1 => .array .int
  | _ => .int
def xT8 : u_T := fun k => match k with
  | 0 => ("DriftStore$Program", "steps", "[I", true)
  | _ => ("DriftStore$Program", "operands", "[I", true)
def xty8 : Nat → FieldType := fun k => match k with
  | 0 => .array .int
  | _ => .array .int
def xT9 : u_T := fun k => match k with
  | 0 => ("DriftStore$Write", "server", "I", true)
  | 1 => ("DriftStore$Write", "stamp", "I", true)
  | 2 => ("DriftStore$Write", "program", "LDriftStore$Program;", true)
  | _ => ("DriftStore$Write", "place", "I", false)
def xty9 : Nat → FieldType := fun k => match k with
  | 0 => .int
  | 1 => .int
  | 2 => .object "DriftStore$Program"
  | _ => .int
def xT10 : u_T := fun k => match k with
  | 0 => ("DriftStoreModel", "tape", "[B", true)
  | 1 => ("DriftStoreModel", "tapeMany", "I", false)
  | 2 => ("DriftStoreModel", "server", "[I", true)
  | 3 => ("DriftStoreModel", "stamp", "[I", true)
  | 4 => ("DriftStoreModel", "rank", "[I", true)
  | 5 => ("DriftStoreModel", "byRank", "[I", true)
  | 6 => ("DriftStoreModel", "what", "[[I", true)
  | 7 => ("DriftStoreModel", "writes", "I", false)
  | 8 => ("DriftStoreModel", "ranks", "I", false)
  | 9 => ("DriftStoreModel", "knows", "[[Z", true)
  | 10 => ("DriftStoreModel", "clock", "[I", true)
  | 11 => ("DriftStoreModel", "committed", "[I", true)
  | 12 => ("DriftStoreModel", "forgotten", "[I", true)
  | 13 => ("DriftStoreModel", "bits", "[I", true)
  | 14 => ("DriftStoreModel", "reads", "[[I", true)
  | 15 => ("DriftStoreModel", "writing", "[[I", true)
  | 16 => ("DriftStoreModel", "latest", "[I", false)
  | 17 => ("DriftStoreModel", "at", "I", false)
  | 18 => ("DriftStoreModel", "size", "I", false)
  | 19 => ("DriftStoreModel", "kind", "I", false)
  | 20 => ("DriftStoreModel", "from", "I", false)
  | 21 => ("DriftStoreModel", "to", "I", false)
  | 22 => ("DriftStoreModel", "fault", "I", false)
  | 23 => ("DriftStoreModel", "parts", "I", false)
  | 24 => ("DriftStoreModel", "number", "J", false)
  | 25 => ("DriftStoreModel", "code", "[I", true)
  | 26 => ("DriftStoreModel", "many", "I", false)
  | 27 => ("DriftStoreModel", "cells", "[I", true)
  | 28 => ("DriftStoreModel", "stack", "[I", true)
  | 29 => ("DriftStoreModel", "found", "[I", true)
  | 30 => ("DriftStoreModel", "goal", "[I", true)
  | 31 => ("DriftStoreModel", "pc", "I", false)
  | 32 => ("DriftStoreModel", "order", "[I", true)
  | _ => ("DriftStoreModel", "ordered", "I", false)
def xty10 : Nat → FieldType := fun k => match k with
  | 0 => .array .byte
  | 1 => .int
  | 2 => .array .int
  | 3 => .array .int
  | 4 => .array .int
  | 5 => .array .int
  | 6 => .array (.array .int)
  | 7 => .int
  | 8 => .int
  | 9 => .array (.array .boolean)
  | 10 => .array .int
  | 11 => .array .int
  | 12 => .array .int
  | 13 => .array .int
  | 14 => .array (.array .int)
  | 15 => .array (.array .int)
  | 16 => .array .int
  | 17 => .int
  | 18 => .int
  | 19 => .int
  | 20 => .int
  | 21 => .int
  | 22 => .int
  | 23 => .int
  | 24 => .long
  | 25 => .array .int
  | 26 => .int
  | 27 => .array .int
  | 28 => .array .int
  | 29 => .array .int
  | 30 => .array .int
  | 31 => .int
  | 32 => .array .int
  | _ => .int
abbrev xcl : List vw_C := [("DriftStore", xT0, 6), ("DriftStore$Tape", xT1, 2), ("DriftStore$Compiler", xT2, 8), ("DriftStore$Tokens", xT3, 4), ("DriftStore$History", xT4, 4), ("DriftStore$Machine", xT5, 6), ("DriftStore$Server", xT6, 13), ("DriftStore$Session", xT7, 3), ("DriftStore$Program", xT8, 2), ("DriftStore$Write", xT9, 4), ("DriftStoreModel", xT10, 34)]
def xtyL : List (Nat → FieldType) := [xty0, xty1, xty2, xty3, xty4, xty5, xty6, xty7, xty8, xty9, xty10]
def xtyOf (ci : Nat) : Nat → FieldType := xtyL.getD ci xty0
def xdefL : List (List Value) := [[.null, .null, .null, .null, .null, .null], [.null, .int 0], [.null, .null, .null, .null, .int 0, .int 0, .int 0, .int 0], [.null, .null, .null, .int 0], [.null, .null, .int 0, .int 0], [.null, .null, .null, .int 0, .int 0, .int 0], [.null, .null, .null, .null, .null, .null, .null, .null, .int 0, .int 0, .int 0, .int 0, .int 0], [.null, .null, .int 0], [.null, .null], [.int 0, .int 0, .null, .int 0], [.null, .int 0, .null, .null, .null, .null, .null, .int 0, .int 0, .null, .null, .null, .null, .null, .null, .null, .null, .int 0, .int 0, .int 0, .int 0, .int 0, .int 0, .int 0, .long 0, .null, .int 0, .null, .null, .null, .null, .int 0, .null, .int 0]]
def xdef (ci : Nat) : List Value := xdefL.getD ci []
def xonL : List String := ["DriftStore", "DriftStore$Tape", "DriftStore$Compiler", "DriftStore$Tokens", "DriftStore$History", "DriftStore$Machine", "DriftStore$Server", "DriftStore$Session", "DriftStore$Program", "DriftStore$Write", "DriftStoreModel", "java/util/Arrays", "DriftStoreLaw"]
def xon (o : Nat) : String := xonL.getD o ""
theorem xin0 : ∀ w ∈ u_ws "DriftStore" xT0 6, w ∈ lw_tbl := by
  intro w hw
  have h : u_ws "DriftStore" xT0 6 = [275, 277, 279, 281, 283, 285].filterMap (fun i => lw_tbl[i]?) := by decide +kernel
  rw [h] at hw
  obtain ⟨i, -, hi⟩ := List.mem_filterMap.mp hw
  exact List.mem_of_getElem? hi
theorem xnm0 : ∀ a, a < 6 → ∀ b, b < 6 → a ≠ b → (xT0 a).2.1 ≠ (xT0 b).2.1 := by decide +kernel
theorem xtk0 : ∀ k, k < 6 → parseFieldDescriptor (xT0 k).2.2.1 = some (xty0 k) := by decide +kernel
theorem xin1 : ∀ w ∈ u_ws "DriftStore$Tape" xT1 2, w ∈ lw_tbl := by
  intro w hw
  have h : u_ws "DriftStore$Tape" xT1 2 = [84, 86].filterMap (fun i => lw_tbl[i]?) := by decide +kernel
  rw [h] at hw
  obtain ⟨i, -, hi⟩ := List.mem_filterMap.mp hw
  exact List.mem_of_getElem? hi
theorem xnm1 : ∀ a, a < 2 → ∀ b, b < 2 → a ≠ b → (xT1 a).2.1 ≠ (xT1 b).2.1 := by decide +kernel
theorem xtk1 : ∀ k, k < 2 → parseFieldDescriptor (xT1 k).2.2.1 = some (xty1 k) := by decide +kernel
theorem xin2 : ∀ w ∈ u_ws "DriftStore$Compiler" xT2 8, w ∈ lw_tbl := by
  intro w hw
  have h : u_ws "DriftStore$Compiler" xT2 8 = [127, 129, 131, 133, 135, 137, 139, 141].filterMap (fun i => lw_tbl[i]?) := by decide +kernel
  rw [h] at hw
  obtain ⟨i, -, hi⟩ := List.mem_filterMap.mp hw
  exact List.mem_of_getElem? hi
theorem xnm2 : ∀ a, a < 8 → ∀ b, b < 8 → a ≠ b → (xT2 a).2.1 ≠ (xT2 b).2.1 := by decide +kernel
theorem xtk2 : ∀ k, k < 8 → parseFieldDescriptor (xT2 k).2.2.1 = some (xty2 k) := by decide +kernel
theorem xin3 : ∀ w ∈ u_ws "DriftStore$Tokens" xT3 4, w ∈ lw_tbl := by
  intro w hw
  have h : u_ws "DriftStore$Tokens" xT3 4 = [110, 112, 114, 116].filterMap (fun i => lw_tbl[i]?) := by decide +kernel
  rw [h] at hw
  obtain ⟨i, -, hi⟩ := List.mem_filterMap.mp hw
  exact List.mem_of_getElem? hi
theorem xnm3 : ∀ a, a < 4 → ∀ b, b < 4 → a ≠ b → (xT3 a).2.1 ≠ (xT3 b).2.1 := by decide +kernel
theorem xtk3 : ∀ k, k < 4 → parseFieldDescriptor (xT3 k).2.2.1 = some (xty3 k) := by decide +kernel
theorem xin4 : ∀ w ∈ u_ws "DriftStore$History" xT4 4, w ∈ lw_tbl := by
  intro w hw
  have h : u_ws "DriftStore$History" xT4 4 = [160, 162, 164, 166].filterMap (fun i => lw_tbl[i]?) := by decide +kernel
  rw [h] at hw
  obtain ⟨i, -, hi⟩ := List.mem_filterMap.mp hw
  exact List.mem_of_getElem? hi
theorem xnm4 : ∀ a, a < 4 → ∀ b, b < 4 → a ≠ b → (xT4 a).2.1 ≠ (xT4 b).2.1 := by decide +kernel
theorem xtk4 : ∀ k, k < 4 → parseFieldDescriptor (xT4 k).2.2.1 = some (xty4 k) := by decide +kernel
theorem xin5 : ∀ w ∈ u_ws "DriftStore$Machine" xT5 6, w ∈ lw_tbl := by
  intro w hw
  have h : u_ws "DriftStore$Machine" xT5 6 = [181, 183, 185, 187, 189, 191].filterMap (fun i => lw_tbl[i]?) := by decide +kernel
  rw [h] at hw
  obtain ⟨i, -, hi⟩ := List.mem_filterMap.mp hw
  exact List.mem_of_getElem? hi
theorem xnm5 : ∀ a, a < 6 → ∀ b, b < 6 → a ≠ b → (xT5 a).2.1 ≠ (xT5 b).2.1 := by decide +kernel
theorem xtk5 : ∀ k, k < 6 → parseFieldDescriptor (xT5 k).2.2.1 = some (xty5 k) := by decide +kernel
theorem xin6 : ∀ w ∈ u_ws "DriftStore$Server" xT6 13, w ∈ lw_tbl := by
  intro w hw
  have h : u_ws "DriftStore$Server" xT6 13 = [221, 223, 225, 227, 229, 231, 233, 235, 237, 239, 241, 243, 245].filterMap (fun i => lw_tbl[i]?) := by decide +kernel
  rw [h] at hw
  obtain ⟨i, -, hi⟩ := List.mem_filterMap.mp hw
  exact List.mem_of_getElem? hi
theorem xnm6 : ∀ a, a < 13 → ∀ b, b < 13 → a ≠ b → (xT6 a).2.1 ≠ (xT6 b).2.1 := by decide +kernel
theorem xtk6 : ∀ k, k < 13 → parseFieldDescriptor (xT6 k).2.2.1 = some (xty6 k) := by decide +kernel
theorem xin7 : ∀ w ∈ u_ws "DriftStore$Session" xT7 3, w ∈ lw_tbl := by
  intro w hw
  have h : u_ws "DriftStore$Session" xT7 3 = [262, 264, 266].filterMap (fun i => lw_tbl[i]?) := by decide +kernel
  rw [h] at hw
  obtain ⟨i, -, hi⟩ := List.mem_filterMap.mp hw
  exact List.mem_of_getElem? hi
theorem xnm7 : ∀ a, a < 3 → ∀ b, b < 3 → a ≠ b → (xT7 a).2.1 ≠ (xT7 b).2.1 := by decide +kernel
theorem xtk7 : ∀ k, k < 3 → parseFieldDescriptor (xT7 k).2.2.1 = some (xty7 k) := by decide +kernel
theorem xin8 : ∀ w ∈ u_ws "DriftStore$Program" xT8 2, w ∈ lw_tbl := by
  intro w hw
  have h : u_ws "DriftStore$Program" xT8 2 = [470, 472].filterMap (fun i => lw_tbl[i]?) := by decide +kernel
  rw [h] at hw
  obtain ⟨i, -, hi⟩ := List.mem_filterMap.mp hw
  exact List.mem_of_getElem? hi
theorem xnm8 : ∀ a, a < 2 → ∀ b, b < 2 → a ≠ b → (xT8 a).2.1 ≠ (xT8 b).2.1 := by decide +kernel
theorem xtk8 : ∀ k, k < 2 → parseFieldDescriptor (xT8 k).2.2.1 = some (xty8 k) := by decide +kernel
theorem xin9 : ∀ w ∈ u_ws "DriftStore$Write" xT9 4, w ∈ lw_tbl := by
  intro w hw
  have h : u_ws "DriftStore$Write" xT9 4 = [520, 522, 524, 526].filterMap (fun i => lw_tbl[i]?) := by decide +kernel
  rw [h] at hw
  obtain ⟨i, -, hi⟩ := List.mem_filterMap.mp hw
  exact List.mem_of_getElem? hi
theorem xnm9 : ∀ a, a < 4 → ∀ b, b < 4 → a ≠ b → (xT9 a).2.1 ≠ (xT9 b).2.1 := by decide +kernel
theorem xtk9 : ∀ k, k < 4 → parseFieldDescriptor (xT9 k).2.2.1 = some (xty9 k) := by decide +kernel
theorem xin10 : ∀ w ∈ u_ws "DriftStoreModel" xT10 34, w ∈ lw_tbl := by
  intro w hw
  have h : u_ws "DriftStoreModel" xT10 34 = [735, 737, 739, 741, 743, 745, 747, 749, 751, 753, 755, 757, 759, 761, 763, 765, 767, 769, 771, 773, 775, 777, 779, 781, 783, 785, 787, 789, 791, 793, 795, 797, 799, 801].filterMap (fun i => lw_tbl[i]?) := by decide +kernel
  rw [h] at hw
  obtain ⟨i, -, hi⟩ := List.mem_filterMap.mp hw
  exact List.mem_of_getElem? hi
theorem xnm10 : ∀ a, a < 34 → ∀ b, b < 34 → a ≠ b → (xT10 a).2.1 ≠ (xT10 b).2.1 := by decide +kernel
theorem xtk10 : ∀ k, k < 34 → parseFieldDescriptor (xT10 k).2.2.1 = some (xty10 k) := by decide +kernel
/-- a method: its name, code, locals, answer, own class, parameters, the place of its word -/
abbrev xMR : Type := MethodName × ByteArray × Nat × Option FieldType × Nat × Nat × Nat
def xTab : List xMR := [(⟨"DriftStore", "<init>", "()V"⟩, prog_1_method_1_code, 3, none, 0, 0, 69),
  (⟨"DriftStore", "feed", "(IIIII)I"⟩, prog_1_method_2_code, 6, (some .int), 0, 5, 291),
  (⟨"DriftStore", "end", "(I)I"⟩, prog_1_method_3_code, 2, (some .int), 0, 1, 299),
  (⟨"DriftStore", "program", "()I"⟩, prog_1_method_4_code, 2, (some .int), 0, 0, 303),
  (⟨"DriftStore", "isCell", "(I)Z"⟩, prog_1_method_20_code, 1, (some .boolean), 0, 1, 431),
  (⟨"DriftStore", "write", "(III)I"⟩, prog_1_method_5_code, 8, (some .int), 0, 3, 479),
  (⟨"DriftStore", "isServer", "(I)Z"⟩, prog_1_method_18_code, 1, (some .boolean), 0, 1, 482),
  (⟨"DriftStore", "isSession", "(I)Z"⟩, prog_1_method_19_code, 1, (some .boolean), 0, 1, 485),
  (⟨"DriftStore", "read", "(IIIZ)J"⟩, prog_1_method_6_code, 7, (some .long), 0, 4, 545),
  (⟨"DriftStore", "assure", "(IIZ)I"⟩, prog_1_method_7_code, 6, (some .int), 0, 3, 602),
  (⟨"DriftStore", "commit", "(I)I"⟩, prog_1_method_8_code, 5, (some .int), 0, 1, 613),
  (⟨"DriftStore", "meet", "(III)I"⟩, prog_1_method_9_code, 7, (some .int), 0, 3, 631),
  (⟨"DriftStore", "forget", "(II)I"⟩, prog_1_method_10_code, 4, (some .int), 0, 2, 649),
  (⟨"DriftStore", "cell", "(IIZ)J"⟩, prog_1_method_11_code, 4, (some .long), 0, 3, 653),
  (⟨"DriftStore", "order", "(II)I"⟩, prog_1_method_12_code, 3, (some .int), 0, 2, 657),
  (⟨"DriftStore", "outcome", "(II)I"⟩, prog_1_method_13_code, 3, (some .int), 0, 2, 665),
  (⟨"DriftStore", "look", "(II)I"⟩, prog_1_method_14_code, 4, (some .int), 0, 2, 677),
  (⟨"DriftStore", "stamp", "(III)I"⟩, prog_1_method_15_code, 4, (some .int), 0, 3, 681),
  (⟨"DriftStore", "count", "(II)I"⟩, prog_1_method_16_code, 4, (some .int), 0, 2, 685),
  (⟨"DriftStore", "writes", "()I"⟩, prog_1_method_17_code, 1, (some .int), 0, 0, 689),
  (⟨"DriftStore$Tape", "<init>", "()V"⟩, prog_9_method_1_code, 1, none, 1, 0, 77),
  (⟨"DriftStore$Tape", "addInt", "(I)V"⟩, prog_9_method_2_code, 3, none, 1, 1, 295),
  (⟨"DriftStore$Compiler", "<init>", "(LDriftStore$Tape;)V"⟩, prog_2_method_1_code, 2, none, 2, 1, 94),
  (⟨"DriftStore$Compiler", "compile", "()I"⟩, prog_2_method_2_code, 3, (some .int), 2, 0, 307),
  (⟨"DriftStore$Compiler", "accept", "(I)Z"⟩, prog_2_method_11_code, 2, (some .boolean), 2, 1, 396),
  (⟨"DriftStore$Compiler", "parseTest", "()V"⟩, prog_2_method_4_code, 4, none, 2, 0, 400),
  (⟨"DriftStore$Compiler", "parseSum", "(I)V"⟩, prog_2_method_6_code, 5, none, 2, 1, 404),
  (⟨"DriftStore$Compiler", "parseTerm", "(I)V"⟩, prog_2_method_7_code, 4, none, 2, 1, 408),
  (⟨"DriftStore$Compiler", "parsePart", "(I)V"⟩, prog_2_method_8_code, 3, none, 2, 1, 412),
  (⟨"DriftStore$Compiler", "require", "(I)V"⟩, prog_2_method_12_code, 2, none, 2, 1, 416),
  (⟨"DriftStore$Compiler", "fail", "()V"⟩, prog_2_method_13_code, 1, none, 2, 0, 420),
  (⟨"DriftStore$Compiler", "kind", "()I"⟩, prog_2_method_10_code, 1, (some .int), 2, 0, 424),
  (⟨"DriftStore$Compiler", "parseCellNumber", "()I"⟩, prog_2_method_9_code, 2, (some .int), 2, 0, 428),
  (⟨"DriftStore$Compiler", "emit", "(II)V"⟩, prog_2_method_14_code, 3, none, 2, 2, 435),
  (⟨"DriftStore$Compiler", "parseEffects", "()V"⟩, prog_2_method_5_code, 4, none, 2, 0, 439),
  (⟨"DriftStore$Compiler", "compiled", "()LDriftStore$Program;"⟩, prog_2_method_3_code, 1, (some (.object "DriftStore$Program")), 2, 0, 443),
  (⟨"DriftStore$Tokens", "<init>", "()V"⟩, prog_10_method_1_code, 1, none, 3, 0, 100),
  (⟨"DriftStore$Tokens", "scan", "(LDriftStore$Tape;)V"⟩, prog_10_method_2_code, 5, none, 3, 1, 311),
  (⟨"DriftStore$Tokens", "skipBlanks", "(LDriftStore$Tape;I)I"⟩, prog_10_method_3_code, 3, (some .int), 3, 2, 314),
  (⟨"DriftStore$Tokens", "scanToken", "(LDriftStore$Tape;I)I"⟩, prog_10_method_4_code, 5, (some .int), 3, 2, 318),
  (⟨"DriftStore$Tokens", "scanWord", "(LDriftStore$Tape;I)I"⟩, prog_10_method_5_code, 4, (some .int), 3, 2, 322),
  (⟨"DriftStore$Tokens", "kindOfWord", "(LDriftStore$Tape;II)I"⟩, prog_10_method_7_code, 3, (some .int), 3, 3, 325),
  (⟨"DriftStore$Tokens", "spells", "(LDriftStore$Tape;IILjava/lang/String;)Z"⟩, prog_10_method_8_code, 5, (some .boolean), 3, 4, 329),
  (⟨"DriftStore$Tokens", "scanNumber", "(LDriftStore$Tape;I)I"⟩, prog_10_method_6_code, 7, (some .int), 3, 2, 387),
  (⟨"DriftStore$Tokens", "kindOfSign", "(I)I"⟩, prog_10_method_9_code, 1, (some .int), 3, 1, 392),
  (⟨"DriftStore$History", "<init>", "()V"⟩, prog_3_method_1_code, 1, none, 4, 0, 148),
  (⟨"DriftStore$History", "add", "(LDriftStore$Write;)I"⟩, prog_3_method_3_code, 2, (some .int), 4, 1, 532),
  (⟨"DriftStore$History", "commitNext", "(I)V"⟩, prog_3_method_4_code, 2, none, 4, 1, 618),
  (⟨"DriftStore$History", "has", "(I)Z"⟩, prog_3_method_2_code, 2, (some .boolean), 4, 1, 669),
  (⟨"DriftStore$Machine", "<init>", "()V"⟩, prog_5_method_1_code, 1, none, 5, 0, 173),
  (⟨"DriftStore$Machine", "perform", "(LDriftStore$Write;[I)I"⟩, prog_5_method_2_code, 6, (some .int), 5, 2, 570),
  (⟨"DriftStore$Machine", "beginRule", "()V"⟩, prog_5_method_3_code, 1, none, 5, 0, 574),
  (⟨"DriftStore$Machine", "doStep", "(IILDriftStore$Write;[I)V"⟩, prog_5_method_4_code, 5, none, 5, 4, 578),
  (⟨"DriftStore$Machine", "push", "(I)V"⟩, prog_5_method_8_code, 2, none, 5, 1, 582),
  (⟨"DriftStore$Machine", "keepEffect", "(I)V"⟩, prog_5_method_6_code, 3, none, 5, 1, 586),
  (⟨"DriftStore$Machine", "pop", "()I"⟩, prog_5_method_9_code, 1, (some .int), 5, 0, 590),
  (⟨"DriftStore$Machine", "combine", "(I)V"⟩, prog_5_method_5_code, 4, none, 5, 1, 594),
  (⟨"DriftStore$Machine", "changeCells", "([I)V"⟩, prog_5_method_7_code, 3, none, 5, 1, 598),
  (⟨"DriftStore$Server", "<init>", "(LDriftStore$History;LDriftStore$Machine;)V"⟩, prog_7_method_1_code, 3, none, 6, 2, 199),
  (⟨"DriftStore$Server", "learn", "(I)V"⟩, prog_7_method_2_code, 4, none, 6, 1, 536),
  (⟨"DriftStore$Server", "valueOf", "(IZ)I"⟩, prog_7_method_9_code, 3, (some .int), 6, 2, 561),
  (⟨"DriftStore$Server", "catchUp", "()V"⟩, prog_7_method_10_code, 3, none, 6, 0, 565),
  (⟨"DriftStore$Server", "learnNextCommit", "()V"⟩, prog_7_method_3_code, 2, none, 6, 0, 622),
  (⟨"DriftStore$Server", "removeTentative", "(I)V"⟩, prog_7_method_11_code, 3, none, 6, 1, 627),
  (⟨"DriftStore$Server", "learnForgotten", "(I)V"⟩, prog_7_method_4_code, 3, none, 6, 1, 635),
  (⟨"DriftStore$Server", "learnCommits", "(LDriftStore$Server;I)I"⟩, prog_7_method_5_code, 5, (some .int), 6, 2, 640),
  (⟨"DriftStore$Server", "learnTentative", "(LDriftStore$Server;I)I"⟩, prog_7_method_6_code, 5, (some .int), 6, 2, 645),
  (⟨"DriftStore$Server", "writeAt", "(I)I"⟩, prog_7_method_7_code, 2, (some .int), 6, 1, 661),
  (⟨"DriftStore$Server", "outcomeOf", "(I)I"⟩, prog_7_method_8_code, 2, (some .int), 6, 1, 673),
  (⟨"DriftStore$Session", "<init>", "()V"⟩, prog_8_method_1_code, 1, none, 7, 0, 254),
  (⟨"DriftStore$Session", "mayWriteAt", "(LDriftStore$Server;)Z"⟩, prog_8_method_2_code, 2, (some .boolean), 7, 1, 490),
  (⟨"DriftStore$Session", "assures", "(I)Z"⟩, prog_8_method_6_code, 2, (some .boolean), 7, 1, 494),
  (⟨"DriftStore$Session", "isAtLeast", "([I[I)Z"⟩, prog_8_method_7_code, 3, (some .boolean), 7, 2, 497),
  (⟨"DriftStore$Session", "mayReadAt", "(LDriftStore$Server;)Z"⟩, prog_8_method_3_code, 2, (some .boolean), 7, 1, 551),
  (⟨"DriftStore$Session", "hasReadAt", "(LDriftStore$Server;)V"⟩, prog_8_method_4_code, 3, none, 7, 1, 556),
  (⟨"DriftStore$Session", "clearVectors", "()V"⟩, prog_8_method_5_code, 1, none, 7, 0, 606),
  (⟨"DriftStore$Program", "<init>", "([I[I)V"⟩, prog_6_method_1_code, 3, none, 8, 2, 464),
  (⟨"DriftStore$Write", "<init>", "(IILDriftStore$Program;)V"⟩, prog_11_method_1_code, 4, none, 9, 3, 505),
  (⟨"DriftStore$Write", "comesBefore", "(LDriftStore$Write;)Z"⟩, prog_11_method_2_code, 2, (some .boolean), 9, 1, 541),
  (⟨"DriftStoreModel", "<init>", "()V"⟩, prog_13_method_2_code, 1, none, 10, 0, 694),
  (⟨"DriftStoreModel", "feed", "(IIIII)I"⟩, prog_13_method_3_code, 8, (some .int), 10, 5, 807),
  (⟨"DriftStoreModel", "end", "(I)I"⟩, prog_13_method_4_code, 2, (some .int), 10, 1, 811),
  (⟨"DriftStoreModel", "in", "(JJJ)Z"⟩, prog_13_method_1_code, 6, (some .boolean), 10, 3, 814),
  (⟨"DriftStoreModel", "program", "()I"⟩, prog_13_method_12_code, 2, (some .int), 10, 0, 818),
  (⟨"DriftStoreModel", "step", "()V"⟩, prog_13_method_7_code, 3, none, 10, 0, 822),
  (⟨"DriftStoreModel", "isLetter", "(I)Z"⟩, prog_13_method_5_code, 1, (some .boolean), 10, 1, 825),
  (⟨"DriftStoreModel", "is", "(Ljava/lang/String;)Z"⟩, prog_13_method_8_code, 3, (some .boolean), 10, 1, 830),
  (⟨"DriftStoreModel", "isDigit", "(I)Z"⟩, prog_13_method_6_code, 1, (some .boolean), 10, 1, 841),
  (⟨"DriftStoreModel", "rule", "()Z"⟩, prog_13_method_13_code, 4, (some .boolean), 10, 0, 852),
  (⟨"DriftStoreModel", "bad", "()Z"⟩, prog_13_method_9_code, 1, (some .boolean), 10, 0, 856),
  (⟨"DriftStoreModel", "put", "(I)V"⟩, prog_13_method_11_code, 2, none, 10, 1, 860),
  (⟨"DriftStoreModel", "compare", "()Z"⟩, prog_13_method_15_code, 2, (some .boolean), 10, 0, 864),
  (⟨"DriftStoreModel", "whole", "()Z"⟩, prog_13_method_16_code, 1, (some .boolean), 10, 0, 868),
  (⟨"DriftStoreModel", "sum", "(I)Z"⟩, prog_13_method_17_code, 3, (some .boolean), 10, 1, 872),
  (⟨"DriftStoreModel", "term", "(I)Z"⟩, prog_13_method_18_code, 2, (some .boolean), 10, 1, 876),
  (⟨"DriftStoreModel", "part", "(I)Z"⟩, prog_13_method_19_code, 2, (some .boolean), 10, 1, 880),
  (⟨"DriftStoreModel", "take", "(Ljava/lang/String;)Z"⟩, prog_13_method_10_code, 2, (some .boolean), 10, 1, 886),
  (⟨"DriftStoreModel", "cell", "()Z"⟩, prog_13_method_14_code, 1, (some .boolean), 10, 0, 890),
  (⟨"DriftStoreModel", "write", "(III)I"⟩, prog_13_method_30_code, 4, (some .int), 10, 3, 905),
  (⟨"DriftStoreModel", "isAtLeast", "(I[I)Z"⟩, prog_13_method_28_code, 4, (some .boolean), 10, 2, 912),
  (⟨"DriftStoreModel", "vector", "(II)I"⟩, prog_13_method_27_code, 5, (some .int), 10, 2, 916),
  (⟨"DriftStoreModel", "read", "(IIIZ)J"⟩, prog_13_method_31_code, 6, (some .long), 10, 4, 921),
  (⟨"DriftStoreModel", "cell", "(IIZ)J"⟩, prog_13_method_36_code, 4, (some .long), 10, 3, 927),
  (⟨"DriftStoreModel", "run", "(IZ)V"⟩, prog_13_method_26_code, 5, none, 10, 2, 931),
  (⟨"DriftStoreModel", "arrange", "(I)V"⟩, prog_13_method_25_code, 4, none, 10, 1, 935),
  (⟨"DriftStoreModel", "isCommitted", "(II)Z"⟩, prog_13_method_23_code, 3, (some .boolean), 10, 2, 939),
  (⟨"DriftStoreModel", "isBefore", "(II)Z"⟩, prog_13_method_24_code, 3, (some .boolean), 10, 2, 943),
  (⟨"DriftStoreModel", "perform", "(I)I"⟩, prog_13_method_22_code, 6, (some .int), 10, 1, 948),
  (⟨"DriftStoreModel", "holds", "(I)Z"⟩, prog_13_method_21_code, 9, (some .boolean), 10, 1, 952),
  (⟨"DriftStoreModel", "value", "(I)I"⟩, prog_13_method_20_code, 5, (some .int), 10, 1, 956),
  (⟨"DriftStoreModel", "assure", "(IIZ)I"⟩, prog_13_method_32_code, 5, (some .int), 10, 3, 960),
  (⟨"DriftStoreModel", "commit", "(I)I"⟩, prog_13_method_33_code, 4, (some .int), 10, 1, 965),
  (⟨"DriftStoreModel", "meet", "(III)I"⟩, prog_13_method_34_code, 7, (some .int), 10, 3, 969),
  (⟨"DriftStoreModel", "learn", "(II)V"⟩, prog_13_method_29_code, 3, none, 10, 2, 973),
  (⟨"DriftStoreModel", "forget", "(II)I"⟩, prog_13_method_35_code, 3, (some .int), 10, 2, 977),
  (⟨"DriftStoreModel", "order", "(II)I"⟩, prog_13_method_37_code, 3, (some .int), 10, 2, 982),
  (⟨"DriftStoreModel", "outcome", "(II)I"⟩, prog_13_method_38_code, 5, (some .int), 10, 2, 986),
  (⟨"DriftStoreModel", "look", "(II)I"⟩, prog_13_method_39_code, 3, (some .int), 10, 2, 990),
  (⟨"DriftStoreModel", "stamp", "(III)I"⟩, prog_13_method_40_code, 4, (some .int), 10, 3, 995),
  (⟨"DriftStoreModel", "count", "(II)I"⟩, prog_13_method_41_code, 5, (some .int), 10, 2, 999),
  (⟨"DriftStoreModel", "writes", "()I"⟩, prog_13_method_42_code, 1, (some .int), 10, 0, 1004),
  (⟨"java/util/Arrays", "copyOf", "([II)[I"⟩, prog_20_method_123_code, 3, (some (.array .int)), 11, 2, 448),
  (⟨"java/util/Arrays", "fill", "([II)V"⟩, prog_20_method_103_code, 4, none, 11, 2, 609),
  (⟨"DriftStoreLaw", "law", "([I)Z"⟩, code, 4, (some .boolean), 12, 1, 0)]
def xRow (mi : Nat) : xMR := xTab.getD mi (⟨"", "", ""⟩, code, 0, none, 0, 0, 0)
def xP (mi : Nat) := (xRow mi).2.2.2.2.2.2
def xY (mi : Nat) := (xRow mi).1
def xB (mi : Nat) := (xRow mi).2.1
def xM (mi : Nat) := (xRow mi).2.2.1
def xT (mi : Nat) := (xRow mi).2.2.2.1
def xO (mi : Nat) := (xRow mi).2.2.2.2.1
def xA (mi : Nat) := (xRow mi).2.2.2.2.2.1
/-- a field link: own class, place in its pool, the class that has the field, its number; by the nest; the place of its word -/
def xFt : List (Nat × Nat × Nat × Nat × Nat × Nat) := [(1, 9, 1, 0, 0, 79), (3, 39, 1, 0, 1, 80), (1, 15, 1, 1, 0, 81), (0, 55, 1, 1, 1, 82), (3, 34, 1, 1, 1, 83), (3, 9, 3, 0, 0, 102), (2, 104, 3, 0, 1, 103), (3, 15, 3, 1, 0, 104), (2, 108, 3, 1, 1, 105), (3, 18, 3, 2, 0, 106), (2, 98, 3, 2, 1, 107), (3, 21, 3, 3, 0, 108), (2, 107, 3, 3, 1, 109), (2, 38, 2, 0, 0, 119), (2, 14, 2, 1, 0, 120), (2, 18, 2, 2, 0, 121), (2, 22, 2, 3, 0, 122), (2, 25, 2, 4, 0, 123), (2, 29, 2, 5, 0, 124), (2, 32, 2, 6, 0, 125), (2, 35, 2, 7, 0, 126), (4, 11, 4, 0, 0, 152), (6, 55, 4, 0, 1, 153), (0, 176, 4, 0, 1, 154), (4, 17, 4, 1, 0, 155), (6, 79, 4, 1, 1, 156), (4, 21, 4, 2, 0, 157), (0, 79, 4, 2, 1, 158), (4, 25, 4, 3, 0, 159), (5, 9, 5, 0, 0, 175), (5, 13, 5, 1, 0, 176), (5, 16, 5, 2, 0, 177), (5, 19, 5, 3, 0, 178), (5, 23, 5, 4, 0, 179), (5, 26, 5, 5, 0, 180), (6, 47, 6, 0, 0, 201), (6, 51, 6, 1, 0, 202), (6, 9, 6, 2, 0, 203), (7, 26, 6, 2, 1, 204), (0, 189, 6, 2, 1, 205), (6, 15, 6, 3, 0, 206), (6, 19, 6, 4, 0, 207), (0, 141, 6, 4, 1, 208), (6, 22, 6, 5, 0, 209), (6, 25, 6, 6, 0, 210), (6, 28, 6, 7, 0, 211), (6, 31, 6, 8, 0, 212), (0, 86, 6, 8, 1, 213), (6, 35, 6, 9, 0, 214), (0, 153, 6, 9, 1, 215), (6, 38, 6, 10, 0, 216), (0, 150, 6, 10, 1, 217), (6, 41, 6, 11, 0, 218), (0, 135, 6, 11, 1, 219), (6, 44, 6, 12, 0, 220), (7, 9, 7, 0, 0, 256), (0, 192, 7, 0, 1, 257), (7, 15, 7, 1, 0, 258), (0, 107, 7, 1, 1, 259), (7, 18, 7, 2, 0, 260), (0, 129, 7, 2, 1, 261), (0, 12, 0, 0, 0, 269), (0, 21, 0, 1, 0, 270), (0, 28, 0, 2, 0, 271), (0, 37, 0, 3, 0, 272), (0, 46, 0, 4, 0, 273), (0, 51, 0, 5, 0, 274), (8, 7, 8, 0, 0, 466), (5, 39, 8, 0, 1, 467), (8, 13, 8, 1, 0, 468), (5, 44, 8, 1, 1, 469), (9, 13, 9, 0, 0, 507), (6, 72, 9, 0, 1, 508), (5, 59, 9, 0, 1, 509), (0, 180, 9, 0, 1, 510), (9, 16, 9, 1, 0, 511), (6, 61, 9, 1, 1, 512), (5, 62, 9, 1, 1, 513), (0, 183, 9, 1, 1, 514), (9, 19, 9, 2, 0, 515), (5, 30, 9, 2, 1, 516), (9, 7, 9, 3, 0, 517), (4, 28, 9, 3, 1, 518), (0, 186, 9, 3, 1, 519), (10, 9, 10, 0, 0, 701), (10, 73, 10, 1, 0, 702), (10, 13, 10, 2, 0, 703), (10, 17, 10, 3, 0, 704), (10, 20, 10, 4, 0, 705), (10, 23, 10, 5, 0, 706), (10, 27, 10, 6, 0, 707), (10, 239, 10, 7, 0, 708), (10, 285, 10, 8, 0, 709), (10, 33, 10, 9, 0, 710), (10, 36, 10, 10, 0, 711), (10, 39, 10, 11, 0, 712), (10, 42, 10, 12, 0, 713), (10, 45, 10, 13, 0, 714), (10, 49, 10, 14, 0, 715), (10, 52, 10, 15, 0, 716), (10, 174, 10, 16, 0, 717), (10, 81, 10, 17, 0, 718), (10, 84, 10, 18, 0, 719), (10, 90, 10, 19, 0, 720), (10, 87, 10, 20, 0, 721), (10, 97, 10, 21, 0, 722), (10, 149, 10, 22, 0, 723), (10, 162, 10, 23, 0, 724), (10, 119, 10, 24, 0, 725), (10, 55, 10, 25, 0, 726), (10, 159, 10, 26, 0, 727), (10, 58, 10, 27, 0, 728), (10, 61, 10, 28, 0, 729), (10, 64, 10, 29, 0, 730), (10, 67, 10, 30, 0, 731), (10, 226, 10, 31, 0, 732), (10, 70, 10, 32, 0, 733), (10, 236, 10, 33, 0, 734)]
def xFl (o i : Nat) : Option (Nat × Nat × Nat × Nat × Nat × Nat) := xFt.find? (fun q => q.1 == o && q.2.1 == i)
/-- a call link: own class, place in its pool, kind (0 virtual, 1 static, 2 constructor, 3 and 4 these by the nest, 5 Object(), 6 max, 7 min, 8 min of longs, 9 arraycopy, 10 length, 11 charAt), the method; places of its words -/
def xCt : List (Nat × Nat × Nat × Nat × Nat × Nat × Nat) := [(12, 9, 2, 0, 67, 68, 0), (0, 3, 5, 0, 70, 0, 0), (0, 11, 3, 20, 75, 76, 0), (1, 3, 5, 0, 78, 0, 0), (0, 18, 2, 22, 92, 93, 0), (2, 5, 5, 0, 95, 0, 0), (2, 13, 3, 36, 98, 99, 0), (3, 3, 5, 0, 101, 0, 0), (0, 27, 3, 45, 146, 147, 0), (4, 3, 5, 0, 149, 0, 0), (0, 34, 3, 49, 171, 172, 0), (5, 1, 5, 0, 174, 0, 0), (0, 41, 2, 58, 197, 198, 0), (6, 3, 5, 0, 200, 0, 0), (0, 50, 3, 69, 252, 253, 0), (7, 3, 5, 0, 255, 0, 0), (12, 13, 0, 1, 288, 289, 290), (0, 59, 0, 21, 292, 293, 294), (12, 18, 0, 2, 296, 297, 298), (12, 23, 0, 3, 300, 301, 302), (0, 63, 0, 23, 304, 305, 306), (2, 42, 0, 37, 308, 309, 310), (3, 25, 1, 38, 312, 313, 0), (3, 29, 0, 39, 315, 317, 0), (3, 42, 0, 40, 319, 321, 1), (3, 52, 1, 41, 323, 324, 0), (3, 64, 1, 42, 327, 328, 0), (3, 80, 10, 0, 330, 0, 0), (3, 85, 11, 0, 340, 0, 0), (3, 45, 0, 43, 384, 386, 2), (3, 48, 1, 44, 390, 391, 0), (2, 48, 0, 24, 393, 395, 3), (2, 52, 0, 25, 397, 399, 4), (2, 80, 0, 26, 401, 403, 5), (2, 92, 0, 27, 405, 407, 6), (2, 95, 0, 28, 409, 411, 7), (2, 84, 0, 29, 413, 415, 8), (2, 68, 0, 30, 417, 419, 9), (2, 64, 0, 31, 421, 423, 10), (2, 89, 0, 32, 425, 427, 11), (2, 101, 4, 4, 429, 430, 0), (2, 60, 0, 33, 432, 434, 12), (2, 55, 0, 34, 436, 438, 13), (0, 67, 0, 35, 440, 441, 442), (2, 71, 1, 121, 446, 447, 0), (11, 304, 7, 0, 456, 0, 0), (11, 150, 9, 0, 459, 0, 0), (2, 77, 2, 76, 462, 463, 0), (8, 1, 5, 0, 465, 0, 0), (12, 28, 0, 5, 476, 477, 478), (0, 71, 1, 6, 480, 481, 0), (0, 75, 1, 7, 483, 484, 0), (0, 82, 0, 70, 487, 488, 489), (7, 22, 0, 71, 491, 493, 14), (7, 31, 1, 72, 495, 496, 0), (0, 89, 6, 0, 498, 0, 0), (0, 97, 2, 77, 503, 504, 0), (9, 1, 5, 0, 506, 0, 0), (0, 100, 0, 46, 529, 530, 531), (0, 104, 0, 59, 533, 534, 535), (6, 66, 6, 0, 537, 0, 0), (6, 75, 0, 78, 538, 539, 540), (12, 33, 0, 8, 542, 543, 544), (0, 111, 1, 4, 546, 430, 0), (0, 116, 0, 73, 548, 549, 550), (0, 121, 0, 74, 553, 554, 555), (7, 35, 6, 0, 557, 0, 0), (0, 125, 0, 60, 558, 559, 560), (6, 101, 0, 61, 562, 564, 15), (6, 104, 9, 0, 566, 0, 0), (6, 89, 0, 50, 567, 568, 569), (5, 36, 0, 51, 571, 573, 16), (5, 47, 0, 52, 575, 577, 17), (5, 55, 0, 53, 579, 581, 18), (5, 65, 0, 54, 583, 585, 19), (5, 71, 0, 55, 587, 589, 20), (5, 68, 0, 56, 591, 593, 21), (5, 51, 0, 57, 595, 597, 22), (12, 38, 0, 9, 599, 600, 601), (0, 132, 0, 75, 603, 604, 605), (7, 41, 1, 122, 607, 608, 0), (12, 43, 0, 10, 610, 611, 612), (0, 138, 7, 0, 614, 0, 0), (0, 144, 0, 47, 615, 616, 617), (0, 147, 0, 62, 619, 620, 621), (6, 82, 0, 59, 623, 534, 535), (6, 86, 0, 63, 624, 626, 23), (12, 47, 0, 11, 628, 629, 630), (0, 156, 0, 64, 632, 633, 634), (6, 95, 0, 62, 636, 620, 621), (0, 159, 0, 65, 637, 638, 639), (6, 98, 7, 0, 641, 0, 0), (0, 163, 0, 66, 642, 643, 644), (12, 51, 0, 12, 646, 647, 648), (12, 56, 0, 13, 650, 651, 652), (12, 61, 0, 14, 654, 655, 656), (0, 166, 0, 67, 658, 659, 660), (12, 65, 0, 15, 662, 663, 664), (0, 170, 0, 48, 666, 667, 668), (0, 173, 0, 68, 670, 671, 672), (12, 69, 0, 16, 674, 675, 676), (12, 73, 0, 17, 678, 679, 680), (12, 77, 0, 18, 682, 683, 684), (12, 81, 0, 19, 686, 687, 688), (12, 12, 2, 79, 692, 693, 0), (10, 1, 5, 0, 695, 0, 0), (12, 17, 0, 80, 804, 805, 806), (12, 22, 0, 81, 808, 809, 810), (10, 77, 1, 82, 812, 813, 0), (12, 27, 0, 83, 815, 816, 817), (10, 156, 0, 84, 819, 821, 24), (10, 93, 1, 85, 823, 824, 0), (10, 102, 0, 86, 827, 829, 25), (10, 139, 10, 0, 831, 0, 0), (10, 145, 11, 0, 832, 0, 0), (10, 116, 1, 87, 839, 840, 0), (10, 129, 8, 0, 845, 0, 0), (10, 165, 0, 88, 849, 851, 26), (10, 152, 0, 89, 853, 855, 27), (10, 177, 0, 90, 857, 859, 28), (10, 181, 0, 91, 861, 863, 29), (10, 192, 0, 92, 865, 867, 30), (10, 207, 0, 93, 869, 871, 31), (10, 210, 0, 94, 873, 875, 32), (10, 217, 0, 95, 877, 879, 33), (10, 184, 0, 96, 883, 885, 34), (10, 187, 0, 97, 887, 889, 35), (10, 168, 1, 121, 901, 447, 0), (12, 32, 0, 98, 902, 903, 904), (10, 272, 0, 99, 909, 911, 36), (10, 263, 0, 100, 913, 915, 37), (10, 259, 6, 0, 917, 0, 0), (12, 37, 0, 101, 918, 919, 920), (10, 280, 0, 102, 924, 925, 926), (10, 292, 0, 103, 928, 930, 38), (10, 249, 0, 104, 932, 934, 39), (10, 242, 0, 105, 936, 938, 40), (10, 246, 0, 106, 940, 942, 41), (10, 252, 1, 122, 944, 608, 0), (10, 256, 0, 107, 945, 947, 42), (10, 233, 0, 108, 949, 951, 43), (10, 229, 0, 109, 953, 955, 44), (12, 42, 0, 110, 957, 958, 959), (12, 46, 0, 111, 962, 963, 964), (12, 50, 0, 112, 966, 967, 968), (10, 288, 0, 113, 970, 972, 45), (12, 55, 0, 114, 974, 975, 976), (12, 60, 0, 102, 978, 925, 926), (12, 64, 0, 115, 979, 980, 981), (12, 68, 0, 116, 983, 984, 985), (12, 72, 0, 117, 987, 988, 989), (12, 76, 0, 118, 992, 993, 994), (12, 80, 0, 119, 996, 997, 998), (12, 84, 0, 120, 1001, 1002, 1003)]
def xCl (o i : Nat) : Option (Nat × Nat × Nat × Nat × Nat × Nat × Nat) := xCt.find? (fun q => q.1 == o && q.2.1 == i)
/-- new: own class, place in its pool, the class; places of its words -/
def xKt : List (Nat × Nat × Nat × Nat × Nat × Nat) := [(12, 7, 0, 65, 66, 47), (0, 9, 1, 73, 74, 48), (0, 16, 2, 90, 91, 49), (2, 11, 3, 96, 97, 50), (0, 25, 4, 144, 145, 51), (4, 9, 9, 150, 502, 64), (0, 32, 5, 169, 170, 52), (0, 35, 6, 194, 196, 53), (0, 44, 7, 249, 251, 54), (2, 58, 8, 444, 445, 60), (0, 95, 9, 501, 502, 64), (12, 10, 10, 690, 691, 55)]
def xKl (o i : Nat) : Option (Nat × Nat × Nat × Nat × Nat × Nat) := xKt.find? (fun q => q.1 == o && q.2.1 == i)
/-- anewarray: own class, place in its pool, the kind of array (16, 17: multianewarray of 6, 7); places of its words -/
def xNt : List (Nat × Nat × Nat × Nat × Nat) := [(4, 9, 3, 150, 151), (0, 35, 4, 194, 195), (0, 44, 5, 249, 250), (0, 95, 3, 501, 151), (10, 26, 6, 696, 697), (10, 31, 17, 698, 699), (10, 48, 16, 700, 697)]
def xNl (o i : Nat) : Option (Nat × Nat × Nat × Nat × Nat) := xNt.find? (fun q => q.1 == o && q.2.1 == i)
/-- ldc: own class, place in its pool, kind (0 an int, 1 a text), the int, the number of the text; the place of its word -/
def xDt : List (Nat × Nat × Nat × Int32 × Nat × Nat) := [(3, 62, 1, 0, 0, 326), (3, 68, 1, 0, 1, 378), (3, 70, 1, 0, 2, 379), (3, 72, 1, 0, 3, 380), (3, 74, 1, 0, 4, 381), (3, 76, 1, 0, 5, 382), (3, 78, 1, 0, 6, 383), (0, 78, 0, 1000000000, 0, 486), (10, 100, 1, 0, 1, 826), (10, 106, 1, 0, 2, 833), (10, 108, 1, 0, 3, 834), (10, 110, 1, 0, 4, 835), (10, 112, 1, 0, 5, 836), (10, 113, 1, 0, 6, 837), (10, 114, 1, 0, 0, 838), (10, 222, 1, 0, 7, 881), (10, 224, 1, 0, 8, 882), (10, 220, 1, 0, 9, 892), (10, 213, 1, 0, 10, 893), (10, 215, 1, 0, 11, 894), (10, 199, 1, 0, 12, 895), (10, 201, 1, 0, 13, 896), (10, 203, 1, 0, 14, 897), (10, 205, 1, 0, 15, 898), (10, 190, 1, 0, 16, 899), (10, 195, 1, 0, 17, 900)]
def xDl (o i : Nat) : Option (Nat × Nat × Nat × Int32 × Nat × Nat) := xDt.find? (fun q => q.1 == o && q.2.1 == i)
def xLt : List (Nat × Nat × Int64 × Nat) := [(3, 58, 2147483647, 388), (3, 60, 10, 389), (0, 114, 1099511627776, 547), (0, 119, 1099511627777, 552), (10, 123, 1099511627776, 842), (10, 125, 10, 843), (10, 127, 48, 844), (10, 137, 2147483647, 848), (10, 197, 32, 891), (10, 266, 4, 906), (10, 268, 7, 907), (10, 270, 1000000000, 908), (10, 276, 31, 922), (10, 278, 1099511627777, 923), (10, 283, 15, 961), (10, 296, 2, 991), (10, 298, 3, 1000)]
def xLl (o i : Nat) : Option (Nat × Nat × Int64 × Nat) := xLt.find? (fun q => q.1 == o && q.2.1 == i)
/-- the texts -/
def xSt : List (List Nat) := [[99], [105, 102], [116, 104, 101, 110], [101, 108, 115, 101], [97, 110, 100], [115, 101, 114, 118, 101, 114], [115, 116, 97, 109, 112], [40], [41], [42], [43], [45], [61], [35], [60], [62], [58, 61], [44]]
def xSn : List String := ["c", "if", "then", "else", "and", "server", "stamp", "(", ")", "*", "+", "-", "=", "#", "<", ">", ":=", ","]
def xinL : List Nat := [47, 48, 49, 50, 51, 52, 53, 54, 60, 64, 55, 61, 46]
end
section
/-! ===== THE SMALL MACHINE: an interpreter of this claim's methods. A heap is a function from addresses to cells (an array: its kind, length, contents; an object: its class, its fields). Kinds of arrays: 0 int, 1 boolean, 2 byte, 3 Write, 4 Server, 5 Session, 6 int[], 7 boolean[]. ===== -/
abbrev xE : Type := (Nat × vp_A) ⊕ (Nat × List Value)
abbrev xH : Type := Nat → Option xE
/-- a world: its heap, the next address, the slots that are used -/
abbrev xW : Type := xH × Nat × Nat
abbrev xL : Type := List (Option Value)
/-- a frame: program counter, locals, operand stack, world -/
abbrev xF : Type := Nat × xL × List Value × xW
/-- what an instruction comes to: the next frame; an answer; a call (method, arguments, what stays on the stack) -/
abbrev xR : Type := xF ⊕ ((Option Value × xW) ⊕ (Nat × List Value × List Value))
/-- what never changes: the addresses of the texts, and back; the script: address, length, contents -/
abbrev xG : Type := (Nat → Nat) × (Nat → Option Nat) × (Nat × Nat × (Nat → Int32))
def xlen : Instr → Nat
  | .bipush _ | .iload _ | .lload _ | .aload _ | .istore _ | .lstore _ | .astore _ | .ldc _ | .newarray _ => 2
  | .sipush _ | .ldc2_w _ | .iinc _ _ | .if_icmp _ _ | .ifCond _ _ | .goto _ | .getfield _ | .putfield _ | .invokevirtual _ | .invokespecial _ | .invokestatic _ | .new _ | .anewarray _ | .ifnonnull _ => 3
  | .multianewarray _ _ => 4
  | _ => 1
def xsw : Instr → Bool
  | .tableswitch _ _ _ _ | .lookupswitch _ _ => true
  | _ => false
/-- the instruction at a place of a method -/
def xI (mi pc : Nat) : Option Instr := match decode (xB mi) pc with
  | .ok (i, n) => if n = xlen i ∨ xsw i = true then some i else none
  | .error _ => none
def xup (h : xH) (a : Nat) (e : xE) : xH := fun q => if q = a then some e else h q
/-- a value of one slot laid into a local -/
def xst (L : xL) (i : Nat) (v : Value) : Option xL :=
  if i < L.length then (match (if i = 0 then none else L[i - 1]?) with
    | some (some u) => if u.category = 2 then none else some (L.set i (some v))
    | _ => some (L.set i (some v))) else none
/-- a long laid into two locals -/
def xst2 (L : xL) (i : Nat) (v : Value) : Option xL :=
  if i + 1 < L.length then (match (if i = 0 then none else L[i - 1]?) with
    | some (some u) => if u.category = 2 then none else some ((L.set i (some v)).set (i + 1) none)
    | _ => some ((L.set i (some v)).set (i + 1) none)) else none
def xpush (n : Nat) (v : Value) (pc : Nat) (L : xL) (st : List Value) (w : xW) : Option xR := some (.inl (pc + n, L, v :: st, w))
def xiload (n i pc : Nat) (L : xL) (st : List Value) (w : xW) : Option xR := match L[i]? with
  | some (some (.int v)) => some (.inl (pc + n, L, .int v :: st, w))
  | _ => none
def xlload (n i pc : Nat) (L : xL) (st : List Value) (w : xW) : Option xR := match L[i]? with
  | some (some (.long v)) => some (.inl (pc + n, L, .long v :: st, w))
  | _ => none
def xaload (n i pc : Nat) (L : xL) (st : List Value) (w : xW) : Option xR := match L[i]? with
  | some (some (.ref v)) => some (.inl (pc + n, L, .ref v :: st, w))
  | _ => none
def xistore (n i pc : Nat) (L : xL) (st : List Value) (w : xW) : Option xR := match st with
  | .int v :: r => (xst L i (.int v)).map (fun L' => .inl (pc + n, L', r, w))
  | _ => none
def xlstore (n i pc : Nat) (L : xL) (st : List Value) (w : xW) : Option xR := match st with
  | .long v :: r => (xst2 L i (.long v)).map (fun L' => .inl (pc + n, L', r, w))
  | _ => none
def xastore (n i pc : Nat) (L : xL) (st : List Value) (w : xW) : Option xR := match st with
  | .ref v :: r => (xst L i (.ref v)).map (fun L' => .inl (pc + n, L', r, w))
  | _ => none
def xiinc (i : Nat) (k : Int) (pc : Nat) (L : xL) (st : List Value) (w : xW) : Option xR := match L[i]? with
  | some (some (.int v)) => (xst L i (.int (v + Int32.ofInt k))).map (fun L' => .inl (pc + 3, L', st, w))
  | _ => none
def xbin (f : Int32 → Int32 → Int32) (pc : Nat) (L : xL) (st : List Value) (w : xW) : Option xR := match st with
  | .int y :: .int x :: r => some (.inl (pc + 1, L, .int (f x y) :: r, w))
  | _ => none
def xdiv (f : Int32 → Int32 → Int32) (pc : Nat) (L : xL) (st : List Value) (w : xW) : Option xR := match st with
  | .int y :: .int x :: r => if y = 0 then none else some (.inl (pc + 1, L, .int (f x y) :: r, w))
  | _ => none
def xlbin (f : Int64 → Int64 → Int64) (pc : Nat) (L : xL) (st : List Value) (w : xW) : Option xR := match st with
  | .long y :: .long x :: r => some (.inl (pc + 1, L, .long (f x y) :: r, w))
  | _ => none
def xun (f : Int32 → Value) (pc : Nat) (L : xL) (st : List Value) (w : xW) : Option xR := match st with
  | .int x :: r => some (.inl (pc + 1, L, f x :: r, w))
  | _ => none
def xl2i (pc : Nat) (L : xL) (st : List Value) (w : xW) : Option xR := match st with
  | .long x :: r => some (.inl (pc + 1, L, .int x.toInt32 :: r, w))
  | _ => none
def xlcmp (pc : Nat) (L : xL) (st : List Value) (w : xW) : Option xR := match st with
  | .long y :: .long x :: r => some (.inl (pc + 1, L, .int (lg_cmp x y) :: r, w))
  | _ => none
def xdup (pc : Nat) (L : xL) (st : List Value) (w : xW) : Option xR := match st with
  | v :: r => if v.category = 1 then some (.inl (pc + 1, L, v :: v :: r, w)) else none
  | _ => none
def xpop (pc : Nat) (L : xL) (st : List Value) (w : xW) : Option xR := match st with
  | v :: r => if v.category = 1 then some (.inl (pc + 1, L, r, w)) else none
  | _ => none
def xdup2 (pc : Nat) (L : xL) (st : List Value) (w : xW) : Option xR := match st with
  | v :: u :: r => if v.category = 1 ∧ u.category = 1 then some (.inl (pc + 1, L, v :: u :: v :: u :: r, w)) else none
  | _ => none
def xcnd (c : ClassFile.Cond) (x y : Int32) : Bool := match c with
  | .eq => decide (x = y)
  | .ne => decide (¬ x = y)
  | .lt => decide (x < y)
  | .ge => decide (y ≤ x)
  | .gt => decide (y < x)
  | .le => decide (x ≤ y)
def xgo (pc : Nat) (off : Int) (L : xL) (st : List Value) (w : xW) : Option xR := if 0 ≤ (pc : Int) + off then some (.inl (((pc : Int) + off).toNat, L, st, w)) else none
def xbr (b : Bool) (pc : Nat) (off : Int) (L : xL) (st : List Value) (w : xW) : Option xR := if 0 ≤ (pc : Int) + off then (if b = true then some (.inl (((pc : Int) + off).toNat, L, st, w)) else some (.inl (pc + 3, L, st, w))) else none
def xicmp (c : ClassFile.Cond) (off : Int) (pc : Nat) (L : xL) (st : List Value) (w : xW) : Option xR := match st with
  | .int y :: .int x :: r => xbr (xcnd c x y) pc off L r w
  | _ => none
def xif (c : ClassFile.Cond) (off : Int) (pc : Nat) (L : xL) (st : List Value) (w : xW) : Option xR := match st with
  | .int x :: r => xbr (xcnd c x 0) pc off L r w
  | _ => none
def xnonnull (off : Int) (pc : Nat) (L : xL) (st : List Value) (w : xW) : Option xR := match st with
  | .ref _ :: r => xgo pc off L r w
  | .null :: r => some (.inl (pc + 3, L, r, w))
  | _ => none
def xtsw (d lo hi : Int) (offs : Array Int) (pc : Nat) (L : xL) (st : List Value) (w : xW) : Option xR := match st with
  | .int x :: r => if x.toInt < lo ∨ hi < x.toInt then xgo pc d L r w else (match offs[(x.toInt - lo).toNat]? with
    | some off => xgo pc off L r w
    | none => none)
  | _ => none
def xlsw (d : Int) (ps : Array (Int × Int)) (pc : Nat) (L : xL) (st : List Value) (w : xW) : Option xR := match st with
  | .int x :: r => if (ps.toList.zip (ps.toList.drop 1)).all (fun (a, next) => a.1 < next.1) = true then xgo pc (Op.lookupswitch.offset ps.toList d x.toInt) L r w else none
  | _ => none
/-- loads out of arrays -/
def xiald (G : xG) (pc : Nat) (L : xL) (st : List Value) (w : xW) : Option xR := match st with
  | .int i :: .ref a :: r => (match w.1 a with
    | some (.inl (0, n, .inl f)) => if i < 0 ∨ n ≤ i.toNatClampNeg then none else some (.inl (pc + 1, L, .int (f i.toNatClampNeg) :: r, w))
    | some _ => none
    | none => if a = G.2.2.1 then (if i < 0 ∨ G.2.2.2.1 ≤ i.toNatClampNeg then none else some (.inl (pc + 1, L, .int (G.2.2.2.2 i.toNatClampNeg) :: r, w))) else none)
  | _ => none
def xbald (pc : Nat) (L : xL) (st : List Value) (w : xW) : Option xR := match st with
  | .int i :: .ref a :: r => (match w.1 a with
    | some (.inl (1, n, .inl f)) => if i < 0 ∨ n ≤ i.toNatClampNeg then none else some (.inl (pc + 1, L, .int (f i.toNatClampNeg) :: r, w))
    | some (.inl (2, n, .inl f)) => if i < 0 ∨ n ≤ i.toNatClampNeg then none else some (.inl (pc + 1, L, .int (f i.toNatClampNeg) :: r, w))
    | _ => none)
  | _ => none
def xaald (pc : Nat) (L : xL) (st : List Value) (w : xW) : Option xR := match st with
  | .int i :: .ref a :: r => (match w.1 a with
    | some (.inl (t, n, .inr (.inr (.inr (.inr f))))) => if i < 0 ∨ n ≤ i.toNatClampNeg ∨ t < 3 ∨ 7 < t then none else some (.inl (pc + 1, L, va_rf (f i.toNatClampNeg) :: r, w))
    | _ => none)
  | _ => none
def xalen (G : xG) (pc : Nat) (L : xL) (st : List Value) (w : xW) : Option xR := match st with
  | .ref a :: r => (match w.1 a with
    | some (.inl (t, x)) => if 7 < t then none else some (.inl (pc + 1, L, .int (Int32.ofNat x.1) :: r, w))
    | some _ => none
    | none => if a = G.2.2.1 then some (.inl (pc + 1, L, .int (Int32.ofNat G.2.2.2.1) :: r, w)) else none)
  | _ => none
/-- stores into arrays -/
def xiast (pc : Nat) (L : xL) (st : List Value) (w : xW) : Option xR := match st with
  | .int x :: .int i :: .ref a :: r => (match w.1 a with
    | some (.inl (0, n, .inl f)) => if i < 0 ∨ n ≤ i.toNatClampNeg then none else some (.inl (pc + 1, L, r, xup w.1 a (.inl (0, n, .inl (upd f i.toNatClampNeg x))), w.2))
    | _ => none)
  | _ => none
def xbast (pc : Nat) (L : xL) (st : List Value) (w : xW) : Option xR := match st with
  | .int x :: .int i :: .ref a :: r => (match w.1 a with
    | some (.inl (1, n, .inl f)) => if i < 0 ∨ n ≤ i.toNatClampNeg then none else some (.inl (pc + 1, L, r, xup w.1 a (.inl (1, n, .inl (upd f i.toNatClampNeg (vp_nar .boolean x)))), w.2))
    | some (.inl (2, n, .inl f)) => if i < 0 ∨ n ≤ i.toNatClampNeg then none else some (.inl (pc + 1, L, r, xup w.1 a (.inl (2, n, .inl (upd f i.toNatClampNeg (vp_nar .byte x)))), w.2))
    | _ => none)
  | _ => none
/-- may the cell stand in an array of kind t? -/
def xfit (t : Nat) : Option xE → Bool
  | some (.inr (ci, _)) => (t == 3 && ci == 9) || (t == 4 && ci == 6) || (t == 5 && ci == 7)
  | some (.inl (k, _)) => t == 6 && k == 0
  | none => false
def xaast (pc : Nat) (L : xL) (st : List Value) (w : xW) : Option xR := match st with
  | .ref v :: .int i :: .ref a :: r => (match w.1 a with
    | some (.inl (t, n, .inr (.inr (.inr (.inr f))))) => if i < 0 ∨ n ≤ i.toNatClampNeg then none else if xfit t (w.1 v) = true then some (.inl (pc + 1, L, r, xup w.1 a (.inl (t, n, .inr (.inr (.inr (.inr (va_up f i.toNatClampNeg (some v))))))), w.2)) else none
    | _ => none)
  | _ => none
/-- new cells -/
def xat (t : ArrayType) : Option Nat := match t with
  | .int => some 0
  | .boolean => some 1
  | .byte => some 2
  | _ => none
def xnewa (t : ArrayType) (pc : Nat) (L : xL) (st : List Value) (w : xW) : Option xR := match st with
  | .int n :: r => (match xat t with
    | some k => if n < 0 ∨ 100000 < n.toNatClampNeg then none else some (.inl (pc + 2, L, .ref w.2.1 :: r, xup w.1 w.2.1 (.inl (k, n.toNatClampNeg, .inl (fun _ => 0))), w.2.1 + 1, w.2.2 + n.toNatClampNeg))
    | none => none)
  | _ => none
def xanew (o idx pc : Nat) (L : xL) (st : List Value) (w : xW) : Option xR := match st with
  | .int n :: r => (match xNl o idx with
    | some q => if n < 0 ∨ 100000 < n.toNatClampNeg ∨ 7 < q.2.2.1 then none else some (.inl (pc + 3, L, .ref w.2.1 :: r, xup w.1 w.2.1 (.inl (q.2.2.1, n.toNatClampNeg, .inr (.inr (.inr (.inr (fun _ => none)))))), w.2.1 + 1, w.2.2 + n.toNatClampNeg))
    | none => none)
  | _ => none
/-- rows of a new array of arrays: the outer one at a, the inner ones behind it -/
def xgrid (h : xH) (a n m : Nat) (t k : Nat) : xH := fun q => if q = a then some (.inl (t, n, .inr (.inr (.inr (.inr (fun j => if j < n then some (a + 1 + j) else none)))))) else if a < q ∧ q ≤ a + n then some (.inl (k, m, .inl (fun _ => 0))) else h q
def xmulti (o idx dims pc : Nat) (L : xL) (st : List Value) (w : xW) : Option xR := match st with
  | .int m :: .int n :: r => (match xNl o idx with
    | some q => if n < 0 ∨ 1000 < n.toNatClampNeg ∨ m < 0 ∨ 1000 < m.toNatClampNeg ∨ dims ≠ 2 ∨ ¬ (q.2.2.1 = 16 ∨ q.2.2.1 = 17) then none else some (.inl (pc + 4, L, .ref w.2.1 :: r, xgrid w.1 w.2.1 n.toNatClampNeg m.toNatClampNeg (q.2.2.1 - 10) (q.2.2.1 - 16), w.2.1 + 1 + n.toNatClampNeg, w.2.2 + n.toNatClampNeg + n.toNatClampNeg * m.toNatClampNeg))
    | none => none)
  | _ => none
def xnew (o idx pc : Nat) (L : xL) (st : List Value) (w : xW) : Option xR := match xKl o idx with
  | some q => some (.inl (pc + 3, L, .ref w.2.1 :: st, xup w.1 w.2.1 (.inr (q.2.2.1, xdef q.2.2.1)), w.2.1 + 1, w.2.2 + (xdef q.2.2.1).length))
  | none => none
/-- fields -/
def xgetf (o idx pc : Nat) (L : xL) (st : List Value) (w : xW) : Option xR := match st with
  | .ref a :: r => (match w.1 a with
    | some (.inr (ci, fs)) => (match xFl o idx with
      | some q => if ci = q.2.2.1 then (match fs[q.2.2.2.1]? with
        | some v => some (.inl (pc + 3, L, v :: r, w))
        | none => none) else none
      | none => none)
    | _ => none)
  | _ => none
def xfin (ci k : Nat) : Bool := match xcl[ci]? with
  | some q => (q.2.1 k).2.2.2
  | none => true
def xputf (o idx : Nat) (init : Bool) (pc : Nat) (L : xL) (st : List Value) (w : xW) : Option xR := match st with
  | v :: .ref a :: r => (match w.1 a with
    | some (.inr (ci, fs)) => (match xFl o idx with
      | some q => if ci = q.2.2.1 ∧ q.2.2.2.1 < fs.length ∧ narrow (xtyOf ci q.2.2.2.1) v = v ∧ fits (xtyOf ci q.2.2.2.1) v = true ∧ (xfin ci q.2.2.2.1 = false ∨ (init = true ∧ o = ci ∧ q.2.2.2.2.1 = 0)) then some (.inl (pc + 3, L, r, xup w.1 a (.inr (ci, fs.set q.2.2.2.1 v)), w.2)) else none
      | none => none)
    | _ => none)
  | _ => none
def xldc (G : xG) (o idx pc : Nat) (L : xL) (st : List Value) (w : xW) : Option xR := match xDl o idx with
  | some q => if q.2.2.1 = 0 then some (.inl (pc + 2, L, .int q.2.2.2.1 :: st, w)) else some (.inl (pc + 2, L, .ref (G.1 q.2.2.2.2.1) :: st, w))
  | none => none
def xldc2 (o idx pc : Nat) (L : xL) (st : List Value) (w : xW) : Option xR := match xLl o idx with
  | some q => some (.inl (pc + 3, L, .long q.2.2.1 :: st, w))
  | none => none
def xcats (st : List Value) : Nat := (st.map fun v => v.category).sum
/-- System.arraycopy of ints -/
def xcopy (pc : Nat) (L : xL) (st : List Value) (w : xW) : Option xR := match st with
  | .int n :: .int dp :: .ref b :: .int sp :: .ref a :: r => (match w.1 a, w.1 b with
    | some (.inl (0, n0, .inl f)), some (.inl (0, n1, .inl g)) => if 8 < xcats r ∨ sp < 0 ∨ dp < 0 ∨ n < 0 ∨ n0 < sp.toNatClampNeg + n.toNatClampNeg ∨ n1 < dp.toNatClampNeg + n.toNatClampNeg then none else some (.inl (pc + 3, L, r, xup w.1 b (.inl (0, n1, .inl (va_cpy f g sp.toNatClampNeg dp.toNatClampNeg n.toNatClampNeg))), w.2))
    | _, _ => none)
  | _ => none
def xslen (G : xG) (pc : Nat) (L : xL) (st : List Value) (w : xW) : Option xR := match st with
  | .ref a :: r => (match G.2.1 a with
    | some i => if 8 < xcats r then none else some (.inl (pc + 3, L, .int (nI (xSt.getD i []).length) :: r, w))
    | none => none)
  | _ => none
def xsat (G : xG) (pc : Nat) (L : xL) (st : List Value) (w : xW) : Option xR := match st with
  | .int k :: .ref a :: r => (match G.2.1 a with
    | some i => if 8 < xcats r ∨ k < 0 ∨ (xSt.getD i []).length ≤ k.toNatClampNeg then none else some (.inl (pc + 3, L, .int (nI ((xSt.getD i []).getD k.toNatClampNeg 0)) :: r, w))
    | none => none)
  | _ => none
/-- a call, by its kind: methods of the claim; members of the JDK -/
def xcV (id : Nat) (st : List Value) (w : xW) : Option xR := match st.drop (xA id) with
  | .ref b :: r => (match w.1 b with
    | some (.inr (ci, _)) => if ci = xO id ∧ xcats r ≤ 8 then some (.inr (.inr (id, .ref b :: (st.take (xA id)).reverse, r))) else none
    | _ => none)
  | _ => none
def xcI (id : Nat) (st : List Value) : Option xR := match st.drop (xA id) with
  | .ref b :: r => if xcats r ≤ 8 ∧ xT id = none then some (.inr (.inr (id, .ref b :: (st.take (xA id)).reverse, r))) else none
  | _ => none
def xcS (id : Nat) (st : List Value) : Option xR := if xA id ≤ st.length ∧ xcats (st.drop (xA id)) ≤ 8 then some (.inr (.inr (id, (st.take (xA id)).reverse, st.drop (xA id)))) else none
def xobj (pc : Nat) (L : xL) (st : List Value) (w : xW) : Option xR := match st with
  | .ref _ :: r => if xcats r ≤ 8 then some (.inl (pc + 3, L, r, w)) else none
  | _ => none
def xmax (pc : Nat) (L : xL) (st : List Value) (w : xW) : Option xR := match st with
  | .int y :: .int x :: r => if xcats r ≤ 8 then some (.inl (pc + 3, L, .int (if x < y then y else x) :: r, w)) else none
  | _ => none
def xmin (pc : Nat) (L : xL) (st : List Value) (w : xW) : Option xR := match st with
  | .int y :: .int x :: r => if xcats r ≤ 8 then some (.inl (pc + 3, L, .int (if y < x then y else x) :: r, w)) else none
  | _ => none
def xminl (pc : Nat) (L : xL) (st : List Value) (w : xW) : Option xR := match st with
  | .long y :: .long x :: r => if xcats r ≤ 8 then some (.inl (pc + 3, L, .long (if y < x then y else x) :: r, w)) else none
  | _ => none
def xcall (G : xG) (kind id : Nat) (pc : Nat) (L : xL) (st : List Value) (w : xW) : Option xR :=
  if kind = 0 then xcV id st w
  else if kind = 1 ∨ kind = 4 then xcS id st
  else if kind = 2 ∨ kind = 3 then xcI id st
  else if kind = 5 then xobj pc L st w
  else if kind = 6 then xmax pc L st w
  else if kind = 7 then xmin pc L st w
  else if kind = 8 then xminl pc L st w
  else if kind = 9 then xcopy pc L st w
  else if kind = 10 then xslen G pc L st w
  else if kind = 11 then xsat G pc L st w
  else none
def xinv (G : xG) (op o idx d : Nat) (pc : Nat) (L : xL) (st : List Value) (w : xW) : Option xR := match xCl o idx with
  | some q => if d = 0 then none else if (op = 0 ∧ (q.2.2.1 = 0 ∨ q.2.2.1 = 10 ∨ q.2.2.1 = 11)) ∨ (op = 1 ∧ (q.2.2.1 = 2 ∨ q.2.2.1 = 3 ∨ q.2.2.1 = 5)) ∨ (op = 2 ∧ (q.2.2.1 = 1 ∨ q.2.2.1 = 4 ∨ q.2.2.1 = 6 ∨ q.2.2.1 = 7 ∨ q.2.2.1 = 8 ∨ q.2.2.1 = 9)) then xcall G q.2.2.1 q.2.2.2.1 pc L st w else none
  | none => none
def xiret (rt : Option FieldType) (st : List Value) (w : xW) : Option xR := match st with
  | [.int v] => (match rt with
    | some ty => if narrow ty (.int v) = .int v then some (.inr (.inl (some (.int v), w))) else none
    | none => none)
  | _ => none
def xlret (rt : Option FieldType) (st : List Value) (w : xW) : Option xR := match st with
  | [.long v] => if rt = some .long then some (.inr (.inl (some (.long v), w))) else none
  | _ => none
def xaret (rt : Option FieldType) (st : List Value) (w : xW) : Option xR := match st with
  | [.ref a] => (match rt with
    | some (.object _) => some (.inr (.inl (some (.ref a), w)))
    | some (.array _) => some (.inr (.inl (some (.ref a), w)))
    | _ => none)
  | _ => none
def xvret (rt : Option FieldType) (st : List Value) (w : xW) : Option xR := match st with
  | [] => if rt = none then some (.inr (.inl (none, w))) else none
  | _ => none
/-- one instruction -/
def xop (G : xG) (mi d : Nat) (ins : Instr) (pc : Nat) (L : xL) (st : List Value) (w : xW) : Option xR := match ins with
  | .aconst_null => xpush 1 .null pc L st w
  | .iconst n => xpush 1 (.int (Int32.ofInt n)) pc L st w
  | .lconst n => xpush 1 (.long (Int64.ofNat (n : Nat))) pc L st w
  | .bipush n => xpush 2 (.int (Int8.ofInt n).toInt32) pc L st w
  | .sipush n => xpush 3 (.int (Int16.ofInt n).toInt32) pc L st w
  | .ldc i => xldc G (xO mi) i pc L st w
  | .ldc2_w i => xldc2 (xO mi) i pc L st w
  | .iload i => xiload 2 i pc L st w
  | .iload_n i => xiload 1 i pc L st w
  | .lload i => xlload 2 i pc L st w
  | .lload_n i => xlload 1 i pc L st w
  | .aload i => xaload 2 i pc L st w
  | .aload_n i => xaload 1 i pc L st w
  | .istore i => xistore 2 i pc L st w
  | .istore_n i => xistore 1 i pc L st w
  | .lstore_n i => xlstore 1 i pc L st w
  | .astore i => xastore 2 i pc L st w
  | .astore_n i => xastore 1 i pc L st w
  | .iinc i k => xiinc i k pc L st w
  | .iadd => xbin (fun x y => x + y) pc L st w
  | .isub => xbin (fun x y => x - y) pc L st w
  | .imul => xbin (fun x y => x * y) pc L st w
  | .iand => xbin (fun x y => x &&& y) pc L st w
  | .ior => xbin (fun x y => x ||| y) pc L st w
  | .ishl => xbin (fun x y => x <<< (y &&& 31)) pc L st w
  | .ishr => xbin (fun x y => x >>> (y &&& 31)) pc L st w
  | .iushr => xbin (fun x y => (x.toUInt32 >>> (y.toUInt32 &&& Int32.toUInt32 31)).toInt32) pc L st w
  | .idiv => xdiv (fun x y => x / y) pc L st w
  | .irem => xdiv (fun x y => x - x / y * y) pc L st w
  | .ladd => xlbin (fun x y => x + y) pc L st w
  | .lsub => xlbin (fun x y => x - y) pc L st w
  | .lmul => xlbin (fun x y => x * y) pc L st w
  | .i2l => xun (fun x => .long x.toInt64) pc L st w
  | .i2b => xun (fun x => .int x.toInt8.toInt32) pc L st w
  | .i2c => xun (fun x => .int (x.toUInt32 % 65536).toInt32) pc L st w
  | .l2i => xl2i pc L st w
  | .lcmp => xlcmp pc L st w
  | .dup => xdup pc L st w
  | .dup2 => xdup2 pc L st w
  | .pop => xpop pc L st w
  | .if_icmp c off => xicmp c off pc L st w
  | .ifCond c off => xif c off pc L st w
  | .goto off => xgo pc off L st w
  | .ifnonnull off => xnonnull off pc L st w
  | .tableswitch df lo hi offs => xtsw df lo hi offs pc L st w
  | .lookupswitch df ps => xlsw df ps pc L st w
  | .iaload => xiald G pc L st w
  | .baload => xbald pc L st w
  | .aaload => xaald pc L st w
  | .arraylength => xalen G pc L st w
  | .iastore => xiast pc L st w
  | .bastore => xbast pc L st w
  | .aastore => xaast pc L st w
  | .newarray t => xnewa t pc L st w
  | .anewarray i => xanew (xO mi) i pc L st w
  | .multianewarray i dims => xmulti (xO mi) i dims pc L st w
  | .new i => xnew (xO mi) i pc L st w
  | .getfield i => xgetf (xO mi) i pc L st w
  | .putfield i => xputf (xO mi) i ((xY mi).name == "<init>") pc L st w
  | .invokevirtual i => xinv G 0 (xO mi) i d pc L st w
  | .invokespecial i => xinv G 1 (xO mi) i d pc L st w
  | .invokestatic i => xinv G 2 (xO mi) i d pc L st w
  | .ireturn => xiret (xT mi) st w
  | .lreturn => xlret (xT mi) st w
  | .areturn => xaret (xT mi) st w
  | .return_ => xvret (xT mi) st w
  | _ => none
/-- arguments as locals: a long takes two -/
def xargs : List Value → xL
  | [] => []
  | v :: vs => if v.category = 2 then some v :: none :: xargs vs else some v :: xargs vs
def xloc (mi : Nat) (as : List Value) : xL := xargs as ++ List.replicate (xM mi - (xargs as).length) none
/-- a run: steps left, calls left, method, frame -/
def xrun (G : xG) : Nat → Nat → Nat → xF → Option (Option Value × xW)
  | 0, _, _, _ => none
  | n + 1, d, mi, f => match xI mi f.1 with
    | none => none
    | some ins => match xop G mi d ins f.1 f.2.1 f.2.2.1 f.2.2.2 with
      | none => none
      | some (.inl f') => xrun G n d mi f'
      | some (.inr (.inl r)) => some r
      | some (.inr (.inr c)) => if (xargs c.2.1).length ≤ xM c.1 ∧ c.1 < 123 then (match xrun G n (d - 1) c.1 (0, xloc c.1 c.2.1, [], f.2.2.2) with
        | none => none
        | some r => xrun G n d mi (f.1 + 3, f.2.1, r.1.toList ++ c.2.2, r.2)) else none
end
section
/-! ===== WHAT THE SMALL MACHINE STANDS ON: tables, worlds, locals ===== -/
abbrev xtys (tA : Nat → ClassId) : List (ClassId × FieldType) := [(tA 0, .int), (tA 1, .boolean), (tA 2, .byte), (tA 3, .object "DriftStore$Write"), (tA 4, .object "DriftStore$Server"), (tA 5, .object "DriftStore$Session"), (tA 6, .array .int), (tA 7, .array .boolean)]
def xte (tA : Nat → ClassId) : xE → va_E
  | .inl (t, x) => .inl (tA t, x)
  | .inr o => .inr o
def xnw : Jvm.Cond → Bool
  | .fieldLinkNest .. | .methodLinkNest .. => true
  | _ => false
/-- what is said of the tables -/
def xK (D : va_G) (tA : Nat → ClassId) (U : State) : Prop :=
  (∀ w ∈ lw_tbl, goodWord w = true → ∀ a : Array Value, w.before a U = true) ∧ (∀ w ∈ lw_tbl, xnw w = true → va_Nw w U) ∧ va_K D xcl (xtys tA) U ∧
  va_AO "DriftStore$Write" U ∧ va_AO "DriftStore$Server" U ∧ va_AO "DriftStore$Session" U ∧ (Jvm.Cond.arrayOver (.array .int)).before #[] U = true ∧ (Jvm.Cond.arrayOver (.array .boolean)).before #[] U = true
/-- arrays of arrays are there still when the tables have moved -/
theorem xAO_moved {t : FieldType} {u U : State} (hvm : u.vm.Alike U.vm) (h : (Jvm.Cond.arrayOver (.array t)).before #[] u = true) : (Jvm.Cond.arrayOver (.array t)).before #[] U = true := by
  obtain ⟨comp, c, k, h1, h2, h3, h4, h5⟩ := arrayOverA_spec h
  obtain ⟨k', hk', he⟩ := hvm.2.2 _ _ h3
  have hi := (hvm.findIdx?_eq _ (fun _ => rfl)).trans h2
  have hkind : k'.kind = .array comp (.array t) := by rw [he]; exact h4
  have f1 : U.vm.findClass (FieldType.array t).toString = some comp := by rw [hvm.findClass]; exact h1
  have f2 : U.vm.findClass ("[" ++ (FieldType.array t).toString) = some c := by rw [hvm.findClass]; exact h5
  unfold Cond.before Cond.holds
  simp only [Cond.value]
  rw [f1, Option.bind_some]
  refine (congrArg (fun o : Option Nat => (o.bind (fun c => (U.vm.classes[c]?).map fun (k : Class) => match k.kind with | .array _ ty => decide (ty = FieldType.array t) && decide (U.vm.findClass ("[" ++ (FieldType.array t).toString) = some c) | _ => false) == some true)) hi).trans ?_
  simp [hk', hkind, f2]
theorem xK_warm {D : va_G} {tA : Nat → ClassId} {s U : State} (h : xK D tA s) (hW : s.WarmedH U.vm) : xK D tA U := by
  obtain ⟨h1, h2, h3, h4, h5, h6, h7, h8⟩ := h
  refine ⟨fun w hw hg a => word_at hW (good_of_word hg) (h1 w hw hg a), fun w hw hn => ?_, va_K.moved hW.alike h3, h4.moved hW.alike, h5.moved hW.alike, h6.moved hW.alike, xAO_moved hW.alike h7, xAO_moved hW.alike h8⟩
  have hz := h2 w hw hn
  cases w <;> first | exact va_Nw.warmF hW hz | exact va_Nw.warmM hW hz | (exact absurd hn (by simp [xnw]))
theorem xK_same {D : va_G} {tA : Nat → ClassId} {s U : State} (h : xK D tA s) (hv : U.vm = s.vm) : xK D tA U := xK_warm h (by rw [hv]; exact State.WarmedH.refl s)
/-- a word of the tables -/
theorem xK.w {D : va_G} {tA : Nat → ClassId} {U : State} (h : xK D tA U) (i : Nat) {w : Jvm.Cond} (hw : lw_tbl[i]? = some w) (hg : goodWord w = true) (a : Array Value) : w.before a U = true := h.1 w (List.mem_of_getElem? hw) hg a
theorem xK.n {D : va_G} {tA : Nat → ClassId} {U : State} (h : xK D tA U) (i : Nat) {w : Jvm.Cond} (hw : lw_tbl[i]? = some w) (hg : xnw w = true) : va_Nw w U := h.2.1 w (List.mem_of_getElem? hw) hg
/-- the world in the heap -/
def xrep (D : va_G) (tA : Nat → ClassId) (A : Nat → Prop) (H0 : Heap) (s0 : Nat) (w : xW) (H : Heap) (locs : List Loc) (cells slots : Nat) : Prop :=
  (∀ a e, w.1 a = some e → va_at D xcl (a, xte tA e) H ∧ A a) ∧ w.2.1 = H.size ∧ va_S A H0 H locs ∧ (∀ q, H0.size ≤ q → A q) ∧ H0.size + cells = w.2.1 ∧ s0 + slots = w.2.2
/-- the method that runs -/
def xCtx (mi : Nat) (p : Program) (s : State) (m : MethodId) (meth : Method) (c : Code) : Prop :=
  p.tables.exec = Jvm.exec ∧ c.code = xB mi ∧ c.maxLocals = xM mi ∧ meth.sig.returnType = xT mi ∧ s.vm.findClass (xon (xO mi)) = some m.cls ∧ meth.locks = false ∧ meth.name = (xY mi).name
/-- the locals -/
def xpr (L : xL) : List (Nat × Value) := (List.range L.length).filterMap (fun i => match L[i]? with
  | some (some v) => some (i, v)
  | _ => none)
theorem xpr_mem {L : xL} {q : Nat × Value} : q ∈ xpr L ↔ L[q.1]? = some (some q.2) := by
  unfold xpr
  rw [List.mem_filterMap]
  constructor
  · rintro ⟨i, -, hi⟩
    split at hi
    · rename_i v hv
      cases hi
      exact hv
    · cases hi
  · intro h
    have hl : q.1 < L.length := (List.getElem?_eq_some_iff.mp h).1
    exact ⟨q.1, List.mem_range.mpr hl, by rw [h]⟩
def xlr (ls : Array Slot) (nL : Nat) (L : xL) : Prop := L.length = nL ∧ lv_has ls nL (xpr L)
theorem xlr.at {ls : Array Slot} {nL : Nat} {L : xL} (h : xlr ls nL L) {i : Nat} {v : Value} (hv : L[i]? = some (some v)) : ls[i]? = some (.val v) := h.2.2.2 (i, v) (xpr_mem.mpr hv)
theorem xst_some {L L' : xL} {i : Nat} {v : Value} (h : xst L i v = some L') : i < L.length ∧ L' = L.set i (some v) ∧ ∀ u, i ≠ 0 → L[i - 1]? = some (some u) → ¬ u.category = 2 := by
  unfold xst at h
  split at h
  · rename_i hi
    split at h
    · rename_i u hu
      split at h
      · cases h
      · rename_i hc
        cases h
        refine ⟨hi, rfl, fun u' h0 hu' => ?_⟩
        rw [if_neg h0, hu'] at hu
        cases hu
        exact hc
    · rename_i hn
      cases h
      refine ⟨hi, rfl, fun u' h0 hu' => ?_⟩
      exact absurd (by rw [if_neg h0]; exact hu') (hn u')
  · cases h
theorem xst2_some {L L' : xL} {i : Nat} {v : Value} (h : xst2 L i v = some L') : i + 1 < L.length ∧ L' = (L.set i (some v)).set (i + 1) none ∧ ∀ u, i ≠ 0 → L[i - 1]? = some (some u) → ¬ u.category = 2 := by
  unfold xst2 at h
  split at h
  · rename_i hi
    split at h
    · rename_i u hu
      split at h
      · cases h
      · rename_i hc
        cases h
        refine ⟨hi, rfl, fun u' h0 hu' => ?_⟩
        rw [if_neg h0, hu'] at hu
        cases hu
        exact hc
    · rename_i hn
      cases h
      refine ⟨hi, rfl, fun u' h0 hu' => ?_⟩
      exact absurd (by rw [if_neg h0]; exact hu') (hn u')
  · cases h
theorem xlr_set {ls' : Array Slot} {nL : Nat} {L L' : xL} {i : Nat} {v : Value} (hL : L.length = nL) (h : xst L i v = some L') (h' : lv_has ls' nL ((i, v) :: (xpr L).filter (fun q => !(q.1 == i) && !(q.1 + 1 == i && q.2.category == 2)))) : xlr ls' nL L' := by
  obtain ⟨hi, rfl, hc⟩ := xst_some h
  refine ⟨by simpa using hL, h'.1, h'.2.1, fun q hq => ?_⟩
  have hq := xpr_mem.mp hq
  apply h'.2.2
  by_cases hqi : q.1 = i
  · rw [hqi, List.getElem?_set_self hi] at hq
    cases hq
    obtain ⟨a, b⟩ := q
    cases hqi
    exact List.mem_cons_self
  · rw [List.getElem?_set_ne (Ne.symm hqi)] at hq
    refine List.mem_cons_of_mem _ (List.mem_filter.mpr ⟨xpr_mem.mpr hq, ?_⟩)
    simp only [Bool.and_eq_true, Bool.not_eq_true', beq_eq_false_iff_ne, Bool.and_eq_false_iff]
    refine ⟨hqi, ?_⟩
    by_cases h1 : q.1 + 1 = i
    · right
      refine hc q.2 (by omega) ?_
      rw [← h1]
      exact hq
    · left
      exact h1
theorem xlr_set2 {ls' : Array Slot} {nL : Nat} {L L' : xL} {i : Nat} {v : Value} (hL : L.length = nL) (h : xst2 L i v = some L') (h' : lv_has ls' nL ((i, v) :: (xpr L).filter (fun q => !(q.1 == i) && (!(q.1 == i + 1) && !(q.1 + 1 == i && q.2.category == 2))))) : xlr ls' nL L' := by
  obtain ⟨hi, rfl, hc⟩ := xst2_some h
  refine ⟨by simpa using hL, h'.1, h'.2.1, fun q hq => ?_⟩
  have hq := xpr_mem.mp hq
  apply h'.2.2
  by_cases hq1 : q.1 = i + 1
  · rw [hq1, List.getElem?_set_self (by simpa using hi)] at hq
    cases hq
  · rw [List.getElem?_set_ne (Ne.symm hq1)] at hq
    by_cases hqi : q.1 = i
    · rw [hqi, List.getElem?_set_self (by omega)] at hq
      cases hq
      obtain ⟨a, b⟩ := q
      cases hqi
      exact List.mem_cons_self
    · rw [List.getElem?_set_ne (Ne.symm hqi)] at hq
      refine List.mem_cons_of_mem _ (List.mem_filter.mpr ⟨xpr_mem.mpr hq, ?_⟩)
      simp only [Bool.and_eq_true, Bool.not_eq_true', beq_eq_false_iff_ne, Bool.and_eq_false_iff]
      refine ⟨hqi, hq1, ?_⟩
      by_cases h1 : q.1 + 1 = i
      · right
        refine hc q.2 (by omega) ?_
        rw [← h1]
        exact hq
      · left
        exact h1
/-- from here on the run goes well -/
def xnx (p : Program) (l : Launch) (e : Env) (R : Room) (s : State) (m : MethodId) (args : Array Value) (below : List Frame) (meth : Method) (c : Code) (Q : State → Prop) (D : va_G) (tA : Nat → ClassId) (A : Nat → Prop) (s0 nL : Nat) (f : xF) : Prop :=
  ∀ H locs cells slots ls, xrep D tA A s.heap s0 f.2.2.2 H locs cells slots → xlr ls nL f.2.1 → W p l e R s m args below meth c H locs cells slots Q (F0 m f.1 ls f.2.2.1)
theorem xI_dec {mi pc : Nat} {i : Instr} (h : xI mi pc = some i) : ∃ n, decode (xB mi) pc = .ok (i, n) ∧ (n = xlen i ∨ xsw i = true) := by
  unfold xI at h
  split at h
  · rename_i i' n hd
    split at h
    · rename_i hc
      cases h
      exact ⟨n, hd, hc⟩
    · cases h
  · cases h
end
section
/-! ===== the small machine is right: instructions that leave the world as it is (wip/gen/lay05.py) ===== -/
section XP
variable {p : Program} {l : Launch} {e : Env} {R : Room} {s : State} {m : MethodId} {args : Array Value} {below : List Frame} {meth : Method} {c : Code} {Q : State → Prop} {D : va_G} {tA : Nat → ClassId} {A : Nat → Prop} {s0 nL : Nat} {cc : ByteArray} {pc : Nat} {L : xL} {st : List Value} {w : xW} {f' : xF}
theorem xs_aconst_null (hx : p.tables.exec = Jvm.exec) (hb : c.code = cc)  (hdg : decode cc pc = .ok (.aconst_null, 1)) (hop : xpush 1 (.null) pc L st w = some (.inl f')) (hk : xnx p l e R s m args below meth c Q D tA A s0 nL f') : xnx p l e R s m args below meth c Q D tA A s0 nL (pc, L, st, w) := by
  cases hop
  intro H locs cells slots ls hR hL
  exact lv_null hx hb hdg (hk H locs cells slots ls hR hL)
theorem xs_iconst (hx : p.tables.exec = Jvm.exec) (hb : c.code = cc) {n : Int} (hdg : decode cc pc = .ok (.iconst n, 1)) (hop : xpush 1 (.int (Int32.ofInt n)) pc L st w = some (.inl f')) (hk : xnx p l e R s m args below meth c Q D tA A s0 nL f') : xnx p l e R s m args below meth c Q D tA A s0 nL (pc, L, st, w) := by
  cases hop
  intro H locs cells slots ls hR hL
  exact lv_iconst hx hb hdg rfl (hk H locs cells slots ls hR hL)
theorem xs_lconst (hx : p.tables.exec = Jvm.exec) (hb : c.code = cc) {n : Fin 2} (hdg : decode cc pc = .ok (.lconst n, 1)) (hop : xpush 1 (.long (Int64.ofNat (n : Nat))) pc L st w = some (.inl f')) (hk : xnx p l e R s m args below meth c Q D tA A s0 nL f') : xnx p l e R s m args below meth c Q D tA A s0 nL (pc, L, st, w) := by
  cases hop
  intro H locs cells slots ls hR hL
  exact lv_lconst hx hb hdg rfl (hk H locs cells slots ls hR hL)
theorem xs_bipush (hx : p.tables.exec = Jvm.exec) (hb : c.code = cc) {n : Int} (hdg : decode cc pc = .ok (.bipush n, 2)) (hop : xpush 2 (.int (Int8.ofInt n).toInt32) pc L st w = some (.inl f')) (hk : xnx p l e R s m args below meth c Q D tA A s0 nL f') : xnx p l e R s m args below meth c Q D tA A s0 nL (pc, L, st, w) := by
  cases hop
  intro H locs cells slots ls hR hL
  exact lv_bipush hx hb hdg rfl (hk H locs cells slots ls hR hL)
theorem xs_sipush (hx : p.tables.exec = Jvm.exec) (hb : c.code = cc) {n : Int} (hdg : decode cc pc = .ok (.sipush n, 3)) (hop : xpush 3 (.int (Int16.ofInt n).toInt32) pc L st w = some (.inl f')) (hk : xnx p l e R s m args below meth c Q D tA A s0 nL f') : xnx p l e R s m args below meth c Q D tA A s0 nL (pc, L, st, w) := by
  cases hop
  intro H locs cells slots ls hR hL
  exact lv_sipush hx hb hdg rfl (hk H locs cells slots ls hR hL)
theorem xs_iload (hx : p.tables.exec = Jvm.exec) (hb : c.code = cc) {i : Nat} (hdg : decode cc pc = .ok (.iload i, 2)) (hop : xiload 2 i pc L st w = some (.inl f')) (hk : xnx p l e R s m args below meth c Q D tA A s0 nL f') : xnx p l e R s m args below meth c Q D tA A s0 nL (pc, L, st, w) := by
  unfold xiload at hop
  split at hop
  · rename_i v hv
    cases hop
    intro H locs cells slots ls hR hL
    exact lv_iload hx hb hdg (hL.at hv) (hk H locs cells slots ls hR hL)
  · cases hop
theorem xs_iload_n (hx : p.tables.exec = Jvm.exec) (hb : c.code = cc) {i : Fin 4} (hdg : decode cc pc = .ok (.iload_n i, 1)) (hop : xiload 1 i pc L st w = some (.inl f')) (hk : xnx p l e R s m args below meth c Q D tA A s0 nL f') : xnx p l e R s m args below meth c Q D tA A s0 nL (pc, L, st, w) := by
  unfold xiload at hop
  split at hop
  · rename_i v hv
    cases hop
    intro H locs cells slots ls hR hL
    exact lv_iload_n hx hb hdg rfl (hL.at hv) (hk H locs cells slots ls hR hL)
  · cases hop
theorem xs_lload (hx : p.tables.exec = Jvm.exec) (hb : c.code = cc) {i : Nat} (hdg : decode cc pc = .ok (.lload i, 2)) (hop : xlload 2 i pc L st w = some (.inl f')) (hk : xnx p l e R s m args below meth c Q D tA A s0 nL f') : xnx p l e R s m args below meth c Q D tA A s0 nL (pc, L, st, w) := by
  unfold xlload at hop
  split at hop
  · rename_i v hv
    cases hop
    intro H locs cells slots ls hR hL
    exact lv_lload hx hb hdg (hL.at hv) (hk H locs cells slots ls hR hL)
  · cases hop
theorem xs_lload_n (hx : p.tables.exec = Jvm.exec) (hb : c.code = cc) {i : Fin 4} (hdg : decode cc pc = .ok (.lload_n i, 1)) (hop : xlload 1 i pc L st w = some (.inl f')) (hk : xnx p l e R s m args below meth c Q D tA A s0 nL f') : xnx p l e R s m args below meth c Q D tA A s0 nL (pc, L, st, w) := by
  unfold xlload at hop
  split at hop
  · rename_i v hv
    cases hop
    intro H locs cells slots ls hR hL
    exact lv_lload_n hx hb hdg rfl (hL.at hv) (hk H locs cells slots ls hR hL)
  · cases hop
theorem xs_aload (hx : p.tables.exec = Jvm.exec) (hb : c.code = cc) {i : Nat} (hdg : decode cc pc = .ok (.aload i, 2)) (hop : xaload 2 i pc L st w = some (.inl f')) (hk : xnx p l e R s m args below meth c Q D tA A s0 nL f') : xnx p l e R s m args below meth c Q D tA A s0 nL (pc, L, st, w) := by
  unfold xaload at hop
  split at hop
  · rename_i v hv
    cases hop
    intro H locs cells slots ls hR hL
    exact lv_aload hx hb hdg (hL.at hv) (hk H locs cells slots ls hR hL)
  · cases hop
theorem xs_aload_n (hx : p.tables.exec = Jvm.exec) (hb : c.code = cc) {i : Fin 4} (hdg : decode cc pc = .ok (.aload_n i, 1)) (hop : xaload 1 i pc L st w = some (.inl f')) (hk : xnx p l e R s m args below meth c Q D tA A s0 nL f') : xnx p l e R s m args below meth c Q D tA A s0 nL (pc, L, st, w) := by
  unfold xaload at hop
  split at hop
  · rename_i v hv
    cases hop
    intro H locs cells slots ls hR hL
    exact lv_aload_n hx hb hdg rfl (hL.at hv) (hk H locs cells slots ls hR hL)
  · cases hop
theorem xs_istore (hx : p.tables.exec = Jvm.exec) (hb : c.code = cc) {i : Nat} (hdg : decode cc pc = .ok (.istore i, 2)) (hop : xistore 2 i pc L st w = some (.inl f')) (hk : xnx p l e R s m args below meth c Q D tA A s0 nL f') : xnx p l e R s m args below meth c Q D tA A s0 nL (pc, L, st, w) := by
  unfold xistore at hop
  split at hop
  · rename_i v r
    obtain ⟨L', hs, he⟩ := Option.map_eq_some_iff.mp hop
    cases he
    intro H locs cells slots ls hR hL
    exact lv_istore hx hb hdg hL.2 (by have := (xst_some hs).1; rw [hL.1] at this; exact this) rfl (fun ls' h' => hk H locs cells slots ls' hR (xlr_set hL.1 hs h'))
  · cases hop
theorem xs_istore_n (hx : p.tables.exec = Jvm.exec) (hb : c.code = cc) {i : Fin 4} (hdg : decode cc pc = .ok (.istore_n i, 1)) (hop : xistore 1 i pc L st w = some (.inl f')) (hk : xnx p l e R s m args below meth c Q D tA A s0 nL f') : xnx p l e R s m args below meth c Q D tA A s0 nL (pc, L, st, w) := by
  unfold xistore at hop
  split at hop
  · rename_i v r
    obtain ⟨L', hs, he⟩ := Option.map_eq_some_iff.mp hop
    cases he
    intro H locs cells slots ls hR hL
    exact lv_istore_n hx hb hdg rfl hL.2 (by have := (xst_some hs).1; rw [hL.1] at this; exact this) rfl (fun ls' h' => hk H locs cells slots ls' hR (xlr_set hL.1 hs h'))
  · cases hop
theorem xs_astore (hx : p.tables.exec = Jvm.exec) (hb : c.code = cc) {i : Nat} (hdg : decode cc pc = .ok (.astore i, 2)) (hop : xastore 2 i pc L st w = some (.inl f')) (hk : xnx p l e R s m args below meth c Q D tA A s0 nL f') : xnx p l e R s m args below meth c Q D tA A s0 nL (pc, L, st, w) := by
  unfold xastore at hop
  split at hop
  · rename_i v r
    obtain ⟨L', hs, he⟩ := Option.map_eq_some_iff.mp hop
    cases he
    intro H locs cells slots ls hR hL
    exact lv_astore hx hb hdg hL.2 (by have := (xst_some hs).1; rw [hL.1] at this; exact this) rfl (fun ls' h' => hk H locs cells slots ls' hR (xlr_set hL.1 hs h'))
  · cases hop
theorem xs_astore_n (hx : p.tables.exec = Jvm.exec) (hb : c.code = cc) {i : Fin 4} (hdg : decode cc pc = .ok (.astore_n i, 1)) (hop : xastore 1 i pc L st w = some (.inl f')) (hk : xnx p l e R s m args below meth c Q D tA A s0 nL f') : xnx p l e R s m args below meth c Q D tA A s0 nL (pc, L, st, w) := by
  unfold xastore at hop
  split at hop
  · rename_i v r
    obtain ⟨L', hs, he⟩ := Option.map_eq_some_iff.mp hop
    cases he
    intro H locs cells slots ls hR hL
    exact lv_astore_n hx hb hdg rfl hL.2 (by have := (xst_some hs).1; rw [hL.1] at this; exact this) rfl (fun ls' h' => hk H locs cells slots ls' hR (xlr_set hL.1 hs h'))
  · cases hop
theorem xs_lstore_n (hx : p.tables.exec = Jvm.exec) (hb : c.code = cc) {i : Fin 4} (hdg : decode cc pc = .ok (.lstore_n i, 1)) (hop : xlstore 1 i pc L st w = some (.inl f')) (hk : xnx p l e R s m args below meth c Q D tA A s0 nL f') : xnx p l e R s m args below meth c Q D tA A s0 nL (pc, L, st, w) := by
  unfold xlstore at hop
  split at hop
  · rename_i v r
    obtain ⟨L', hs, he⟩ := Option.map_eq_some_iff.mp hop
    cases he
    intro H locs cells slots ls hR hL
    exact lv_lstore_n hx hb hdg rfl hL.2 (by have := (xst2_some hs).1; rw [hL.1] at this; exact this) rfl (fun ls' h' => hk H locs cells slots ls' hR (xlr_set2 hL.1 hs h'))
  · cases hop
theorem xs_iinc (hx : p.tables.exec = Jvm.exec) (hb : c.code = cc) {i : Nat} {k : Int} (hdg : decode cc pc = .ok (.iinc i k, 3)) (hop : xiinc i k pc L st w = some (.inl f')) (hk : xnx p l e R s m args below meth c Q D tA A s0 nL f') : xnx p l e R s m args below meth c Q D tA A s0 nL (pc, L, st, w) := by
  unfold xiinc at hop
  split at hop
  · rename_i v hv
    obtain ⟨L', hs, he⟩ := Option.map_eq_some_iff.mp hop
    cases he
    intro H locs cells slots ls hR hL
    obtain ⟨j, hj⟩ := List.getElem?_of_mem ((xpr_mem (q := (i, .int v))).mpr hv)
    exact lv_iinc hx hb hdg hL.2 hj rfl (by have := (xst_some hs).1; rw [hL.1] at this; exact this) rfl (fun ls' h' => hk H locs cells slots ls' hR (xlr_set hL.1 hs h'))
  · cases hop
theorem xs_iadd (hx : p.tables.exec = Jvm.exec) (hb : c.code = cc)  (hdg : decode cc pc = .ok (.iadd, 1)) (hop : xbin (fun x y => x + y) pc L st w = some (.inl f')) (hk : xnx p l e R s m args below meth c Q D tA A s0 nL f') : xnx p l e R s m args below meth c Q D tA A s0 nL (pc, L, st, w) := by
  unfold xbin at hop
  split at hop
  · rename_i y x r
    cases hop
    intro H locs cells slots ls hR hL
    exact lv_iadd hx hb hdg (hk H locs cells slots ls hR hL)
  · cases hop
theorem xs_isub (hx : p.tables.exec = Jvm.exec) (hb : c.code = cc)  (hdg : decode cc pc = .ok (.isub, 1)) (hop : xbin (fun x y => x - y) pc L st w = some (.inl f')) (hk : xnx p l e R s m args below meth c Q D tA A s0 nL f') : xnx p l e R s m args below meth c Q D tA A s0 nL (pc, L, st, w) := by
  unfold xbin at hop
  split at hop
  · rename_i y x r
    cases hop
    intro H locs cells slots ls hR hL
    exact lv_isub hx hb hdg (hk H locs cells slots ls hR hL)
  · cases hop
theorem xs_imul (hx : p.tables.exec = Jvm.exec) (hb : c.code = cc)  (hdg : decode cc pc = .ok (.imul, 1)) (hop : xbin (fun x y => x * y) pc L st w = some (.inl f')) (hk : xnx p l e R s m args below meth c Q D tA A s0 nL f') : xnx p l e R s m args below meth c Q D tA A s0 nL (pc, L, st, w) := by
  unfold xbin at hop
  split at hop
  · rename_i y x r
    cases hop
    intro H locs cells slots ls hR hL
    exact lv_imul hx hb hdg (hk H locs cells slots ls hR hL)
  · cases hop
theorem xs_iand (hx : p.tables.exec = Jvm.exec) (hb : c.code = cc)  (hdg : decode cc pc = .ok (.iand, 1)) (hop : xbin (fun x y => x &&& y) pc L st w = some (.inl f')) (hk : xnx p l e R s m args below meth c Q D tA A s0 nL f') : xnx p l e R s m args below meth c Q D tA A s0 nL (pc, L, st, w) := by
  unfold xbin at hop
  split at hop
  · rename_i y x r
    cases hop
    intro H locs cells slots ls hR hL
    exact lv_iand hx hb hdg (hk H locs cells slots ls hR hL)
  · cases hop
theorem xs_ior (hx : p.tables.exec = Jvm.exec) (hb : c.code = cc)  (hdg : decode cc pc = .ok (.ior, 1)) (hop : xbin (fun x y => x ||| y) pc L st w = some (.inl f')) (hk : xnx p l e R s m args below meth c Q D tA A s0 nL f') : xnx p l e R s m args below meth c Q D tA A s0 nL (pc, L, st, w) := by
  unfold xbin at hop
  split at hop
  · rename_i y x r
    cases hop
    intro H locs cells slots ls hR hL
    exact lv_ior hx hb hdg (hk H locs cells slots ls hR hL)
  · cases hop
theorem xs_ishl (hx : p.tables.exec = Jvm.exec) (hb : c.code = cc)  (hdg : decode cc pc = .ok (.ishl, 1)) (hop : xbin (fun x y => x <<< (y &&& 31)) pc L st w = some (.inl f')) (hk : xnx p l e R s m args below meth c Q D tA A s0 nL f') : xnx p l e R s m args below meth c Q D tA A s0 nL (pc, L, st, w) := by
  unfold xbin at hop
  split at hop
  · rename_i y x r
    cases hop
    intro H locs cells slots ls hR hL
    exact lv_ishl hx hb hdg (hk H locs cells slots ls hR hL)
  · cases hop
theorem xs_ishr (hx : p.tables.exec = Jvm.exec) (hb : c.code = cc)  (hdg : decode cc pc = .ok (.ishr, 1)) (hop : xbin (fun x y => x >>> (y &&& 31)) pc L st w = some (.inl f')) (hk : xnx p l e R s m args below meth c Q D tA A s0 nL f') : xnx p l e R s m args below meth c Q D tA A s0 nL (pc, L, st, w) := by
  unfold xbin at hop
  split at hop
  · rename_i y x r
    cases hop
    intro H locs cells slots ls hR hL
    exact lv_ishr hx hb hdg (hk H locs cells slots ls hR hL)
  · cases hop
theorem xs_iushr (hx : p.tables.exec = Jvm.exec) (hb : c.code = cc)  (hdg : decode cc pc = .ok (.iushr, 1)) (hop : xbin (fun x y => (x.toUInt32 >>> (y.toUInt32 &&& Int32.toUInt32 31)).toInt32) pc L st w = some (.inl f')) (hk : xnx p l e R s m args below meth c Q D tA A s0 nL f') : xnx p l e R s m args below meth c Q D tA A s0 nL (pc, L, st, w) := by
  unfold xbin at hop
  split at hop
  · rename_i y x r
    cases hop
    intro H locs cells slots ls hR hL
    exact lv_iushr hx hb hdg rfl (hk H locs cells slots ls hR hL)
  · cases hop
theorem xs_idiv (hx : p.tables.exec = Jvm.exec) (hb : c.code = cc)  (hdg : decode cc pc = .ok (.idiv, 1)) (hop : xdiv (fun x y => x / y) pc L st w = some (.inl f')) (hk : xnx p l e R s m args below meth c Q D tA A s0 nL f') : xnx p l e R s m args below meth c Q D tA A s0 nL (pc, L, st, w) := by
  unfold xdiv at hop
  split at hop
  · rename_i y x r
    split at hop
    · cases hop
    · rename_i hy
      cases hop
      intro H locs cells slots ls hR hL
      exact lv_idiv hx hb hdg hy (hk H locs cells slots ls hR hL)
  · cases hop
theorem xs_irem (hx : p.tables.exec = Jvm.exec) (hb : c.code = cc)  (hdg : decode cc pc = .ok (.irem, 1)) (hop : xdiv (fun x y => x - x / y * y) pc L st w = some (.inl f')) (hk : xnx p l e R s m args below meth c Q D tA A s0 nL f') : xnx p l e R s m args below meth c Q D tA A s0 nL (pc, L, st, w) := by
  unfold xdiv at hop
  split at hop
  · rename_i y x r
    split at hop
    · cases hop
    · rename_i hy
      cases hop
      intro H locs cells slots ls hR hL
      exact lv_irem hx hb hdg hy (hk H locs cells slots ls hR hL)
  · cases hop
theorem xs_ladd (hx : p.tables.exec = Jvm.exec) (hb : c.code = cc)  (hdg : decode cc pc = .ok (.ladd, 1)) (hop : xlbin (fun x y => x + y) pc L st w = some (.inl f')) (hk : xnx p l e R s m args below meth c Q D tA A s0 nL f') : xnx p l e R s m args below meth c Q D tA A s0 nL (pc, L, st, w) := by
  unfold xlbin at hop
  split at hop
  · rename_i y x r
    cases hop
    intro H locs cells slots ls hR hL
    exact lv_ladd hx hb hdg (hk H locs cells slots ls hR hL)
  · cases hop
theorem xs_lsub (hx : p.tables.exec = Jvm.exec) (hb : c.code = cc)  (hdg : decode cc pc = .ok (.lsub, 1)) (hop : xlbin (fun x y => x - y) pc L st w = some (.inl f')) (hk : xnx p l e R s m args below meth c Q D tA A s0 nL f') : xnx p l e R s m args below meth c Q D tA A s0 nL (pc, L, st, w) := by
  unfold xlbin at hop
  split at hop
  · rename_i y x r
    cases hop
    intro H locs cells slots ls hR hL
    exact lv_lsub hx hb hdg (hk H locs cells slots ls hR hL)
  · cases hop
theorem xs_lmul (hx : p.tables.exec = Jvm.exec) (hb : c.code = cc)  (hdg : decode cc pc = .ok (.lmul, 1)) (hop : xlbin (fun x y => x * y) pc L st w = some (.inl f')) (hk : xnx p l e R s m args below meth c Q D tA A s0 nL f') : xnx p l e R s m args below meth c Q D tA A s0 nL (pc, L, st, w) := by
  unfold xlbin at hop
  split at hop
  · rename_i y x r
    cases hop
    intro H locs cells slots ls hR hL
    exact lv_lmul hx hb hdg (hk H locs cells slots ls hR hL)
  · cases hop
theorem xs_i2l (hx : p.tables.exec = Jvm.exec) (hb : c.code = cc)  (hdg : decode cc pc = .ok (.i2l, 1)) (hop : xun (fun x => .long x.toInt64) pc L st w = some (.inl f')) (hk : xnx p l e R s m args below meth c Q D tA A s0 nL f') : xnx p l e R s m args below meth c Q D tA A s0 nL (pc, L, st, w) := by
  unfold xun at hop
  split at hop
  · rename_i x r
    cases hop
    intro H locs cells slots ls hR hL
    exact lv_i2l hx hb hdg rfl (hk H locs cells slots ls hR hL)
  · cases hop
theorem xs_i2b (hx : p.tables.exec = Jvm.exec) (hb : c.code = cc)  (hdg : decode cc pc = .ok (.i2b, 1)) (hop : xun (fun x => .int x.toInt8.toInt32) pc L st w = some (.inl f')) (hk : xnx p l e R s m args below meth c Q D tA A s0 nL f') : xnx p l e R s m args below meth c Q D tA A s0 nL (pc, L, st, w) := by
  unfold xun at hop
  split at hop
  · rename_i x r
    cases hop
    intro H locs cells slots ls hR hL
    exact lv_i2b hx hb hdg rfl (hk H locs cells slots ls hR hL)
  · cases hop
theorem xs_i2c (hx : p.tables.exec = Jvm.exec) (hb : c.code = cc)  (hdg : decode cc pc = .ok (.i2c, 1)) (hop : xun (fun x => .int (x.toUInt32 % 65536).toInt32) pc L st w = some (.inl f')) (hk : xnx p l e R s m args below meth c Q D tA A s0 nL f') : xnx p l e R s m args below meth c Q D tA A s0 nL (pc, L, st, w) := by
  unfold xun at hop
  split at hop
  · rename_i x r
    cases hop
    intro H locs cells slots ls hR hL
    exact lv_i2c hx hb hdg rfl (hk H locs cells slots ls hR hL)
  · cases hop
theorem xs_l2i (hx : p.tables.exec = Jvm.exec) (hb : c.code = cc)  (hdg : decode cc pc = .ok (.l2i, 1)) (hop : xl2i pc L st w = some (.inl f')) (hk : xnx p l e R s m args below meth c Q D tA A s0 nL f') : xnx p l e R s m args below meth c Q D tA A s0 nL (pc, L, st, w) := by
  unfold xl2i at hop
  split at hop
  · rename_i x r
    cases hop
    intro H locs cells slots ls hR hL
    exact lv_l2i hx hb hdg rfl (hk H locs cells slots ls hR hL)
  · cases hop
theorem xs_lcmp (hx : p.tables.exec = Jvm.exec) (hb : c.code = cc)  (hdg : decode cc pc = .ok (.lcmp, 1)) (hop : xlcmp pc L st w = some (.inl f')) (hk : xnx p l e R s m args below meth c Q D tA A s0 nL f') : xnx p l e R s m args below meth c Q D tA A s0 nL (pc, L, st, w) := by
  unfold xlcmp at hop
  split at hop
  · rename_i y x r
    cases hop
    intro H locs cells slots ls hR hL
    exact W.lcmp hx hb hdg (hk H locs cells slots ls hR hL)
  · cases hop
theorem xs_dup (hx : p.tables.exec = Jvm.exec) (hb : c.code = cc)  (hdg : decode cc pc = .ok (.dup, 1)) (hop : xdup pc L st w = some (.inl f')) (hk : xnx p l e R s m args below meth c Q D tA A s0 nL f') : xnx p l e R s m args below meth c Q D tA A s0 nL (pc, L, st, w) := by
  unfold xdup at hop
  split at hop
  · rename_i v r
    split at hop
    · rename_i hc
      cases hop
      intro H locs cells slots ls hR hL
      exact lv_dup hx hb hdg hc (hk H locs cells slots ls hR hL)
    · cases hop
  · cases hop
theorem xs_pop (hx : p.tables.exec = Jvm.exec) (hb : c.code = cc)  (hdg : decode cc pc = .ok (.pop, 1)) (hop : xpop pc L st w = some (.inl f')) (hk : xnx p l e R s m args below meth c Q D tA A s0 nL f') : xnx p l e R s m args below meth c Q D tA A s0 nL (pc, L, st, w) := by
  unfold xpop at hop
  split at hop
  · rename_i v r
    split at hop
    · rename_i hc
      cases hop
      intro H locs cells slots ls hR hL
      exact lv_pop hx hb hdg hc (hk H locs cells slots ls hR hL)
    · cases hop
  · cases hop
theorem xs_dup2 (hx : p.tables.exec = Jvm.exec) (hb : c.code = cc)  (hdg : decode cc pc = .ok (.dup2, 1)) (hop : xdup2 pc L st w = some (.inl f')) (hk : xnx p l e R s m args below meth c Q D tA A s0 nL f') : xnx p l e R s m args below meth c Q D tA A s0 nL (pc, L, st, w) := by
  unfold xdup2 at hop
  split at hop
  · rename_i v u r
    split at hop
    · rename_i hc
      cases hop
      intro H locs cells slots ls hR hL
      exact lv_dup2_11 hx hb hdg hc.1 hc.2 (hk H locs cells slots ls hR hL)
    · cases hop
  · cases hop
theorem xgo_some {off : Int} (h : xgo pc off L st w = some (.inl f')) : (pc : Int) + off = ((((pc : Int) + off).toNat : Nat) : Int) ∧ f' = (((pc : Int) + off).toNat, L, st, w) := by
  unfold xgo at h
  split at h
  · rename_i h0
    cases h
    exact ⟨(Int.toNat_of_nonneg h0).symm, rfl⟩
  · cases h
theorem xs_goto (hx : p.tables.exec = Jvm.exec) (hb : c.code = cc) {off : Int} (hdg : decode cc pc = .ok (.goto off, 3)) (hop : xgo pc off L st w = some (.inl f')) (hk : xnx p l e R s m args below meth c Q D tA A s0 nL f') : xnx p l e R s m args below meth c Q D tA A s0 nL (pc, L, st, w) := by
  obtain ⟨ht, rfl⟩ := xgo_some hop
  intro H locs cells slots ls hR hL
  exact lv_goto hx hb hdg ht (hk H locs cells slots ls hR hL)
theorem xs_ifnonnull (hx : p.tables.exec = Jvm.exec) (hb : c.code = cc) {off : Int} (hdg : decode cc pc = .ok (.ifnonnull off, 3)) (hop : xnonnull off pc L st w = some (.inl f')) (hk : xnx p l e R s m args below meth c Q D tA A s0 nL f') : xnx p l e R s m args below meth c Q D tA A s0 nL (pc, L, st, w) := by
  unfold xnonnull at hop
  split at hop
  · rename_i v r
    obtain ⟨ht, rfl⟩ := xgo_some hop
    intro H locs cells slots ls hR hL
    exact lv_ifnonnull hx hb hdg ht (hk H locs cells slots ls hR hL)
  · rename_i r
    cases hop
    intro H locs cells slots ls hR hL
    exact lv_ifnonnullN hx hb hdg (hk H locs cells slots ls hR hL)
  · cases hop
theorem xs_icmp (hx : p.tables.exec = Jvm.exec) (hb : c.code = cc) {cnd : ClassFile.Cond} {off : Int} (hdg : decode cc pc = .ok (.if_icmp cnd off, 3)) (hop : xicmp cnd off pc L st w = some (.inl f')) (hk : xnx p l e R s m args below meth c Q D tA A s0 nL f') : xnx p l e R s m args below meth c Q D tA A s0 nL (pc, L, st, w) := by
  unfold xicmp at hop
  split at hop
  · rename_i y x r
    unfold xbr at hop
    split at hop
    · rename_i h0
      have ht := (Int.toNat_of_nonneg h0).symm
      intro H locs cells slots ls hR hL
      cases cnd
      · refine lv_icmp_eq hx hb hdg ht (fun hc => ?_) (fun hc => ?_)
        · rw [if_pos (by simp [xcnd, hc])] at hop
          cases hop
          exact hk H locs cells slots ls hR hL
        · rw [if_neg (by simp [xcnd, hc])] at hop
          cases hop
          exact hk H locs cells slots ls hR hL
      · refine lv_icmp_ne hx hb hdg ht (fun hc => ?_) (fun hc => ?_)
        · rw [if_pos (by simp [xcnd, hc])] at hop
          cases hop
          exact hk H locs cells slots ls hR hL
        · rw [if_neg (by simp [xcnd, hc])] at hop
          cases hop
          exact hk H locs cells slots ls hR hL
      · refine lv_icmp_lt hx hb hdg ht (fun hc => ?_) (fun hc => ?_)
        · rw [if_pos (by simp [xcnd, hc])] at hop
          cases hop
          exact hk H locs cells slots ls hR hL
        · rw [if_neg (by simp [xcnd, hc])] at hop
          cases hop
          exact hk H locs cells slots ls hR hL
      · refine lv_icmp_ge hx hb hdg ht (fun hc => ?_) (fun hc => ?_)
        · rw [if_pos (by simp [xcnd, hc])] at hop
          cases hop
          exact hk H locs cells slots ls hR hL
        · rw [if_neg (by simp [xcnd, hc])] at hop
          cases hop
          exact hk H locs cells slots ls hR hL
      · refine lv_icmp_gt hx hb hdg ht (fun hc => ?_) (fun hc => ?_)
        · rw [if_pos (by simp [xcnd, hc])] at hop
          cases hop
          exact hk H locs cells slots ls hR hL
        · rw [if_neg (by simp [xcnd, hc])] at hop
          cases hop
          exact hk H locs cells slots ls hR hL
      · refine lv_icmp_le hx hb hdg ht (fun hc => ?_) (fun hc => ?_)
        · rw [if_pos (by simp [xcnd, hc])] at hop
          cases hop
          exact hk H locs cells slots ls hR hL
        · rw [if_neg (by simp [xcnd, hc])] at hop
          cases hop
          exact hk H locs cells slots ls hR hL
    · cases hop
  · cases hop
theorem xs_if (hx : p.tables.exec = Jvm.exec) (hb : c.code = cc) {cnd : ClassFile.Cond} {off : Int} (hdg : decode cc pc = .ok (.ifCond cnd off, 3)) (hop : xif cnd off pc L st w = some (.inl f')) (hk : xnx p l e R s m args below meth c Q D tA A s0 nL f') : xnx p l e R s m args below meth c Q D tA A s0 nL (pc, L, st, w) := by
  unfold xif at hop
  split at hop
  · rename_i x r
    unfold xbr at hop
    split at hop
    · rename_i h0
      have ht := (Int.toNat_of_nonneg h0).symm
      intro H locs cells slots ls hR hL
      cases cnd
      · refine lv_if_eq hx hb hdg ht (fun hc => ?_) (fun hc => ?_)
        · rw [if_pos (by simp [xcnd, hc])] at hop
          cases hop
          exact hk H locs cells slots ls hR hL
        · rw [if_neg (by simp [xcnd, hc])] at hop
          cases hop
          exact hk H locs cells slots ls hR hL
      · refine lv_if_ne hx hb hdg ht (fun hc => ?_) (fun hc => ?_)
        · rw [if_pos (by simp [xcnd, hc])] at hop
          cases hop
          exact hk H locs cells slots ls hR hL
        · rw [if_neg (by simp [xcnd, hc])] at hop
          cases hop
          exact hk H locs cells slots ls hR hL
      · refine lv_if_lt hx hb hdg ht (fun hc => ?_) (fun hc => ?_)
        · rw [if_pos (by simp [xcnd, hc])] at hop
          cases hop
          exact hk H locs cells slots ls hR hL
        · rw [if_neg (by simp [xcnd, hc])] at hop
          cases hop
          exact hk H locs cells slots ls hR hL
      · refine lv_if_ge hx hb hdg ht (fun hc => ?_) (fun hc => ?_)
        · rw [if_pos (by simp [xcnd, hc])] at hop
          cases hop
          exact hk H locs cells slots ls hR hL
        · rw [if_neg (by simp [xcnd, hc])] at hop
          cases hop
          exact hk H locs cells slots ls hR hL
      · refine lv_if_gt hx hb hdg ht (fun hc => ?_) (fun hc => ?_)
        · rw [if_pos (by simp [xcnd, hc])] at hop
          cases hop
          exact hk H locs cells slots ls hR hL
        · rw [if_neg (by simp [xcnd, hc])] at hop
          cases hop
          exact hk H locs cells slots ls hR hL
      · refine lv_if_le hx hb hdg ht (fun hc => ?_) (fun hc => ?_)
        · rw [if_pos (by simp [xcnd, hc])] at hop
          cases hop
          exact hk H locs cells slots ls hR hL
        · rw [if_neg (by simp [xcnd, hc])] at hop
          cases hop
          exact hk H locs cells slots ls hR hL
    · cases hop
  · cases hop
theorem xs_tsw (hx : p.tables.exec = Jvm.exec) (hb : c.code = cc) {df lo hi : Int} {offs : Array Int} {len : Nat} (hdg : decode cc pc = .ok (.tableswitch df lo hi offs, len)) (hop : xtsw df lo hi offs pc L st w = some (.inl f')) (hk : xnx p l e R s m args below meth c Q D tA A s0 nL f') : xnx p l e R s m args below meth c Q D tA A s0 nL (pc, L, st, w) := by
  unfold xtsw at hop
  split at hop
  · rename_i x r
    split at hop
    · rename_i h0
      obtain ⟨ht, rfl⟩ := xgo_some hop
      intro H locs cells slots ls hR hL
      exact lv_tableOut hx hb hdg h0 ht (hk H locs cells slots ls hR hL)
    · rename_i h0
      split at hop
      · rename_i off ho
        obtain ⟨ht, rfl⟩ := xgo_some hop
        intro H locs cells slots ls hR hL
        exact lv_tableIn hx hb hdg (fun z => h0 (Or.inl z)) (fun z => h0 (Or.inr z)) ho ht (hk H locs cells slots ls hR hL)
      · cases hop
  · cases hop
theorem xs_lsw (hx : p.tables.exec = Jvm.exec) (hb : c.code = cc) {df : Int} {ps : Array (Int × Int)} {len : Nat} (hdg : decode cc pc = .ok (.lookupswitch df ps, len)) (hop : xlsw df ps pc L st w = some (.inl f')) (hk : xnx p l e R s m args below meth c Q D tA A s0 nL f') : xnx p l e R s m args below meth c Q D tA A s0 nL (pc, L, st, w) := by
  unfold xlsw at hop
  split at hop
  · rename_i x r
    split at hop
    · rename_i h0
      obtain ⟨ht, rfl⟩ := xgo_some hop
      intro H locs cells slots ls hR hL
      exact lv_lookup hx hb hdg h0 rfl ht (hk H locs cells slots ls hR hL)
    · cases hop
  · cases hop
end XP
end
section
/-! ===== the small machine is right: arrays, fields, new cells ===== -/
theorem xP1 {D : va_G} {cl : List vw_C} {q : Nat × va_E} {H : Heap} (h : va_at D cl q H) : va_P D cl [q] H := by
  intro k q' hk
  have hz : k < 1 := (List.getElem?_eq_some_iff.mp hk).1
  rw [show k = 0 by omega] at hk
  cases hk
  exact h
theorem xrep_put {D : va_G} {tA : Nat → ClassId} {A : Nat → Prop} {H0 : Heap} {s0 : Nat} {w : xW} {H H1 : Heap} {locs : List Loc} {cells slots a k : Nat} {e0 e : xE} (h : xrep D tA A H0 s0 w H locs cells slots) (ha : w.1 a = some e0) (he : va_at D xcl (a, xte tA e) H1) (z : H1.size = H.size) (oq : ∀ q : Nat, q ≠ a → H1[q]? = H[q]?) : xrep D tA A H0 s0 (xup w.1 a e, w.2) H1 (locs ++ [⟨a, k⟩]) cells slots := by
  obtain ⟨h1, h2, h3, h4, h5, h6⟩ := h
  have hA := (h1 a e0 ha).2
  refine ⟨fun b e' hb => ?_, by rw [z]; exact h2, h3.put z oq hA, h4, h5, h6⟩
  by_cases hba : b = a
  · subst hba
    have : e = e' := by simpa [xup] using hb
    subst this
    exact ⟨he, hA⟩
  · have hb' : w.1 b = some e' := by simpa [xup, hba] using hb
    exact ⟨(h1 b e' hb').1.kept (oq b hba), (h1 b e' hb').2⟩
theorem xrep_new {D : va_G} {tA : Nat → ClassId} {A : Nat → Prop} {H0 : Heap} {s0 n : Nat} {w : xW} {H H1 : Heap} {locs : List Loc} {cells slots : Nat} {e : xE} (h : xrep D tA A H0 s0 w H locs cells slots) (z : H1.size = H.size + 1) (o1 : ∀ q : Nat, q < H.size → H1[q]? = H[q]?) (he : va_at D xcl (H.size, xte tA e) H1) : xrep D tA A H0 s0 (xup w.1 w.2.1 e, w.2.1 + 1, w.2.2 + n) H1 locs (cells + 1) (slots + n) := by
  obtain ⟨h1, h2, h3, h4, h5, h6⟩ := h
  refine ⟨fun b e' hb => ?_, by show w.2.1 + 1 = _; rw [z, h2], ⟨by rw [z]; exact Nat.le_succ_of_le h3.1, fun q g1 g2 => (o1 q (Nat.lt_of_lt_of_le g1 h3.1)).trans (h3.2.1 q g1 g2), h3.2.2⟩, h4, by show _ = w.2.1 + 1; omega, by show _ = w.2.2 + n; omega⟩
  by_cases hba : b = w.2.1
  · subst hba
    have : e = e' := by simpa [xup] using hb
    subst this
    rw [h2]
    exact ⟨he, h4 _ (by rw [← h2, ← h5]; omega)⟩
  · have hb' : w.1 b = some e' := by simpa [xup, hba] using hb
    exact ⟨(h1 b e' hb').1.kept (o1 b (h1 b e' hb').1.lt), (h1 b e' hb').2⟩
/-- what is never written: the script, the texts, a static of String -/
def xSl : List Nat := xSt.map List.length
def xSb : List (List Int32) := xSt.map (fun l => l.map nI)
def xro (G : xG) (adV : Nat → Nat) (A : Nat → Prop) (s : State) (H : Heap) : Prop :=
  va_X G.2.2.1 G.2.2.2.1 G.2.2.2.2 s H ∧ G.2.2.1 < H.size ∧ ¬ A G.2.2.1 ∧ vk_S 18 xSl xSb G.1 adV A s H ∧ (∀ q ∈ xDt, q.2.2.1 = 1 → vk_R (xon q.1) q.2.1 (xSn.getD q.2.2.2.2.1 "") (G.1 q.2.2.2.2.1) s) ∧ (∀ a i, G.2.1 a = some i → i < 18 ∧ a = G.1 i) ∧ va_Z "java/lang/String" "COMPACT_STRINGS" "Z" (.int 1) A s H ∧ va_Zq "jdk/internal/util/Preconditions" "SIOOBE_FORMATTER" "Ljava/util/function/BiFunction;" A s H
section XH
variable {p : Program} {l : Launch} {e : Env} {R : Room} {s : State} {m : MethodId} {args : Array Value} {below : List Frame} {meth : Method} {c : Code} {Q : State → Prop} {D : va_G} {tA : Nat → ClassId} {A : Nat → Prop} {s0 nL : Nat} {cc : ByteArray} {pc : Nat} {L : xL} {st : List Value} {w : xW} {f' : xF} {G : xG} {adV : Nat → Nat}
theorem xs_iaload (hx : p.tables.exec = Jvm.exec) (hb : c.code = cc) (hK : xK D tA s) (hro : xro G adV A s s.heap) (hdg : decode cc pc = .ok (.iaload, 1)) (hop : xiald G pc L st w = some (.inl f')) (hk : xnx p l e R s m args below meth c Q D tA A s0 nL f') : xnx p l e R s m args below meth c Q D tA A s0 nL (pc, L, st, w) := by
  unfold xiald at hop
  split at hop
  · rename_i i a r
    split at hop
    · rename_i n f ha
      split at hop
      · cases hop
      · rename_i hin
        cases hop
        intro H locs cells slots ls hR hL
        exact va_iald hx hb hK.2.2.1 (xP1 (hR.1 a _ ha).1) 0 0 rfl rfl hin hdg (hk H locs cells slots ls hR hL)
    · cases hop
    · split at hop
      · rename_i ha
        subst ha
        split at hop
        · cases hop
        · rename_i hin
          cases hop
          intro H locs cells slots ls hR hL
          exact va_sld hx hb hro.1 hro.2.1 hro.2.2.1 hR.2.2.1 hin hdg (hk H locs cells slots ls hR hL)
      · cases hop
  · cases hop
theorem xs_baload (hx : p.tables.exec = Jvm.exec) (hb : c.code = cc) (hK : xK D tA s) (hdg : decode cc pc = .ok (.baload, 1)) (hop : xbald pc L st w = some (.inl f')) (hk : xnx p l e R s m args below meth c Q D tA A s0 nL f') : xnx p l e R s m args below meth c Q D tA A s0 nL (pc, L, st, w) := by
  unfold xbald at hop
  split at hop
  · rename_i i a r
    split at hop
    · rename_i n f ha
      split at hop
      · cases hop
      · rename_i hin
        cases hop
        intro H locs cells slots ls hR hL
        exact va_zald hx hb hK.2.2.1 (xP1 (hR.1 a _ ha).1) 0 1 rfl rfl hin hdg (hk H locs cells slots ls hR hL)
    · rename_i n f ha
      split at hop
      · cases hop
      · rename_i hin
        cases hop
        intro H locs cells slots ls hR hL
        exact va_bald hx hb hK.2.2.1 (xP1 (hR.1 a _ ha).1) 0 2 rfl rfl hin hdg (hk H locs cells slots ls hR hL)
    · cases hop
  · cases hop
theorem xs_aald1 (hx : p.tables.exec = Jvm.exec) (hb : c.code = cc) {ty : FieldType} (hty : ty.isReference = true) {cA : ClassId} (hA : ArrOfT s cA ty) {H : Heap} {locs : List Loc} {cells slots n a : Nat} {ls : Array Slot} {f : Nat → Option Nat} {i : Int32} {r : List Value} (ha : H[a]? = some (vp_cell cA (n, .inr (.inr (.inr (.inr f)))))) (hin : ¬ (i < 0 ∨ n ≤ i.toNatClampNeg)) (hdg : decode cc pc = .ok (.aaload, 1)) (kk : W p l e R s m args below meth c H locs cells slots Q (F0 m (pc + 1) ls (va_rf (f i.toNatClampNeg) :: r))) : W p l e R s m args below meth c H locs cells slots Q (F0 m pc ls (.int i :: .ref a :: r)) := by
  have hlt : i.toNatClampNeg < n := Nat.not_le.mp fun q => hin (Or.inr q)
  exact W.aald (v := va_rf (f i.toNatClampNeg)) (ty := ty) hx hb ha (hA n (fun j => va_rf (f j))) hty (fun q => by cases q) (by show ¬ (i < 0 ∨ (arrV _ _ _).slots.size ≤ _); rw [arrV_size]; exact hin) (by show (arrV _ _ _).slots[_]? = _; rw [arrV_read _ _ hlt]) rfl rfl hdg kk
/-- the kinds of arrays of references -/
theorem xarr {t : Nat} (hK : xK D tA s) (h1 : ¬ t < 3) (h2 : ¬ 7 < t) : ∃ ty : FieldType, ty.isReference = true ∧ ArrOfT s (tA t) ty := by
  have hk := hK.2.2.1.2
  have h : t = 3 ∨ t = 4 ∨ t = 5 ∨ t = 6 ∨ t = 7 := by omega
  rcases h with rfl | rfl | rfl | rfl | rfl
  · exact ⟨_, rfl, (hk 3 _ rfl).1⟩
  · exact ⟨_, rfl, (hk 4 _ rfl).1⟩
  · exact ⟨_, rfl, (hk 5 _ rfl).1⟩
  · exact ⟨_, rfl, (hk 6 _ rfl).1⟩
  · exact ⟨_, rfl, (hk 7 _ rfl).1⟩
theorem xarr0 {t : Nat} (hK : xK D tA s) (h2 : ¬ 7 < t) : ∃ ty : FieldType, (xtys tA)[t]? = some (tA t, ty) := by
  have h : t = 0 ∨ t = 1 ∨ t = 2 ∨ t = 3 ∨ t = 4 ∨ t = 5 ∨ t = 6 ∨ t = 7 := by omega
  rcases h with rfl | rfl | rfl | rfl | rfl | rfl | rfl | rfl <;> exact ⟨_, rfl⟩
theorem xs_aaload (hx : p.tables.exec = Jvm.exec) (hb : c.code = cc) (hK : xK D tA s) (hdg : decode cc pc = .ok (.aaload, 1)) (hop : xaald pc L st w = some (.inl f')) (hk : xnx p l e R s m args below meth c Q D tA A s0 nL f') : xnx p l e R s m args below meth c Q D tA A s0 nL (pc, L, st, w) := by
  unfold xaald at hop
  split at hop
  · rename_i i a r
    split at hop
    · rename_i t n f ha
      split at hop
      · cases hop
      · rename_i hin
        cases hop
        intro H locs cells slots ls hR hL
        obtain ⟨ty, h1, h2⟩ := xarr (t := t) hK (fun z => hin (Or.inr (Or.inr (Or.inl z)))) (fun z => hin (Or.inr (Or.inr (Or.inr z))))
        exact xs_aald1 hx hb h1 h2 (hR.1 a _ ha).1 (fun z => hin (z.elim Or.inl (fun z => Or.inr (Or.inl z)))) hdg (hk H locs cells slots ls hR hL)
    · cases hop
  · cases hop
theorem xs_arraylength (hx : p.tables.exec = Jvm.exec) (hb : c.code = cc) (hK : xK D tA s) (hro : xro G adV A s s.heap) (hdg : decode cc pc = .ok (.arraylength, 1)) (hop : xalen G pc L st w = some (.inl f')) (hk : xnx p l e R s m args below meth c Q D tA A s0 nL f') : xnx p l e R s m args below meth c Q D tA A s0 nL (pc, L, st, w) := by
  unfold xalen at hop
  split at hop
  · rename_i a r
    split at hop
    · rename_i t x ha
      split at hop
      · cases hop
      · rename_i h7
        cases hop
        intro H locs cells slots ls hR hL
        obtain ⟨ty, ht⟩ := xarr0 hK h7
        exact va_alen hx hb hK.2.2.1 (xP1 (hR.1 a _ ha).1) 0 t rfl ht rfl hdg (hk H locs cells slots ls hR hL)
    · cases hop
    · split at hop
      · rename_i ha
        subst ha
        cases hop
        intro H locs cells slots ls hR hL
        exact va_slen hx hb hro.1 hro.2.1 hro.2.2.1 hR.2.2.1 hdg (hk H locs cells slots ls hR hL)
      · cases hop
  · cases hop
theorem xs_iastore (hx : p.tables.exec = Jvm.exec) (hb : c.code = cc) (hK : xK D tA s) (hdg : decode cc pc = .ok (.iastore, 1)) (hop : xiast pc L st w = some (.inl f')) (hk : xnx p l e R s m args below meth c Q D tA A s0 nL f') : xnx p l e R s m args below meth c Q D tA A s0 nL (pc, L, st, w) := by
  unfold xiast at hop
  split at hop
  · rename_i x i a r
    split at hop
    · rename_i n f ha
      split at hop
      · cases hop
      · rename_i hin
        cases hop
        intro H locs cells slots ls hR hL
        refine W.iast hx hb (hR.1 a _ ha).1 ((hK.2.2.1.2 0 _ rfl).1 n (fun j => .int (f j))) (fun q => by cases q) (by show ¬ (i < 0 ∨ (arrV _ _ _).slots.size ≤ _); rw [arrV_size]; exact hin) rfl rfl hdg fun H1 e1 z oq => ?_
        refine hk H1 _ cells slots ls (xrep_put hR ha ?_ z oq) hL
        show H1[a]? = some (vp_cell _ _)
        rw [e1]
        show some ((vp_cell (tA 0) (n, .inl f)).setSlot _ _) = _
        rw [vp_cell_i, vp_cell_i, arrV_store]
        congr 2
        funext q
        by_cases hq : q = i.toNatClampNeg
        · subst hq
          simp [updV, upd]
        · simp [updV, upd, hq]
    · cases hop
  · cases hop
theorem xs_bastore (hx : p.tables.exec = Jvm.exec) (hb : c.code = cc) (hK : xK D tA s) (hdg : decode cc pc = .ok (.bastore, 1)) (hop : xbast pc L st w = some (.inl f')) (hk : xnx p l e R s m args below meth c Q D tA A s0 nL f') : xnx p l e R s m args below meth c Q D tA A s0 nL (pc, L, st, w) := by
  unfold xbast at hop
  split at hop
  · rename_i x i a r
    split at hop
    · rename_i n f ha
      split at hop
      · cases hop
      · rename_i hin
        cases hop
        intro H locs cells slots ls hR hL
        refine W.zast hx hb (hR.1 a _ ha).1 ((hK.2.2.1.2 1 _ rfl).1 n (fun j => .int (f j))) (fun q => by cases q) (by show ¬ (i < 0 ∨ (arrV _ _ _).slots.size ≤ _); rw [arrV_size]; exact hin) rfl rfl hdg fun H1 e1 z oq => ?_
        refine hk H1 _ cells slots ls (xrep_put hR ha ?_ z oq) hL
        show H1[a]? = some (vp_cell _ _)
        rw [e1]
        show some ((vp_cell (tA 1) (n, .inl f)).setSlot _ _) = _
        rw [vp_cell_i, vp_cell_i, arrV_store]
        congr 2
        funext q
        by_cases hq : q = i.toNatClampNeg
        · subst hq
          simp [updV, upd, vp_nar]
          try rfl
        · simp [updV, upd, hq]
    · rename_i n f ha
      split at hop
      · cases hop
      · rename_i hin
        cases hop
        intro H locs cells slots ls hR hL
        refine W.bast hx hb (hR.1 a _ ha).1 ((hK.2.2.1.2 2 _ rfl).1 n (fun j => .int (f j))) (fun q => by cases q) (by show ¬ (i < 0 ∨ (arrV _ _ _).slots.size ≤ _); rw [arrV_size]; exact hin) rfl rfl hdg fun H1 e1 z oq => ?_
        refine hk H1 _ cells slots ls (xrep_put hR ha ?_ z oq) hL
        show H1[a]? = some (vp_cell _ _)
        rw [e1]
        show some ((vp_cell (tA 2) (n, .inl f)).setSlot _ _) = _
        rw [vp_cell_i, vp_cell_i, arrV_store]
        congr 2
        funext q
        by_cases hq : q = i.toNatClampNeg
        · subst hq
          simp [updV, upd, vp_nar]
          try rfl
        · simp [updV, upd, hq]
    · cases hop
  · cases hop
/-- a reference laid into an array of references -/
theorem xs_aast1 (hx : p.tables.exec = Jvm.exec) (hb : c.code = cc) {H : Heap} {locs : List Loc} {cells slots n a v t : Nat} {ls : Array Slot} {f : Nat → Option Nat} {i : Int32} {r : List Value} {kA kC : Class} {comp : ClassId} {ty : FieldType} {cv : Cell} (hR : xrep D tA A s.heap s0 w H locs cells slots) (hL : xlr ls nL L) (ha : w.1 a = some (.inl (t, n, .inr (.inr (.inr (.inr f)))))) (hin : ¬ (i < 0 ∨ n ≤ i.toNatClampNeg))
    (h1 : s.vm.classes[tA t]? = some kA) (h2 : kA.kind = .array comp ty) (hty : ty.isReference = true) (h3 : s.vm.classes[comp]? = some kC) (g1 : H[v]? = some cv) (g2 : ∀ q, cv.vm ≠ .statics q) (g3 : cv.cls = comp) (g4 : s.vm.assignable comp comp = true) (hdg : decode cc pc = .ok (.aastore, 1))
    (hk : xnx p l e R s m args below meth c Q D tA A s0 nL (pc + 1, L, r, xup w.1 a (.inl (t, n, .inr (.inr (.inr (.inr (va_up f i.toNatClampNeg (some v))))))), w.2)) : W p l e R s m args below meth c H locs cells slots Q (F0 m pc ls (.ref v :: .int i :: .ref a :: r)) := by
  have hlt : i.toNatClampNeg < n := Nat.not_le.mp fun q => hin (Or.inr q)
  have h0 : ¬ i < 0 := fun q => hin (Or.inl q)
  refine W.aast hx hb (hR.1 a _ ha).1 (fun q h => by cases h) (fun h => by cases h) h1 h2 hty h3 ⟨h0, by show _ < (arrV _ _ _).slots.size; rw [arrV_size]; exact hlt⟩ g1 g2 (by rw [g3]; exact h3) (by rw [g3]; exact g4) rfl rfl hdg fun H1 e1 z oq => ?_
  refine hk H1 _ cells slots ls (xrep_put hR ha ?_ z oq) hL
  show H1[a]? = some (vp_cell _ _)
  rw [e1]
  show some ((vp_cell (tA t) (n, .inr (.inr (.inr (.inr f))))).setSlot _ _) = _
  rw [vp_cell_q, vp_cell_q, arrV_store]
  congr 2
  funext q
  by_cases hq : q = i.toNatClampNeg
  · subst hq
    simp [updV, va_up, va_rf]
  · simp [updV, va_up, hq]
end XH
end
section
/-! ===== the small machine is right: fields, new cells, constants ===== -/
/-- what a program has decided of the classes -/
theorem xcl_ok : ∀ (ci : Nat) (r : vw_C), xcl[ci]? = some r → (∀ w ∈ u_ws r.1 r.2.1 r.2.2, w ∈ lw_tbl) ∧ (∀ a, a < r.2.2 → ∀ b, b < r.2.2 → a ≠ b → (r.2.1 a).2.1 ≠ (r.2.1 b).2.1) ∧ (∀ k, k < r.2.2 → parseFieldDescriptor (r.2.1 k).2.2.1 = some (xtyOf ci k)) ∧ (xdef ci).length = r.2.2 ∧ ∀ j, j < r.2.2 → defaultValue (xtyOf ci j) = vp_V (xdef ci) j
  | 0, _, h => by
    cases h
    exact ⟨xin0, xnm0, xtk0, rfl, by decide +kernel⟩
  | 1, _, h => by
    cases h
    exact ⟨xin1, xnm1, xtk1, rfl, by decide +kernel⟩
  | 2, _, h => by
    cases h
    exact ⟨xin2, xnm2, xtk2, rfl, by decide +kernel⟩
  | 3, _, h => by
    cases h
    exact ⟨xin3, xnm3, xtk3, rfl, by decide +kernel⟩
  | 4, _, h => by
    cases h
    exact ⟨xin4, xnm4, xtk4, rfl, by decide +kernel⟩
  | 5, _, h => by
    cases h
    exact ⟨xin5, xnm5, xtk5, rfl, by decide +kernel⟩
  | 6, _, h => by
    cases h
    exact ⟨xin6, xnm6, xtk6, rfl, by decide +kernel⟩
  | 7, _, h => by
    cases h
    exact ⟨xin7, xnm7, xtk7, rfl, by decide +kernel⟩
  | 8, _, h => by
    cases h
    exact ⟨xin8, xnm8, xtk8, rfl, by decide +kernel⟩
  | 9, _, h => by
    cases h
    exact ⟨xin9, xnm9, xtk9, rfl, by decide +kernel⟩
  | 10, _, h => by
    cases h
    exact ⟨xin10, xnm10, xtk10, rfl, by decide +kernel⟩
  | n + 11, _, h => by
    exfalso
    have := (List.getElem?_eq_some_iff.mp h).1
    simp at this
    omega
theorem xlay_good {C : String} {T : u_T} {N : Nat} : ∀ w ∈ u_ws C T N, goodWord w = true := by
  intro w hw
  obtain ⟨k, -, rfl⟩ := List.mem_map.mp hw
  unfold u_lay
  split <;> rfl
def xFok (q : Nat × Nat × Nat × Nat × Nat × Nat) : Bool := match xcl[q.2.2.1]? with
  | some r => decide (q.2.2.2.1 < r.2.2) && decide ((r.2.1 q.2.2.2.1).1 = xon q.2.2.1) && decide (lw_tbl[q.2.2.2.2.2]? = some (if q.2.2.2.2.1 = 0 then Jvm.Cond.fieldLink (xon q.1) q.2.1 (r.2.1 q.2.2.2.1).1 (r.2.1 q.2.2.2.1).2.1 (r.2.1 q.2.2.2.1).2.2.1 else Jvm.Cond.fieldLinkNest (xon q.1) q.2.1 (r.2.1 q.2.2.2.1).1 (r.2.1 q.2.2.2.1).2.1 (r.2.1 q.2.2.2.1).2.2.1 "DriftStore"))
  | none => false
set_option maxRecDepth 100000 in
theorem xFt_ok : xFt.all xFok = true := by decide +kernel
theorem xFl_some {o i : Nat} {q : Nat × Nat × Nat × Nat × Nat × Nat} (h : xFl o i = some q) : q.1 = o ∧ q.2.1 = i ∧ ∃ r, xcl[q.2.2.1]? = some r ∧ q.2.2.2.1 < r.2.2 ∧ (r.2.1 q.2.2.2.1).1 = xon q.2.2.1 ∧ lw_tbl[q.2.2.2.2.2]? = some (if q.2.2.2.2.1 = 0 then Jvm.Cond.fieldLink (xon o) i (r.2.1 q.2.2.2.1).1 (r.2.1 q.2.2.2.1).2.1 (r.2.1 q.2.2.2.1).2.2.1 else Jvm.Cond.fieldLinkNest (xon o) i (r.2.1 q.2.2.2.1).1 (r.2.1 q.2.2.2.1).2.1 (r.2.1 q.2.2.2.1).2.2.1 "DriftStore") := by
  have hm := List.mem_of_find?_eq_some h
  have hp := List.find?_some h
  simp only [Bool.and_eq_true, beq_iff_eq] at hp
  obtain ⟨rfl, rfl⟩ := hp
  have hk := List.all_eq_true.mp xFt_ok q hm
  unfold xFok at hk
  split at hk
  · rename_i r hr
    simp only [Bool.and_eq_true, decide_eq_true_eq] at hk
    exact ⟨rfl, rfl, r, hr, hk.1.1, hk.1.2, hk.2⟩
  · cases hk
section XN
variable {p : Program} {l : Launch} {e : Env} {R : Room} {s : State} {m : MethodId} {args : Array Value} {below : List Frame} {meth : Method} {c : Code} {Q : State → Prop} {D : va_G} {tA : Nat → ClassId} {A : Nat → Prop} {s0 nL : Nat} {cc : ByteArray} {pc : Nat} {L : xL} {st : List Value} {w : xW} {f' : xF} {G : xG} {adV : Nat → Nat} {o : Nat}
theorem xs_aastore (hx : p.tables.exec = Jvm.exec) (hb : c.code = cc) (hK : xK D tA s) (hdg : decode cc pc = .ok (.aastore, 1)) (hop : xaast pc L st w = some (.inl f')) (hk : xnx p l e R s m args below meth c Q D tA A s0 nL f') : xnx p l e R s m args below meth c Q D tA A s0 nL (pc, L, st, w) := by
  unfold xaast at hop
  split at hop
  · rename_i v i a r
    split at hop
    · rename_i t n f ha
      split at hop
      · cases hop
      · rename_i hin
        split at hop
        · rename_i hf
          cases hop
          intro H locs cells slots ls hR hL
          have hKv := hK.2.2.1
          have obj : ∀ (ci : Nat) (r8 : vw_C) (fs : List Value), xcl[ci]? = some r8 → w.1 v = some (.inr (ci, fs)) → (xtys tA)[t]? = some (tA t, .object r8.1) → W p l e R s m args below meth c H locs cells slots Q (F0 m pc ls (.ref v :: .int i :: .ref a :: r)) := by
            intro ci r9 fs hc hv ht
            obtain ⟨r', hr', cellV, g1, g2, g3, -⟩ := (hR.1 v _ hv).1
            have hcls := (hKv.1 ci r9 hc).2
            obtain ⟨kA, comp, k1, k2, k3, -⟩ := (hKv.2 t _ ht).2
            have hcomp : comp = D.1 ci := Option.some.inj (k3.symm.trans hcls.1)
            subst hcomp
            obtain ⟨kC, hkC, -⟩ := hcls.2
            exact xs_aast1 hx hb hR hL ha hin k1 k2 rfl hkC g1 (fun q h => by rw [g3] at h; cases h) g2 (va_asg _ _) hdg hk
          unfold xfit at hf
          split at hf
          · rename_i ci fs hv
            simp only [Bool.or_eq_true, Bool.and_eq_true, beq_iff_eq] at hf
            rcases hf with (⟨rfl, rfl⟩ | ⟨rfl, rfl⟩) | ⟨rfl, rfl⟩
            · exact obj 9 _ fs rfl hv rfl
            · exact obj 6 _ fs rfl hv rfl
            · exact obj 7 _ fs rfl hv rfl
          · rename_i k9 x9 hv
            simp only [Bool.and_eq_true, beq_iff_eq] at hf
            obtain ⟨rfl, rfl⟩ := hf
            obtain ⟨comp, c9, k, h1, h2, h3, h4, h5⟩ := arrayOverA_spec hK.2.2.2.2.2.2.1
            have e6 : s.vm.findClass ("[" ++ (FieldType.array .int).toString) = some (tA 6) := (hKv.2 6 _ rfl).2
            have e0 : s.vm.findClass ("[" ++ FieldType.int.toString) = some (tA 0) := (hKv.2 0 _ rfl).2
            have hc9 : c9 = tA 6 := Option.some.inj (h5.symm.trans e6)
            have hcomp : comp = tA 0 := Option.some.inj (h1.symm.trans e0)
            subst hc9
            subst hcomp
            obtain ⟨-, k0, hk0, -⟩ := (hKv.2 0 _ rfl).1 0 (fun _ => .null)
            have hvc : H[v]? = some (vp_cell (tA 0) x9) := (hR.1 v _ hv).1
            refine xs_aast1 hx hb hR hL ha hin h3 h4 rfl hk0 hvc (fun q h => ?_) ?_ (va_asg _ _) hdg hk
            · unfold vp_cell at h
              split at h <;> cases h
            · unfold vp_cell
              split <;> rfl
          · cases hf
        · cases hop
    · cases hop
  · cases hop
theorem xs_getfield (hx : p.tables.exec = Jvm.exec) (hb : c.code = cc) (hK : xK D tA s) (hown : s.vm.findClass (xon o) = some m.cls) {idx : Nat} (hdg : decode cc pc = .ok (.getfield idx, 3)) (hop : xgetf o idx pc L st w = some (.inl f')) (hk : xnx p l e R s m args below meth c Q D tA A s0 nL f') : xnx p l e R s m args below meth c Q D tA A s0 nL (pc, L, st, w) := by
  unfold xgetf at hop
  split at hop
  · rename_i a r
    split at hop
    · rename_i ci fs ha
      split at hop
      · rename_i q hq
        split at hop
        · rename_i hci
          subst hci
          split at hop
          · rename_i v hv
            cases hop
            intro H locs cells slots ls hR hL
            obtain ⟨-, -, ⟨C, T, N⟩, hr, hlt, -, hw⟩ := xFl_some hq
            obtain ⟨hin, -⟩ := xcl_ok _ _ hr
            have hts : ∀ w ∈ u_ws C T N, w.before args s = true := fun w hw' => hK.1 w (hin w hw') (xlay_good w hw') args
            by_cases hn : q.2.2.2.2.1 = 0
            · rw [if_pos hn] at hw
              exact va_get hx hb hts (fun _ h => h) hown hK.2.2.1 (xP1 (hR.1 a _ ha).1) 0 rfl hr q.2.2.2.1 hlt (hK.w _ hw rfl args) (fun _ h9 => h9) hv hdg (hk H locs cells slots ls hR hL)
            · rw [if_neg hn] at hw
              exact va_getN hx hb hts (fun _ h => h) hown hK.2.2.1 (xP1 (hR.1 a _ ha).1) 0 rfl hr q.2.2.2.1 hlt (va_Nw.use rfl (hK.n _ hw rfl)) (fun _ h9 => h9) hv hdg (hk H locs cells slots ls hR hL)
          · cases hop
        · cases hop
      · cases hop
    · cases hop
  · cases hop
theorem xs_putfield (hx : p.tables.exec = Jvm.exec) (hb : c.code = cc) (hK : xK D tA s) (hown : s.vm.findClass (xon o) = some m.cls) {idx : Nat} {init : Bool} (hin2 : init = true → meth.name = "<init>") (hdg : decode cc pc = .ok (.putfield idx, 3)) (hop : xputf o idx init pc L st w = some (.inl f')) (hk : xnx p l e R s m args below meth c Q D tA A s0 nL f') : xnx p l e R s m args below meth c Q D tA A s0 nL (pc, L, st, w) := by
  unfold xputf at hop
  split at hop
  · rename_i v a r
    split at hop
    · rename_i ci fs ha
      split at hop
      · rename_i q hq
        split at hop
        · rename_i hc
          obtain ⟨rfl, hl, hn, hfit, hfin⟩ := hc
          cases hop
          intro H locs cells slots ls hR hL
          obtain ⟨-, -, ⟨C, T, N⟩, hr, hlt, hdecl, hw⟩ := xFl_some hq
          obtain ⟨hin, hnm, hty, -⟩ := xcl_ok _ _ hr
          have hts : ∀ w ∈ u_ws C T N, w.before args s = true := fun w hw' => hK.1 w (hin w hw') (xlay_good w hw') args
          have hid : ∀ w ∈ u_ws C T N, w ∈ u_ws C T N := fun _ h => h
          have hap := va_apart (own := xon o) hts hid _ hty hnm hK.2.2.1 hr
          have hd := hty _ hlt
          obtain ⟨r9, h1, cell, q1, q2, q3, q4⟩ := (hR.1 a _ ha).1
          have hr9 : r9 = (C, T, N) := Option.some.inj (h1.symm.trans hr)
          subst hr9
          obtain ⟨hS, hfc, kC, hkC, hkind⟩ := hK.2.2.1.1 _ _ hr
          obtain ⟨cf, kf, fi, f, hi, hsl⟩ := hS _ hlt
          have hlay := hts _ (hid _ (u_in_lay hlt))
          have hst := (u_facts hfc hkC (u_lays hts hid hlt) hi).1
          have hend : ∀ H', H'[a]? = some (cell.setSlot (D.2 q.2.2.1 q.2.2.2.1) v) → H'.size = H.size → (∀ b, b ≠ a → H'[b]? = H[b]?) → W p l e R s m args below meth c H' (locs ++ [⟨a, D.2 q.2.2.1 q.2.2.2.1⟩]) cells slots Q (F0 m (pc + 3) ls _) := fun H' e1 e2 e3 =>
            hk H' _ cells slots ls (xrep_put hR ha ⟨_, hr, t_OB.to (V := updV (vp_V fs) q.2.2.2.1 v) ⟨_, e1, q2, q3, t_set q4 hap hlt v⟩ (fun j _ => vp_updV_set hl v j)⟩ e2 e3) hL
          have hff : xfin q.2.2.1 q.2.2.2.1 = (T q.2.2.2.1).2.2.2 := by
            unfold xfin
            rw [hr]
          by_cases hf : (T q.2.2.2.1).2.2.2 = false
          · unfold u_lay at hlay
            rw [if_neg (by rw [hf]; decide)] at hlay
            have h6 := u_store hfc hkC hkind hlay hi hd hn hfit
            by_cases hn : q.2.2.2.2.1 = 0
            · rw [if_pos hn] at hw
              refine W.putK hx hb (f := f) ⟨hown, hK.w _ hw rfl args, ⟨_, _, _, hi⟩, hst⟩ (by rw [q2]; exact h6) q1 q3 (by rw [hsl]; exact k2_hasslot (q4 _ hlt)) rfl rfl hdg fun H' e1 e2 e3 => ?_
              rw [hsl] at e1 ⊢
              exact hend H' e1 e2 e3
            · rw [if_neg hn] at hw
              refine va_WputK hx hb (f := f) hown (va_Nw.use rfl (hK.n _ hw rfl)) hi hst (by rw [q2]; exact h6) q1 q3 (by rw [hsl]; exact k2_hasslot (q4 _ hlt)) rfl rfl hdg fun H' e1 e2 e3 => ?_
              rw [hsl] at e1 ⊢
              exact hend H' e1 e2 e3
          · rcases hfin with h | ⟨hinit, ho, hz⟩
            · exact absurd (hff ▸ h) hf
            · have hft : (T q.2.2.2.1).2.2.2 = true := by simpa using hf
              rw [if_pos hz] at hw
              unfold u_lay at hlay
              rw [if_pos hft] at hlay
              have hcf : m.cls = cf := by
                obtain ⟨_, _, c', _, _, _, -, -, hf', -, -, -, hown2, -⟩ := Cond.laysFinal_spec hlay
                have e1 : c' = cf := by have := hi.symm.trans hf'; simp at this; exact this.1.symm
                rw [show (T q.2.2.2.1).1 = xon o by rw [ho]; exact hdecl] at hown2
                rw [← e1]; exact Option.some.inj (hown.symm.trans hown2)
              have h6 := u_fits hfc hkC hkind (Or.inr hlay) hi hd hn hfit
              refine W.putFinK hx hb hown (hK.w _ hw rfl args) hi hst hcf (hin2 hinit) (by rw [q2]; exact h6) q1 q3 (by rw [hsl]; exact k2_hasslot (q4 _ hlt)) rfl rfl hdg fun H' e1 e2 e3 => ?_
              rw [hsl] at e1 ⊢
              exact hend H' e1 e2 e3
        · cases hop
      · cases hop
    · cases hop
  · cases hop
end XN
end
section
/-! ===== the small machine is right: new cells, constants, answers ===== -/
def xKok (q : Nat × Nat × Nat × Nat × Nat × Nat) : Bool := match xcl[q.2.2.1]? with
  | some r => decide (lw_tbl[q.2.2.2.1]? = some (Jvm.Cond.classLink (xon q.1) q.2.1 r.1)) && decide (lw_tbl[q.2.2.2.2.1]? = some (Jvm.Cond.instantiable r.1 r.2.2)) && decide (lw_tbl[q.2.2.2.2.2]? = some (Jvm.Cond.initialized r.1))
  | none => false
set_option maxRecDepth 100000 in
theorem xKt_ok : xKt.all xKok = true := by decide +kernel
theorem xKl_some {o i : Nat} {q : Nat × Nat × Nat × Nat × Nat × Nat} (h : xKl o i = some q) : ∃ r, xcl[q.2.2.1]? = some r ∧ lw_tbl[q.2.2.2.1]? = some (Jvm.Cond.classLink (xon o) i r.1) ∧ lw_tbl[q.2.2.2.2.1]? = some (Jvm.Cond.instantiable r.1 r.2.2) ∧ lw_tbl[q.2.2.2.2.2]? = some (Jvm.Cond.initialized r.1) := by
  have hm := List.mem_of_find?_eq_some h
  have hp := List.find?_some h
  simp only [Bool.and_eq_true, beq_iff_eq] at hp
  obtain ⟨rfl, rfl⟩ := hp
  have hk := List.all_eq_true.mp xKt_ok q hm
  unfold xKok at hk
  split at hk
  · rename_i r hr
    simp only [Bool.and_eq_true, decide_eq_true_eq] at hk
    exact ⟨r, hr, hk.1.1, hk.1.2, hk.2⟩
  · cases hk
/-- the component of an array of references, by its kind -/
def xcomp (t : Nat) : FieldType := if t = 3 then .object "DriftStore$Write" else if t = 4 then .object "DriftStore$Server" else if t = 5 then .object "DriftStore$Session" else if t = 6 ∨ t = 16 then .array .int else .array .boolean
def xcname (t : Nat) : String := if t = 3 then "DriftStore$Write" else if t = 4 then "DriftStore$Server" else if t = 5 then "DriftStore$Session" else if t = 6 then (FieldType.array .int).toString else if t = 16 then (FieldType.array (.array .int)).toString else (FieldType.array (.array .boolean)).toString
def xNok (q : Nat × Nat × Nat × Nat × Nat) : Bool := decide (lw_tbl[q.2.2.2.1]? = some (Jvm.Cond.classLink (xon q.1) q.2.1 (xcname q.2.2.1))) && decide (lw_tbl[q.2.2.2.2]? = some (Jvm.Cond.arrayOver (xcomp q.2.2.1))) && decide (q.2.2.1 = 3 ∨ q.2.2.1 = 4 ∨ q.2.2.1 = 5 ∨ q.2.2.1 = 6 ∨ q.2.2.1 = 16 ∨ q.2.2.1 = 17)
set_option maxRecDepth 100000 in
theorem xNt_ok : xNt.all xNok = true := by decide +kernel
theorem xNl_some {o i : Nat} {q : Nat × Nat × Nat × Nat × Nat} (h : xNl o i = some q) : lw_tbl[q.2.2.2.1]? = some (Jvm.Cond.classLink (xon o) i (xcname q.2.2.1)) ∧ lw_tbl[q.2.2.2.2]? = some (Jvm.Cond.arrayOver (xcomp q.2.2.1)) ∧ (q.2.2.1 = 3 ∨ q.2.2.1 = 4 ∨ q.2.2.1 = 5 ∨ q.2.2.1 = 6 ∨ q.2.2.1 = 16 ∨ q.2.2.1 = 17) := by
  have hm := List.mem_of_find?_eq_some h
  have hp := List.find?_some h
  simp only [Bool.and_eq_true, beq_iff_eq] at hp
  obtain ⟨rfl, rfl⟩ := hp
  have hk := List.all_eq_true.mp xNt_ok q hm
  unfold xNok at hk
  simp only [Bool.and_eq_true, decide_eq_true_eq] at hk
  exact ⟨hk.1.1, hk.1.2, hk.2⟩
def xDok (q : Nat × Nat × Nat × Int32 × Nat × Nat) : Bool := if q.2.2.1 = 0 then decide (lw_tbl[q.2.2.2.2.2]? = some (Jvm.Cond.constant (xon q.1) q.2.1 q.2.2.2.1)) else decide (lw_tbl[q.2.2.2.2.2]? = some (Jvm.Cond.stringRef (xon q.1) q.2.1 (xSn.getD q.2.2.2.2.1 ""))) && decide (q.2.2.1 = 1)
set_option maxRecDepth 100000 in
theorem xDt_ok : xDt.all xDok = true := by decide +kernel
def xLok (q : Nat × Nat × Int64 × Nat) : Bool := decide (lw_tbl[q.2.2.2]? = some (Jvm.Cond.constantLong (xon q.1) q.2.1 q.2.2.1))
set_option maxRecDepth 100000 in
theorem xLt_ok : xLt.all xLok = true := by decide +kernel
set_option maxRecDepth 100000 in
theorem xac_int : Jvm.Cond.arrayClass .int ∈ lw_tbl := by decide +kernel
set_option maxRecDepth 100000 in
theorem xac_boolean : Jvm.Cond.arrayClass .boolean ∈ lw_tbl := by decide +kernel
set_option maxRecDepth 100000 in
theorem xac_byte : Jvm.Cond.arrayClass .byte ∈ lw_tbl := by decide +kernel
/-- a method's end -/
def xQ (D : va_G) (tA : Nat → ClassId) (A : Nat → Prop) (v : Option Value) (w' : xW) : Array Value → State → Outcome → State → Prop := fun _ st oc t => oc = .returned v ∧ (∀ a e, w'.1 a = some e → va_at D xcl (a, xte tA e) t.heap ∧ A a) ∧ w'.2.1 = t.heap.size ∧ va_F A st t
section XM
variable {p : Program} {l : Launch} {e : Env} {R : Room} {s : State} {m : MethodId} {args : Array Value} {below : List Frame} {meth : Method} {c : Code} {Q : State → Prop} {D : va_G} {tA : Nat → ClassId} {A : Nat → Prop} {s0 nL : Nat} {cc : ByteArray} {pc : Nat} {L : xL} {st : List Value} {w : xW} {f' : xF} {G : xG} {adV : Nat → Nat} {o : Nat}
theorem xs_new (hx : p.tables.exec = Jvm.exec) (hb : c.code = cc) (hK : xK D tA s) (hown : s.vm.findClass (xon o) = some m.cls) {idx : Nat} (hf1 : f'.2.2.2.2.1 ≤ s.heap.size + R.cells) (hf2 : f'.2.2.2.2.2 ≤ s0 + R.slots) (hdg : decode cc pc = .ok (.new idx, 3)) (hop : xnew o idx pc L st w = some (.inl f')) (hk : xnx p l e R s m args below meth c Q D tA A s0 nL f') : xnx p l e R s m args below meth c Q D tA A s0 nL (pc, L, st, w) := by
  unfold xnew at hop
  split at hop
  · rename_i q hq
    cases hop
    intro H locs cells slots ls hR hL
    obtain ⟨⟨C, T, N⟩, hr, w1, w2, w3⟩ := xKl_some hq
    obtain ⟨hin, hnm, hty, hlen, hdef⟩ := xcl_ok _ _ hr
    have hts : ∀ w ∈ u_ws C T N, w.before args s = true := fun w hw' => hK.1 w (hin w hw') (xlay_good w hw') args
    have hKn := hK.2.2.1.1 _ _ hr
    have hcell : s.heap.size + cells = w.2.1 := hR.2.2.2.2.1
    have hslot : s0 + slots = w.2.2 := hR.2.2.2.2.2
    have hf1 : w.2.1 + 1 ≤ s.heap.size + R.cells := hf1
    have hf2 : w.2.2 + (xdef q.2.2.1).length ≤ s0 + R.slots := hf2
    have hlen : (xdef q.2.2.1).length = N := hlen
    refine W.newcK hx hb hown (hK.w _ w1 rfl args) (hK.w _ w2 rfl args) (hK.w _ w3 rfl args) rfl hdg (by omega) (by show slots + N ≤ _; omega) hKn.2.1 rfl fun H1 kC hkC e1 z1 o1 => ?_
    have h9 := hk H1 locs (cells + 1) (slots + (xdef q.2.2.1).length) ls (xrep_new hR z1 o1 ⟨_, hr, (u_born (xtyOf q.2.2.1) hts (fun _ h => h) hKn hkC e1 hty).to hdef⟩) hL
    rw [hlen] at h9
    rw [hR.2.1] at h9
    exact h9
  · cases hop
theorem xs_newa1 (hx : p.tables.exec = Jvm.exec) (hb : c.code = cc) {atype : ArrayType} {t : Nat} (harr : (Jvm.Cond.arrayClass (newarray.typeOf atype)).before args s = true) (htA : s.vm.findClass ("[" ++ (newarray.typeOf atype).toString) = some (tA t)) (hdv : defaultValue (newarray.typeOf atype) = .int 0) (hcb : componentBytes (newarray.typeOf atype) ≤ 4) {n : Int32} {r : List Value} (hn : ¬ (n < 0 ∨ 100000 < n.toNatClampNeg)) (hf1 : w.2.1 + 1 ≤ s.heap.size + R.cells) (hf2 : w.2.2 + n.toNatClampNeg ≤ s0 + R.slots) (hdg : decode cc pc = .ok (.newarray atype, 2))
    (hk : xnx p l e R s m args below meth c Q D tA A s0 nL (pc + 2, L, .ref w.2.1 :: r, xup w.1 w.2.1 (.inl (t, n.toNatClampNeg, .inl (fun _ => 0))), w.2.1 + 1, w.2.2 + n.toNatClampNeg)) : xnx p l e R s m args below meth c Q D tA A s0 nL (pc, L, .int n :: r, w) := by
  intro H locs cells slots ls hR hL
  have hcell : s.heap.size + cells = w.2.1 := hR.2.2.2.2.1
  have hslot : s0 + slots = w.2.2 := hR.2.2.2.2.2
  have hm : n.toNatClampNeg * componentBytes (newarray.typeOf atype) ≤ n.toNatClampNeg * 4 := Nat.mul_le_mul_left _ hcb
  refine va_newaK hx hb harr rfl hdg rfl (fun z => hn (Or.inl z)) rfl (by have : ¬ 100000 < n.toNatClampNeg := fun z => hn (Or.inr z); omega) (by omega) (by omega) rfl fun H1 cA e1 z1 o1 hAr hNm => ?_
  have hcA : cA = tA t := Option.some.inj (hNm.symm.trans htA)
  subst hcA
  have h9 := hk H1 locs (cells + 1) (slots + n.toNatClampNeg) ls (xrep_new hR z1 o1 (by
    show H1[H.size]? = some (vp_cell _ _)
    rw [e1, vp_cell_i, hdv])) hL
  rw [hR.2.1] at h9
  exact h9
theorem xs_newarray (hx : p.tables.exec = Jvm.exec) (hb : c.code = cc) (hK : xK D tA s) {t : ArrayType} (hf1 : f'.2.2.2.2.1 ≤ s.heap.size + R.cells) (hf2 : f'.2.2.2.2.2 ≤ s0 + R.slots) (hdg : decode cc pc = .ok (.newarray t, 2)) (hop : xnewa t pc L st w = some (.inl f')) (hk : xnx p l e R s m args below meth c Q D tA A s0 nL f') : xnx p l e R s m args below meth c Q D tA A s0 nL (pc, L, st, w) := by
  unfold xnewa at hop
  split at hop
  · rename_i n r
    split at hop
    · rename_i k ht
      split at hop
      · cases hop
      · rename_i hn
        cases hop
        cases t <;> cases ht
        · exact xs_newa1 (atype := .boolean) (t := 1) hx hb (hK.1 (Jvm.Cond.arrayClass .boolean) xac_boolean rfl args) (hK.2.2.1.2 1 _ rfl).2 rfl (by decide) hn hf1 hf2 hdg hk
        · exact xs_newa1 (atype := .byte) (t := 2) hx hb (hK.1 (Jvm.Cond.arrayClass .byte) xac_byte rfl args) (hK.2.2.1.2 2 _ rfl).2 rfl (by decide) hn hf1 hf2 hdg hk
        · exact xs_newa1 (atype := .int) (t := 0) hx hb (hK.1 (Jvm.Cond.arrayClass .int) xac_int rfl args) (hK.2.2.1.2 0 _ rfl).2 rfl (by decide) hn hf1 hf2 hdg hk
    · cases hop
  · cases hop
theorem xnewq {H : Heap} {locs : List Loc} {cells slots n k : Nat} {ls : Array Slot} {cA : ClassId} {r : List Value} (hR : xrep D tA A s.heap s0 w H locs cells slots) (hL : xlr ls nL L) (hcA : cA = tA k) (hk : xnx p l e R s m args below meth c Q D tA A s0 nL (pc + 3, L, .ref w.2.1 :: r, xup w.1 w.2.1 (.inl (k, n, .inr (.inr (.inr (.inr (fun _ => none)))))), w.2.1 + 1, w.2.2 + n)) :
    W p l e R s m args below meth c (H.push { cls := cA, slots := Array.replicate n .null, vm := .none }) locs (cells + 1) (slots + n) Q (F0 m (pc + 3) ls (.ref H.size :: r)) := by
  subst hcA
  have h9 := hk (H.push { cls := tA k, slots := Array.replicate n .null, vm := .none }) locs (cells + 1) (slots + n) ls (xrep_new hR (Array.size_push ..) (fun q hq => by rw [Array.getElem?_push, if_neg (Nat.ne_of_lt hq)]) (by
    show (H.push _)[H.size]? = some (vp_cell _ _)
    rw [Array.getElem?_push_size, arrV_new, vp_cell_q]
    rfl)) hL
  rw [hR.2.1] at h9
  exact h9
theorem xs_anewarray (hx : p.tables.exec = Jvm.exec) (hb : c.code = cc) (hK : xK D tA s) (hown : s.vm.findClass (xon o) = some m.cls) {idx : Nat} (hf1 : f'.2.2.2.2.1 ≤ s.heap.size + R.cells) (hf2 : f'.2.2.2.2.2 ≤ s0 + R.slots) (hdg : decode cc pc = .ok (.anewarray idx, 3)) (hop : xanew o idx pc L st w = some (.inl f')) (hk : xnx p l e R s m args below meth c Q D tA A s0 nL f') : xnx p l e R s m args below meth c Q D tA A s0 nL (pc, L, st, w) := by
  unfold xanew at hop
  split at hop
  · rename_i n r
    split at hop
    · rename_i q hq
      split at hop
      · cases hop
      · rename_i hn
        cases hop
        intro H locs cells slots ls hR hL
        obtain ⟨w1, -, w3⟩ := xNl_some hq
        obtain ⟨q1, q2, k, q4, q5⟩ := q
        dsimp only at w1 w3 hn hk hf1 hf2
        have hcell : s.heap.size + cells = w.2.1 := hR.2.2.2.2.1
        have hslot : s0 + slots = w.2.2 := hR.2.2.2.2.2
        have hn0 : ¬ n < 0 := fun z => hn (Or.inl z)
        have hby : n.toNatClampNeg * 4 ≤ 536870912 := by have : ¬ 100000 < n.toNatClampNeg := fun z => hn (Or.inr (Or.inl z)); omega
        have h7 : ¬ 7 < k := fun z => hn (Or.inr (Or.inr z))
        have hKv := hK.2.2.1
        rcases w3 with rfl | rfl | rfl | rfl | rfl | rfl
        · exact W.anew hx hb hown (hK.w _ w1 rfl args) (va_AO.use hK.2.2.2.1) rfl hdg rfl hn0 hby (by omega) (by omega) fun cA kA comp f1 f2 f3 f4 => xnewq hR hL (by obtain ⟨_, _, -, -, -, k4⟩ := (hKv.2 3 _ rfl).2; exact Option.some.inj (f1.symm.trans k4)) hk
        · exact W.anew hx hb hown (hK.w _ w1 rfl args) (va_AO.use hK.2.2.2.2.1) rfl hdg rfl hn0 hby (by omega) (by omega) fun cA kA comp f1 f2 f3 f4 => xnewq hR hL (by obtain ⟨_, _, -, -, -, k4⟩ := (hKv.2 4 _ rfl).2; exact Option.some.inj (f1.symm.trans k4)) hk
        · exact W.anew hx hb hown (hK.w _ w1 rfl args) (va_AO.use hK.2.2.2.2.2.1) rfl hdg rfl hn0 hby (by omega) (by omega) fun cA kA comp f1 f2 f3 f4 => xnewq hR hL (by obtain ⟨_, _, -, -, -, k4⟩ := (hKv.2 5 _ rfl).2; exact Option.some.inj (f1.symm.trans k4)) hk
        · exact W.anewA (t := .int) hx hb hown (hK.w _ w1 rfl args) hK.2.2.2.2.2.2.1 rfl hdg rfl hn0 hby (by omega) (by omega) fun cA kA comp f1 f2 f3 f4 => xnewq hR hL (Option.some.inj (f1.symm.trans (hKv.2 6 _ rfl).2)) hk
        · omega
        · omega
    · cases hop
  · cases hop
theorem xs_ldc (hx : p.tables.exec = Jvm.exec) (hb : c.code = cc) (hK : xK D tA s) (hro : xro G adV A s s.heap) (hown : s.vm.findClass (xon o) = some m.cls) {idx : Nat} (hdg : decode cc pc = .ok (.ldc idx, 2)) (hop : xldc G o idx pc L st w = some (.inl f')) (hk : xnx p l e R s m args below meth c Q D tA A s0 nL f') : xnx p l e R s m args below meth c Q D tA A s0 nL (pc, L, st, w) := by
  unfold xldc at hop
  split at hop
  · rename_i q h
    have hm := List.mem_of_find?_eq_some h
    have hp := List.find?_some h
    simp only [Bool.and_eq_true, beq_iff_eq] at hp
    obtain ⟨rfl, rfl⟩ := hp
    have hq := List.all_eq_true.mp xDt_ok q hm
    unfold xDok at hq
    split at hop
    · rename_i h0
      cases hop
      rw [if_pos h0] at hq
      intro H locs cells slots ls hR hL
      exact lv_ldc hx hb hown (hK.w _ (of_decide_eq_true hq) rfl args) hdg (hk H locs cells slots ls hR hL)
    · rename_i h0
      cases hop
      rw [if_neg h0] at hq
      simp only [Bool.and_eq_true, decide_eq_true_eq] at hq
      intro H locs cells slots ls hR hL
      exact va_ldcS hx hb hown (hro.2.2.2.2.1 q hm hq.2) hdg (hk H locs cells slots ls hR hL)
  · cases hop
theorem xs_ldc2 (hx : p.tables.exec = Jvm.exec) (hb : c.code = cc) (hK : xK D tA s) (hown : s.vm.findClass (xon o) = some m.cls) {idx : Nat} (hdg : decode cc pc = .ok (.ldc2_w idx, 3)) (hop : xldc2 o idx pc L st w = some (.inl f')) (hk : xnx p l e R s m args below meth c Q D tA A s0 nL f') : xnx p l e R s m args below meth c Q D tA A s0 nL (pc, L, st, w) := by
  unfold xldc2 at hop
  split at hop
  · rename_i q h
    have hm := List.mem_of_find?_eq_some h
    have hp := List.find?_some h
    simp only [Bool.and_eq_true, beq_iff_eq] at hp
    obtain ⟨rfl, rfl⟩ := hp
    have hq := List.all_eq_true.mp xLt_ok q hm
    unfold xLok at hq
    cases hop
    intro H locs cells slots ls hR hL
    exact lv_ldc2 hx hb hown (hK.w _ (of_decide_eq_true hq) rfl args) hdg (hk H locs cells slots ls hR hL)
  · cases hop
theorem xQ_of {H : Heap} {locs : List Loc} {cells slots : Nat} {v : Option Value} (hR : xrep D tA A s.heap s0 w H locs cells slots) : ∀ t : State, t.heap = H → s.WarmedH t.vm → xQ D tA A v w args s (.returned v) t := fun t ht _ => ⟨rfl, by rw [ht]; exact hR.1, by rw [ht]; exact hR.2.1, hR.2.2.1.F ht⟩
theorem xs_ireturn (hx : p.tables.exec = Jvm.exec) (hb : c.code = cc) {rt : Option FieldType} (hr : meth.sig.returnType = rt) (hlocks : meth.locks = false) {v : Option Value} {w' : xW} (hf1 : w.2.1 ≤ s.heap.size + R.cells) (hf2 : w.2.2 ≤ s0 + R.slots) (hdg : decode cc pc = .ok (.ireturn, 1)) (hop : xiret rt st w = some (.inr (.inl (v, w')))) : xnx p l e R s m args below meth c (MQ below (xQ D tA A v w') args s R.cells R.slots A) D tA A s0 nL (pc, L, st, w) := by
  unfold xiret at hop
  split at hop
  · split at hop
    · split at hop
      · rename_i hn
        cases hop
        intro H locs cells slots ls hR hL
        have hcell : s.heap.size + cells = w.2.1 := hR.2.2.2.2.1
        have hslot : s0 + slots = w.2.2 := hR.2.2.2.2.2
        exact W.widen (k := R.cells) (n := R.slots) (by omega) (by omega) (W.zret hx hb hr hn (xQ_of hR) hR.2.2.1.2.2 hdg)
      · cases hop
    · cases hop
  · cases hop
theorem xs_lreturn (hx : p.tables.exec = Jvm.exec) (hb : c.code = cc) {rt : Option FieldType} (hr : meth.sig.returnType = rt) (hlocks : meth.locks = false) {v : Option Value} {w' : xW} (hf1 : w.2.1 ≤ s.heap.size + R.cells) (hf2 : w.2.2 ≤ s0 + R.slots) (hdg : decode cc pc = .ok (.lreturn, 1)) (hop : xlret rt st w = some (.inr (.inl (v, w')))) : xnx p l e R s m args below meth c (MQ below (xQ D tA A v w') args s R.cells R.slots A) D tA A s0 nL (pc, L, st, w) := by
  unfold xlret at hop
  split at hop
  · split at hop
    · rename_i hn
      cases hop
      intro H locs cells slots ls hR hL
      have hcell : s.heap.size + cells = w.2.1 := hR.2.2.2.2.1
      have hslot : s0 + slots = w.2.2 := hR.2.2.2.2.2
      exact W.widen (k := R.cells) (n := R.slots) (by omega) (by omega) (W.lret hx hb (hr.trans hn) (xQ_of hR) hR.2.2.1.2.2 hdg)
    · cases hop
  · cases hop
theorem xs_areturn (hx : p.tables.exec = Jvm.exec) (hb : c.code = cc) {rt : Option FieldType} (hr : meth.sig.returnType = rt) (hlocks : meth.locks = false) {v : Option Value} {w' : xW} (hf1 : w.2.1 ≤ s.heap.size + R.cells) (hf2 : w.2.2 ≤ s0 + R.slots) (hdg : decode cc pc = .ok (.areturn, 1)) (hop : xaret rt st w = some (.inr (.inl (v, w')))) : xnx p l e R s m args below meth c (MQ below (xQ D tA A v w') args s R.cells R.slots A) D tA A s0 nL (pc, L, st, w) := by
  unfold xaret at hop
  split at hop
  · split at hop
    · cases hop
      intro H locs cells slots ls hR hL
      have hcell : s.heap.size + cells = w.2.1 := hR.2.2.2.2.1
      have hslot : s0 + slots = w.2.2 := hR.2.2.2.2.2
      exact W.widen (k := R.cells) (n := R.slots) (by omega) (by omega) (W.aret hx hb hr (Or.inl ⟨_, rfl⟩) (Or.inr ⟨_, rfl⟩) (xQ_of hR) hR.2.2.1.2.2 hdg)
    · cases hop
      intro H locs cells slots ls hR hL
      have hcell : s.heap.size + cells = w.2.1 := hR.2.2.2.2.1
      have hslot : s0 + slots = w.2.2 := hR.2.2.2.2.2
      exact W.widen (k := R.cells) (n := R.slots) (by omega) (by omega) (W.aret hx hb hr (Or.inr ⟨_, rfl⟩) (Or.inr ⟨_, rfl⟩) (xQ_of hR) hR.2.2.1.2.2 hdg)
    · cases hop
  · cases hop
theorem xs_return (hx : p.tables.exec = Jvm.exec) (hb : c.code = cc) {rt : Option FieldType} (hr : meth.sig.returnType = rt) (hlocks : meth.locks = false) {v : Option Value} {w' : xW} (hf1 : w.2.1 ≤ s.heap.size + R.cells) (hf2 : w.2.2 ≤ s0 + R.slots) (hdg : decode cc pc = .ok (.return_, 1)) (hop : xvret rt st w = some (.inr (.inl (v, w')))) : xnx p l e R s m args below meth c (MQ below (xQ D tA A v w') args s R.cells R.slots A) D tA A s0 nL (pc, L, st, w) := by
  unfold xvret at hop
  split at hop
  · split at hop
    · rename_i hn
      cases hop
      intro H locs cells slots ls hR hL
      have hcell : s.heap.size + cells = w.2.1 := hR.2.2.2.2.1
      have hslot : s0 + slots = w.2.2 := hR.2.2.2.2.2
      exact W.widen (k := R.cells) (n := R.slots) (by omega) (by omega) (W.vret hx hb (hr.trans hn) (xQ_of hR) hR.2.2.1.2.2 hdg)
    · cases hop
  · cases hop
end XM
end
section
/-! ===== the words of the methods' code (wip/gen/lay09.py) ===== -/
def xCW (mi : Nat) : Prop := lw_tbl[xP mi]? = some (Jvm.Cond.code (xY mi) (xB mi) (xM mi) (xT mi))
set_option maxRecDepth 100000 in
theorem xcw_0 : xCW 0 := rfl
set_option maxRecDepth 100000 in
theorem xcw_1 : xCW 1 := rfl
set_option maxRecDepth 100000 in
theorem xcw_2 : xCW 2 := rfl
set_option maxRecDepth 100000 in
theorem xcw_3 : xCW 3 := rfl
set_option maxRecDepth 100000 in
theorem xcw_4 : xCW 4 := rfl
set_option maxRecDepth 100000 in
theorem xcw_5 : xCW 5 := rfl
set_option maxRecDepth 100000 in
theorem xcw_6 : xCW 6 := rfl
set_option maxRecDepth 100000 in
theorem xcw_7 : xCW 7 := rfl
set_option maxRecDepth 100000 in
theorem xcw_8 : xCW 8 := rfl
set_option maxRecDepth 100000 in
theorem xcw_9 : xCW 9 := rfl
set_option maxRecDepth 100000 in
theorem xcw_10 : xCW 10 := rfl
set_option maxRecDepth 100000 in
theorem xcw_11 : xCW 11 := rfl
set_option maxRecDepth 100000 in
theorem xcw_12 : xCW 12 := rfl
set_option maxRecDepth 100000 in
theorem xcw_13 : xCW 13 := rfl
set_option maxRecDepth 100000 in
theorem xcw_14 : xCW 14 := rfl
set_option maxRecDepth 100000 in
theorem xcw_15 : xCW 15 := rfl
set_option maxRecDepth 100000 in
theorem xcw_16 : xCW 16 := rfl
set_option maxRecDepth 100000 in
theorem xcw_17 : xCW 17 := rfl
set_option maxRecDepth 100000 in
theorem xcw_18 : xCW 18 := rfl
set_option maxRecDepth 100000 in
theorem xcw_19 : xCW 19 := rfl
set_option maxRecDepth 100000 in
theorem xcw_20 : xCW 20 := rfl
set_option maxRecDepth 100000 in
theorem xcw_21 : xCW 21 := rfl
set_option maxRecDepth 100000 in
theorem xcw_22 : xCW 22 := rfl
set_option maxRecDepth 100000 in
theorem xcw_23 : xCW 23 := rfl
set_option maxRecDepth 100000 in
theorem xcw_24 : xCW 24 := rfl
set_option maxRecDepth 100000 in
theorem xcw_25 : xCW 25 := rfl
set_option maxRecDepth 100000 in
theorem xcw_26 : xCW 26 := rfl
set_option maxRecDepth 100000 in
theorem xcw_27 : xCW 27 := rfl
set_option maxRecDepth 100000 in
theorem xcw_28 : xCW 28 := rfl
set_option maxRecDepth 100000 in
theorem xcw_29 : xCW 29 := rfl
set_option maxRecDepth 100000 in
theorem xcw_30 : xCW 30 := rfl
set_option maxRecDepth 100000 in
theorem xcw_31 : xCW 31 := rfl
set_option maxRecDepth 100000 in
theorem xcw_32 : xCW 32 := rfl
set_option maxRecDepth 100000 in
theorem xcw_33 : xCW 33 := rfl
set_option maxRecDepth 100000 in
theorem xcw_34 : xCW 34 := rfl
set_option maxRecDepth 100000 in
theorem xcw_35 : xCW 35 := rfl
set_option maxRecDepth 100000 in
theorem xcw_36 : xCW 36 := rfl
set_option maxRecDepth 100000 in
theorem xcw_37 : xCW 37 := rfl
set_option maxRecDepth 100000 in
theorem xcw_38 : xCW 38 := rfl
set_option maxRecDepth 100000 in
theorem xcw_39 : xCW 39 := rfl
set_option maxRecDepth 100000 in
theorem xcw_40 : xCW 40 := rfl
set_option maxRecDepth 100000 in
theorem xcw_41 : xCW 41 := rfl
set_option maxRecDepth 100000 in
theorem xcw_42 : xCW 42 := rfl
set_option maxRecDepth 100000 in
theorem xcw_43 : xCW 43 := rfl
set_option maxRecDepth 100000 in
theorem xcw_44 : xCW 44 := rfl
set_option maxRecDepth 100000 in
theorem xcw_45 : xCW 45 := rfl
set_option maxRecDepth 100000 in
theorem xcw_46 : xCW 46 := rfl
set_option maxRecDepth 100000 in
theorem xcw_47 : xCW 47 := rfl
set_option maxRecDepth 100000 in
theorem xcw_48 : xCW 48 := rfl
set_option maxRecDepth 100000 in
theorem xcw_49 : xCW 49 := rfl
set_option maxRecDepth 100000 in
theorem xcw_50 : xCW 50 := rfl
set_option maxRecDepth 100000 in
theorem xcw_51 : xCW 51 := rfl
set_option maxRecDepth 100000 in
theorem xcw_52 : xCW 52 := rfl
set_option maxRecDepth 100000 in
theorem xcw_53 : xCW 53 := rfl
set_option maxRecDepth 100000 in
theorem xcw_54 : xCW 54 := rfl
set_option maxRecDepth 100000 in
theorem xcw_55 : xCW 55 := rfl
set_option maxRecDepth 100000 in
theorem xcw_56 : xCW 56 := rfl
set_option maxRecDepth 100000 in
theorem xcw_57 : xCW 57 := rfl
set_option maxRecDepth 100000 in
theorem xcw_58 : xCW 58 := rfl
set_option maxRecDepth 100000 in
theorem xcw_59 : xCW 59 := rfl
set_option maxRecDepth 100000 in
theorem xcw_60 : xCW 60 := rfl
set_option maxRecDepth 100000 in
theorem xcw_61 : xCW 61 := rfl
set_option maxRecDepth 100000 in
theorem xcw_62 : xCW 62 := rfl
set_option maxRecDepth 100000 in
theorem xcw_63 : xCW 63 := rfl
set_option maxRecDepth 100000 in
theorem xcw_64 : xCW 64 := rfl
set_option maxRecDepth 100000 in
theorem xcw_65 : xCW 65 := rfl
set_option maxRecDepth 100000 in
theorem xcw_66 : xCW 66 := rfl
set_option maxRecDepth 100000 in
theorem xcw_67 : xCW 67 := rfl
set_option maxRecDepth 100000 in
theorem xcw_68 : xCW 68 := rfl
set_option maxRecDepth 100000 in
theorem xcw_69 : xCW 69 := rfl
set_option maxRecDepth 100000 in
theorem xcw_70 : xCW 70 := rfl
set_option maxRecDepth 100000 in
theorem xcw_71 : xCW 71 := rfl
set_option maxRecDepth 100000 in
theorem xcw_72 : xCW 72 := rfl
set_option maxRecDepth 100000 in
theorem xcw_73 : xCW 73 := rfl
set_option maxRecDepth 100000 in
theorem xcw_74 : xCW 74 := rfl
set_option maxRecDepth 100000 in
theorem xcw_75 : xCW 75 := rfl
set_option maxRecDepth 100000 in
theorem xcw_76 : xCW 76 := rfl
set_option maxRecDepth 100000 in
theorem xcw_77 : xCW 77 := rfl
set_option maxRecDepth 100000 in
theorem xcw_78 : xCW 78 := rfl
set_option maxRecDepth 100000 in
theorem xcw_79 : xCW 79 := rfl
set_option maxRecDepth 100000 in
theorem xcw_80 : xCW 80 := rfl
set_option maxRecDepth 100000 in
theorem xcw_81 : xCW 81 := rfl
set_option maxRecDepth 100000 in
theorem xcw_82 : xCW 82 := rfl
set_option maxRecDepth 100000 in
theorem xcw_83 : xCW 83 := rfl
set_option maxRecDepth 100000 in
theorem xcw_84 : xCW 84 := rfl
set_option maxRecDepth 100000 in
theorem xcw_85 : xCW 85 := rfl
set_option maxRecDepth 100000 in
theorem xcw_86 : xCW 86 := rfl
set_option maxRecDepth 100000 in
theorem xcw_87 : xCW 87 := rfl
set_option maxRecDepth 100000 in
theorem xcw_88 : xCW 88 := rfl
set_option maxRecDepth 100000 in
theorem xcw_89 : xCW 89 := rfl
set_option maxRecDepth 100000 in
theorem xcw_90 : xCW 90 := rfl
set_option maxRecDepth 100000 in
theorem xcw_91 : xCW 91 := rfl
set_option maxRecDepth 100000 in
theorem xcw_92 : xCW 92 := rfl
set_option maxRecDepth 100000 in
theorem xcw_93 : xCW 93 := rfl
set_option maxRecDepth 100000 in
theorem xcw_94 : xCW 94 := rfl
set_option maxRecDepth 100000 in
theorem xcw_95 : xCW 95 := rfl
set_option maxRecDepth 100000 in
theorem xcw_96 : xCW 96 := rfl
set_option maxRecDepth 100000 in
theorem xcw_97 : xCW 97 := rfl
set_option maxRecDepth 100000 in
theorem xcw_98 : xCW 98 := rfl
set_option maxRecDepth 100000 in
theorem xcw_99 : xCW 99 := rfl
set_option maxRecDepth 100000 in
theorem xcw_100 : xCW 100 := rfl
set_option maxRecDepth 100000 in
theorem xcw_101 : xCW 101 := rfl
set_option maxRecDepth 100000 in
theorem xcw_102 : xCW 102 := rfl
set_option maxRecDepth 100000 in
theorem xcw_103 : xCW 103 := rfl
set_option maxRecDepth 100000 in
theorem xcw_104 : xCW 104 := rfl
set_option maxRecDepth 100000 in
theorem xcw_105 : xCW 105 := rfl
set_option maxRecDepth 100000 in
theorem xcw_106 : xCW 106 := rfl
set_option maxRecDepth 100000 in
theorem xcw_107 : xCW 107 := rfl
set_option maxRecDepth 100000 in
theorem xcw_108 : xCW 108 := rfl
set_option maxRecDepth 100000 in
theorem xcw_109 : xCW 109 := rfl
set_option maxRecDepth 100000 in
theorem xcw_110 : xCW 110 := rfl
set_option maxRecDepth 100000 in
theorem xcw_111 : xCW 111 := rfl
set_option maxRecDepth 100000 in
theorem xcw_112 : xCW 112 := rfl
set_option maxRecDepth 100000 in
theorem xcw_113 : xCW 113 := rfl
set_option maxRecDepth 100000 in
theorem xcw_114 : xCW 114 := rfl
set_option maxRecDepth 100000 in
theorem xcw_115 : xCW 115 := rfl
set_option maxRecDepth 100000 in
theorem xcw_116 : xCW 116 := rfl
set_option maxRecDepth 100000 in
theorem xcw_117 : xCW 117 := rfl
set_option maxRecDepth 100000 in
theorem xcw_118 : xCW 118 := rfl
set_option maxRecDepth 100000 in
theorem xcw_119 : xCW 119 := rfl
set_option maxRecDepth 100000 in
theorem xcw_120 : xCW 120 := rfl
set_option maxRecDepth 100000 in
theorem xcw_121 : xCW 121 := rfl
set_option maxRecDepth 100000 in
theorem xcw_122 : xCW 122 := rfl
set_option maxRecDepth 100000 in
theorem xcwL_0 : ∀ mi ∈ ([0, 1, 2, 3, 4, 5, 6, 7, 8, 9, 10, 11, 12, 13, 14, 15, 16, 17, 18, 19, 20, 21, 22, 23, 24, 25, 26, 27, 28, 29, 30, 31, 32, 33, 34, 35, 36, 37, 38, 39, 40] : List Nat), xCW mi := List.forall_mem_cons.mpr ⟨xcw_0, List.forall_mem_cons.mpr ⟨xcw_1, List.forall_mem_cons.mpr ⟨xcw_2, List.forall_mem_cons.mpr ⟨xcw_3, List.forall_mem_cons.mpr ⟨xcw_4, List.forall_mem_cons.mpr ⟨xcw_5, List.forall_mem_cons.mpr ⟨xcw_6, List.forall_mem_cons.mpr ⟨xcw_7, List.forall_mem_cons.mpr ⟨xcw_8, List.forall_mem_cons.mpr ⟨xcw_9, List.forall_mem_cons.mpr ⟨xcw_10, List.forall_mem_cons.mpr ⟨xcw_11, List.forall_mem_cons.mpr ⟨xcw_12, List.forall_mem_cons.mpr ⟨xcw_13, List.forall_mem_cons.mpr ⟨xcw_14, List.forall_mem_cons.mpr ⟨xcw_15, List.forall_mem_cons.mpr ⟨xcw_16, List.forall_mem_cons.mpr ⟨xcw_17, List.forall_mem_cons.mpr ⟨xcw_18, List.forall_mem_cons.mpr ⟨xcw_19, List.forall_mem_cons.mpr ⟨xcw_20, List.forall_mem_cons.mpr ⟨xcw_21, List.forall_mem_cons.mpr ⟨xcw_22, List.forall_mem_cons.mpr ⟨xcw_23, List.forall_mem_cons.mpr ⟨xcw_24, List.forall_mem_cons.mpr ⟨xcw_25, List.forall_mem_cons.mpr ⟨xcw_26, List.forall_mem_cons.mpr ⟨xcw_27, List.forall_mem_cons.mpr ⟨xcw_28, List.forall_mem_cons.mpr ⟨xcw_29, List.forall_mem_cons.mpr ⟨xcw_30, List.forall_mem_cons.mpr ⟨xcw_31, List.forall_mem_cons.mpr ⟨xcw_32, List.forall_mem_cons.mpr ⟨xcw_33, List.forall_mem_cons.mpr ⟨xcw_34, List.forall_mem_cons.mpr ⟨xcw_35, List.forall_mem_cons.mpr ⟨xcw_36, List.forall_mem_cons.mpr ⟨xcw_37, List.forall_mem_cons.mpr ⟨xcw_38, List.forall_mem_cons.mpr ⟨xcw_39, List.forall_mem_cons.mpr ⟨xcw_40, (fun _ h => by cases h)⟩⟩⟩⟩⟩⟩⟩⟩⟩⟩⟩⟩⟩⟩⟩⟩⟩⟩⟩⟩⟩⟩⟩⟩⟩⟩⟩⟩⟩⟩⟩⟩⟩⟩⟩⟩⟩⟩⟩⟩⟩
set_option maxRecDepth 100000 in
theorem xcwL_41 : ∀ mi ∈ ([41, 42, 43, 44, 45, 46, 47, 48, 49, 50, 51, 52, 53, 54, 55, 56, 57, 58, 59, 60, 61, 62, 63, 64, 65, 66, 67, 68, 69, 70, 71, 72, 73, 74, 75, 76, 77, 78, 79, 80, 81] : List Nat), xCW mi := List.forall_mem_cons.mpr ⟨xcw_41, List.forall_mem_cons.mpr ⟨xcw_42, List.forall_mem_cons.mpr ⟨xcw_43, List.forall_mem_cons.mpr ⟨xcw_44, List.forall_mem_cons.mpr ⟨xcw_45, List.forall_mem_cons.mpr ⟨xcw_46, List.forall_mem_cons.mpr ⟨xcw_47, List.forall_mem_cons.mpr ⟨xcw_48, List.forall_mem_cons.mpr ⟨xcw_49, List.forall_mem_cons.mpr ⟨xcw_50, List.forall_mem_cons.mpr ⟨xcw_51, List.forall_mem_cons.mpr ⟨xcw_52, List.forall_mem_cons.mpr ⟨xcw_53, List.forall_mem_cons.mpr ⟨xcw_54, List.forall_mem_cons.mpr ⟨xcw_55, List.forall_mem_cons.mpr ⟨xcw_56, List.forall_mem_cons.mpr ⟨xcw_57, List.forall_mem_cons.mpr ⟨xcw_58, List.forall_mem_cons.mpr ⟨xcw_59, List.forall_mem_cons.mpr ⟨xcw_60, List.forall_mem_cons.mpr ⟨xcw_61, List.forall_mem_cons.mpr ⟨xcw_62, List.forall_mem_cons.mpr ⟨xcw_63, List.forall_mem_cons.mpr ⟨xcw_64, List.forall_mem_cons.mpr ⟨xcw_65, List.forall_mem_cons.mpr ⟨xcw_66, List.forall_mem_cons.mpr ⟨xcw_67, List.forall_mem_cons.mpr ⟨xcw_68, List.forall_mem_cons.mpr ⟨xcw_69, List.forall_mem_cons.mpr ⟨xcw_70, List.forall_mem_cons.mpr ⟨xcw_71, List.forall_mem_cons.mpr ⟨xcw_72, List.forall_mem_cons.mpr ⟨xcw_73, List.forall_mem_cons.mpr ⟨xcw_74, List.forall_mem_cons.mpr ⟨xcw_75, List.forall_mem_cons.mpr ⟨xcw_76, List.forall_mem_cons.mpr ⟨xcw_77, List.forall_mem_cons.mpr ⟨xcw_78, List.forall_mem_cons.mpr ⟨xcw_79, List.forall_mem_cons.mpr ⟨xcw_80, List.forall_mem_cons.mpr ⟨xcw_81, (fun _ h => by cases h)⟩⟩⟩⟩⟩⟩⟩⟩⟩⟩⟩⟩⟩⟩⟩⟩⟩⟩⟩⟩⟩⟩⟩⟩⟩⟩⟩⟩⟩⟩⟩⟩⟩⟩⟩⟩⟩⟩⟩⟩⟩
set_option maxRecDepth 100000 in
theorem xcwL_82 : ∀ mi ∈ ([82, 83, 84, 85, 86, 87, 88, 89, 90, 91, 92, 93, 94, 95, 96, 97, 98, 99, 100, 101, 102, 103, 104, 105, 106, 107, 108, 109, 110, 111, 112, 113, 114, 115, 116, 117, 118, 119, 120, 121, 122] : List Nat), xCW mi := List.forall_mem_cons.mpr ⟨xcw_82, List.forall_mem_cons.mpr ⟨xcw_83, List.forall_mem_cons.mpr ⟨xcw_84, List.forall_mem_cons.mpr ⟨xcw_85, List.forall_mem_cons.mpr ⟨xcw_86, List.forall_mem_cons.mpr ⟨xcw_87, List.forall_mem_cons.mpr ⟨xcw_88, List.forall_mem_cons.mpr ⟨xcw_89, List.forall_mem_cons.mpr ⟨xcw_90, List.forall_mem_cons.mpr ⟨xcw_91, List.forall_mem_cons.mpr ⟨xcw_92, List.forall_mem_cons.mpr ⟨xcw_93, List.forall_mem_cons.mpr ⟨xcw_94, List.forall_mem_cons.mpr ⟨xcw_95, List.forall_mem_cons.mpr ⟨xcw_96, List.forall_mem_cons.mpr ⟨xcw_97, List.forall_mem_cons.mpr ⟨xcw_98, List.forall_mem_cons.mpr ⟨xcw_99, List.forall_mem_cons.mpr ⟨xcw_100, List.forall_mem_cons.mpr ⟨xcw_101, List.forall_mem_cons.mpr ⟨xcw_102, List.forall_mem_cons.mpr ⟨xcw_103, List.forall_mem_cons.mpr ⟨xcw_104, List.forall_mem_cons.mpr ⟨xcw_105, List.forall_mem_cons.mpr ⟨xcw_106, List.forall_mem_cons.mpr ⟨xcw_107, List.forall_mem_cons.mpr ⟨xcw_108, List.forall_mem_cons.mpr ⟨xcw_109, List.forall_mem_cons.mpr ⟨xcw_110, List.forall_mem_cons.mpr ⟨xcw_111, List.forall_mem_cons.mpr ⟨xcw_112, List.forall_mem_cons.mpr ⟨xcw_113, List.forall_mem_cons.mpr ⟨xcw_114, List.forall_mem_cons.mpr ⟨xcw_115, List.forall_mem_cons.mpr ⟨xcw_116, List.forall_mem_cons.mpr ⟨xcw_117, List.forall_mem_cons.mpr ⟨xcw_118, List.forall_mem_cons.mpr ⟨xcw_119, List.forall_mem_cons.mpr ⟨xcw_120, List.forall_mem_cons.mpr ⟨xcw_121, List.forall_mem_cons.mpr ⟨xcw_122, (fun _ h => by cases h)⟩⟩⟩⟩⟩⟩⟩⟩⟩⟩⟩⟩⟩⟩⟩⟩⟩⟩⟩⟩⟩⟩⟩⟩⟩⟩⟩⟩⟩⟩⟩⟩⟩⟩⟩⟩⟩⟩⟩⟩⟩
theorem xcw_all (mi : Nat) (h : mi < 123) : xCW mi := by
  by_cases h0 : mi < 41
  · refine xcwL_0 mi ?_
    have : mi ∈ (List.range 41).map (fun k => 0 + k) := List.mem_map.mpr ⟨mi - 0, List.mem_range.mpr (by omega), by omega⟩
    exact this
  by_cases h41 : mi < 82
  · refine xcwL_41 mi ?_
    have : mi ∈ (List.range 41).map (fun k => 41 + k) := List.mem_map.mpr ⟨mi - 41, List.mem_range.mpr (by omega), by omega⟩
    exact this
  by_cases h82 : mi < 123
  · refine xcwL_82 mi ?_
    have : mi ∈ (List.range 41).map (fun k => 82 + k) := List.mem_map.mpr ⟨mi - 82, List.mem_range.mpr (by omega), by omega⟩
    exact this
  omega
end
section
/-! ===== the small machine is right: calls ===== -/
/-- what a program has decided of the methods -/
def xMok (mi : Nat) : Bool := decide (lw_tbl[xinL.getD (xO mi) 0]? = some (Jvm.Cond.initialized (xY mi).cls)) && decide ((xY mi).cls = xon (xO mi)) && decide ((parseMethodDescriptor (xY mi).desc).map (fun d => d.parameters.length) = some (xA mi)) && plainName (xY mi).cls && decide ((xY mi).cls ≠ "java/lang/invoke/MethodHandle") && decide ((xY mi).cls ≠ "java/lang/invoke/VarHandle") && decide (xM mi ≤ 20)
set_option maxRecDepth 100000 in
theorem xMt_ok : (List.range 123).all xMok = true := by decide +kernel
theorem xM_some {mi : Nat} (h : mi < 123) : lw_tbl[xP mi]? = some (Jvm.Cond.code (xY mi) (xB mi) (xM mi) (xT mi)) ∧ lw_tbl[xinL.getD (xO mi) 0]? = some (Jvm.Cond.initialized (xY mi).cls) ∧ (xY mi).cls = xon (xO mi) ∧ (parseMethodDescriptor (xY mi).desc).map (fun d => d.parameters.length) = some (xA mi) ∧ plainName (xY mi).cls = true ∧ (xY mi).cls ≠ "java/lang/invoke/MethodHandle" ∧ (xY mi).cls ≠ "java/lang/invoke/VarHandle" ∧ xM mi ≤ 20 := by
  have hk := List.all_eq_true.mp xMt_ok mi (List.mem_range.mpr h)
  unfold xMok at hk
  simp only [Bool.and_eq_true, decide_eq_true_eq] at hk
  obtain ⟨⟨⟨⟨⟨⟨h2, h3⟩, h4⟩, h5⟩, h6⟩, h7⟩, h8⟩ := hk
  exact ⟨xcw_all mi h, h2, h3, h4, h5, h6, h7, h8⟩
/-- what a program has decided of the calls -/
def xCok (q : Nat × Nat × Nat × Nat × Nat × Nat × Nat) : Bool :=
  if q.2.2.1 = 0 then decide (lw_tbl[q.2.2.2.2.1]? = some (Jvm.Cond.methodLink (xon q.1) q.2.1 (xY q.2.2.2.1))) && decide (lw_tbl[q.2.2.2.2.2.1]? = some (Jvm.Cond.instanceMethod (xY q.2.2.2.1))) && decide (lw_tbl[q.2.2.2.2.2.2]? = some (Jvm.Cond.selects (xY q.2.2.2.1).cls (xY q.2.2.2.1) (xY q.2.2.2.1)))
  else if q.2.2.1 = 1 then decide (lw_tbl[q.2.2.2.2.1]? = some (Jvm.Cond.methodLink (xon q.1) q.2.1 (xY q.2.2.2.1))) && decide (lw_tbl[q.2.2.2.2.2.1]? = some (Jvm.Cond.static (xY q.2.2.2.1)))
  else if q.2.2.1 = 2 then decide (lw_tbl[q.2.2.2.2.1]? = some (Jvm.Cond.methodLink (xon q.1) q.2.1 (xY q.2.2.2.1))) && decide (lw_tbl[q.2.2.2.2.2.1]? = some (Jvm.Cond.instanceMethod (xY q.2.2.2.1))) && decide ((xY q.2.2.2.1).name = "<init>")
  else if q.2.2.1 = 3 then decide (lw_tbl[q.2.2.2.2.1]? = some (Jvm.Cond.methodLinkNest (xon q.1) q.2.1 (xY q.2.2.2.1) "DriftStore")) && decide (lw_tbl[q.2.2.2.2.2.1]? = some (Jvm.Cond.instanceMethod (xY q.2.2.2.1))) && decide ((xY q.2.2.2.1).name = "<init>")
  else if q.2.2.1 = 4 then decide (lw_tbl[q.2.2.2.2.1]? = some (Jvm.Cond.methodLinkNest (xon q.1) q.2.1 (xY q.2.2.2.1) "DriftStore")) && decide (lw_tbl[q.2.2.2.2.2.1]? = some (Jvm.Cond.static (xY q.2.2.2.1)))
  else if q.2.2.1 = 5 then decide (lw_tbl[q.2.2.2.2.1]? = some (Jvm.Cond.methodLink (xon q.1) q.2.1 objectInit))
  else if q.2.2.1 = 6 then decide (lw_tbl[q.2.2.2.2.1]? = some (Jvm.Cond.methodLink (xon q.1) q.2.1 Lib.Math.max.name))
  else if q.2.2.1 = 7 then decide (lw_tbl[q.2.2.2.2.1]? = some (Jvm.Cond.methodLink (xon q.1) q.2.1 Lib.Math.min.name))
  else if q.2.2.1 = 8 then decide (lw_tbl[q.2.2.2.2.1]? = some (Jvm.Cond.methodLink (xon q.1) q.2.1 Lib.MathLoose.min_long.x))
  else if q.2.2.1 = 9 then decide (lw_tbl[q.2.2.2.2.1]? = some (Jvm.Cond.methodLink (xon q.1) q.2.1 arraycopyName))
  else if q.2.2.1 = 10 then decide (lw_tbl[q.2.2.2.2.1]? = some (Jvm.Cond.methodLink (xon q.1) q.2.1 ⟨"java/lang/String", "length", "()I"⟩))
  else if q.2.2.1 = 11 then decide (lw_tbl[q.2.2.2.2.1]? = some (Jvm.Cond.methodLink (xon q.1) q.2.1 ⟨"java/lang/String", "charAt", "(I)C"⟩))
  else false
set_option maxRecDepth 100000 in
theorem xCt_ok : xCt.all xCok = true := by decide +kernel
theorem xCl_some {o i : Nat} {q : Nat × Nat × Nat × Nat × Nat × Nat × Nat} (h : xCl o i = some q) : q.1 = o ∧ q.2.1 = i ∧ xCok q = true := by
  have hm := List.mem_of_find?_eq_some h
  have hp := List.find?_some h
  simp only [Bool.and_eq_true, beq_iff_eq] at hp
  exact ⟨hp.1, hp.2, List.all_eq_true.mp xCt_ok q hm⟩
end
section
/-! ===== worlds only grow; arguments as locals ===== -/
def xle (w w' : xW) : Prop := w.2.1 ≤ w'.2.1 ∧ w.2.2 ≤ w'.2.2
theorem xle.refl (w : xW) : xle w w := ⟨Nat.le_refl _, Nat.le_refl _⟩
theorem xle.trans {a b c : xW} (h : xle a b) (g : xle b c) : xle a c := ⟨Nat.le_trans h.1 g.1, Nat.le_trans h.2 g.2⟩
section XG
variable {G : xG} {mi d pc o idx : Nat} {L : xL} {st : List Value} {w : xW} {f' : xF}
theorem xg_go {off : Int} (h : xgo pc off L st w = some (.inl f')) : xle w f'.2.2.2 := by
  obtain ⟨-, rfl⟩ := xgo_some h
  exact xle.refl _
theorem xg_br {b : Bool} {off : Int} (h : xbr b pc off L st w = some (.inl f')) : xle w f'.2.2.2 := by
  unfold xbr at h
  split at h
  · split at h <;> (cases h; exact xle.refl _)
  · cases h
theorem xg_call {kind id : Nat} (h : xcall G kind id pc L st w = some (.inl f')) : xle w f'.2.2.2 := by
  unfold xcall at h
  split at h
  · unfold xcV at h
    repeat' (split at h)
    all_goals cases h
  split at h
  · unfold xcS at h
    repeat' (split at h)
    all_goals cases h
  split at h
  · unfold xcI at h
    repeat' (split at h)
    all_goals cases h
  split at h
  · unfold xobj at h
    repeat' (split at h)
    all_goals first | (cases h; done) | (cases h; exact xle.refl _)
  split at h
  · unfold xmax at h
    repeat' (split at h)
    all_goals first | (cases h; done) | (cases h; exact xle.refl _)
  split at h
  · unfold xmin at h
    repeat' (split at h)
    all_goals first | (cases h; done) | (cases h; exact xle.refl _)
  split at h
  · unfold xminl at h
    repeat' (split at h)
    all_goals first | (cases h; done) | (cases h; exact xle.refl _)
  split at h
  · unfold xcopy at h
    repeat' (split at h)
    all_goals first | (cases h; done) | (cases h; exact xle.refl _)
  split at h
  · unfold xslen at h
    repeat' (split at h)
    all_goals first | (cases h; done) | (cases h; exact xle.refl _)
  split at h
  · unfold xsat at h
    repeat' (split at h)
    all_goals first | (cases h; done) | (cases h; exact xle.refl _)
  cases h
theorem xn_call {kind id : Nat} {r : Option Value × xW} (h : xcall G kind id pc L st w = some (.inr (.inl r))) : False := by
  unfold xcall at h
  split at h
  · unfold xcV at h
    repeat' (split at h)
    all_goals cases h
  split at h
  · unfold xcS at h
    repeat' (split at h)
    all_goals cases h
  split at h
  · unfold xcI at h
    repeat' (split at h)
    all_goals cases h
  split at h
  · unfold xobj at h
    repeat' (split at h)
    all_goals cases h
  split at h
  · unfold xmax at h
    repeat' (split at h)
    all_goals cases h
  split at h
  · unfold xmin at h
    repeat' (split at h)
    all_goals cases h
  split at h
  · unfold xminl at h
    repeat' (split at h)
    all_goals cases h
  split at h
  · unfold xcopy at h
    repeat' (split at h)
    all_goals cases h
  split at h
  · unfold xslen at h
    repeat' (split at h)
    all_goals cases h
  split at h
  · unfold xsat at h
    repeat' (split at h)
    all_goals cases h
  cases h
theorem xn_inv {op : Nat} {r : Option Value × xW} (h : xinv G op o idx d pc L st w = some (.inr (.inl r))) : False := by
  unfold xinv at h
  split at h
  · split at h
    · cases h
    · split at h
      · exact xn_call h
      · cases h
  · cases h
theorem xg_inv {op : Nat} (h : xinv G op o idx d pc L st w = some (.inl f')) : xle w f'.2.2.2 := by
  unfold xinv at h
  split at h
  · split at h
    · cases h
    · split at h
      · exact xg_call h
      · cases h
  · cases h
set_option maxHeartbeats 4000000 in
theorem xg_op {ins : Instr} (h : xop G mi d ins pc L st w = some (.inl f')) : xle w f'.2.2.2 := by
  cases ins with
  | goto off => exact xg_go h
  | invokevirtual i => exact xg_inv h
  | invokespecial i => exact xg_inv h
  | invokestatic i => exact xg_inv h
  | if_icmp c off =>
    change xicmp c off pc L st w = _ at h
    unfold xicmp at h
    split at h
    · exact xg_br h
    · cases h
  | ifCond c off =>
    change xif c off pc L st w = _ at h
    unfold xif at h
    split at h
    · exact xg_br h
    · cases h
  | ifnonnull off =>
    change xnonnull off pc L st w = _ at h
    unfold xnonnull at h
    split at h
    · exact xg_go h
    · cases h; exact xle.refl _
    · cases h
  | tableswitch df lo hi offs =>
    change xtsw df lo hi offs pc L st w = _ at h
    unfold xtsw at h
    split at h
    · split at h
      · exact xg_go h
      · split at h
        · exact xg_go h
        · cases h
    · cases h
  | lookupswitch df ps =>
    change xlsw df ps pc L st w = _ at h
    unfold xlsw at h
    split at h
    · split at h
      · exact xg_go h
      · cases h
    · cases h
  | istore i =>
    change xistore 2 i pc L st w = _ at h
    unfold xistore at h
    split at h
    · obtain ⟨L', hs, he⟩ := Option.map_eq_some_iff.mp h; cases he; exact xle.refl _
    · cases h
  | istore_n i =>
    change xistore 1 i pc L st w = _ at h
    unfold xistore at h
    split at h
    · obtain ⟨L', hs, he⟩ := Option.map_eq_some_iff.mp h; cases he; exact xle.refl _
    · cases h
  | astore i =>
    change xastore 2 i pc L st w = _ at h
    unfold xastore at h
    split at h
    · obtain ⟨L', hs, he⟩ := Option.map_eq_some_iff.mp h; cases he; exact xle.refl _
    · cases h
  | astore_n i =>
    change xastore 1 i pc L st w = _ at h
    unfold xastore at h
    split at h
    · obtain ⟨L', hs, he⟩ := Option.map_eq_some_iff.mp h; cases he; exact xle.refl _
    · cases h
  | lstore_n i =>
    change xlstore 1 i pc L st w = _ at h
    unfold xlstore at h
    split at h
    · obtain ⟨L', hs, he⟩ := Option.map_eq_some_iff.mp h; cases he; exact xle.refl _
    · cases h
  | iinc i k =>
    change xiinc i k pc L st w = _ at h
    unfold xiinc at h
    split at h
    · obtain ⟨L', hs, he⟩ := Option.map_eq_some_iff.mp h; cases he; exact xle.refl _
    · cases h
  | newarray t =>
    change xnewa t pc L st w = _ at h
    unfold xnewa at h
    repeat' (split at h)
    all_goals first | (cases h; done) | (cases h; exact ⟨Nat.le_succ _, Nat.le_add_right _ _⟩)
  | anewarray i =>
    change xanew (xO mi) i pc L st w = _ at h
    unfold xanew at h
    repeat' (split at h)
    all_goals first | (cases h; done) | (cases h; exact ⟨Nat.le_succ _, Nat.le_add_right _ _⟩)
  | new i =>
    change xnew (xO mi) i pc L st w = _ at h
    unfold xnew at h
    repeat' (split at h)
    all_goals first | (cases h; done) | (cases h; exact ⟨Nat.le_succ _, Nat.le_add_right _ _⟩)
  | multianewarray i dims =>
    change xmulti (xO mi) i dims pc L st w = _ at h
    unfold xmulti at h
    repeat' (split at h)
    all_goals first | (cases h; done) | (cases h; exact ⟨by show _ ≤ w.2.1 + 1 + _; omega, by show _ ≤ w.2.2 + _ + _; omega⟩)
  | _ =>
    first
      | (cases h; done)
      | (simp only [xop, xpush, xiload, xlload, xaload, xbin, xdiv, xlbin, xun, xl2i, xlcmp, xdup, xdup2, xpop, xiald, xbald, xaald, xalen, xiast, xbast, xaast, xgetf, xputf, xldc, xldc2, xiret, xlret, xaret, xvret] at h
         repeat' (split at h)
         all_goals first | (cases h; done) | (cases h; exact xle.refl _))
theorem xg_ret {ins : Instr} {r : Option Value × xW} (h : xop G mi d ins pc L st w = some (.inr (.inl r))) : r.2 = w := by
  cases ins with
  | ireturn =>
    change xiret (xT mi) st w = _ at h
    unfold xiret at h
    repeat' (split at h)
    all_goals first | (cases h; done) | (cases h; rfl)
  | lreturn =>
    change xlret (xT mi) st w = _ at h
    unfold xlret at h
    repeat' (split at h)
    all_goals first | (cases h; done) | (cases h; rfl)
  | areturn =>
    change xaret (xT mi) st w = _ at h
    unfold xaret at h
    repeat' (split at h)
    all_goals first | (cases h; done) | (cases h; rfl)
  | return_ =>
    change xvret (xT mi) st w = _ at h
    unfold xvret at h
    repeat' (split at h)
    all_goals first | (cases h; done) | (cases h; rfl)
  | invokevirtual i => exact (xn_inv h).elim
  | invokespecial i => exact (xn_inv h).elim
  | invokestatic i => exact (xn_inv h).elim
  | istore i =>
    change xistore 2 i pc L st w = _ at h
    unfold xistore at h
    split at h
    · obtain ⟨L', hs, he⟩ := Option.map_eq_some_iff.mp h; cases he
    · cases h
  | istore_n i =>
    change xistore 1 i pc L st w = _ at h
    unfold xistore at h
    split at h
    · obtain ⟨L', hs, he⟩ := Option.map_eq_some_iff.mp h; cases he
    · cases h
  | astore i =>
    change xastore 2 i pc L st w = _ at h
    unfold xastore at h
    split at h
    · obtain ⟨L', hs, he⟩ := Option.map_eq_some_iff.mp h; cases he
    · cases h
  | astore_n i =>
    change xastore 1 i pc L st w = _ at h
    unfold xastore at h
    split at h
    · obtain ⟨L', hs, he⟩ := Option.map_eq_some_iff.mp h; cases he
    · cases h
  | lstore_n i =>
    change xlstore 1 i pc L st w = _ at h
    unfold xlstore at h
    split at h
    · obtain ⟨L', hs, he⟩ := Option.map_eq_some_iff.mp h; cases he
    · cases h
  | iinc i k =>
    change xiinc i k pc L st w = _ at h
    unfold xiinc at h
    split at h
    · obtain ⟨L', hs, he⟩ := Option.map_eq_some_iff.mp h; cases he
    · cases h
  | _ =>
    first
      | (cases h; done)
      | (simp only [xop, xpush, xiload, xlload, xaload, xbin, xdiv, xlbin, xun, xl2i, xlcmp, xdup, xdup2, xpop, xiald, xbald, xaald, xalen, xiast, xbast, xaast, xgetf, xputf, xldc, xldc2, xgo, xbr, xicmp, xif, xnonnull, xtsw, xlsw, xnewa, xanew, xnew, xmulti] at h
         repeat' (split at h)
         all_goals (cases h; done))
end XG
theorem xargs_len (vs : List Value) : (lg_sl vs).length = (xargs vs).length := by
  induction vs with
  | nil => rfl
  | cons v vs ih =>
    show ((if v.category = 2 then [Slot.val v, Slot.second] else [Slot.val v]) ++ lg_sl vs).length = (if v.category = 2 then some v :: none :: xargs vs else some v :: xargs vs).length
    split <;> simp [ih]
theorem xargs_at : ∀ (vs : List Value) (k i : Nat) (v : Value), (xargs vs)[i]? = some (some v) → (k + i, v) ∈ lv_args k vs := by
  intro vs
  induction vs with
  | nil => intro k i v h; simp [xargs] at h
  | cons u vs ih =>
    intro k i v h
    unfold xargs at h
    unfold lv_args
    split at h
    · rename_i hc
      rw [if_pos hc]
      match i, h with
      | 0, h =>
        cases h
        exact List.mem_cons_self
      | 1, h => cases h
      | i + 2, h =>
        have := ih (k + 2) i v h
        rw [show k + 2 + i = k + (i + 2) by omega] at this
        exact List.mem_cons_of_mem _ this
    · rename_i hc
      rw [if_neg hc]
      match i, h with
      | 0, h =>
        cases h
        exact List.mem_cons_self
      | i + 1, h =>
        have := ih (k + 1) i v h
        rw [show k + 1 + i = k + (i + 1) by omega] at this
        exact List.mem_cons_of_mem _ this
theorem xlr_entry {mi : Nat} {as : List Value} (h : (xargs as).length ≤ xM mi) : xlr ((lg_sl as ++ List.replicate (xM mi - (lg_sl as).length) Slot.unset).toArray) (xM mi) (xloc mi as) := by
  have hl := lv_entry as (n := xM mi) (by rw [xargs_len]; exact h)
  refine ⟨by simp [xloc]; omega, hl.1, hl.2.1, fun q hq => ?_⟩
  have hq := xpr_mem.mp hq
  unfold xloc at hq
  by_cases hi : q.1 < (xargs as).length
  · rw [List.getElem?_append_left hi] at hq
    have := xargs_at as 0 q.1 q.2 hq
    rw [Nat.zero_add] at this
    exact hl.2.2 q this
  · rw [List.getElem?_append_right (by omega)] at hq
    have := List.mem_of_getElem? hq
    have := List.eq_of_mem_replicate this
    cases this
end
section
/-! ===== the small machine is right: members of the JDK; behind a call ===== -/
theorem xro_call {G : xG} {adV : Nat → Nat} {A B : Nat → Prop} {s U : State} {H : Heap} {locs : List Loc} (h : xro G adV A s s.heap) (hS : va_S A s.heap H locs) (hW : s.WarmedH U.vm) (hU : U.heap = H) (hB : ∀ q, B q → A q) : xro G adV B U U.heap := by
  obtain ⟨h1, h2, h3, h4, h5, h6, h7, h8⟩ := h
  rw [hU]
  exact ⟨(h1.moved hW.alike).kept (hS.2.1 _ h2 h3), Nat.lt_of_lt_of_le h2 hS.1, fun z => h3 (hB _ z), ((h4.moved hW.alike).kept hS.2.1).narrow hB, fun q hq h0 => (h5 q hq h0).warm hW, h6, ((h7.moved hW.alike).kept hS.2.1).narrow hB, ((h8.moved hW.alike).kept hS.2.1).narrow hB⟩
theorem xro_same {G : xG} {adV : Nat → Nat} {A : Nat → Prop} {s U : State} (h : xro G adV A s s.heap) (hv : U.vm = s.vm) (hU : U.heap = s.heap) : xro G adV A U U.heap :=
  xro_call (locs := []) h va_S.rf (by rw [hv]; exact State.WarmedH.refl s) hU (fun _ z => z)
set_option maxRecDepth 100000 in
theorem xw71 : lw_tbl[71]? = some (Jvm.Cond.instanceMethod objectInit) := rfl
set_option maxRecDepth 100000 in
theorem xw72 : lw_tbl[72]? = some (Jvm.Cond.code objectInit ⟨#[0xb1]⟩ 1 none) := rfl
set_option maxRecDepth 100000 in
theorem xw62 : lw_tbl[62]? = some (Jvm.Cond.initialized "java/lang/Math") := rfl
set_option maxRecDepth 100000 in
theorem xw63 : lw_tbl[63]? = some (Jvm.Cond.initialized "java/lang/System") := rfl
set_option maxRecDepth 100000 in
theorem xw499 : lw_tbl[499]? = some (Jvm.Cond.static Lib.Math.max.name) := rfl
set_option maxRecDepth 100000 in
theorem xw500 : lw_tbl[500]? = some (Jvm.Cond.code Lib.Math.max.name Lib.Math.max.code 2 (some .int)) := rfl
set_option maxRecDepth 100000 in
theorem xw457 : lw_tbl[457]? = some (Jvm.Cond.static Lib.Math.min.name) := rfl
set_option maxRecDepth 100000 in
theorem xw458 : lw_tbl[458]? = some (Jvm.Cond.code Lib.Math.min.name Lib.Math.min.code 2 (some .int)) := rfl
set_option maxRecDepth 100000 in
theorem xw846 : lw_tbl[846]? = some (Jvm.Cond.static Lib.MathLoose.min_long.x) := rfl
set_option maxRecDepth 100000 in
theorem xw847 : lw_tbl[847]? = some (Jvm.Cond.code Lib.MathLoose.min_long.x Lib.MathLoose.min_long.code 4 (some .long)) := rfl
set_option maxRecDepth 100000 in
theorem xw460 : lw_tbl[460]? = some (Jvm.Cond.static arraycopyName) := rfl
set_option maxRecDepth 100000 in
theorem xw461 : lw_tbl[461]? = some (Jvm.Cond.native arraycopyName) := rfl
theorem xcl_nn {z : Int32} (hz : ¬ z < 0) : z.toInt = (z.toNatClampNeg : Int) := by
  have hz0 : (0 : Int) ≤ z.toInt := by
    have := Int32.not_lt.mp hz
    simpa using Int32.le_iff_toInt_le.mp this
  show z.toInt = ((z.toInt.toNat : Nat) : Int)
  omega
section XB
variable {p : Program} {l : Launch} {e : Env} {R : Room} {s : State} {m : MethodId} {args : Array Value} {below : List Frame} {meth : Method} {c : Code} {Q : State → Prop} {D : va_G} {tA : Nat → ClassId} {A : Nat → Prop} {s0 nL : Nat} {cc : ByteArray} {pc : Nat} {L : xL} {st : List Value} {w : xW} {f' : xF} {G : xG} {adV : Nat → Nat} {o : Nat}
theorem xs_obj (hx : p.tables.exec = Jvm.exec) (hb : c.code = cc) (hml : c.maxLocals = nL) (hK : xK D tA s) (hown : s.vm.findClass (xon o) = some m.cls) {idx : Nat} (hR1 : 1 ≤ R.frames) (hR2 : 64 ≤ R.locals) (hl : (Jvm.Cond.methodLink (xon o) idx objectInit).before args s = true) (hdg : decode cc pc = .ok (.invokespecial idx, 3)) (hop : xobj pc L st w = some (.inl f')) (hk : xnx p l e R s m args below meth c Q D tA A s0 nL f') : xnx p l e R s m args below meth c Q D tA A s0 nL (pc, L, st, w) := by
  unfold xobj at hop
  split at hop
  · rename_i a r
    split at hop
    · rename_i hc
      cases hop
      intro H locs cells slots ls hR hL
      have hc : (r.map fun v => v.category).sum ≤ 8 := hc
      exact W.objInit hx hb hown hl (hK.w _ xw71 rfl args) (hK.w _ xw72 rfl args) rfl (by rw [hml]; exact hL.2.1) rfl hdg hR1 (by show 2 * 0 + (r.map fun v => v.category).sum + 12 ≤ R.locals; omega) (hk H locs cells slots ls hR hL)
    · cases hop
  · cases hop
theorem xs_max (hx : p.tables.exec = Jvm.exec) (hb : c.code = cc) (hml : c.maxLocals = nL) (hK : xK D tA s) (hown : s.vm.findClass (xon o) = some m.cls) {idx : Nat} (hR1 : 1 ≤ R.frames) (hR2 : 64 ≤ R.locals) (hf1 : f'.2.2.2.2.1 ≤ s.heap.size + R.cells) (hf2 : f'.2.2.2.2.2 ≤ s0 + R.slots) (hl : (Jvm.Cond.methodLink (xon o) idx Lib.Math.max.name).before args s = true) (hdg : decode cc pc = .ok (.invokestatic idx, 3)) (hop : xmax pc L st w = some (.inl f')) (hk : xnx p l e R s m args below meth c Q D tA A s0 nL f') : xnx p l e R s m args below meth c Q D tA A s0 nL (pc, L, st, w) := by
  unfold xmax at hop
  split at hop
  · rename_i y x r
    split at hop
    · rename_i hc
      cases hop
      intro H locs cells slots ls hR hL
      have hc : (r.map fun v => v.category).sum ≤ 8 := hc
      have hcell : s.heap.size + cells = w.2.1 := hR.2.2.2.2.1
      have hslot : s0 + slots = w.2.2 := hR.2.2.2.2.2
      have hf1 : w.2.1 ≤ s.heap.size + R.cells := hf1
      have hf2 : w.2.2 ≤ s0 + R.slots := hf2
      exact va_mmax hx hb (by rw [hml]; exact hL.2.1.symm) hown hl (hK.w _ xw499 rfl args) (hK.w _ xw62 rfl args) (hK.w _ xw500 rfl args) hR1 (by omega) (by omega) (by omega) hdg (hk H locs cells slots ls hR hL)
    · cases hop
  · cases hop
theorem xs_min (hx : p.tables.exec = Jvm.exec) (hb : c.code = cc) (hml : c.maxLocals = nL) (hK : xK D tA s) (hown : s.vm.findClass (xon o) = some m.cls) {idx : Nat} (hR1 : 1 ≤ R.frames) (hR2 : 64 ≤ R.locals) (hf1 : f'.2.2.2.2.1 ≤ s.heap.size + R.cells) (hf2 : f'.2.2.2.2.2 ≤ s0 + R.slots) (hl : (Jvm.Cond.methodLink (xon o) idx Lib.Math.min.name).before args s = true) (hdg : decode cc pc = .ok (.invokestatic idx, 3)) (hop : xmin pc L st w = some (.inl f')) (hk : xnx p l e R s m args below meth c Q D tA A s0 nL f') : xnx p l e R s m args below meth c Q D tA A s0 nL (pc, L, st, w) := by
  unfold xmin at hop
  split at hop
  · rename_i y x r
    split at hop
    · rename_i hc
      cases hop
      intro H locs cells slots ls hR hL
      have hc : (r.map fun v => v.category).sum ≤ 8 := hc
      have hcell : s.heap.size + cells = w.2.1 := hR.2.2.2.2.1
      have hslot : s0 + slots = w.2.2 := hR.2.2.2.2.2
      have hf1 : w.2.1 ≤ s.heap.size + R.cells := hf1
      have hf2 : w.2.2 ≤ s0 + R.slots := hf2
      exact va_mmin hx hb (by rw [hml]; exact hL.2.1.symm) hown hl (hK.w _ xw457 rfl args) (hK.w _ xw62 rfl args) (hK.w _ xw458 rfl args) hR1 (by omega) (by omega) (by omega) hdg (hk H locs cells slots ls hR hL)
    · cases hop
  · cases hop
theorem xs_minl (hx : p.tables.exec = Jvm.exec) (hb : c.code = cc) (hml : c.maxLocals = nL) (hK : xK D tA s) (hown : s.vm.findClass (xon o) = some m.cls) {idx : Nat} (hR1 : 1 ≤ R.frames) (hR2 : 64 ≤ R.locals) (hf1 : f'.2.2.2.2.1 ≤ s.heap.size + R.cells) (hf2 : f'.2.2.2.2.2 ≤ s0 + R.slots) (hl : (Jvm.Cond.methodLink (xon o) idx Lib.MathLoose.min_long.x).before args s = true) (hdg : decode cc pc = .ok (.invokestatic idx, 3)) (hop : xminl pc L st w = some (.inl f')) (hk : xnx p l e R s m args below meth c Q D tA A s0 nL f') : xnx p l e R s m args below meth c Q D tA A s0 nL (pc, L, st, w) := by
  unfold xminl at hop
  split at hop
  · rename_i y x r
    split at hop
    · rename_i hc
      cases hop
      intro H locs cells slots ls hR hL
      have hc : (r.map fun v => v.category).sum ≤ 8 := hc
      have hcell : s.heap.size + cells = w.2.1 := hR.2.2.2.2.1
      have hslot : s0 + slots = w.2.2 := hR.2.2.2.2.2
      have hf1 : w.2.1 ≤ s.heap.size + R.cells := hf1
      have hf2 : w.2.2 ≤ s0 + R.slots := hf2
      exact va_mmin_long hx hb (by rw [hml]; exact hL.2.1.symm) hown hl (hK.w _ xw846 rfl args) (hK.w _ xw62 rfl args) (hK.w _ xw847 rfl args) hR1 (by omega) (by omega) (by omega) hdg (hk H locs cells slots ls hR hL)
    · cases hop
  · cases hop
theorem xrep_puts {H H1 : Heap} {locs locs1 : List Loc} {cells slots a : Nat} {e0 e1 : xE} (h : xrep D tA A s.heap s0 w H locs cells slots) (ha : w.1 a = some e0) (he : va_at D xcl (a, xte tA e1) H1) (z : H1.size = H.size) (oq : ∀ q : Nat, q ≠ a → H1[q]? = H[q]?) (hl : ∀ q ∈ locs1, q.base = a) : xrep D tA A s.heap s0 (xup w.1 a e1, w.2) H1 (locs ++ locs1) cells slots := by
  have h2 := xrep_put (k := 0) h ha he z oq
  obtain ⟨g1, g2, g3, g4, g5, g6⟩ := h2
  refine ⟨g1, g2, ⟨g3.1, g3.2.1, fun q hq => ?_⟩, g4, g5, g6⟩
  rcases List.mem_append.mp hq with hq | hq
  · exact h.2.2.1.2.2 q hq
  · rw [hl q hq]
    exact (h.1 a e0 ha).2
theorem xs_copy (hx : p.tables.exec = Jvm.exec) (hb : c.code = cc) (hml : c.maxLocals = nL) (hK : xK D tA s) (hown : s.vm.findClass (xon o) = some m.cls) {idx : Nat} (hR1 : 1 ≤ R.frames) (hR2 : 64 ≤ R.locals) (hl : (Jvm.Cond.methodLink (xon o) idx arraycopyName).before args s = true) (hdg : decode cc pc = .ok (.invokestatic idx, 3)) (hop : xcopy pc L st w = some (.inl f')) (hk : xnx p l e R s m args below meth c Q D tA A s0 nL f') : xnx p l e R s m args below meth c Q D tA A s0 nL (pc, L, st, w) := by
  unfold xcopy at hop
  split at hop
  · rename_i n dp b sp a r
    split at hop
    · rename_i n0 f n1 g ha hb1
      split at hop
      · cases hop
      · rename_i hc
        cases hop
        simp only [not_or] at hc
        obtain ⟨hc8, h1, h2, h3, h4, h5⟩ := hc
        intro H locs cells slots ls hR hL T hT X
        have hc0 : H[a]? = some (vp_cell (tA 0) (n0, .inl f)) := (hR.1 a _ ha).1
        have hc1 : H[b]? = some (vp_cell (tA 0) (n1, .inl g)) := (hR.1 b _ hb1).1
        obtain ⟨-, k0, hk0, cm0, hkk0⟩ := (hK.2.2.1.2 0 _ rfl).1 n0 (fun j => .int (f j))
        have hc8 : (r.map fun v => v.category).sum ≤ 8 := by unfold xcats at hc8; omega
        have hnat : nativeFrameWords "java/lang/System" "arraycopy" 5 ≤ 40 := by decide
        obtain ⟨vm', X', step⟩ := X.arraycopy hx hown hl (hK.w _ xw461 rfl args) (hK.w _ xw460 rfl args) (hK.w _ xw63 rfl args) (src := a) (dst := b) (cs := vp_cell (tA 0) (n0, .inl f)) (cd := vp_cell (tA 0) (n1, .inl g)) (srcPos := sp) (destPos := dp) (n := n) (by rw [hT]; exact hc0) (by rw [hT]; exact hc1)
          (fun _ h => by cases h) (fun _ h => by cases h) (fun h => by cases h) (fun h => by cases h) hk0 hk0 hkk0 hkk0 (by simp [refKind]) h1 h2 h3
          (by rw [xcl_nn h1, xcl_nn h3]; show ¬ _ > ((arrV (tA 0) n0 (fun j => .int (f j))).slots.size : Int); rw [arrV_size]; omega)
          (by rw [xcl_nn h2, xcl_nn h3]; show ¬ _ > ((arrV (tA 0) n1 (fun j => .int (g j))).slots.size : Int); rw [arrV_size]; omega)
          (fun vm₁ _ i hi => by
            have e9 : (vp_cell (tA 0) (n0, .inl f)).slots.getD (sp.toNatClampNeg + i) .null = .int (f (sp.toNatClampNeg + i)) := by
              show (arrV (tA 0) n0 (fun j => .int (f j))).slots.getD _ _ = _
              rw [Array.getD_eq_getD_getElem?, arrV_read _ _ (by omega)]
              rfl
            rw [e9]
            exact ⟨rfl, trivial⟩)
          (g := F0 m pc ls (.int n :: .int dp :: .ref b :: .int sp :: .ref a :: r)) rfl (by rw [hml]; exact hL.2.1) (rest := r) rfl (by rw [hb]; exact hdg) hR1 (by show 2 * 0 + (r.map fun v => v.category).sum + (nativeFrameWords "java/lang/System" "arraycopy" 5 + 11) ≤ R.locals; omega)
        have e1 : copied (vp_cell (tA 0) (n0, .inl f)) (vp_cell (tA 0) (n1, .inl g)) sp dp n = vp_cell (tA 0) (n1, .inl (va_cpy f g sp.toNatClampNeg dp.toNatClampNeg n.toNatClampNeg)) := va_copied (fun z => .int z) (tA 0) (tA 0) f g (by omega)
        rw [e1] at X' step
        have hlt : b < H.size := (Array.getElem?_eq_some_iff.mp hc1).1
        have hheap : ((T.setVm vm').setCell b (vp_cell (tA 0) (n1, .inl (va_cpy f g sp.toNatClampNeg dp.toNatClampNeg n.toNatClampNeg)))).heap = H.setIfInBounds b (vp_cell (tA 0) (n1, .inl (va_cpy f g sp.toNatClampNeg dp.toNatClampNeg n.toNatClampNeg))) := by rw [← hT]; rfl
        have oq : ∀ q : Nat, q ≠ b → (H.setIfInBounds b (vp_cell (tA 0) (n1, .inl (va_cpy f g sp.toNatClampNeg dp.toNatClampNeg n.toNatClampNeg))))[q]? = H[q]? := fun q hq => by simp [Array.getElem?_setIfInBounds, Ne.symm hq]
        obtain ⟨t, a1, b1⟩ := hk _ _ cells slots ls (xrep_puts (e1 := .inl (0, n1, .inl (va_cpy f g sp.toNatClampNeg dp.toNatClampNeg n.toNatClampNeg))) hR hb1 (show (H.setIfInBounds b _)[b]? = some _ by simp [Array.getElem?_setIfInBounds, hlt]) (by simp) oq (fun q hq => by
          obtain ⟨z, -, hz⟩ := List.mem_map.mp hq
          rw [← hz])) hL _ hheap X'
        exact ⟨t, step t a1, b1⟩
    · cases hop
  · cases hop
/-- behind a call of the claim's own methods -/
theorem xs_after {H : Heap} {locs : List Loc} {cells slots mc ms : Nat} {ls : Array Slot} {v1 : Option Value} {w1 : xW} {A1 : Nat → Prop} {a : Array Value} {rest st0 : List Value} (hr : va_Run p l e R s m args below meth c H locs cells slots mc ms (F0 m pc ls st0) rest (xQ D tA A1 v1 w1 a) A1) (hR : xrep D tA A s.heap s0 w H locs cells slots) (hL : xlr ls nL L) (hA1 : ∀ q, A1 q → A q) (hmc : w.2.1 + mc = w1.2.1) (hms : w.2.2 + ms = w1.2.2)
    (hk : xnx p l e R s m args below meth c Q D tA A s0 nL (pc + 3, L, v1.toList ++ rest, w1)) : W p l e R s m args below meth c H locs cells slots Q (F0 m pc ls st0) := by
  intro T hT X
  obtain ⟨v, st₀, t, T', L', h0, X', hL', e1, e2, ⟨hv, hw, hz, hF⟩, step⟩ := hr T hT X
  cases hv
  obtain ⟨g1, g2, g3, g4, g5, g6⟩ := hR
  have hrep : xrep D tA A s.heap s0 w1 T'.heap (locs ++ L') (cells + mc) (slots + ms) := by
    refine ⟨fun b e' hb => ?_, by rw [e1]; exact hz, ⟨Nat.le_trans g3.1 (by rw [e1, ← h0]; exact hF.1), fun q h1 h2 => ?_, fun q hq => ?_⟩, g4, by omega, by omega⟩
    · rw [e1]
      exact ⟨(hw b e' hb).1, hA1 _ (hw b e' hb).2⟩
    · have hq : q < st₀.heap.size := by rw [h0]; exact Nat.lt_of_lt_of_le h1 g3.1
      rw [e1, hF.2 q hq (fun z => h2 (hA1 q z)), h0]
      exact g3.2.1 q h1 h2
    · rcases List.mem_append.mp hq with h | h
      · exact g3.2.2 q h
      · exact hA1 _ (hL' q h)
  obtain ⟨t2, a1, b1⟩ := hk T'.heap (locs ++ L') (cells + mc) (slots + ms) ls hrep hL T' rfl X'
  exact ⟨t2, step t2 a1, b1⟩
end XB
end
section
/-! ===== open rows of the small machine: texts, arrays of arrays ===== -/
section XO
variable {p : Program} {l : Launch} {e : Env} {R : Room} {s : State} {m : MethodId} {args : Array Value} {below : List Frame} {meth : Method} {c : Code} {Q : State → Prop} {D : va_G} {tA : Nat → ClassId} {A : Nat → Prop} {s0 nL : Nat} {cc : ByteArray} {pc : Nat} {L : xL} {st : List Value} {w : xW} {f' : xF} {G : xG} {adV : Nat → Nat} {o : Nat}
theorem xs_slen (hx : p.tables.exec = Jvm.exec) (hb : c.code = cc) (hml : c.maxLocals = nL) (hK : xK D tA s) (hro : xro G adV A s s.heap) (hown : s.vm.findClass (xon o) = some m.cls) {idx : Nat} (hR1 : 1 ≤ R.frames) (hR2 : 64 ≤ R.locals) (hf1 : f'.2.2.2.2.1 ≤ s.heap.size + R.cells) (hf2 : f'.2.2.2.2.2 ≤ s0 + R.slots) (hl : (Jvm.Cond.methodLink (xon o) idx ⟨"java/lang/String", "length", "()I"⟩).before args s = true) (hdg : decode cc pc = .ok (.invokevirtual idx, 3)) (hop : xslen G pc L st w = some (.inl f')) (hk : xnx p l e R s m args below meth c Q D tA A s0 nL f') : xnx p l e R s m args below meth c Q D tA A s0 nL (pc, L, st, w) := by
  sorry
theorem xs_sat (hx : p.tables.exec = Jvm.exec) (hb : c.code = cc) (hml : c.maxLocals = nL) (hK : xK D tA s) (hro : xro G adV A s s.heap) (hown : s.vm.findClass (xon o) = some m.cls) {idx : Nat} (hR1 : 1 ≤ R.frames) (hR2 : 64 ≤ R.locals) (hf1 : f'.2.2.2.2.1 ≤ s.heap.size + R.cells) (hf2 : f'.2.2.2.2.2 ≤ s0 + R.slots) (hl : (Jvm.Cond.methodLink (xon o) idx ⟨"java/lang/String", "charAt", "(I)C"⟩).before args s = true) (hdg : decode cc pc = .ok (.invokevirtual idx, 3)) (hop : xsat G pc L st w = some (.inl f')) (hk : xnx p l e R s m args below meth c Q D tA A s0 nL f') : xnx p l e R s m args below meth c Q D tA A s0 nL (pc, L, st, w) := by
  sorry
theorem xs_multi (hx : p.tables.exec = Jvm.exec) (hb : c.code = cc) (hK : xK D tA s) (hown : s.vm.findClass (xon o) = some m.cls) {idx dims : Nat} (hf1 : f'.2.2.2.2.1 ≤ s.heap.size + R.cells) (hf2 : f'.2.2.2.2.2 ≤ s0 + R.slots) (hdg : decode cc pc = .ok (.multianewarray idx dims, 4)) (hop : xmulti o idx dims pc L st w = some (.inl f')) (hk : xnx p l e R s m args below meth c Q D tA A s0 nL f') : xnx p l e R s m args below meth c Q D tA A s0 nL (pc, L, st, w) := by
  sorry
end XO
end
section
/-! ===== THE SMALL MACHINE IS RIGHT (wip/gen/lay14.py) ===== -/
section XS
variable {p : Program} {l : Launch} {e : Env} {R : Room} {s : State} {m : MethodId} {args : Array Value} {below : List Frame} {meth : Method} {c : Code} {Q : State → Prop} {D : va_G} {tA : Nat → ClassId} {A : Nat → Prop} {s0 : Nat} {pc mi d : Nat} {L : xL} {st : List Value} {w : xW} {f' : xF} {G : xG} {adV : Nat → Nat}
theorem xs_inv {op idx : Nat} (hC : xCtx mi p s m meth c) (hK : xK D tA s) (hro : xro G adV A s s.heap) (hd1 : d ≤ R.frames) (hd2 : 64 * d ≤ R.locals) (hf1 : f'.2.2.2.2.1 ≤ s.heap.size + R.cells) (hf2 : f'.2.2.2.2.2 ≤ s0 + R.slots) (hdg : decode (xB mi) pc = .ok ((if op = 0 then .invokevirtual idx else if op = 1 then .invokespecial idx else .invokestatic idx), 3)) (hop : xinv G op (xO mi) idx d pc L st w = some (.inl f')) (hk : xnx p l e R s m args below meth c Q D tA A s0 (xM mi) f') : xnx p l e R s m args below meth c Q D tA A s0 (xM mi) (pc, L, st, w) := by
  obtain ⟨hx, hb, hml, hr, hown, hlocks, hnm⟩ := hC
  unfold xinv at hop
  split at hop
  · rename_i q hq
    split at hop
    · cases hop
    · rename_i hd
      have hR1 : 1 ≤ R.frames := by omega
      have hR2 : 64 ≤ R.locals := by omega
      split at hop
      · rename_i hkind
        obtain ⟨ho, hi, hok⟩ := xCl_some hq
        unfold xCok at hok
        rw [ho, hi] at hok
        unfold xcall at hop
        by_cases h0 : q.2.2.1 = 0
        · rw [if_pos h0] at hop
          unfold xcV at hop
          repeat' (split at hop)
          all_goals cases hop
        rw [if_neg h0] at hop hok
        by_cases h1 : q.2.2.1 = 1
        · rw [if_pos (Or.inl h1)] at hop
          unfold xcS at hop
          repeat' (split at hop)
          all_goals cases hop
        rw [if_neg h1] at hok
        by_cases h2 : q.2.2.1 = 2
        · rw [if_neg (by omega), if_pos (Or.inl h2)] at hop
          unfold xcI at hop
          repeat' (split at hop)
          all_goals cases hop
        rw [if_neg h2] at hok
        by_cases h3 : q.2.2.1 = 3
        · rw [if_neg (by omega), if_pos (Or.inr h3)] at hop
          unfold xcI at hop
          repeat' (split at hop)
          all_goals cases hop
        rw [if_neg h3] at hok
        by_cases h4 : q.2.2.1 = 4
        · rw [if_pos (Or.inr h4)] at hop
          unfold xcS at hop
          repeat' (split at hop)
          all_goals cases hop
        rw [if_neg h4] at hok
        rw [if_neg (by omega), if_neg (by omega)] at hop
        by_cases h5 : q.2.2.1 = 5
        · rw [if_pos h5] at hop hok
          have hop1 : op = 1 := by omega
          subst hop1
          exact xs_obj hx hb hml hK hown hR1 hR2 (hK.w _ (of_decide_eq_true hok) rfl args) hdg hop hk
        rw [if_neg h5] at hop hok
        by_cases h6 : q.2.2.1 = 6
        · rw [if_pos h6] at hop hok
          have hop1 : op = 2 := by omega
          subst hop1
          exact xs_max hx hb hml hK hown hR1 hR2 hf1 hf2 (hK.w _ (of_decide_eq_true hok) rfl args) hdg hop hk
        rw [if_neg h6] at hop hok
        by_cases h7 : q.2.2.1 = 7
        · rw [if_pos h7] at hop hok
          have hop1 : op = 2 := by omega
          subst hop1
          exact xs_min hx hb hml hK hown hR1 hR2 hf1 hf2 (hK.w _ (of_decide_eq_true hok) rfl args) hdg hop hk
        rw [if_neg h7] at hop hok
        by_cases h8 : q.2.2.1 = 8
        · rw [if_pos h8] at hop hok
          have hop1 : op = 2 := by omega
          subst hop1
          exact xs_minl hx hb hml hK hown hR1 hR2 hf1 hf2 (hK.w _ (of_decide_eq_true hok) rfl args) hdg hop hk
        rw [if_neg h8] at hop hok
        by_cases h9 : q.2.2.1 = 9
        · rw [if_pos h9] at hop hok
          have hop1 : op = 2 := by omega
          subst hop1
          exact xs_copy hx hb hml hK hown hR1 hR2 (hK.w _ (of_decide_eq_true hok) rfl args) hdg hop hk
        rw [if_neg h9] at hop hok
        by_cases h10 : q.2.2.1 = 10
        · rw [if_pos h10] at hop hok
          have hop1 : op = 0 := by omega
          subst hop1
          exact xs_slen hx hb hml hK hro hown hR1 hR2 hf1 hf2 (hK.w _ (of_decide_eq_true hok) rfl args) hdg hop hk
        rw [if_neg h10] at hop hok
        by_cases h11 : q.2.2.1 = 11
        · rw [if_pos h11] at hop hok
          have hop1 : op = 0 := by omega
          subst hop1
          exact xs_sat hx hb hml hK hro hown hR1 hR2 hf1 hf2 (hK.w _ (of_decide_eq_true hok) rfl args) hdg hop hk
        rw [if_neg h11] at hop hok
        cases hop
      · cases hop
  · cases hop
theorem xnoret {ins : Instr} (hi : ins = .ireturn ∨ ins = .lreturn ∨ ins = .areturn ∨ ins = .return_) : ¬ xop G mi d ins pc L st w = some (.inl f') := by
  intro h
  rcases hi with rfl | rfl | rfl | rfl
  · change xiret (xT mi) st w = _ at h
    unfold xiret at h
    repeat' (split at h)
    all_goals cases h
  · change xlret (xT mi) st w = _ at h
    unfold xlret at h
    repeat' (split at h)
    all_goals cases h
  · change xaret (xT mi) st w = _ at h
    unfold xaret at h
    repeat' (split at h)
    all_goals cases h
  · change xvret (xT mi) st w = _ at h
    unfold xvret at h
    repeat' (split at h)
    all_goals cases h
/-- one instruction -/
theorem xs_step {ins : Instr} {len : Nat} (hC : xCtx mi p s m meth c) (hK : xK D tA s) (hro : xro G adV A s s.heap) (hd1 : d ≤ R.frames) (hd2 : 64 * d ≤ R.locals) (hf1 : f'.2.2.2.2.1 ≤ s.heap.size + R.cells) (hf2 : f'.2.2.2.2.2 ≤ s0 + R.slots) (hdg : decode (xB mi) pc = .ok (ins, len)) (hlen : len = xlen ins ∨ xsw ins = true) (hop : xop G mi d ins pc L st w = some (.inl f')) (hk : xnx p l e R s m args below meth c Q D tA A s0 (xM mi) f') : xnx p l e R s m args below meth c Q D tA A s0 (xM mi) (pc, L, st, w) := by
  have hC0 := hC
  obtain ⟨hx, hb, hml, hr, hown, hlocks, hnm⟩ := hC
  cases ins with
  | aconst_null =>
    obtain rfl : len = 1 := by simpa [xlen, xsw] using hlen
    exact xs_aconst_null hx hb hdg hop hk
  | iconst n =>
    obtain rfl : len = 1 := by simpa [xlen, xsw] using hlen
    exact xs_iconst hx hb hdg hop hk
  | lconst n =>
    obtain rfl : len = 1 := by simpa [xlen, xsw] using hlen
    exact xs_lconst hx hb hdg hop hk
  | bipush n =>
    obtain rfl : len = 2 := by simpa [xlen, xsw] using hlen
    exact xs_bipush hx hb hdg hop hk
  | sipush n =>
    obtain rfl : len = 3 := by simpa [xlen, xsw] using hlen
    exact xs_sipush hx hb hdg hop hk
  | iload i =>
    obtain rfl : len = 2 := by simpa [xlen, xsw] using hlen
    exact xs_iload hx hb hdg hop hk
  | iload_n i =>
    obtain rfl : len = 1 := by simpa [xlen, xsw] using hlen
    exact xs_iload_n hx hb hdg hop hk
  | lload i =>
    obtain rfl : len = 2 := by simpa [xlen, xsw] using hlen
    exact xs_lload hx hb hdg hop hk
  | lload_n i =>
    obtain rfl : len = 1 := by simpa [xlen, xsw] using hlen
    exact xs_lload_n hx hb hdg hop hk
  | aload i =>
    obtain rfl : len = 2 := by simpa [xlen, xsw] using hlen
    exact xs_aload hx hb hdg hop hk
  | aload_n i =>
    obtain rfl : len = 1 := by simpa [xlen, xsw] using hlen
    exact xs_aload_n hx hb hdg hop hk
  | istore i =>
    obtain rfl : len = 2 := by simpa [xlen, xsw] using hlen
    exact xs_istore hx hb hdg hop hk
  | istore_n i =>
    obtain rfl : len = 1 := by simpa [xlen, xsw] using hlen
    exact xs_istore_n hx hb hdg hop hk
  | lstore_n i =>
    obtain rfl : len = 1 := by simpa [xlen, xsw] using hlen
    exact xs_lstore_n hx hb hdg hop hk
  | astore i =>
    obtain rfl : len = 2 := by simpa [xlen, xsw] using hlen
    exact xs_astore hx hb hdg hop hk
  | astore_n i =>
    obtain rfl : len = 1 := by simpa [xlen, xsw] using hlen
    exact xs_astore_n hx hb hdg hop hk
  | iinc i k =>
    obtain rfl : len = 3 := by simpa [xlen, xsw] using hlen
    exact xs_iinc hx hb hdg hop hk
  | iadd =>
    obtain rfl : len = 1 := by simpa [xlen, xsw] using hlen
    exact xs_iadd hx hb hdg hop hk
  | isub =>
    obtain rfl : len = 1 := by simpa [xlen, xsw] using hlen
    exact xs_isub hx hb hdg hop hk
  | imul =>
    obtain rfl : len = 1 := by simpa [xlen, xsw] using hlen
    exact xs_imul hx hb hdg hop hk
  | iand =>
    obtain rfl : len = 1 := by simpa [xlen, xsw] using hlen
    exact xs_iand hx hb hdg hop hk
  | ior =>
    obtain rfl : len = 1 := by simpa [xlen, xsw] using hlen
    exact xs_ior hx hb hdg hop hk
  | ishl =>
    obtain rfl : len = 1 := by simpa [xlen, xsw] using hlen
    exact xs_ishl hx hb hdg hop hk
  | ishr =>
    obtain rfl : len = 1 := by simpa [xlen, xsw] using hlen
    exact xs_ishr hx hb hdg hop hk
  | iushr =>
    obtain rfl : len = 1 := by simpa [xlen, xsw] using hlen
    exact xs_iushr hx hb hdg hop hk
  | idiv =>
    obtain rfl : len = 1 := by simpa [xlen, xsw] using hlen
    exact xs_idiv hx hb hdg hop hk
  | irem =>
    obtain rfl : len = 1 := by simpa [xlen, xsw] using hlen
    exact xs_irem hx hb hdg hop hk
  | ladd =>
    obtain rfl : len = 1 := by simpa [xlen, xsw] using hlen
    exact xs_ladd hx hb hdg hop hk
  | lsub =>
    obtain rfl : len = 1 := by simpa [xlen, xsw] using hlen
    exact xs_lsub hx hb hdg hop hk
  | lmul =>
    obtain rfl : len = 1 := by simpa [xlen, xsw] using hlen
    exact xs_lmul hx hb hdg hop hk
  | i2l =>
    obtain rfl : len = 1 := by simpa [xlen, xsw] using hlen
    exact xs_i2l hx hb hdg hop hk
  | i2b =>
    obtain rfl : len = 1 := by simpa [xlen, xsw] using hlen
    exact xs_i2b hx hb hdg hop hk
  | i2c =>
    obtain rfl : len = 1 := by simpa [xlen, xsw] using hlen
    exact xs_i2c hx hb hdg hop hk
  | l2i =>
    obtain rfl : len = 1 := by simpa [xlen, xsw] using hlen
    exact xs_l2i hx hb hdg hop hk
  | lcmp =>
    obtain rfl : len = 1 := by simpa [xlen, xsw] using hlen
    exact xs_lcmp hx hb hdg hop hk
  | dup =>
    obtain rfl : len = 1 := by simpa [xlen, xsw] using hlen
    exact xs_dup hx hb hdg hop hk
  | dup2 =>
    obtain rfl : len = 1 := by simpa [xlen, xsw] using hlen
    exact xs_dup2 hx hb hdg hop hk
  | pop =>
    obtain rfl : len = 1 := by simpa [xlen, xsw] using hlen
    exact xs_pop hx hb hdg hop hk
  | if_icmp cnd off =>
    obtain rfl : len = 3 := by simpa [xlen, xsw] using hlen
    exact xs_icmp hx hb hdg hop hk
  | ifCond cnd off =>
    obtain rfl : len = 3 := by simpa [xlen, xsw] using hlen
    exact xs_if hx hb hdg hop hk
  | goto off =>
    obtain rfl : len = 3 := by simpa [xlen, xsw] using hlen
    exact xs_goto hx hb hdg hop hk
  | ifnonnull off =>
    obtain rfl : len = 3 := by simpa [xlen, xsw] using hlen
    exact xs_ifnonnull hx hb hdg hop hk
  | tableswitch df lo hi offs =>
    exact xs_tsw hx hb hdg hop hk
  | lookupswitch df ps =>
    exact xs_lsw hx hb hdg hop hk
  | iaload =>
    obtain rfl : len = 1 := by simpa [xlen, xsw] using hlen
    exact xs_iaload hx hb hK hro hdg hop hk
  | baload =>
    obtain rfl : len = 1 := by simpa [xlen, xsw] using hlen
    exact xs_baload hx hb hK hdg hop hk
  | aaload =>
    obtain rfl : len = 1 := by simpa [xlen, xsw] using hlen
    exact xs_aaload hx hb hK hdg hop hk
  | arraylength =>
    obtain rfl : len = 1 := by simpa [xlen, xsw] using hlen
    exact xs_arraylength hx hb hK hro hdg hop hk
  | iastore =>
    obtain rfl : len = 1 := by simpa [xlen, xsw] using hlen
    exact xs_iastore hx hb hK hdg hop hk
  | bastore =>
    obtain rfl : len = 1 := by simpa [xlen, xsw] using hlen
    exact xs_bastore hx hb hK hdg hop hk
  | aastore =>
    obtain rfl : len = 1 := by simpa [xlen, xsw] using hlen
    exact xs_aastore hx hb hK hdg hop hk
  | newarray t =>
    obtain rfl : len = 2 := by simpa [xlen, xsw] using hlen
    exact xs_newarray hx hb hK hf1 hf2 hdg hop hk
  | anewarray i =>
    obtain rfl : len = 3 := by simpa [xlen, xsw] using hlen
    exact xs_anewarray hx hb hK hown hf1 hf2 hdg hop hk
  | multianewarray i dims =>
    obtain rfl : len = 4 := by simpa [xlen, xsw] using hlen
    exact xs_multi hx hb hK hown hf1 hf2 hdg hop hk
  | new i =>
    obtain rfl : len = 3 := by simpa [xlen, xsw] using hlen
    exact xs_new hx hb hK hown hf1 hf2 hdg hop hk
  | getfield i =>
    obtain rfl : len = 3 := by simpa [xlen, xsw] using hlen
    exact xs_getfield hx hb hK hown hdg hop hk
  | putfield i =>
    obtain rfl : len = 3 := by simpa [xlen, xsw] using hlen
    exact xs_putfield hx hb hK hown (fun h => by rw [hnm]; exact beq_iff_eq.mp h) hdg hop hk
  | ldc i =>
    obtain rfl : len = 2 := by simpa [xlen, xsw] using hlen
    exact xs_ldc hx hb hK hro hown hdg hop hk
  | ldc2_w i =>
    obtain rfl : len = 3 := by simpa [xlen, xsw] using hlen
    exact xs_ldc2 hx hb hK hown hdg hop hk
  | invokevirtual i =>
    obtain rfl : len = 3 := by simpa [xlen, xsw] using hlen
    exact xs_inv (op := 0) hC0 hK hro hd1 hd2 hf1 hf2 hdg hop hk
  | invokespecial i =>
    obtain rfl : len = 3 := by simpa [xlen, xsw] using hlen
    exact xs_inv (op := 1) hC0 hK hro hd1 hd2 hf1 hf2 hdg hop hk
  | invokestatic i =>
    obtain rfl : len = 3 := by simpa [xlen, xsw] using hlen
    exact xs_inv (op := 2) hC0 hK hro hd1 hd2 hf1 hf2 hdg hop hk
  | ireturn => exact absurd hop (xnoret (by first | exact Or.inl rfl | exact Or.inr (Or.inl rfl) | exact Or.inr (Or.inr (Or.inl rfl)) | exact Or.inr (Or.inr (Or.inr rfl))))
  | lreturn => exact absurd hop (xnoret (by first | exact Or.inl rfl | exact Or.inr (Or.inl rfl) | exact Or.inr (Or.inr (Or.inl rfl)) | exact Or.inr (Or.inr (Or.inr rfl))))
  | areturn => exact absurd hop (xnoret (by first | exact Or.inl rfl | exact Or.inr (Or.inl rfl) | exact Or.inr (Or.inr (Or.inl rfl)) | exact Or.inr (Or.inr (Or.inr rfl))))
  | return_ => exact absurd hop (xnoret (by first | exact Or.inl rfl | exact Or.inr (Or.inl rfl) | exact Or.inr (Or.inr (Or.inl rfl)) | exact Or.inr (Or.inr (Or.inr rfl))))
  | _ => cases hop
end XS
end
section
/-! ===== a run of the small machine is a run of the machine ===== -/
/-- a callee's world -/
def xAw (w : xW) : Nat → Prop := fun q => w.1 q ≠ none ∨ w.2.1 ≤ q
def xPc (G : xG) (adV : Nat → Nat) (D : va_G) (tA : Nat → ClassId) (w : xW) (as : List Value) : Array Value → State → Prop := va_Pc as (fun U => xK D tA U ∧ xro G adV (xAw w) U U.heap ∧ (∀ a e, w.1 a = some e → va_at D xcl (a, xte tA e) U.heap) ∧ w.2.1 = U.heap.size)
theorem xPc_blind {G : xG} {adV : Nat → Nat} {D : va_G} {tA : Nat → ClassId} {w : xW} {as : List Value} : FrameBlind (xPc G adV D tA w as) := by
  intro a U g mk h
  obtain ⟨h0, h1, h2, h3, h4⟩ := h
  exact ⟨h0, xK_same h1 rfl, xro_same h2 rfl rfl, h3, h4⟩
/-- what a run says of a method: a contract -/
def xMet (G : xG) (adV : Nat → Nat) (D : va_G) (tA : Nat → ClassId) (l : Launch) (mi d : Nat) (as : List Value) (w : xW) (v : Option Value) (w' : xW) : Prop :=
  Met l (xY mi) [Jvm.Cond.code (xY mi) (xB mi) (xM mi) (xT mi)] { frames := d, cells := w'.2.1 - w.2.1, slots := w'.2.2 - w.2.2, locals := 64 * d } (xPc G adV D tA w as) (xQ D tA (xAw w) v w') (w'.2.1 - w.2.1) (w'.2.2 - w.2.2) (xAw w)
section XR
variable {p : Program} {l : Launch} {e : Env} {R : Room} {s : State} {m : MethodId} {args : Array Value} {below : List Frame} {meth : Method} {c : Code} {Q : State → Prop} {D : va_G} {tA : Nat → ClassId} {A : Nat → Prop} {s0 : Nat} {pc mi d : Nat} {L : xL} {st : List Value} {w : xW} {f' : xF} {G : xG} {adV : Nat → Nat}
theorem xs_ret {ins : Instr} {len : Nat} {v : Option Value} {w' : xW} (hC : xCtx mi p s m meth c) (hf1 : w.2.1 ≤ s.heap.size + R.cells) (hf2 : w.2.2 ≤ s0 + R.slots) (hdg : decode (xB mi) pc = .ok (ins, len)) (hlen : len = xlen ins ∨ xsw ins = true) (hop : xop G mi d ins pc L st w = some (.inr (.inl (v, w')))) : xnx p l e R s m args below meth c (MQ below (xQ D tA A v w') args s R.cells R.slots A) D tA A s0 (xM mi) (pc, L, st, w) := by
  obtain ⟨hx, hb, hml, hr, hown, hlocks, hnm⟩ := hC
  cases ins with
  | ireturn =>
    obtain rfl : len = 1 := by simpa [xlen, xsw] using hlen
    exact xs_ireturn hx hb hr hlocks hf1 hf2 hdg hop
  | lreturn =>
    obtain rfl : len = 1 := by simpa [xlen, xsw] using hlen
    exact xs_lreturn hx hb hr hlocks hf1 hf2 hdg hop
  | areturn =>
    obtain rfl : len = 1 := by simpa [xlen, xsw] using hlen
    exact xs_areturn hx hb hr hlocks hf1 hf2 hdg hop
  | return_ =>
    obtain rfl : len = 1 := by simpa [xlen, xsw] using hlen
    exact xs_return hx hb hr hlocks hf1 hf2 hdg hop
  | invokevirtual i => exact (xn_inv hop).elim
  | invokespecial i => exact (xn_inv hop).elim
  | invokestatic i => exact (xn_inv hop).elim
  | istore i =>
    change xistore 2 i pc L st w = _ at hop
    unfold xistore at hop
    split at hop
    · obtain ⟨L', hs, he⟩ := Option.map_eq_some_iff.mp hop; cases he
    · cases hop
  | istore_n i =>
    change xistore 1 i pc L st w = _ at hop
    unfold xistore at hop
    split at hop
    · obtain ⟨L', hs, he⟩ := Option.map_eq_some_iff.mp hop; cases he
    · cases hop
  | astore i =>
    change xastore 2 i pc L st w = _ at hop
    unfold xastore at hop
    split at hop
    · obtain ⟨L', hs, he⟩ := Option.map_eq_some_iff.mp hop; cases he
    · cases hop
  | astore_n i =>
    change xastore 1 i pc L st w = _ at hop
    unfold xastore at hop
    split at hop
    · obtain ⟨L', hs, he⟩ := Option.map_eq_some_iff.mp hop; cases he
    · cases hop
  | lstore_n i =>
    change xlstore 1 i pc L st w = _ at hop
    unfold xlstore at hop
    split at hop
    · obtain ⟨L', hs, he⟩ := Option.map_eq_some_iff.mp hop; cases he
    · cases hop
  | iinc i k =>
    change xiinc i k pc L st w = _ at hop
    unfold xiinc at hop
    split at hop
    · obtain ⟨L', hs, he⟩ := Option.map_eq_some_iff.mp hop; cases he
    · cases hop
  | _ =>
    first
      | (cases hop; done)
      | (simp only [xop, xpush, xiload, xlload, xaload, xbin, xdiv, xlbin, xun, xl2i, xlcmp, xdup, xdup2, xpop, xiald, xbald, xaald, xalen, xiast, xbast, xaast, xgetf, xputf, xldc, xldc2, xgo, xbr, xicmp, xif, xnonnull, xtsw, xlsw, xnewa, xanew, xnew, xmulti] at hop
         repeat' (split at hop)
         all_goals (cases hop; done))
theorem xn_prim {k : Nat} {cq : Nat × List Value × List Value} (hk : 4 < k) : ¬ (if k = 5 then xobj pc L st w else if k = 6 then xmax pc L st w else if k = 7 then xmin pc L st w else if k = 8 then xminl pc L st w else if k = 9 then xcopy pc L st w else if k = 10 then xslen G pc L st w else if k = 11 then xsat G pc L st w else none) = some (.inr (.inr cq)) := by
  intro h
  split at h
  · unfold xobj at h
    repeat' (split at h)
    all_goals cases h
  split at h
  · unfold xmax at h
    repeat' (split at h)
    all_goals cases h
  split at h
  · unfold xmin at h
    repeat' (split at h)
    all_goals cases h
  split at h
  · unfold xminl at h
    repeat' (split at h)
    all_goals cases h
  split at h
  · unfold xcopy at h
    repeat' (split at h)
    all_goals cases h
  split at h
  · unfold xslen at h
    repeat' (split at h)
    all_goals cases h
  split at h
  · unfold xsat at h
    repeat' (split at h)
    all_goals cases h
  cases h
/-- a call of the claim's own methods -/
theorem xs_callm {op idx cm : Nat} {as rest : List Value} {v1 : Option Value} {w1 : xW} (hC : xCtx mi p s m meth c) (hK : xK D tA s) (hro : xro G adV A s s.heap) (hd1 : d ≤ R.frames) (hd2 : 64 * d ≤ R.locals) (hcm : cm < 123) (hf1 : w1.2.1 ≤ s.heap.size + R.cells) (hf2 : w1.2.2 ≤ s0 + R.slots) (hle : xle w w1) (hdg : decode (xB mi) pc = .ok ((if op = 0 then .invokevirtual idx else if op = 1 then .invokespecial idx else .invokestatic idx), 3)) (hop : xinv G op (xO mi) idx d pc L st w = some (.inr (.inr (cm, as, rest)))) (hM : xMet G adV D tA l cm (d - 1) as w v1 w1) (hk : xnx p l e R s m args below meth c Q D tA A s0 (xM mi) (pc + 3, L, v1.toList ++ rest, w1)) : xnx p l e R s m args below meth c Q D tA A s0 (xM mi) (pc, L, st, w) := by
  obtain ⟨hx, hb, hml, hr, hown, hlocks, hnm⟩ := hC
  intro H locs cells slots ls hR hL
  have hcell : s.heap.size + cells = w.2.1 := hR.2.2.2.2.1
  have hslot : s0 + slots = w.2.2 := hR.2.2.2.2.2
  have hA1 : ∀ q, xAw w q → A q := fun q hq => by
    rcases hq with hq | hq
    · cases hz : w.1 q with
      | none => exact absurd hz hq
      | some e9 => exact (hR.1 q e9 hz).2
    · exact hR.2.2.2.1 q (by omega)
  have hfit : cells + (w1.2.1 - w.2.1) ≤ R.cells ∧ slots + (w1.2.2 - w.2.2) ≤ R.slots := by
    obtain ⟨g1, g2⟩ := hle
    omega
  have hPre : ∀ U : State, U.heap = H → s.WarmedH U.vm → xPc G adV D tA w as as.toArray U := fun U hU hW =>
    ⟨rfl, xK_warm hK hW, xro_call hro hR.2.2.1 hW hU hA1, fun a e9 h9 => by rw [hU]; exact (hR.1 a e9 h9).1, by rw [hU]; exact hR.2.1⟩
  have hafter : ∀ {a : Array Value}, va_Run p l e R s m args below meth c H locs cells slots (w1.2.1 - w.2.1) (w1.2.2 - w.2.2) (F0 m pc ls st) rest (xQ D tA (xAw w) v1 w1 a) (xAw w) → W p l e R s m args below meth c H locs cells slots Q (F0 m pc ls st) := fun hrun =>
    xs_after (w := w) hrun hR hL hA1 (Nat.add_sub_cancel' hle.1) (Nat.add_sub_cancel' hle.2) hk
  have hsize : ls.size = xM mi := hL.2.1
  have hroom : ∀ r : List Value, xcats r ≤ 8 → 2 * (F0 m pc ls st).monitorRoom + (r.map fun v => v.category).sum ≤ 8 := fun r hr => by
    show 2 * 0 + xcats r ≤ 8
    omega
  unfold xinv at hop
  split at hop
  · rename_i q hq
    split at hop
    · cases hop
    · rename_i hd
      split at hop
      · rename_i hkind
        obtain ⟨ho, hi, hok⟩ := xCl_some hq
        unfold xCok at hok
        rw [ho, hi] at hok
        unfold xcall at hop
        have base : ∀ id, id < 123 → (lw_tbl[xP id]? = some (Jvm.Cond.code (xY id) (xB id) (xM id) (xT id)) ∧ lw_tbl[xinL.getD (xO id) 0]? = some (Jvm.Cond.initialized (xY id).cls) ∧ ((xY id).cls ≠ "java/lang/invoke/MethodHandle" ∧ (xY id).cls ≠ "java/lang/invoke/VarHandle") ∧ (∀ sig, parseMethodDescriptor (xY id).desc = some sig → xA id = sig.parameters.length) ∧ (d - 1) + 1 ≤ R.frames ∧ 8 + (xM id + 11) + 64 * (d - 1) ≤ R.locals) := fun id hid => by
          obtain ⟨m1, m2, m3, m4, m5, m6, m7, m8⟩ := xM_some hid
          refine ⟨m1, m2, ⟨m6, m7⟩, fun sig h => ?_, by omega, by omega⟩
          rw [h] at m4
          exact (Option.some.inj m4).symm
        have hwsC : ∀ id, id < 123 → ∀ w9 ∈ [Jvm.Cond.code (xY id) (xB id) (xM id) (xT id)], ∀ (a' : Array Value) (U : State), s.WarmedH U.vm → w9.before a' U = true := fun id hid w9 hw9 a' U hW => by
          rw [List.mem_singleton.mp hw9]
          exact word_at (args := #[]) hW (Or.inl rfl) (hK.w _ (base id hid).1 rfl #[])
        by_cases h0 : q.2.2.1 = 0
        · rw [if_pos h0] at hop hok
          have hop0 : op = 0 := by omega
          subst hop0
          simp only [Bool.and_eq_true, decide_eq_true_eq] at hok
          unfold xcV at hop
          split at hop
          · rename_i b r hst
            split at hop
            · rename_i ci fs hb9
              split at hop
              · rename_i hc
                cases hop
                obtain ⟨b1, b2, b3, b4, b5, b6⟩ := base _ hcm
                have hstk : st = ((st.take (xA q.2.2.2.1)).reverse).reverse ++ .ref b :: rest := by rw [List.reverse_reverse, ← hst, List.take_append_drop]
                have hlen : (st.take (xA q.2.2.2.1)).reverse.length = xA q.2.2.2.1 := by
                  have : (st.drop (xA q.2.2.2.1)).length = (Value.ref b :: rest).length := by rw [hst]
                  simp only [List.length_drop, List.length_cons] at this
                  rw [List.length_reverse, List.length_take]
                  omega
                have hcls : xcl[ci]? = some ((xcl[ci]?).getD ("", xT0, 0)) := by
                  obtain ⟨r9, hr9, -⟩ := (hR.1 b _ hb9).1
                  have : xcl[ci]? = some r9 := hr9
                  rw [this]
                  rfl
                obtain ⟨r9, hr9, cellB, g1, g2, g3, -⟩ := (hR.1 b _ hb9).1
                have hr9 : xcl[ci]? = some r9 := hr9
                have hcid := (hK.2.2.1.1 ci r9 hr9).2.1
                have hcn : r9.1 = (xY q.2.2.2.1).cls := by
                  rw [(xM_some hcm).2.2.1, ← hc.1]
                  have : ∀ (k : Nat) (r : vw_C), xcl[k]? = some r → r.1 = xon k := by
                    intro k r hk9
                    have hk11 : k < 11 := (List.getElem?_eq_some_iff.mp hk9).1
                    have : (List.range 11).all (fun k => decide ((xcl[k]?).map (fun r => r.1) = some (xon k))) = true := by decide +kernel
                    have := List.all_eq_true.mp this k (List.mem_range.mpr hk11)
                    simp only [decide_eq_true_eq] at this
                    rw [hk9] at this
                    exact Option.some.inj this
                  exact this ci r9 hr9
                refine hafter (va_runV (C := (xY q.2.2.2.1).cls) (cc := xB mi) (nL := xM mi) (Ts := []) (own := xon (xO mi)) (bytes := xB q.2.2.2.1) (maxL := xM q.2.2.2.1) (ret := xT q.2.2.2.1) (n := xA q.2.2.2.1) ⟨hx, hb, hml, hown, fun _ h => by cases h⟩ hM ⟨⟨rfl, rfl, b5, b6, hwsC _ hcm, List.mem_singleton.mpr rfl, hK.w _ b1 rfl args, hK.w _ b2 rfl args, b3, b4, hK.w _ hok.1.1 rfl args⟩, hK.w _ hok.1.2 rfl args, hK.w _ hok.2 rfl args⟩ ⟨xPc_blind, ⟨cellB, g1, by rw [g3]; rfl, by rw [g2, ← hcn]; exact hcid⟩, hPre⟩ rfl hlen hsize hstk (hroom _ hc.2) hdg hfit)
              · cases hop
            · cases hop
          · cases hop
        rw [if_neg h0] at hop hok
        by_cases h1 : q.2.2.1 = 1
        · rw [if_pos (Or.inl h1)] at hop
          rw [if_pos h1] at hok
          have hop0 : op = 2 := by omega
          subst hop0
          simp only [Bool.and_eq_true, decide_eq_true_eq] at hok
          unfold xcS at hop
          split at hop
          · rename_i hc
            cases hop
            obtain ⟨b1, b2, b3, b4, b5, b6⟩ := base _ hcm
            have hstk : st = ((st.take (xA q.2.2.2.1)).reverse).reverse ++ st.drop (xA q.2.2.2.1) := by rw [List.reverse_reverse, List.take_append_drop]
            have hlen : (st.take (xA q.2.2.2.1)).reverse.length = xA q.2.2.2.1 := by
              rw [List.length_reverse, List.length_take]
              omega
            exact hafter (va_runS (cc := xB mi) (nL := xM mi) (Ts := []) (own := xon (xO mi)) (bytes := xB q.2.2.2.1) (maxL := xM q.2.2.2.1) (ret := xT q.2.2.2.1) (n := xA q.2.2.2.1) ⟨hx, hb, hml, hown, fun _ h => by cases h⟩ hM ⟨⟨rfl, rfl, b5, b6, hwsC _ hcm, List.mem_singleton.mpr rfl, hK.w _ b1 rfl args, hK.w _ b2 rfl args, b3, b4, hK.w _ hok.1 rfl args⟩, hK.w _ hok.2 rfl args⟩ ⟨xPc_blind, hPre⟩ rfl hlen hsize hstk (hroom _ hc.2) hdg hfit)
          · cases hop
        rw [if_neg h1] at hok
        by_cases h2 : q.2.2.1 = 2
        · rw [if_neg (by omega), if_pos (Or.inl h2)] at hop
          rw [if_pos h2] at hok
          have hop0 : op = 1 := by omega
          subst hop0
          simp only [Bool.and_eq_true, decide_eq_true_eq] at hok
          unfold xcI at hop
          split at hop
          · rename_i b r hst
            split at hop
            · rename_i hc
              cases hop
              obtain ⟨b1, b2, b3, b4, b5, b6⟩ := base _ hcm
              have hstk : st = ((st.take (xA q.2.2.2.1)).reverse).reverse ++ .ref b :: rest := by rw [List.reverse_reverse, ← hst, List.take_append_drop]
              have hlen : (st.take (xA q.2.2.2.1)).reverse.length = xA q.2.2.2.1 := by
                have : (st.drop (xA q.2.2.2.1)).length = (Value.ref b :: rest).length := by rw [hst]
                simp only [List.length_drop, List.length_cons] at this
                rw [List.length_reverse, List.length_take]
                omega
              have hws1 := hwsC _ hcm
              unfold xMet at hM
              rw [hc.2] at hM hws1 b1
              exact hafter (va_runI (cc := xB mi) (nL := xM mi) (Ts := []) (own := xon (xO mi)) (bytes := xB q.2.2.2.1) (maxL := xM q.2.2.2.1) (n := xA q.2.2.2.1) ⟨hx, hb, hml, hown, fun _ h => by cases h⟩ hM ⟨⟨rfl, rfl, b5, b6, hws1, List.mem_singleton.mpr rfl, hK.w _ b1 rfl args, hK.w _ b2 rfl args, b3, b4, hK.w _ hok.1.1 rfl args⟩, hok.2, hK.w _ hok.1.2 rfl args⟩ ⟨xPc_blind, hPre⟩ rfl hlen hsize hstk (hroom _ hc.1) hdg hfit)
            · cases hop
          · cases hop
        rw [if_neg h2] at hok
        by_cases h3 : q.2.2.1 = 3
        · rw [if_neg (by omega), if_pos (Or.inr h3)] at hop
          rw [if_pos h3] at hok
          have hop0 : op = 1 := by omega
          subst hop0
          simp only [Bool.and_eq_true, decide_eq_true_eq] at hok
          unfold xcI at hop
          split at hop
          · rename_i b r hst
            split at hop
            · rename_i hc
              cases hop
              obtain ⟨b1, b2, b3, b4, b5, b6⟩ := base _ hcm
              have hstk : st = ((st.take (xA q.2.2.2.1)).reverse).reverse ++ .ref b :: rest := by rw [List.reverse_reverse, ← hst, List.take_append_drop]
              have hlen : (st.take (xA q.2.2.2.1)).reverse.length = xA q.2.2.2.1 := by
                have : (st.drop (xA q.2.2.2.1)).length = (Value.ref b :: rest).length := by rw [hst]
                simp only [List.length_drop, List.length_cons] at this
                rw [List.length_reverse, List.length_take]
                omega
              have hws1 := hwsC _ hcm
              unfold xMet at hM
              rw [hc.2] at hM hws1 b1
              exact hafter (va_runIN (cc := xB mi) (nL := xM mi) (Ts := []) (own := xon (xO mi)) (host := "DriftStore") (bytes := xB q.2.2.2.1) (maxL := xM q.2.2.2.1) (n := xA q.2.2.2.1) ⟨hx, hb, hml, hown, fun _ h => by cases h⟩ hM ⟨⟨⟨rfl, rfl, b5, b6, hws1, List.mem_singleton.mpr rfl⟩, hK.w _ b1 rfl args, hK.w _ b2 rfl args, b3, b4, va_Nw.use rfl (hK.n _ hok.1.1 rfl)⟩, hok.2, hK.w _ hok.1.2 rfl args⟩ ⟨xPc_blind, hPre⟩ rfl hlen hsize hstk (hroom _ hc.1) hdg hfit)
            · cases hop
          · cases hop
        rw [if_neg h3] at hok
        by_cases h4 : q.2.2.1 = 4
        · rw [if_pos (Or.inr h4)] at hop
          rw [if_pos h4] at hok
          have hop0 : op = 2 := by omega
          subst hop0
          simp only [Bool.and_eq_true, decide_eq_true_eq] at hok
          unfold xcS at hop
          split at hop
          · rename_i hc
            cases hop
            obtain ⟨b1, b2, b3, b4, b5, b6⟩ := base _ hcm
            have hstk : st = ((st.take (xA q.2.2.2.1)).reverse).reverse ++ st.drop (xA q.2.2.2.1) := by rw [List.reverse_reverse, List.take_append_drop]
            have hlen : (st.take (xA q.2.2.2.1)).reverse.length = xA q.2.2.2.1 := by
              rw [List.length_reverse, List.length_take]
              omega
            exact hafter (va_runSN (cc := xB mi) (nL := xM mi) (Ts := []) (own := xon (xO mi)) (host := "DriftStore") (bytes := xB q.2.2.2.1) (maxL := xM q.2.2.2.1) (ret := xT q.2.2.2.1) (n := xA q.2.2.2.1) ⟨hx, hb, hml, hown, fun _ h => by cases h⟩ hM ⟨⟨⟨rfl, rfl, b5, b6, hwsC _ hcm, List.mem_singleton.mpr rfl⟩, hK.w _ b1 rfl args, hK.w _ b2 rfl args, b3, b4, va_Nw.use rfl (hK.n _ hok.1 rfl)⟩, hK.w _ hok.2 rfl args, trivial⟩ ⟨xPc_blind, hPre⟩ rfl hlen hsize hstk (hroom _ hc.2) hdg hfit)
          · cases hop
        rw [if_neg (by omega), if_neg (by omega)] at hop
        exact absurd hop (xn_prim (by omega))
      · cases hop
  · cases hop
end XR
theorem xg_run {G : xG} : ∀ (n d mi : Nat) (f : xF) (r : Option Value × xW), xrun G n d mi f = some r → xle f.2.2.2 r.2 := by
  intro n
  induction n with
  | zero => intro d mi f r h; cases h
  | succ n ih =>
    intro d mi f r h
    unfold xrun at h
    split at h
    · cases h
    · split at h
      · cases h
      · rename_i hop
        exact xle.trans (xg_op hop) (ih _ _ _ _ h)
      · rename_i hop
        cases h
        rw [xg_ret hop]
        exact xle.refl _
      · rename_i hop
        split at h
        · split at h
          · cases h
          · rename_i r1 h1
            have g1 := ih _ _ _ _ h1
            have g2 := ih _ _ _ _ h
            exact xle.trans g1 g2
        · cases h
theorem xnocall {G : xG} {mi d pc : Nat} {L : xL} {st : List Value} {w : xW} {ins : Instr} {cq : Nat × List Value × List Value} (h : xop G mi d ins pc L st w = some (.inr (.inr cq))) : ∃ op idx, ins = (if op = 0 then Instr.invokevirtual idx else if op = 1 then .invokespecial idx else .invokestatic idx) ∧ xinv G op (xO mi) idx d pc L st w = some (.inr (.inr cq)) := by
  cases ins with
  | invokevirtual i => exact ⟨0, i, rfl, h⟩
  | invokespecial i => exact ⟨1, i, rfl, h⟩
  | invokestatic i => exact ⟨2, i, rfl, h⟩
  | istore i =>
    change xistore 2 i pc L st w = _ at h
    unfold xistore at h
    split at h
    · obtain ⟨L', hs, he⟩ := Option.map_eq_some_iff.mp h; cases he
    · cases h
  | istore_n i =>
    change xistore 1 i pc L st w = _ at h
    unfold xistore at h
    split at h
    · obtain ⟨L', hs, he⟩ := Option.map_eq_some_iff.mp h; cases he
    · cases h
  | astore i =>
    change xastore 2 i pc L st w = _ at h
    unfold xastore at h
    split at h
    · obtain ⟨L', hs, he⟩ := Option.map_eq_some_iff.mp h; cases he
    · cases h
  | astore_n i =>
    change xastore 1 i pc L st w = _ at h
    unfold xastore at h
    split at h
    · obtain ⟨L', hs, he⟩ := Option.map_eq_some_iff.mp h; cases he
    · cases h
  | lstore_n i =>
    change xlstore 1 i pc L st w = _ at h
    unfold xlstore at h
    split at h
    · obtain ⟨L', hs, he⟩ := Option.map_eq_some_iff.mp h; cases he
    · cases h
  | iinc i k =>
    change xiinc i k pc L st w = _ at h
    unfold xiinc at h
    split at h
    · obtain ⟨L', hs, he⟩ := Option.map_eq_some_iff.mp h; cases he
    · cases h
  | _ =>
    first
      | (cases h; done)
      | (simp only [xop, xpush, xiload, xlload, xaload, xbin, xdiv, xlbin, xun, xl2i, xlcmp, xdup, xdup2, xpop, xiald, xbald, xaald, xalen, xiast, xbast, xaast, xgetf, xputf, xldc, xldc2, xgo, xbr, xicmp, xif, xnonnull, xtsw, xlsw, xnewa, xanew, xnew, xmulti, xiret, xlret, xaret, xvret] at h
         repeat' (split at h)
         all_goals (cases h; done))
/-- THE SMALL MACHINE IS RIGHT -/
theorem xsound (G : xG) (adV : Nat → Nat) (D : va_G) (tA : Nat → ClassId) (l : Launch) : ∀ (n d mi : Nat) (f : xF) (v : Option Value) (w' : xW), xrun G n d mi f = some (v, w') →
    ∀ {p : Program} {e : Env} {R : Room} {s : State} {m : MethodId} {args : Array Value} {below : List Frame} {meth : Method} {c : Code} {A : Nat → Prop} {s0 : Nat}, xCtx mi p s m meth c → xK D tA s → xro G adV A s s.heap → d ≤ R.frames → 64 * d ≤ R.locals → w'.2.1 ≤ s.heap.size + R.cells → w'.2.2 ≤ s0 + R.slots →
    xnx p l e R s m args below meth c (MQ below (xQ D tA A v w') args s R.cells R.slots A) D tA A s0 (xM mi) f := by
  intro n
  induction n with
  | zero => intro d mi f v w' h; cases h
  | succ n ih =>
    intro d mi f v w' h p e R s m args below meth c A s0 hC hK hro hd1 hd2 hf1 hf2
    obtain ⟨pc, L, st, w⟩ := f
    unfold xrun at h
    split at h
    · cases h
    · rename_i ins hins
      obtain ⟨len, hdg, hlen⟩ := xI_dec hins
      split at h
      · cases h
      · rename_i f' hop
        have hle := xg_run _ _ _ _ _ h
        exact xs_step hC hK hro hd1 hd2 (Nat.le_trans hle.1 hf1) (Nat.le_trans hle.2 hf2) hdg hlen hop (ih d mi f' v w' h hC hK hro hd1 hd2 hf1 hf2)
      · rename_i r hop
        cases h
        have hw : w' = w := xg_ret hop
        subst hw
        exact xs_ret hC hf1 hf2 hdg hlen hop
      · rename_i cq hop
        split at h
        · rename_i hcm
          split at h
          · cases h
          · rename_i r h1
            obtain ⟨cm, as, rest⟩ := cq
            obtain ⟨v1, w1⟩ := r
            have hle1 := xg_run _ _ _ _ _ h1
            have hle2 := xg_run _ _ _ _ _ h
            obtain ⟨op, idx, rfl, hop2⟩ := xnocall hop
            obtain rfl : len = 3 := by
              rcases hlen with hlen | hlen
              · rw [hlen]
                split
                · rfl
                · split <;> rfl
              · exfalso
                revert hlen
                split
                · exact fun h => by cases h
                · split
                  · exact fun h => by cases h
                  · exact fun h => by cases h
            refine xs_callm hC hK hro hd1 hd2 hcm.2 (Nat.le_trans hle2.1 hf1) (Nat.le_trans hle2.2 hf2) hle1 hdg hop2 ?_ (ih d mi _ v w' h hC hK hro hd1 hd2 hf1 hf2)
            refine Met.ofW (cc := xB cm) (maxL := xM cm) (ret := xT cm) (xM_some hcm.2).2.2.2.2.1 rfl ?_
            intro p2 e2 s2 m2 args2 below2 meth2 c2 s12 B hml hv
            obtain ⟨rfl, hK2, hro2, hw2, hsz2⟩ := hv
            rw [lg_entry_eq]
            have hC2 : xCtx cm p2 s2 m2 meth2 c2 := ⟨B.exec, B.bytes, hml, B.returns, by rw [← (xM_some hcm.2).2.2.1]; exact findClass_of_methodNamed B.named, B.notSynchronized, (name_of_methodNamed B.named B.method).1⟩
            have hz : w.2.1 = s2.heap.size := hsz2
            refine ih (d - 1) cm (0, xloc cm as, [], w) v1 w1 h1 (R := { frames := d - 1, cells := w1.2.1 - w.2.1, slots := w1.2.2 - w.2.2, locals := 64 * (d - 1) }) (A := xAw w) (s0 := w.2.2) hC2 hK2 hro2 (Nat.le_refl _) (Nat.le_refl _) (by rw [← hz]; exact Nat.le_of_eq (Nat.add_sub_cancel' hle1.1).symm) (Nat.le_of_eq (Nat.add_sub_cancel' hle1.2).symm) s2.heap [] 0 0 _ ⟨fun a e9 h9 => ⟨hw2 a e9 h9, Or.inl (by rw [h9]; exact fun z => by cases z)⟩, hz, va_S.rf, fun q hq => Or.inr (by rw [hz]; exact hq), hz.symm, rfl⟩ (xlr_entry hcm.1)
        · cases h
end
