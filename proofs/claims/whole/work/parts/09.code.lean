/-! ===== the words of the methods' code (wip/gen/lay09.py) ===== -/
def xCW (mi : Nat) : Prop := lw_tbl[xP mi]? = some (Jvm.Cond.code (xY mi) (xB mi) (xM mi) (xT mi))
set_option maxRecDepth 100000 in
theorem xcw_0 : xCW 0 := rfl
set_option maxRecDepth 100000 in
theorem xcw_1 : xCW 1 := rfl
set_option maxRecDepth 100000 in
theorem xcw_2 : xCW 2 := rfl
set_option maxRecDepth 100000 in
theorem xcw_3 : xCW 3 := rfl
set_option maxRecDepth 100000 in
theorem xcw_4 : xCW 4 := rfl
set_option maxRecDepth 100000 in
theorem xcw_5 : xCW 5 := rfl
set_option maxRecDepth 100000 in
theorem xcw_6 : xCW 6 := rfl
set_option maxRecDepth 100000 in
theorem xcw_7 : xCW 7 := rfl
set_option maxRecDepth 100000 in
theorem xcw_8 : xCW 8 := rfl
set_option maxRecDepth 100000 in
theorem xcw_9 : xCW 9 := rfl
set_option maxRecDepth 100000 in
theorem xcw_10 : xCW 10 := rfl
set_option maxRecDepth 100000 in
theorem xcw_11 : xCW 11 := rfl
set_option maxRecDepth 100000 in
theorem xcw_12 : xCW 12 := rfl
set_option maxRecDepth 100000 in
theorem xcw_13 : xCW 13 := rfl
set_option maxRecDepth 100000 in
theorem xcw_14 : xCW 14 := rfl
set_option maxRecDepth 100000 in
theorem xcw_15 : xCW 15 := rfl
set_option maxRecDepth 100000 in
theorem xcw_16 : xCW 16 := rfl
set_option maxRecDepth 100000 in
theorem xcw_17 : xCW 17 := rfl
set_option maxRecDepth 100000 in
theorem xcw_18 : xCW 18 := rfl
set_option maxRecDepth 100000 in
theorem xcw_19 : xCW 19 := rfl
set_option maxRecDepth 100000 in
theorem xcw_20 : xCW 20 := rfl
set_option maxRecDepth 100000 in
theorem xcw_21 : xCW 21 := rfl
set_option maxRecDepth 100000 in
theorem xcw_22 : xCW 22 := rfl
set_option maxRecDepth 100000 in
theorem xcw_23 : xCW 23 := rfl
set_option maxRecDepth 100000 in
theorem xcw_24 : xCW 24 := rfl
set_option maxRecDepth 100000 in
theorem xcw_25 : xCW 25 := rfl
set_option maxRecDepth 100000 in
theorem xcw_26 : xCW 26 := rfl
set_option maxRecDepth 100000 in
theorem xcw_27 : xCW 27 := rfl
set_option maxRecDepth 100000 in
theorem xcw_28 : xCW 28 := rfl
set_option maxRecDepth 100000 in
theorem xcw_29 : xCW 29 := rfl
set_option maxRecDepth 100000 in
theorem xcw_30 : xCW 30 := rfl
set_option maxRecDepth 100000 in
theorem xcw_31 : xCW 31 := rfl
set_option maxRecDepth 100000 in
theorem xcw_32 : xCW 32 := rfl
set_option maxRecDepth 100000 in
theorem xcw_33 : xCW 33 := rfl
set_option maxRecDepth 100000 in
theorem xcw_34 : xCW 34 := rfl
set_option maxRecDepth 100000 in
theorem xcw_35 : xCW 35 := rfl
set_option maxRecDepth 100000 in
theorem xcw_36 : xCW 36 := rfl
set_option maxRecDepth 100000 in
theorem xcw_37 : xCW 37 := rfl
set_option maxRecDepth 100000 in
theorem xcw_38 : xCW 38 := rfl
set_option maxRecDepth 100000 in
theorem xcw_39 : xCW 39 := rfl
set_option maxRecDepth 100000 in
theorem xcw_40 : xCW 40 := rfl
set_option maxRecDepth 100000 in
theorem xcw_41 : xCW 41 := rfl
set_option maxRecDepth 100000 in
theorem xcw_42 : xCW 42 := rfl
set_option maxRecDepth 100000 in
theorem xcw_43 : xCW 43 := rfl
set_option maxRecDepth 100000 in
theorem xcw_44 : xCW 44 := rfl
set_option maxRecDepth 100000 in
theorem xcw_45 : xCW 45 := rfl
set_option maxRecDepth 100000 in
theorem xcw_46 : xCW 46 := rfl
set_option maxRecDepth 100000 in
theorem xcw_47 : xCW 47 := rfl
set_option maxRecDepth 100000 in
theorem xcw_48 : xCW 48 := rfl
set_option maxRecDepth 100000 in
theorem xcw_49 : xCW 49 := rfl
set_option maxRecDepth 100000 in
theorem xcw_50 : xCW 50 := rfl
set_option maxRecDepth 100000 in
theorem xcw_51 : xCW 51 := rfl
set_option maxRecDepth 100000 in
theorem xcw_52 : xCW 52 := rfl
set_option maxRecDepth 100000 in
theorem xcw_53 : xCW 53 := rfl
set_option maxRecDepth 100000 in
theorem xcw_54 : xCW 54 := rfl
set_option maxRecDepth 100000 in
theorem xcw_55 : xCW 55 := rfl
set_option maxRecDepth 100000 in
theorem xcw_56 : xCW 56 := rfl
set_option maxRecDepth 100000 in
theorem xcw_57 : xCW 57 := rfl
set_option maxRecDepth 100000 in
theorem xcw_58 : xCW 58 := rfl
set_option maxRecDepth 100000 in
theorem xcw_59 : xCW 59 := rfl
set_option maxRecDepth 100000 in
theorem xcw_60 : xCW 60 := rfl
set_option maxRecDepth 100000 in
theorem xcw_61 : xCW 61 := rfl
set_option maxRecDepth 100000 in
theorem xcw_62 : xCW 62 := rfl
set_option maxRecDepth 100000 in
theorem xcw_63 : xCW 63 := rfl
set_option maxRecDepth 100000 in
theorem xcw_64 : xCW 64 := rfl
set_option maxRecDepth 100000 in
theorem xcw_65 : xCW 65 := rfl
set_option maxRecDepth 100000 in
theorem xcw_66 : xCW 66 := rfl
set_option maxRecDepth 100000 in
theorem xcw_67 : xCW 67 := rfl
set_option maxRecDepth 100000 in
theorem xcw_68 : xCW 68 := rfl
set_option maxRecDepth 100000 in
theorem xcw_69 : xCW 69 := rfl
set_option maxRecDepth 100000 in
theorem xcw_70 : xCW 70 := rfl
set_option maxRecDepth 100000 in
theorem xcw_71 : xCW 71 := rfl
set_option maxRecDepth 100000 in
theorem xcw_72 : xCW 72 := rfl
set_option maxRecDepth 100000 in
theorem xcw_73 : xCW 73 := rfl
set_option maxRecDepth 100000 in
theorem xcw_74 : xCW 74 := rfl
set_option maxRecDepth 100000 in
theorem xcw_75 : xCW 75 := rfl
set_option maxRecDepth 100000 in
theorem xcw_76 : xCW 76 := rfl
set_option maxRecDepth 100000 in
theorem xcw_77 : xCW 77 := rfl
set_option maxRecDepth 100000 in
theorem xcw_78 : xCW 78 := rfl
set_option maxRecDepth 100000 in
theorem xcw_79 : xCW 79 := rfl
set_option maxRecDepth 100000 in
theorem xcw_80 : xCW 80 := rfl
set_option maxRecDepth 100000 in
theorem xcw_81 : xCW 81 := rfl
set_option maxRecDepth 100000 in
theorem xcw_82 : xCW 82 := rfl
set_option maxRecDepth 100000 in
theorem xcw_83 : xCW 83 := rfl
set_option maxRecDepth 100000 in
theorem xcw_84 : xCW 84 := rfl
set_option maxRecDepth 100000 in
theorem xcw_85 : xCW 85 := rfl
set_option maxRecDepth 100000 in
theorem xcw_86 : xCW 86 := rfl
set_option maxRecDepth 100000 in
theorem xcw_87 : xCW 87 := rfl
set_option maxRecDepth 100000 in
theorem xcw_88 : xCW 88 := rfl
set_option maxRecDepth 100000 in
theorem xcw_89 : xCW 89 := rfl
set_option maxRecDepth 100000 in
theorem xcw_90 : xCW 90 := rfl
set_option maxRecDepth 100000 in
theorem xcw_91 : xCW 91 := rfl
set_option maxRecDepth 100000 in
theorem xcw_92 : xCW 92 := rfl
set_option maxRecDepth 100000 in
theorem xcw_93 : xCW 93 := rfl
set_option maxRecDepth 100000 in
theorem xcw_94 : xCW 94 := rfl
set_option maxRecDepth 100000 in
theorem xcw_95 : xCW 95 := rfl
set_option maxRecDepth 100000 in
theorem xcw_96 : xCW 96 := rfl
set_option maxRecDepth 100000 in
theorem xcw_97 : xCW 97 := rfl
set_option maxRecDepth 100000 in
theorem xcw_98 : xCW 98 := rfl
set_option maxRecDepth 100000 in
theorem xcw_99 : xCW 99 := rfl
set_option maxRecDepth 100000 in
theorem xcw_100 : xCW 100 := rfl
set_option maxRecDepth 100000 in
theorem xcw_101 : xCW 101 := rfl
set_option maxRecDepth 100000 in
theorem xcw_102 : xCW 102 := rfl
set_option maxRecDepth 100000 in
theorem xcw_103 : xCW 103 := rfl
set_option maxRecDepth 100000 in
theorem xcw_104 : xCW 104 := rfl
set_option maxRecDepth 100000 in
theorem xcw_105 : xCW 105 := rfl
set_option maxRecDepth 100000 in
theorem xcw_106 : xCW 106 := rfl
set_option maxRecDepth 100000 in
theorem xcw_107 : xCW 107 := rfl
set_option maxRecDepth 100000 in
theorem xcw_108 : xCW 108 := rfl
set_option maxRecDepth 100000 in
theorem xcw_109 : xCW 109 := rfl
set_option maxRecDepth 100000 in
theorem xcw_110 : xCW 110 := rfl
set_option maxRecDepth 100000 in
theorem xcw_111 : xCW 111 := rfl
set_option maxRecDepth 100000 in
theorem xcw_112 : xCW 112 := rfl
set_option maxRecDepth 100000 in
theorem xcw_113 : xCW 113 := rfl
set_option maxRecDepth 100000 in
theorem xcw_114 : xCW 114 := rfl
set_option maxRecDepth 100000 in
theorem xcw_115 : xCW 115 := rfl
set_option maxRecDepth 100000 in
theorem xcw_116 : xCW 116 := rfl
set_option maxRecDepth 100000 in
theorem xcw_117 : xCW 117 := rfl
set_option maxRecDepth 100000 in
theorem xcw_118 : xCW 118 := rfl
set_option maxRecDepth 100000 in
theorem xcw_119 : xCW 119 := rfl
set_option maxRecDepth 100000 in
theorem xcw_120 : xCW 120 := rfl
set_option maxRecDepth 100000 in
theorem xcw_121 : xCW 121 := rfl
set_option maxRecDepth 100000 in
theorem xcw_122 : xCW 122 := rfl
set_option maxRecDepth 100000 in
theorem xcwL_0 : ∀ mi ∈ ([0, 1, 2, 3, 4, 5, 6, 7, 8, 9, 10, 11, 12, 13, 14, 15, 16, 17, 18, 19, 20, 21, 22, 23, 24, 25, 26, 27, 28, 29, 30, 31, 32, 33, 34, 35, 36, 37, 38, 39, 40] : List Nat), xCW mi := List.forall_mem_cons.mpr ⟨xcw_0, List.forall_mem_cons.mpr ⟨xcw_1, List.forall_mem_cons.mpr ⟨xcw_2, List.forall_mem_cons.mpr ⟨xcw_3, List.forall_mem_cons.mpr ⟨xcw_4, List.forall_mem_cons.mpr ⟨xcw_5, List.forall_mem_cons.mpr ⟨xcw_6, List.forall_mem_cons.mpr ⟨xcw_7, List.forall_mem_cons.mpr ⟨xcw_8, List.forall_mem_cons.mpr ⟨xcw_9, List.forall_mem_cons.mpr ⟨xcw_10, List.forall_mem_cons.mpr ⟨xcw_11, List.forall_mem_cons.mpr ⟨xcw_12, List.forall_mem_cons.mpr ⟨xcw_13, List.forall_mem_cons.mpr ⟨xcw_14, List.forall_mem_cons.mpr ⟨xcw_15, List.forall_mem_cons.mpr ⟨xcw_16, List.forall_mem_cons.mpr ⟨xcw_17, List.forall_mem_cons.mpr ⟨xcw_18, List.forall_mem_cons.mpr ⟨xcw_19, List.forall_mem_cons.mpr ⟨xcw_20, List.forall_mem_cons.mpr ⟨xcw_21, List.forall_mem_cons.mpr ⟨xcw_22, List.forall_mem_cons.mpr ⟨xcw_23, List.forall_mem_cons.mpr ⟨xcw_24, List.forall_mem_cons.mpr ⟨xcw_25, List.forall_mem_cons.mpr ⟨xcw_26, List.forall_mem_cons.mpr ⟨xcw_27, List.forall_mem_cons.mpr ⟨xcw_28, List.forall_mem_cons.mpr ⟨xcw_29, List.forall_mem_cons.mpr ⟨xcw_30, List.forall_mem_cons.mpr ⟨xcw_31, List.forall_mem_cons.mpr ⟨xcw_32, List.forall_mem_cons.mpr ⟨xcw_33, List.forall_mem_cons.mpr ⟨xcw_34, List.forall_mem_cons.mpr ⟨xcw_35, List.forall_mem_cons.mpr ⟨xcw_36, List.forall_mem_cons.mpr ⟨xcw_37, List.forall_mem_cons.mpr ⟨xcw_38, List.forall_mem_cons.mpr ⟨xcw_39, List.forall_mem_cons.mpr ⟨xcw_40, (fun _ h => by cases h)⟩⟩⟩⟩⟩⟩⟩⟩⟩⟩⟩⟩⟩⟩⟩⟩⟩⟩⟩⟩⟩⟩⟩⟩⟩⟩⟩⟩⟩⟩⟩⟩⟩⟩⟩⟩⟩⟩⟩⟩⟩
set_option maxRecDepth 100000 in
theorem xcwL_41 : ∀ mi ∈ ([41, 42, 43, 44, 45, 46, 47, 48, 49, 50, 51, 52, 53, 54, 55, 56, 57, 58, 59, 60, 61, 62, 63, 64, 65, 66, 67, 68, 69, 70, 71, 72, 73, 74, 75, 76, 77, 78, 79, 80, 81] : List Nat), xCW mi := List.forall_mem_cons.mpr ⟨xcw_41, List.forall_mem_cons.mpr ⟨xcw_42, List.forall_mem_cons.mpr ⟨xcw_43, List.forall_mem_cons.mpr ⟨xcw_44, List.forall_mem_cons.mpr ⟨xcw_45, List.forall_mem_cons.mpr ⟨xcw_46, List.forall_mem_cons.mpr ⟨xcw_47, List.forall_mem_cons.mpr ⟨xcw_48, List.forall_mem_cons.mpr ⟨xcw_49, List.forall_mem_cons.mpr ⟨xcw_50, List.forall_mem_cons.mpr ⟨xcw_51, List.forall_mem_cons.mpr ⟨xcw_52, List.forall_mem_cons.mpr ⟨xcw_53, List.forall_mem_cons.mpr ⟨xcw_54, List.forall_mem_cons.mpr ⟨xcw_55, List.forall_mem_cons.mpr ⟨xcw_56, List.forall_mem_cons.mpr ⟨xcw_57, List.forall_mem_cons.mpr ⟨xcw_58, List.forall_mem_cons.mpr ⟨xcw_59, List.forall_mem_cons.mpr ⟨xcw_60, List.forall_mem_cons.mpr ⟨xcw_61, List.forall_mem_cons.mpr ⟨xcw_62, List.forall_mem_cons.mpr ⟨xcw_63, List.forall_mem_cons.mpr ⟨xcw_64, List.forall_mem_cons.mpr ⟨xcw_65, List.forall_mem_cons.mpr ⟨xcw_66, List.forall_mem_cons.mpr ⟨xcw_67, List.forall_mem_cons.mpr ⟨xcw_68, List.forall_mem_cons.mpr ⟨xcw_69, List.forall_mem_cons.mpr ⟨xcw_70, List.forall_mem_cons.mpr ⟨xcw_71, List.forall_mem_cons.mpr ⟨xcw_72, List.forall_mem_cons.mpr ⟨xcw_73, List.forall_mem_cons.mpr ⟨xcw_74, List.forall_mem_cons.mpr ⟨xcw_75, List.forall_mem_cons.mpr ⟨xcw_76, List.forall_mem_cons.mpr ⟨xcw_77, List.forall_mem_cons.mpr ⟨xcw_78, List.forall_mem_cons.mpr ⟨xcw_79, List.forall_mem_cons.mpr ⟨xcw_80, List.forall_mem_cons.mpr ⟨xcw_81, (fun _ h => by cases h)⟩⟩⟩⟩⟩⟩⟩⟩⟩⟩⟩⟩⟩⟩⟩⟩⟩⟩⟩⟩⟩⟩⟩⟩⟩⟩⟩⟩⟩⟩⟩⟩⟩⟩⟩⟩⟩⟩⟩⟩⟩
set_option maxRecDepth 100000 in
theorem xcwL_82 : ∀ mi ∈ ([82, 83, 84, 85, 86, 87, 88, 89, 90, 91, 92, 93, 94, 95, 96, 97, 98, 99, 100, 101, 102, 103, 104, 105, 106, 107, 108, 109, 110, 111, 112, 113, 114, 115, 116, 117, 118, 119, 120, 121, 122] : List Nat), xCW mi := List.forall_mem_cons.mpr ⟨xcw_82, List.forall_mem_cons.mpr ⟨xcw_83, List.forall_mem_cons.mpr ⟨xcw_84, List.forall_mem_cons.mpr ⟨xcw_85, List.forall_mem_cons.mpr ⟨xcw_86, List.forall_mem_cons.mpr ⟨xcw_87, List.forall_mem_cons.mpr ⟨xcw_88, List.forall_mem_cons.mpr ⟨xcw_89, List.forall_mem_cons.mpr ⟨xcw_90, List.forall_mem_cons.mpr ⟨xcw_91, List.forall_mem_cons.mpr ⟨xcw_92, List.forall_mem_cons.mpr ⟨xcw_93, List.forall_mem_cons.mpr ⟨xcw_94, List.forall_mem_cons.mpr ⟨xcw_95, List.forall_mem_cons.mpr ⟨xcw_96, List.forall_mem_cons.mpr ⟨xcw_97, List.forall_mem_cons.mpr ⟨xcw_98, List.forall_mem_cons.mpr ⟨xcw_99, List.forall_mem_cons.mpr ⟨xcw_100, List.forall_mem_cons.mpr ⟨xcw_101, List.forall_mem_cons.mpr ⟨xcw_102, List.forall_mem_cons.mpr ⟨xcw_103, List.forall_mem_cons.mpr ⟨xcw_104, List.forall_mem_cons.mpr ⟨xcw_105, List.forall_mem_cons.mpr ⟨xcw_106, List.forall_mem_cons.mpr ⟨xcw_107, List.forall_mem_cons.mpr ⟨xcw_108, List.forall_mem_cons.mpr ⟨xcw_109, List.forall_mem_cons.mpr ⟨xcw_110, List.forall_mem_cons.mpr ⟨xcw_111, List.forall_mem_cons.mpr ⟨xcw_112, List.forall_mem_cons.mpr ⟨xcw_113, List.forall_mem_cons.mpr ⟨xcw_114, List.forall_mem_cons.mpr ⟨xcw_115, List.forall_mem_cons.mpr ⟨xcw_116, List.forall_mem_cons.mpr ⟨xcw_117, List.forall_mem_cons.mpr ⟨xcw_118, List.forall_mem_cons.mpr ⟨xcw_119, List.forall_mem_cons.mpr ⟨xcw_120, List.forall_mem_cons.mpr ⟨xcw_121, List.forall_mem_cons.mpr ⟨xcw_122, (fun _ h => by cases h)⟩⟩⟩⟩⟩⟩⟩⟩⟩⟩⟩⟩⟩⟩⟩⟩⟩⟩⟩⟩⟩⟩⟩⟩⟩⟩⟩⟩⟩⟩⟩⟩⟩⟩⟩⟩⟩⟩⟩⟩⟩
theorem xcw_all (mi : Nat) (h : mi < 123) : xCW mi := by
  by_cases h0 : mi < 41
  · refine xcwL_0 mi ?_
    have : mi ∈ (List.range 41).map (fun k => 0 + k) := List.mem_map.mpr ⟨mi - 0, List.mem_range.mpr (by omega), by omega⟩
    exact this
  by_cases h41 : mi < 82
  · refine xcwL_41 mi ?_
    have : mi ∈ (List.range 41).map (fun k => 41 + k) := List.mem_map.mpr ⟨mi - 41, List.mem_range.mpr (by omega), by omega⟩
    exact this
  by_cases h82 : mi < 123
  · refine xcwL_82 mi ?_
    have : mi ∈ (List.range 41).map (fun k => 82 + k) := List.mem_map.mpr ⟨mi - 82, List.mem_range.mpr (by omega), by omega⟩
    exact this
  omega
