/-! ===== which instruction stands where (wip/gen/lay16.py) ===== -/
theorem i28_67 : xI 28 67 = some (.invokevirtual 48) := by decide +kernel
theorem i28_70 : xI 28 70 = some (.pop) := by decide +kernel
theorem i28_71 : xI 28 71 = some (.aload_n 0) := by decide +kernel
theorem i28_72 : xI 28 72 = some (.bipush 8) := by decide +kernel
theorem i28_74 : xI 28 74 = some (.aload_n 0) := by decide +kernel
theorem i28_75 : xI 28 75 = some (.invokevirtual 89) := by decide +kernel
theorem i28_78 : xI 28 78 = some (.invokevirtual 60) := by decide +kernel
theorem i28_81 : xI 28 81 = some (.goto 51) := by decide +kernel
theorem i28_84 : xI 28 84 = some (.iload_n 2) := by decide +kernel
theorem i28_85 : xI 28 85 = some (.bipush 9) := by decide +kernel
theorem i28_87 : xI 28 87 = some (.if_icmp .eq 15) := by decide +kernel
theorem i28_90 : xI 28 90 = some (.iload_n 2) := by decide +kernel
theorem i28_91 : xI 28 91 = some (.bipush 6) := by decide +kernel
theorem i28_93 : xI 28 93 = some (.if_icmp .eq 9) := by decide +kernel
theorem i28_96 : xI 28 96 = some (.iload_n 2) := by decide +kernel
theorem i28_97 : xI 28 97 = some (.bipush 7) := by decide +kernel
theorem i28_99 : xI 28 99 = some (.if_icmp .ne 29) := by decide +kernel
theorem i28_102 : xI 28 102 = some (.aload_n 0) := by decide +kernel
theorem i28_103 : xI 28 103 = some (.iload_n 2) := by decide +kernel
theorem i28_104 : xI 28 104 = some (.aload_n 0) := by decide +kernel
theorem i28_105 : xI 28 105 = some (.getfield 14) := by decide +kernel
theorem i28_108 : xI 28 108 = some (.getfield 98) := by decide +kernel
theorem i28_111 : xI 28 111 = some (.aload_n 0) := by decide +kernel
theorem i28_112 : xI 28 112 = some (.getfield 29) := by decide +kernel
theorem i28_115 : xI 28 115 = some (.iaload) := by decide +kernel
theorem i28_116 : xI 28 116 = some (.invokevirtual 60) := by decide +kernel
theorem i28_119 : xI 28 119 = some (.aload_n 0) := by decide +kernel
theorem i28_120 : xI 28 120 = some (.iload_n 2) := by decide +kernel
theorem i28_121 : xI 28 121 = some (.invokevirtual 48) := by decide +kernel
theorem i28_124 : xI 28 124 = some (.pop) := by decide +kernel
theorem i28_125 : xI 28 125 = some (.goto 7) := by decide +kernel
theorem i28_128 : xI 28 128 = some (.aload_n 0) := by decide +kernel
theorem i28_129 : xI 28 129 = some (.invokevirtual 68) := by decide +kernel
theorem i28_132 : xI 28 132 = some (.return_) := by decide +kernel
-- 29 Co_require
theorem i29_0 : xI 29 0 = some (.aload_n 0) := by decide +kernel
theorem i29_1 : xI 29 1 = some (.iload_n 1) := by decide +kernel
theorem i29_2 : xI 29 2 = some (.invokevirtual 48) := by decide +kernel
theorem i29_5 : xI 29 5 = some (.ifCond .ne 7) := by decide +kernel
theorem i29_8 : xI 29 8 = some (.aload_n 0) := by decide +kernel
theorem i29_9 : xI 29 9 = some (.invokevirtual 68) := by decide +kernel
theorem i29_12 : xI 29 12 = some (.return_) := by decide +kernel
-- 30 Co_fail
theorem i30_0 : xI 30 0 = some (.aload_n 0) := by decide +kernel
theorem i30_1 : xI 30 1 = some (.getfield 35) := by decide +kernel
theorem i30_4 : xI 30 4 = some (.bipush (-2)) := by decide +kernel
theorem i30_6 : xI 30 6 = some (.if_icmp .ne 19) := by decide +kernel
theorem i30_9 : xI 30 9 = some (.aload_n 0) := by decide +kernel
theorem i30_10 : xI 30 10 = some (.aload_n 0) := by decide +kernel
theorem i30_11 : xI 30 11 = some (.getfield 14) := by decide +kernel
theorem i30_14 : xI 30 14 = some (.getfield 108) := by decide +kernel
theorem i30_17 : xI 30 17 = some (.aload_n 0) := by decide +kernel
theorem i30_18 : xI 30 18 = some (.getfield 29) := by decide +kernel
theorem i30_21 : xI 30 21 = some (.iaload) := by decide +kernel
theorem i30_22 : xI 30 22 = some (.putfield 35) := by decide +kernel
theorem i30_25 : xI 30 25 = some (.return_) := by decide +kernel
-- 31 Co_kind
theorem i31_0 : xI 31 0 = some (.aload_n 0) := by decide +kernel
theorem i31_1 : xI 31 1 = some (.getfield 14) := by decide +kernel
theorem i31_4 : xI 31 4 = some (.getfield 104) := by decide +kernel
theorem i31_7 : xI 31 7 = some (.aload_n 0) := by decide +kernel
theorem i31_8 : xI 31 8 = some (.getfield 29) := by decide +kernel
theorem i31_11 : xI 31 11 = some (.iaload) := by decide +kernel
theorem i31_12 : xI 31 12 = some (.ireturn) := by decide +kernel
-- 32 Co_parseCellNumber
theorem i32_0 : xI 32 0 = some (.aload_n 0) := by decide +kernel
theorem i32_1 : xI 32 1 = some (.getfield 14) := by decide +kernel
theorem i32_4 : xI 32 4 = some (.getfield 98) := by decide +kernel
theorem i32_7 : xI 32 7 = some (.aload_n 0) := by decide +kernel
theorem i32_8 : xI 32 8 = some (.getfield 29) := by decide +kernel
theorem i32_11 : xI 32 11 = some (.iaload) := by decide +kernel
theorem i32_12 : xI 32 12 = some (.istore_n 1) := by decide +kernel
theorem i32_13 : xI 32 13 = some (.iload_n 1) := by decide +kernel
theorem i32_14 : xI 32 14 = some (.invokestatic 101) := by decide +kernel
theorem i32_17 : xI 32 17 = some (.ifCond .eq 12) := by decide +kernel
theorem i32_20 : xI 32 20 = some (.aload_n 0) := by decide +kernel
theorem i32_21 : xI 32 21 = some (.bipush 9) := by decide +kernel
theorem i32_23 : xI 32 23 = some (.invokevirtual 48) := by decide +kernel
theorem i32_26 : xI 32 26 = some (.ifCond .ne 9) := by decide +kernel
theorem i32_29 : xI 32 29 = some (.aload_n 0) := by decide +kernel
theorem i32_30 : xI 32 30 = some (.invokevirtual 68) := by decide +kernel
theorem i32_33 : xI 32 33 = some (.iconst 0) := by decide +kernel
theorem i32_34 : xI 32 34 = some (.ireturn) := by decide +kernel
theorem i32_35 : xI 32 35 = some (.iload_n 1) := by decide +kernel
theorem i32_36 : xI 32 36 = some (.ireturn) := by decide +kernel
-- 33 Co_emit
theorem i33_0 : xI 33 0 = some (.aload_n 0) := by decide +kernel
theorem i33_1 : xI 33 1 = some (.getfield 35) := by decide +kernel
theorem i33_4 : xI 33 4 = some (.bipush (-2)) := by decide +kernel
theorem i33_6 : xI 33 6 = some (.if_icmp .ne 43) := by decide +kernel
theorem i33_9 : xI 33 9 = some (.aload_n 0) := by decide +kernel
theorem i33_10 : xI 33 10 = some (.getfield 25) := by decide +kernel
theorem i33_13 : xI 33 13 = some (.sipush 406) := by decide +kernel
theorem i33_16 : xI 33 16 = some (.if_icmp .ge 33) := by decide +kernel
theorem i33_19 : xI 33 19 = some (.aload_n 0) := by decide +kernel
theorem i33_20 : xI 33 20 = some (.getfield 18) := by decide +kernel
theorem i33_23 : xI 33 23 = some (.aload_n 0) := by decide +kernel
theorem i33_24 : xI 33 24 = some (.getfield 25) := by decide +kernel
theorem i33_27 : xI 33 27 = some (.iload_n 1) := by decide +kernel
theorem i33_28 : xI 33 28 = some (.iastore) := by decide +kernel
theorem i33_29 : xI 33 29 = some (.aload_n 0) := by decide +kernel
theorem i33_30 : xI 33 30 = some (.getfield 22) := by decide +kernel
theorem i33_33 : xI 33 33 = some (.aload_n 0) := by decide +kernel
theorem i33_34 : xI 33 34 = some (.getfield 25) := by decide +kernel
theorem i33_37 : xI 33 37 = some (.iload_n 2) := by decide +kernel
theorem i33_38 : xI 33 38 = some (.iastore) := by decide +kernel
theorem i33_39 : xI 33 39 = some (.aload_n 0) := by decide +kernel
theorem i33_40 : xI 33 40 = some (.dup) := by decide +kernel
theorem i33_41 : xI 33 41 = some (.getfield 25) := by decide +kernel
theorem i33_44 : xI 33 44 = some (.iconst 1) := by decide +kernel
theorem i33_45 : xI 33 45 = some (.iadd) := by decide +kernel
theorem i33_46 : xI 33 46 = some (.putfield 25) := by decide +kernel
theorem i33_49 : xI 33 49 = some (.return_) := by decide +kernel
-- 34 Co_parseEffects
theorem i34_0 : xI 34 0 = some (.iconst 1) := by decide +kernel
theorem i34_1 : xI 34 1 = some (.istore_n 1) := by decide +kernel
theorem i34_2 : xI 34 2 = some (.iconst 0) := by decide +kernel
theorem i34_3 : xI 34 3 = some (.istore_n 2) := by decide +kernel
theorem i34_4 : xI 34 4 = some (.iload_n 1) := by decide +kernel
theorem i34_5 : xI 34 5 = some (.ifCond .eq 51) := by decide +kernel
theorem i34_8 : xI 34 8 = some (.iload_n 2) := by decide +kernel
theorem i34_9 : xI 34 9 = some (.bipush 8) := by decide +kernel
theorem i34_11 : xI 34 11 = some (.if_icmp .ge 45) := by decide +kernel
theorem i34_14 : xI 34 14 = some (.aload_n 0) := by decide +kernel
theorem i34_15 : xI 34 15 = some (.bipush 8) := by decide +kernel
theorem i34_17 : xI 34 17 = some (.invokevirtual 84) := by decide +kernel
theorem i34_20 : xI 34 20 = some (.aload_n 0) := by decide +kernel
theorem i34_21 : xI 34 21 = some (.invokevirtual 89) := by decide +kernel
theorem i34_24 : xI 34 24 = some (.istore_n 3) := by decide +kernel
theorem i34_25 : xI 34 25 = some (.aload_n 0) := by decide +kernel
theorem i34_26 : xI 34 26 = some (.bipush 17) := by decide +kernel
theorem i34_28 : xI 34 28 = some (.invokevirtual 84) := by decide +kernel
theorem i34_31 : xI 34 31 = some (.aload_n 0) := by decide +kernel
theorem i34_32 : xI 34 32 = some (.iconst 0) := by decide +kernel
theorem i34_33 : xI 34 33 = some (.invokevirtual 80) := by decide +kernel
theorem i34_36 : xI 34 36 = some (.aload_n 0) := by decide +kernel
theorem i34_37 : xI 34 37 = some (.bipush 17) := by decide +kernel
theorem i34_39 : xI 34 39 = some (.iload_n 3) := by decide +kernel
theorem i34_40 : xI 34 40 = some (.invokevirtual 60) := by decide +kernel
theorem i34_43 : xI 34 43 = some (.aload_n 0) := by decide +kernel
theorem i34_44 : xI 34 44 = some (.bipush 18) := by decide +kernel
theorem i34_46 : xI 34 46 = some (.invokevirtual 48) := by decide +kernel
theorem i34_49 : xI 34 49 = some (.istore_n 1) := by decide +kernel
theorem i34_50 : xI 34 50 = some (.iinc 2 1) := by decide +kernel
theorem i34_53 : xI 34 53 = some (.goto (-49)) := by decide +kernel
theorem i34_56 : xI 34 56 = some (.iload_n 1) := by decide +kernel
theorem i34_57 : xI 34 57 = some (.ifCond .eq 7) := by decide +kernel
theorem i34_60 : xI 34 60 = some (.aload_n 0) := by decide +kernel
theorem i34_61 : xI 34 61 = some (.invokevirtual 68) := by decide +kernel
theorem i34_64 : xI 34 64 = some (.return_) := by decide +kernel
-- 35 Co_compiled
theorem i35_0 : xI 35 0 = some (.new 58) := by decide +kernel
theorem i35_3 : xI 35 3 = some (.dup) := by decide +kernel
theorem i35_4 : xI 35 4 = some (.aload_n 0) := by decide +kernel
theorem i35_5 : xI 35 5 = some (.getfield 18) := by decide +kernel
theorem i35_8 : xI 35 8 = some (.aload_n 0) := by decide +kernel
theorem i35_9 : xI 35 9 = some (.getfield 25) := by decide +kernel
theorem i35_12 : xI 35 12 = some (.invokestatic 71) := by decide +kernel
theorem i35_15 : xI 35 15 = some (.aload_n 0) := by decide +kernel
theorem i35_16 : xI 35 16 = some (.getfield 22) := by decide +kernel
theorem i35_19 : xI 35 19 = some (.aload_n 0) := by decide +kernel
theorem i35_20 : xI 35 20 = some (.getfield 25) := by decide +kernel
theorem i35_23 : xI 35 23 = some (.invokestatic 71) := by decide +kernel
theorem i35_26 : xI 35 26 = some (.invokespecial 77) := by decide +kernel
theorem i35_29 : xI 35 29 = some (.areturn) := by decide +kernel
-- 36 To_init
theorem i36_0 : xI 36 0 = some (.aload_n 0) := by decide +kernel
theorem i36_1 : xI 36 1 = some (.invokespecial 3) := by decide +kernel
theorem i36_4 : xI 36 4 = some (.aload_n 0) := by decide +kernel
theorem i36_5 : xI 36 5 = some (.sipush 401) := by decide +kernel
theorem i36_8 : xI 36 8 = some (.newarray .int) := by decide +kernel
theorem i36_10 : xI 36 10 = some (.putfield 9) := by decide +kernel
theorem i36_13 : xI 36 13 = some (.aload_n 0) := by decide +kernel
theorem i36_14 : xI 36 14 = some (.sipush 401) := by decide +kernel
theorem i36_17 : xI 36 17 = some (.newarray .int) := by decide +kernel
theorem i36_19 : xI 36 19 = some (.putfield 15) := by decide +kernel
theorem i36_22 : xI 36 22 = some (.aload_n 0) := by decide +kernel
theorem i36_23 : xI 36 23 = some (.sipush 401) := by decide +kernel
theorem i36_26 : xI 36 26 = some (.newarray .int) := by decide +kernel
theorem i36_28 : xI 36 28 = some (.putfield 18) := by decide +kernel
theorem i36_31 : xI 36 31 = some (.aload_n 0) := by decide +kernel
theorem i36_32 : xI 36 32 = some (.iconst 0) := by decide +kernel
theorem i36_33 : xI 36 33 = some (.putfield 21) := by decide +kernel
theorem i36_36 : xI 36 36 = some (.return_) := by decide +kernel
-- 37 To_scan
theorem i37_0 : xI 37 0 = some (.iconst 0) := by decide +kernel
theorem i37_1 : xI 37 1 = some (.istore_n 2) := by decide +kernel
theorem i37_2 : xI 37 2 = some (.iconst 1) := by decide +kernel
theorem i37_3 : xI 37 3 = some (.istore_n 3) := by decide +kernel
theorem i37_4 : xI 37 4 = some (.aload_n 0) := by decide +kernel
theorem i37_5 : xI 37 5 = some (.iconst 0) := by decide +kernel
theorem i37_6 : xI 37 6 = some (.putfield 21) := by decide +kernel
theorem i37_9 : xI 37 9 = some (.iload_n 3) := by decide +kernel
theorem i37_10 : xI 37 10 = some (.ifCond .eq 83) := by decide +kernel
theorem i37_13 : xI 37 13 = some (.aload_n 0) := by decide +kernel
theorem i37_14 : xI 37 14 = some (.getfield 21) := by decide +kernel
theorem i37_17 : xI 37 17 = some (.sipush 400) := by decide +kernel
theorem i37_20 : xI 37 20 = some (.if_icmp .gt 73) := by decide +kernel
theorem i37_23 : xI 37 23 = some (.aload_n 1) := by decide +kernel
theorem i37_24 : xI 37 24 = some (.iload_n 2) := by decide +kernel
theorem i37_25 : xI 37 25 = some (.invokestatic 25) := by decide +kernel
theorem i37_28 : xI 37 28 = some (.istore 4) := by decide +kernel
theorem i37_30 : xI 37 30 = some (.aload_n 0) := by decide +kernel
theorem i37_31 : xI 37 31 = some (.aload_n 1) := by decide +kernel
theorem i37_32 : xI 37 32 = some (.iload 4) := by decide +kernel
theorem i37_34 : xI 37 34 = some (.invokevirtual 29) := by decide +kernel
theorem i37_37 : xI 37 37 = some (.istore_n 2) := by decide +kernel
theorem i37_38 : xI 37 38 = some (.aload_n 0) := by decide +kernel
theorem i37_39 : xI 37 39 = some (.getfield 15) := by decide +kernel
theorem i37_42 : xI 37 42 = some (.aload_n 0) := by decide +kernel
theorem i37_43 : xI 37 43 = some (.getfield 21) := by decide +kernel
theorem i37_46 : xI 37 46 = some (.iload 4) := by decide +kernel
theorem i37_48 : xI 37 48 = some (.iastore) := by decide +kernel
theorem i37_49 : xI 37 49 = some (.aload_n 0) := by decide +kernel
theorem i37_50 : xI 37 50 = some (.getfield 9) := by decide +kernel
theorem i37_53 : xI 37 53 = some (.aload_n 0) := by decide +kernel
theorem i37_54 : xI 37 54 = some (.getfield 21) := by decide +kernel
theorem i37_57 : xI 37 57 = some (.iaload) := by decide +kernel
theorem i37_58 : xI 37 58 = some (.ifCond .eq 20) := by decide +kernel
theorem i37_61 : xI 37 61 = some (.aload_n 0) := by decide +kernel
theorem i37_62 : xI 37 62 = some (.getfield 9) := by decide +kernel
theorem i37_65 : xI 37 65 = some (.aload_n 0) := by decide +kernel
theorem i37_66 : xI 37 66 = some (.getfield 21) := by decide +kernel
theorem i37_69 : xI 37 69 = some (.iaload) := by decide +kernel
theorem i37_70 : xI 37 70 = some (.iconst 1) := by decide +kernel
theorem i37_71 : xI 37 71 = some (.if_icmp .eq 7) := by decide +kernel
theorem i37_74 : xI 37 74 = some (.iconst 1) := by decide +kernel
theorem i37_75 : xI 37 75 = some (.goto 4) := by decide +kernel
theorem i37_78 : xI 37 78 = some (.iconst 0) := by decide +kernel
theorem i37_79 : xI 37 79 = some (.istore_n 3) := by decide +kernel
theorem i37_80 : xI 37 80 = some (.aload_n 0) := by decide +kernel
theorem i37_81 : xI 37 81 = some (.dup) := by decide +kernel
theorem i37_82 : xI 37 82 = some (.getfield 21) := by decide +kernel
theorem i37_85 : xI 37 85 = some (.iconst 1) := by decide +kernel
theorem i37_86 : xI 37 86 = some (.iadd) := by decide +kernel
theorem i37_87 : xI 37 87 = some (.putfield 21) := by decide +kernel
theorem i37_90 : xI 37 90 = some (.goto (-81)) := by decide +kernel
theorem i37_93 : xI 37 93 = some (.return_) := by decide +kernel
-- 38 To_skipBlanks
theorem i38_0 : xI 38 0 = some (.iload_n 1) := by decide +kernel
theorem i38_1 : xI 38 1 = some (.istore_n 2) := by decide +kernel
theorem i38_2 : xI 38 2 = some (.iload_n 2) := by decide +kernel
theorem i38_3 : xI 38 3 = some (.aload_n 0) := by decide +kernel
theorem i38_4 : xI 38 4 = some (.getfield 34) := by decide +kernel
theorem i38_7 : xI 38 7 = some (.if_icmp .ge 20) := by decide +kernel
theorem i38_10 : xI 38 10 = some (.aload_n 0) := by decide +kernel
theorem i38_11 : xI 38 11 = some (.getfield 39) := by decide +kernel
theorem i38_14 : xI 38 14 = some (.iload_n 2) := by decide +kernel
theorem i38_15 : xI 38 15 = some (.iaload) := by decide +kernel
theorem i38_16 : xI 38 16 = some (.bipush 32) := by decide +kernel
theorem i38_18 : xI 38 18 = some (.if_icmp .ne 9) := by decide +kernel
theorem i38_21 : xI 38 21 = some (.iinc 2 1) := by decide +kernel
theorem i38_24 : xI 38 24 = some (.goto (-22)) := by decide +kernel
theorem i38_27 : xI 38 27 = some (.iload_n 2) := by decide +kernel
theorem i38_28 : xI 38 28 = some (.ireturn) := by decide +kernel
-- 39 To_scanToken
theorem i39_0 : xI 39 0 = some (.aload_n 0) := by decide +kernel
theorem i39_1 : xI 39 1 = some (.getfield 18) := by decide +kernel
theorem i39_4 : xI 39 4 = some (.aload_n 0) := by decide +kernel
theorem i39_5 : xI 39 5 = some (.getfield 21) := by decide +kernel
theorem i39_8 : xI 39 8 = some (.iconst 0) := by decide +kernel
theorem i39_9 : xI 39 9 = some (.iastore) := by decide +kernel
theorem i39_10 : xI 39 10 = some (.iload_n 2) := by decide +kernel
theorem i39_11 : xI 39 11 = some (.aload_n 1) := by decide +kernel
theorem i39_12 : xI 39 12 = some (.getfield 34) := by decide +kernel
theorem i39_15 : xI 39 15 = some (.if_icmp .lt 15) := by decide +kernel
theorem i39_18 : xI 39 18 = some (.aload_n 0) := by decide +kernel
theorem i39_19 : xI 39 19 = some (.getfield 9) := by decide +kernel
theorem i39_22 : xI 39 22 = some (.aload_n 0) := by decide +kernel
theorem i39_23 : xI 39 23 = some (.getfield 21) := by decide +kernel
theorem i39_26 : xI 39 26 = some (.iconst 0) := by decide +kernel
theorem i39_27 : xI 39 27 = some (.iastore) := by decide +kernel
theorem i39_28 : xI 39 28 = some (.iload_n 2) := by decide +kernel
theorem i39_29 : xI 39 29 = some (.ireturn) := by decide +kernel
theorem i39_30 : xI 39 30 = some (.aload_n 1) := by decide +kernel
theorem i39_31 : xI 39 31 = some (.getfield 39) := by decide +kernel
theorem i39_34 : xI 39 34 = some (.iload_n 2) := by decide +kernel
theorem i39_35 : xI 39 35 = some (.iaload) := by decide +kernel
theorem i39_36 : xI 39 36 = some (.istore_n 3) := by decide +kernel
theorem i39_37 : xI 39 37 = some (.iload_n 3) := by decide +kernel
theorem i39_38 : xI 39 38 = some (.bipush 97) := by decide +kernel
theorem i39_40 : xI 39 40 = some (.if_icmp .lt 16) := by decide +kernel
theorem i39_43 : xI 39 43 = some (.iload_n 3) := by decide +kernel
theorem i39_44 : xI 39 44 = some (.bipush 122) := by decide +kernel
theorem i39_46 : xI 39 46 = some (.if_icmp .gt 10) := by decide +kernel
theorem i39_49 : xI 39 49 = some (.aload_n 0) := by decide +kernel
theorem i39_50 : xI 39 50 = some (.aload_n 1) := by decide +kernel
theorem i39_51 : xI 39 51 = some (.iload_n 2) := by decide +kernel
theorem i39_52 : xI 39 52 = some (.invokevirtual 42) := by decide +kernel
theorem i39_55 : xI 39 55 = some (.ireturn) := by decide +kernel
theorem i39_56 : xI 39 56 = some (.iload_n 3) := by decide +kernel
theorem i39_57 : xI 39 57 = some (.bipush 48) := by decide +kernel
theorem i39_59 : xI 39 59 = some (.if_icmp .lt 16) := by decide +kernel
theorem i39_62 : xI 39 62 = some (.iload_n 3) := by decide +kernel
theorem i39_63 : xI 39 63 = some (.bipush 57) := by decide +kernel
theorem i39_65 : xI 39 65 = some (.if_icmp .gt 10) := by decide +kernel
theorem i39_68 : xI 39 68 = some (.aload_n 0) := by decide +kernel
theorem i39_69 : xI 39 69 = some (.aload_n 1) := by decide +kernel
theorem i39_70 : xI 39 70 = some (.iload_n 2) := by decide +kernel
theorem i39_71 : xI 39 71 = some (.invokevirtual 45) := by decide +kernel
theorem i39_74 : xI 39 74 = some (.ireturn) := by decide +kernel
theorem i39_75 : xI 39 75 = some (.iload_n 3) := by decide +kernel
theorem i39_76 : xI 39 76 = some (.bipush 58) := by decide +kernel
theorem i39_78 : xI 39 78 = some (.if_icmp .ne 30) := by decide +kernel
theorem i39_81 : xI 39 81 = some (.iload_n 2) := by decide +kernel
theorem i39_82 : xI 39 82 = some (.iconst 1) := by decide +kernel
theorem i39_83 : xI 39 83 = some (.iadd) := by decide +kernel
theorem i39_84 : xI 39 84 = some (.aload_n 1) := by decide +kernel
theorem i39_85 : xI 39 85 = some (.getfield 34) := by decide +kernel
theorem i39_88 : xI 39 88 = some (.if_icmp .ge 20) := by decide +kernel
theorem i39_91 : xI 39 91 = some (.aload_n 1) := by decide +kernel
theorem i39_92 : xI 39 92 = some (.getfield 39) := by decide +kernel
theorem i39_95 : xI 39 95 = some (.iload_n 2) := by decide +kernel
theorem i39_96 : xI 39 96 = some (.iconst 1) := by decide +kernel
theorem i39_97 : xI 39 97 = some (.iadd) := by decide +kernel
theorem i39_98 : xI 39 98 = some (.iaload) := by decide +kernel
theorem i39_99 : xI 39 99 = some (.bipush 61) := by decide +kernel
theorem i39_101 : xI 39 101 = some (.if_icmp .ne 7) := by decide +kernel
theorem i39_104 : xI 39 104 = some (.iconst 1) := by decide +kernel
theorem i39_105 : xI 39 105 = some (.goto 4) := by decide +kernel
theorem i39_108 : xI 39 108 = some (.iconst 0) := by decide +kernel
theorem i39_109 : xI 39 109 = some (.istore 4) := by decide +kernel
theorem i39_111 : xI 39 111 = some (.aload_n 0) := by decide +kernel
theorem i39_112 : xI 39 112 = some (.getfield 9) := by decide +kernel
theorem i39_115 : xI 39 115 = some (.aload_n 0) := by decide +kernel
theorem i39_116 : xI 39 116 = some (.getfield 21) := by decide +kernel
theorem i39_119 : xI 39 119 = some (.iload 4) := by decide +kernel
theorem i39_121 : xI 39 121 = some (.ifCond .eq 8) := by decide +kernel
theorem i39_124 : xI 39 124 = some (.bipush 17) := by decide +kernel
theorem i39_126 : xI 39 126 = some (.goto 7) := by decide +kernel
theorem i39_129 : xI 39 129 = some (.iload_n 3) := by decide +kernel
theorem i39_130 : xI 39 130 = some (.invokestatic 48) := by decide +kernel
theorem i39_133 : xI 39 133 = some (.iastore) := by decide +kernel
theorem i39_134 : xI 39 134 = some (.iload 4) := by decide +kernel
theorem i39_136 : xI 39 136 = some (.ifCond .eq 9) := by decide +kernel
theorem i39_139 : xI 39 139 = some (.iload_n 2) := by decide +kernel
theorem i39_140 : xI 39 140 = some (.iconst 2) := by decide +kernel
theorem i39_141 : xI 39 141 = some (.iadd) := by decide +kernel
theorem i39_142 : xI 39 142 = some (.goto 6) := by decide +kernel
theorem i39_145 : xI 39 145 = some (.iload_n 2) := by decide +kernel
theorem i39_146 : xI 39 146 = some (.iconst 1) := by decide +kernel
theorem i39_147 : xI 39 147 = some (.iadd) := by decide +kernel
theorem i39_148 : xI 39 148 = some (.ireturn) := by decide +kernel
-- 40 To_scanWord
theorem i40_0 : xI 40 0 = some (.iload_n 2) := by decide +kernel
theorem i40_1 : xI 40 1 = some (.istore_n 3) := by decide +kernel
theorem i40_2 : xI 40 2 = some (.iload_n 3) := by decide +kernel
theorem i40_3 : xI 40 3 = some (.aload_n 1) := by decide +kernel
theorem i40_4 : xI 40 4 = some (.getfield 34) := by decide +kernel
theorem i40_7 : xI 40 7 = some (.if_icmp .ge 31) := by decide +kernel
theorem i40_10 : xI 40 10 = some (.aload_n 1) := by decide +kernel
theorem i40_11 : xI 40 11 = some (.getfield 39) := by decide +kernel
theorem i40_14 : xI 40 14 = some (.iload_n 3) := by decide +kernel
theorem i40_15 : xI 40 15 = some (.iaload) := by decide +kernel
theorem i40_16 : xI 40 16 = some (.bipush 97) := by decide +kernel
theorem i40_18 : xI 40 18 = some (.if_icmp .lt 20) := by decide +kernel
theorem i40_21 : xI 40 21 = some (.aload_n 1) := by decide +kernel
theorem i40_22 : xI 40 22 = some (.getfield 39) := by decide +kernel
theorem i40_25 : xI 40 25 = some (.iload_n 3) := by decide +kernel
theorem i40_26 : xI 40 26 = some (.iaload) := by decide +kernel
theorem i40_27 : xI 40 27 = some (.bipush 122) := by decide +kernel
theorem i40_29 : xI 40 29 = some (.if_icmp .gt 9) := by decide +kernel
theorem i40_32 : xI 40 32 = some (.iinc 3 1) := by decide +kernel
theorem i40_35 : xI 40 35 = some (.goto (-33)) := by decide +kernel
theorem i40_38 : xI 40 38 = some (.aload_n 0) := by decide +kernel
theorem i40_39 : xI 40 39 = some (.getfield 9) := by decide +kernel
theorem i40_42 : xI 40 42 = some (.aload_n 0) := by decide +kernel
theorem i40_43 : xI 40 43 = some (.getfield 21) := by decide +kernel
theorem i40_46 : xI 40 46 = some (.aload_n 1) := by decide +kernel
theorem i40_47 : xI 40 47 = some (.iload_n 2) := by decide +kernel
theorem i40_48 : xI 40 48 = some (.iload_n 3) := by decide +kernel
theorem i40_49 : xI 40 49 = some (.invokestatic 52) := by decide +kernel
theorem i40_52 : xI 40 52 = some (.iastore) := by decide +kernel
theorem i40_53 : xI 40 53 = some (.iload_n 3) := by decide +kernel
theorem i40_54 : xI 40 54 = some (.ireturn) := by decide +kernel
-- 41 To_kindOfWord
theorem i41_0 : xI 41 0 = some (.aload_n 0) := by decide +kernel
theorem i41_1 : xI 41 1 = some (.iload_n 1) := by decide +kernel
theorem i41_2 : xI 41 2 = some (.iload_n 2) := by decide +kernel
theorem i41_3 : xI 41 3 = some (.ldc 62) := by decide +kernel
theorem i41_5 : xI 41 5 = some (.invokestatic 64) := by decide +kernel
theorem i41_8 : xI 41 8 = some (.ifCond .eq 6) := by decide +kernel
theorem i41_11 : xI 41 11 = some (.bipush 8) := by decide +kernel
theorem i41_13 : xI 41 13 = some (.ireturn) := by decide +kernel
theorem i41_14 : xI 41 14 = some (.aload_n 0) := by decide +kernel
theorem i41_15 : xI 41 15 = some (.iload_n 1) := by decide +kernel
theorem i41_16 : xI 41 16 = some (.iload_n 2) := by decide +kernel
theorem i41_17 : xI 41 17 = some (.ldc 68) := by decide +kernel
theorem i41_19 : xI 41 19 = some (.invokestatic 64) := by decide +kernel
theorem i41_22 : xI 41 22 = some (.ifCond .eq 5) := by decide +kernel
theorem i41_25 : xI 41 25 = some (.iconst 2) := by decide +kernel
theorem i41_26 : xI 41 26 = some (.ireturn) := by decide +kernel
theorem i41_27 : xI 41 27 = some (.aload_n 0) := by decide +kernel
theorem i41_28 : xI 41 28 = some (.iload_n 1) := by decide +kernel
theorem i41_29 : xI 41 29 = some (.iload_n 2) := by decide +kernel
theorem i41_30 : xI 41 30 = some (.ldc 70) := by decide +kernel
theorem i41_32 : xI 41 32 = some (.invokestatic 64) := by decide +kernel
theorem i41_35 : xI 41 35 = some (.ifCond .eq 5) := by decide +kernel
theorem i41_38 : xI 41 38 = some (.iconst 3) := by decide +kernel
theorem i41_39 : xI 41 39 = some (.ireturn) := by decide +kernel
theorem i41_40 : xI 41 40 = some (.aload_n 0) := by decide +kernel
theorem i41_41 : xI 41 41 = some (.iload_n 1) := by decide +kernel
theorem i41_42 : xI 41 42 = some (.iload_n 2) := by decide +kernel
theorem i41_43 : xI 41 43 = some (.ldc 72) := by decide +kernel
theorem i41_45 : xI 41 45 = some (.invokestatic 64) := by decide +kernel
theorem i41_48 : xI 41 48 = some (.ifCond .eq 5) := by decide +kernel
theorem i41_51 : xI 41 51 = some (.iconst 4) := by decide +kernel
theorem i41_52 : xI 41 52 = some (.ireturn) := by decide +kernel
theorem i41_53 : xI 41 53 = some (.aload_n 0) := by decide +kernel
theorem i41_54 : xI 41 54 = some (.iload_n 1) := by decide +kernel
theorem i41_55 : xI 41 55 = some (.iload_n 2) := by decide +kernel
theorem i41_56 : xI 41 56 = some (.ldc 74) := by decide +kernel
theorem i41_58 : xI 41 58 = some (.invokestatic 64) := by decide +kernel
theorem i41_61 : xI 41 61 = some (.ifCond .eq 5) := by decide +kernel
theorem i41_64 : xI 41 64 = some (.iconst 5) := by decide +kernel
theorem i41_65 : xI 41 65 = some (.ireturn) := by decide +kernel
theorem i41_66 : xI 41 66 = some (.aload_n 0) := by decide +kernel
theorem i41_67 : xI 41 67 = some (.iload_n 1) := by decide +kernel
theorem i41_68 : xI 41 68 = some (.iload_n 2) := by decide +kernel
theorem i41_69 : xI 41 69 = some (.ldc 76) := by decide +kernel
theorem i41_71 : xI 41 71 = some (.invokestatic 64) := by decide +kernel
theorem i41_74 : xI 41 74 = some (.ifCond .eq 6) := by decide +kernel
theorem i41_77 : xI 41 77 = some (.bipush 6) := by decide +kernel
theorem i41_79 : xI 41 79 = some (.ireturn) := by decide +kernel
theorem i41_80 : xI 41 80 = some (.aload_n 0) := by decide +kernel
theorem i41_81 : xI 41 81 = some (.iload_n 1) := by decide +kernel
theorem i41_82 : xI 41 82 = some (.iload_n 2) := by decide +kernel
theorem i41_83 : xI 41 83 = some (.ldc 78) := by decide +kernel
theorem i41_85 : xI 41 85 = some (.invokestatic 64) := by decide +kernel
theorem i41_88 : xI 41 88 = some (.ifCond .eq 6) := by decide +kernel
theorem i41_91 : xI 41 91 = some (.bipush 7) := by decide +kernel
theorem i41_93 : xI 41 93 = some (.ireturn) := by decide +kernel
theorem i41_94 : xI 41 94 = some (.iconst 1) := by decide +kernel
theorem i41_95 : xI 41 95 = some (.ireturn) := by decide +kernel
-- 42 To_spells
theorem i42_0 : xI 42 0 = some (.iload_n 2) := by decide +kernel
theorem i42_1 : xI 42 1 = some (.iload_n 1) := by decide +kernel
theorem i42_2 : xI 42 2 = some (.isub) := by decide +kernel
theorem i42_3 : xI 42 3 = some (.aload_n 3) := by decide +kernel
theorem i42_4 : xI 42 4 = some (.invokevirtual 80) := by decide +kernel
theorem i42_7 : xI 42 7 = some (.if_icmp .eq 5) := by decide +kernel
theorem i42_10 : xI 42 10 = some (.iconst 0) := by decide +kernel
theorem i42_11 : xI 42 11 = some (.ireturn) := by decide +kernel
theorem i42_12 : xI 42 12 = some (.iconst 0) := by decide +kernel
theorem i42_13 : xI 42 13 = some (.istore 4) := by decide +kernel
theorem i42_15 : xI 42 15 = some (.iload 4) := by decide +kernel
theorem i42_17 : xI 42 17 = some (.aload_n 3) := by decide +kernel
theorem i42_18 : xI 42 18 = some (.invokevirtual 80) := by decide +kernel
theorem i42_21 : xI 42 21 = some (.if_icmp .ge 29) := by decide +kernel
theorem i42_24 : xI 42 24 = some (.aload_n 0) := by decide +kernel
theorem i42_25 : xI 42 25 = some (.getfield 39) := by decide +kernel
theorem i42_28 : xI 42 28 = some (.iload_n 1) := by decide +kernel
theorem i42_29 : xI 42 29 = some (.iload 4) := by decide +kernel
theorem i42_31 : xI 42 31 = some (.iadd) := by decide +kernel
theorem i42_32 : xI 42 32 = some (.iaload) := by decide +kernel
theorem i42_33 : xI 42 33 = some (.aload_n 3) := by decide +kernel
theorem i42_34 : xI 42 34 = some (.iload 4) := by decide +kernel
theorem i42_36 : xI 42 36 = some (.invokevirtual 85) := by decide +kernel
theorem i42_39 : xI 42 39 = some (.if_icmp .eq 5) := by decide +kernel
theorem i42_42 : xI 42 42 = some (.iconst 0) := by decide +kernel
theorem i42_43 : xI 42 43 = some (.ireturn) := by decide +kernel
theorem i42_44 : xI 42 44 = some (.iinc 4 1) := by decide +kernel
theorem i42_47 : xI 42 47 = some (.goto (-32)) := by decide +kernel
theorem i42_50 : xI 42 50 = some (.iconst 1) := by decide +kernel
theorem i42_51 : xI 42 51 = some (.ireturn) := by decide +kernel
-- 43 To_scanNumber
theorem i43_0 : xI 43 0 = some (.lconst 0) := by decide +kernel
theorem i43_1 : xI 43 1 = some (.lstore_n 3) := by decide +kernel
theorem i43_2 : xI 43 2 = some (.iload_n 2) := by decide +kernel
theorem i43_3 : xI 43 3 = some (.istore 5) := by decide +kernel
theorem i43_5 : xI 43 5 = some (.iload 5) := by decide +kernel
theorem i43_7 : xI 43 7 = some (.aload_n 1) := by decide +kernel
theorem i43_8 : xI 43 8 = some (.getfield 34) := by decide +kernel
theorem i43_11 : xI 43 11 = some (.if_icmp .ge 59) := by decide +kernel
theorem i43_14 : xI 43 14 = some (.aload_n 1) := by decide +kernel
theorem i43_15 : xI 43 15 = some (.getfield 39) := by decide +kernel
theorem i43_18 : xI 43 18 = some (.iload 5) := by decide +kernel
theorem i43_20 : xI 43 20 = some (.iaload) := by decide +kernel
theorem i43_21 : xI 43 21 = some (.bipush 48) := by decide +kernel
theorem i43_23 : xI 43 23 = some (.if_icmp .lt 47) := by decide +kernel
theorem i43_26 : xI 43 26 = some (.aload_n 1) := by decide +kernel
theorem i43_27 : xI 43 27 = some (.getfield 39) := by decide +kernel
theorem i43_30 : xI 43 30 = some (.iload 5) := by decide +kernel
theorem i43_32 : xI 43 32 = some (.iaload) := by decide +kernel
theorem i43_33 : xI 43 33 = some (.bipush 57) := by decide +kernel
theorem i43_35 : xI 43 35 = some (.if_icmp .gt 35) := by decide +kernel
theorem i43_38 : xI 43 38 = some (.lload_n 3) := by decide +kernel
theorem i43_39 : xI 43 39 = some (.ldc2_w 58) := by decide +kernel
theorem i43_42 : xI 43 42 = some (.lcmp) := by decide +kernel
theorem i43_43 : xI 43 43 = some (.ifCond .gt 21) := by decide +kernel
theorem i43_46 : xI 43 46 = some (.lload_n 3) := by decide +kernel
theorem i43_47 : xI 43 47 = some (.ldc2_w 60) := by decide +kernel
theorem i43_50 : xI 43 50 = some (.lmul) := by decide +kernel
theorem i43_51 : xI 43 51 = some (.aload_n 1) := by decide +kernel
theorem i43_52 : xI 43 52 = some (.getfield 39) := by decide +kernel
theorem i43_55 : xI 43 55 = some (.iload 5) := by decide +kernel
theorem i43_57 : xI 43 57 = some (.iaload) := by decide +kernel
theorem i43_58 : xI 43 58 = some (.bipush 48) := by decide +kernel
theorem i43_60 : xI 43 60 = some (.isub) := by decide +kernel
theorem i43_61 : xI 43 61 = some (.i2l) := by decide +kernel
theorem i43_62 : xI 43 62 = some (.ladd) := by decide +kernel
theorem i43_63 : xI 43 63 = some (.lstore_n 3) := by decide +kernel
theorem i43_64 : xI 43 64 = some (.iinc 5 1) := by decide +kernel
theorem i43_67 : xI 43 67 = some (.goto (-62)) := by decide +kernel
theorem i43_70 : xI 43 70 = some (.lload_n 3) := by decide +kernel
theorem i43_71 : xI 43 71 = some (.ldc2_w 58) := by decide +kernel
theorem i43_74 : xI 43 74 = some (.lcmp) := by decide +kernel
theorem i43_75 : xI 43 75 = some (.ifCond .gt 7) := by decide +kernel
theorem i43_78 : xI 43 78 = some (.iconst 1) := by decide +kernel
theorem i43_79 : xI 43 79 = some (.goto 4) := by decide +kernel
theorem i43_82 : xI 43 82 = some (.iconst 0) := by decide +kernel
theorem i43_83 : xI 43 83 = some (.istore 6) := by decide +kernel
theorem i43_85 : xI 43 85 = some (.aload_n 0) := by decide +kernel
theorem i43_86 : xI 43 86 = some (.getfield 9) := by decide +kernel
theorem i43_89 : xI 43 89 = some (.aload_n 0) := by decide +kernel
theorem i43_90 : xI 43 90 = some (.getfield 21) := by decide +kernel
theorem i43_93 : xI 43 93 = some (.iload 6) := by decide +kernel
theorem i43_95 : xI 43 95 = some (.ifCond .eq 8) := by decide +kernel
theorem i43_98 : xI 43 98 = some (.bipush 9) := by decide +kernel
theorem i43_100 : xI 43 100 = some (.goto 4) := by decide +kernel
theorem i43_103 : xI 43 103 = some (.iconst 1) := by decide +kernel
theorem i43_104 : xI 43 104 = some (.iastore) := by decide +kernel
theorem i43_105 : xI 43 105 = some (.aload_n 0) := by decide +kernel
theorem i43_106 : xI 43 106 = some (.getfield 18) := by decide +kernel
theorem i43_109 : xI 43 109 = some (.aload_n 0) := by decide +kernel
theorem i43_110 : xI 43 110 = some (.getfield 21) := by decide +kernel
theorem i43_113 : xI 43 113 = some (.iload 6) := by decide +kernel
theorem i43_115 : xI 43 115 = some (.ifCond .eq 8) := by decide +kernel
theorem i43_118 : xI 43 118 = some (.lload_n 3) := by decide +kernel
theorem i43_119 : xI 43 119 = some (.l2i) := by decide +kernel
theorem i43_120 : xI 43 120 = some (.goto 4) := by decide +kernel
theorem i43_123 : xI 43 123 = some (.iconst 0) := by decide +kernel
theorem i43_124 : xI 43 124 = some (.iastore) := by decide +kernel
theorem i43_125 : xI 43 125 = some (.iload 5) := by decide +kernel
theorem i43_127 : xI 43 127 = some (.ireturn) := by decide +kernel
-- 44 To_kindOfSign
theorem i44_0 : xI 44 0 = some (.iload_n 0) := by decide +kernel
theorem i44_1 : xI 44 1 = some (.tableswitch 157 35 62 #[130, 157, 157, 157, 157, 151, 154, 145, 139, 148, 142, 157, 157, 157, 157, 157, 157, 157, 157, 157, 157, 157, 157, 157, 157, 133, 127, 136]) := by decide +kernel
theorem i44_128 : xI 44 128 = some (.bipush 10) := by decide +kernel
theorem i44_130 : xI 44 130 = some (.ireturn) := by decide +kernel
theorem i44_131 : xI 44 131 = some (.bipush 11) := by decide +kernel
theorem i44_133 : xI 44 133 = some (.ireturn) := by decide +kernel
theorem i44_134 : xI 44 134 = some (.bipush 12) := by decide +kernel
theorem i44_136 : xI 44 136 = some (.ireturn) := by decide +kernel
theorem i44_137 : xI 44 137 = some (.bipush 13) := by decide +kernel
theorem i44_139 : xI 44 139 = some (.ireturn) := by decide +kernel
theorem i44_140 : xI 44 140 = some (.bipush 14) := by decide +kernel
theorem i44_142 : xI 44 142 = some (.ireturn) := by decide +kernel
theorem i44_143 : xI 44 143 = some (.bipush 15) := by decide +kernel
theorem i44_145 : xI 44 145 = some (.ireturn) := by decide +kernel
theorem i44_146 : xI 44 146 = some (.bipush 16) := by decide +kernel
theorem i44_148 : xI 44 148 = some (.ireturn) := by decide +kernel
theorem i44_149 : xI 44 149 = some (.bipush 18) := by decide +kernel
theorem i44_151 : xI 44 151 = some (.ireturn) := by decide +kernel
theorem i44_152 : xI 44 152 = some (.bipush 19) := by decide +kernel
theorem i44_154 : xI 44 154 = some (.ireturn) := by decide +kernel
theorem i44_155 : xI 44 155 = some (.bipush 20) := by decide +kernel
theorem i44_157 : xI 44 157 = some (.ireturn) := by decide +kernel
theorem i44_158 : xI 44 158 = some (.iconst 1) := by decide +kernel
theorem i44_159 : xI 44 159 = some (.ireturn) := by decide +kernel
-- 45 Hi_init
theorem i45_0 : xI 45 0 = some (.aload_n 0) := by decide +kernel
theorem i45_1 : xI 45 1 = some (.invokespecial 3) := by decide +kernel
theorem i45_4 : xI 45 4 = some (.aload_n 0) := by decide +kernel
theorem i45_5 : xI 45 5 = some (.sipush 500) := by decide +kernel
theorem i45_8 : xI 45 8 = some (.anewarray 9) := by decide +kernel
theorem i45_11 : xI 45 11 = some (.putfield 11) := by decide +kernel
theorem i45_14 : xI 45 14 = some (.aload_n 0) := by decide +kernel
theorem i45_15 : xI 45 15 = some (.sipush 500) := by decide +kernel
theorem i45_18 : xI 45 18 = some (.newarray .int) := by decide +kernel
theorem i45_20 : xI 45 20 = some (.putfield 17) := by decide +kernel
theorem i45_23 : xI 45 23 = some (.aload_n 0) := by decide +kernel
theorem i45_24 : xI 45 24 = some (.iconst 0) := by decide +kernel
theorem i45_25 : xI 45 25 = some (.putfield 21) := by decide +kernel
theorem i45_28 : xI 45 28 = some (.aload_n 0) := by decide +kernel
theorem i45_29 : xI 45 29 = some (.iconst 0) := by decide +kernel
theorem i45_30 : xI 45 30 = some (.putfield 25) := by decide +kernel
theorem i45_33 : xI 45 33 = some (.return_) := by decide +kernel
-- 46 Hi_add
theorem i46_0 : xI 46 0 = some (.aload_n 0) := by decide +kernel
theorem i46_1 : xI 46 1 = some (.getfield 11) := by decide +kernel
theorem i46_4 : xI 46 4 = some (.aload_n 0) := by decide +kernel
theorem i46_5 : xI 46 5 = some (.getfield 21) := by decide +kernel
theorem i46_8 : xI 46 8 = some (.aload_n 1) := by decide +kernel
theorem i46_9 : xI 46 9 = some (.aastore) := by decide +kernel
theorem i46_10 : xI 46 10 = some (.aload_n 0) := by decide +kernel
theorem i46_11 : xI 46 11 = some (.dup) := by decide +kernel
theorem i46_12 : xI 46 12 = some (.getfield 21) := by decide +kernel
theorem i46_15 : xI 46 15 = some (.iconst 1) := by decide +kernel
theorem i46_16 : xI 46 16 = some (.iadd) := by decide +kernel
theorem i46_17 : xI 46 17 = some (.putfield 21) := by decide +kernel
theorem i46_20 : xI 46 20 = some (.aload_n 0) := by decide +kernel
theorem i46_21 : xI 46 21 = some (.getfield 21) := by decide +kernel
theorem i46_24 : xI 46 24 = some (.iconst 1) := by decide +kernel
theorem i46_25 : xI 46 25 = some (.isub) := by decide +kernel
theorem i46_26 : xI 46 26 = some (.ireturn) := by decide +kernel
-- 47 Hi_commitNext
theorem i47_0 : xI 47 0 = some (.aload_n 0) := by decide +kernel
theorem i47_1 : xI 47 1 = some (.getfield 17) := by decide +kernel
theorem i47_4 : xI 47 4 = some (.aload_n 0) := by decide +kernel
theorem i47_5 : xI 47 5 = some (.getfield 25) := by decide +kernel
theorem i47_8 : xI 47 8 = some (.iload_n 1) := by decide +kernel
theorem i47_9 : xI 47 9 = some (.iastore) := by decide +kernel
theorem i47_10 : xI 47 10 = some (.aload_n 0) := by decide +kernel
theorem i47_11 : xI 47 11 = some (.dup) := by decide +kernel
theorem i47_12 : xI 47 12 = some (.getfield 25) := by decide +kernel
theorem i47_15 : xI 47 15 = some (.iconst 1) := by decide +kernel
theorem i47_16 : xI 47 16 = some (.iadd) := by decide +kernel
theorem i47_17 : xI 47 17 = some (.putfield 25) := by decide +kernel
theorem i47_20 : xI 47 20 = some (.aload_n 0) := by decide +kernel
theorem i47_21 : xI 47 21 = some (.getfield 11) := by decide +kernel
theorem i47_24 : xI 47 24 = some (.iload_n 1) := by decide +kernel
theorem i47_25 : xI 47 25 = some (.aaload) := by decide +kernel
theorem i47_26 : xI 47 26 = some (.aload_n 0) := by decide +kernel
theorem i47_27 : xI 47 27 = some (.getfield 25) := by decide +kernel
theorem i47_30 : xI 47 30 = some (.putfield 28) := by decide +kernel
theorem i47_33 : xI 47 33 = some (.return_) := by decide +kernel
-- 48 Hi_has
theorem i48_0 : xI 48 0 = some (.iload_n 1) := by decide +kernel
theorem i48_1 : xI 48 1 = some (.ifCond .lt 15) := by decide +kernel
theorem i48_4 : xI 48 4 = some (.iload_n 1) := by decide +kernel
theorem i48_5 : xI 48 5 = some (.aload_n 0) := by decide +kernel
theorem i48_6 : xI 48 6 = some (.getfield 21) := by decide +kernel
theorem i48_9 : xI 48 9 = some (.if_icmp .ge 7) := by decide +kernel
theorem i48_12 : xI 48 12 = some (.iconst 1) := by decide +kernel
theorem i48_13 : xI 48 13 = some (.goto 4) := by decide +kernel
theorem i48_16 : xI 48 16 = some (.iconst 0) := by decide +kernel
theorem i48_17 : xI 48 17 = some (.ireturn) := by decide +kernel
-- 49 Ma_init
theorem i49_0 : xI 49 0 = some (.aload_n 0) := by decide +kernel
theorem i49_1 : xI 49 1 = some (.invokespecial 1) := by decide +kernel
theorem i49_4 : xI 49 4 = some (.aload_n 0) := by decide +kernel
theorem i49_5 : xI 49 5 = some (.bipush 16) := by decide +kernel
theorem i49_7 : xI 49 7 = some (.newarray .int) := by decide +kernel
theorem i49_9 : xI 49 9 = some (.putfield 9) := by decide +kernel
theorem i49_12 : xI 49 12 = some (.aload_n 0) := by decide +kernel
theorem i49_13 : xI 49 13 = some (.bipush 8) := by decide +kernel
theorem i49_15 : xI 49 15 = some (.newarray .int) := by decide +kernel
theorem i49_17 : xI 49 17 = some (.putfield 13) := by decide +kernel
theorem i49_20 : xI 49 20 = some (.aload_n 0) := by decide +kernel
theorem i49_21 : xI 49 21 = some (.bipush 8) := by decide +kernel
theorem i49_23 : xI 49 23 = some (.newarray .int) := by decide +kernel
theorem i49_25 : xI 49 25 = some (.putfield 16) := by decide +kernel
theorem i49_28 : xI 49 28 = some (.aload_n 0) := by decide +kernel
theorem i49_29 : xI 49 29 = some (.iconst 0) := by decide +kernel
theorem i49_30 : xI 49 30 = some (.putfield 19) := by decide +kernel
theorem i49_33 : xI 49 33 = some (.aload_n 0) := by decide +kernel
theorem i49_34 : xI 49 34 = some (.iconst 0) := by decide +kernel
theorem i49_35 : xI 49 35 = some (.putfield 23) := by decide +kernel
theorem i49_38 : xI 49 38 = some (.aload_n 0) := by decide +kernel
theorem i49_39 : xI 49 39 = some (.iconst 1) := by decide +kernel
theorem i49_40 : xI 49 40 = some (.putfield 26) := by decide +kernel
theorem i49_43 : xI 49 43 = some (.return_) := by decide +kernel
-- 50 Ma_perform
theorem i50_0 : xI 50 0 = some (.aload_n 1) := by decide +kernel
theorem i50_1 : xI 50 1 = some (.getfield 30) := by decide +kernel
theorem i50_4 : xI 50 4 = some (.astore_n 3) := by decide +kernel
theorem i50_5 : xI 50 5 = some (.aload_n 0) := by decide +kernel
theorem i50_6 : xI 50 6 = some (.invokevirtual 36) := by decide +kernel
theorem i50_9 : xI 50 9 = some (.iconst 0) := by decide +kernel
theorem i50_10 : xI 50 10 = some (.istore 4) := by decide +kernel
theorem i50_12 : xI 50 12 = some (.iload 4) := by decide +kernel
theorem i50_14 : xI 50 14 = some (.aload_n 3) := by decide +kernel
theorem i50_15 : xI 50 15 = some (.getfield 39) := by decide +kernel
theorem i50_18 : xI 50 18 = some (.arraylength) := by decide +kernel
theorem i50_19 : xI 50 19 = some (.if_icmp .ge 73) := by decide +kernel
theorem i50_22 : xI 50 22 = some (.aload_n 3) := by decide +kernel
theorem i50_23 : xI 50 23 = some (.getfield 39) := by decide +kernel
theorem i50_26 : xI 50 26 = some (.iload 4) := by decide +kernel
theorem i50_28 : xI 50 28 = some (.iaload) := by decide +kernel
theorem i50_29 : xI 50 29 = some (.istore 5) := by decide +kernel
theorem i50_31 : xI 50 31 = some (.iload 5) := by decide +kernel
theorem i50_33 : xI 50 33 = some (.iconst (-1)) := by decide +kernel
theorem i50_34 : xI 50 34 = some (.if_icmp .eq 28) := by decide +kernel
theorem i50_37 : xI 50 37 = some (.aload_n 0) := by decide +kernel
theorem i50_38 : xI 50 38 = some (.getfield 26) := by decide +kernel
theorem i50_41 : xI 50 41 = some (.ifCond .eq 45) := by decide +kernel
theorem i50_44 : xI 50 44 = some (.aload_n 0) := by decide +kernel
theorem i50_45 : xI 50 45 = some (.iload 5) := by decide +kernel
theorem i50_47 : xI 50 47 = some (.aload_n 3) := by decide +kernel
theorem i50_48 : xI 50 48 = some (.getfield 44) := by decide +kernel
theorem i50_51 : xI 50 51 = some (.iload 4) := by decide +kernel
theorem i50_53 : xI 50 53 = some (.iaload) := by decide +kernel
theorem i50_54 : xI 50 54 = some (.aload_n 1) := by decide +kernel
theorem i50_55 : xI 50 55 = some (.aload_n 2) := by decide +kernel
theorem i50_56 : xI 50 56 = some (.invokevirtual 47) := by decide +kernel
theorem i50_59 : xI 50 59 = some (.goto 27) := by decide +kernel
theorem i50_62 : xI 50 62 = some (.aload_n 0) := by decide +kernel
theorem i50_63 : xI 50 63 = some (.getfield 26) := by decide +kernel
theorem i50_66 : xI 50 66 = some (.ifCond .eq 16) := by decide +kernel
theorem i50_69 : xI 50 69 = some (.aload_n 0) := by decide +kernel
theorem i50_70 : xI 50 70 = some (.aload_n 2) := by decide +kernel
theorem i50_71 : xI 50 71 = some (.invokevirtual 51) := by decide +kernel
theorem i50_74 : xI 50 74 = some (.aload_n 3) := by decide +kernel
theorem i50_75 : xI 50 75 = some (.getfield 44) := by decide +kernel
theorem i50_78 : xI 50 78 = some (.iload 4) := by decide +kernel
theorem i50_80 : xI 50 80 = some (.iaload) := by decide +kernel
theorem i50_81 : xI 50 81 = some (.ireturn) := by decide +kernel
theorem i50_82 : xI 50 82 = some (.aload_n 0) := by decide +kernel
theorem i50_83 : xI 50 83 = some (.invokevirtual 36) := by decide +kernel
theorem i50_86 : xI 50 86 = some (.iinc 4 1) := by decide +kernel
theorem i50_89 : xI 50 89 = some (.goto (-77)) := by decide +kernel
theorem i50_92 : xI 50 92 = some (.iconst 0) := by decide +kernel
theorem i50_93 : xI 50 93 = some (.ireturn) := by decide +kernel
-- 51 Ma_beginRule
theorem i51_0 : xI 51 0 = some (.aload_n 0) := by decide +kernel
theorem i51_1 : xI 51 1 = some (.iconst 0) := by decide +kernel
theorem i51_2 : xI 51 2 = some (.putfield 19) := by decide +kernel
theorem i51_5 : xI 51 5 = some (.aload_n 0) := by decide +kernel
theorem i51_6 : xI 51 6 = some (.iconst 0) := by decide +kernel
theorem i51_7 : xI 51 7 = some (.putfield 23) := by decide +kernel
theorem i51_10 : xI 51 10 = some (.aload_n 0) := by decide +kernel
theorem i51_11 : xI 51 11 = some (.iconst 1) := by decide +kernel
theorem i51_12 : xI 51 12 = some (.putfield 26) := by decide +kernel
theorem i51_15 : xI 51 15 = some (.return_) := by decide +kernel
-- 52 Ma_doStep
theorem i52_0 : xI 52 0 = some (.iload_n 1) := by decide +kernel
theorem i52_1 : xI 52 1 = some (.tableswitch 112 6 17 #[82, 93, 71, 63, 112, 112, 112, 112, 112, 112, 112, 104]) := by decide +kernel
theorem i52_64 : xI 52 64 = some (.aload_n 0) := by decide +kernel
theorem i52_65 : xI 52 65 = some (.iload_n 2) := by decide +kernel
theorem i52_66 : xI 52 66 = some (.invokevirtual 55) := by decide +kernel
theorem i52_69 : xI 52 69 = some (.goto 49) := by decide +kernel
theorem i52_72 : xI 52 72 = some (.aload_n 0) := by decide +kernel
theorem i52_73 : xI 52 73 = some (.aload 4) := by decide +kernel
theorem i52_75 : xI 52 75 = some (.iload_n 2) := by decide +kernel
theorem i52_76 : xI 52 76 = some (.iaload) := by decide +kernel
theorem i52_77 : xI 52 77 = some (.invokevirtual 55) := by decide +kernel
theorem i52_80 : xI 52 80 = some (.goto 38) := by decide +kernel
theorem i52_83 : xI 52 83 = some (.aload_n 0) := by decide +kernel
theorem i52_84 : xI 52 84 = some (.aload_n 3) := by decide +kernel
theorem i52_85 : xI 52 85 = some (.getfield 59) := by decide +kernel
theorem i52_88 : xI 52 88 = some (.invokevirtual 55) := by decide +kernel
theorem i52_91 : xI 52 91 = some (.goto 27) := by decide +kernel
theorem i52_94 : xI 52 94 = some (.aload_n 0) := by decide +kernel
theorem i52_95 : xI 52 95 = some (.aload_n 3) := by decide +kernel
theorem i52_96 : xI 52 96 = some (.getfield 62) := by decide +kernel
theorem i52_99 : xI 52 99 = some (.invokevirtual 55) := by decide +kernel
theorem i52_102 : xI 52 102 = some (.goto 16) := by decide +kernel
theorem i52_105 : xI 52 105 = some (.aload_n 0) := by decide +kernel
theorem i52_106 : xI 52 106 = some (.iload_n 2) := by decide +kernel
theorem i52_107 : xI 52 107 = some (.invokevirtual 65) := by decide +kernel
theorem i52_110 : xI 52 110 = some (.goto 8) := by decide +kernel
theorem i52_113 : xI 52 113 = some (.aload_n 0) := by decide +kernel
theorem i52_114 : xI 52 114 = some (.iload_n 1) := by decide +kernel
theorem i52_115 : xI 52 115 = some (.invokevirtual 68) := by decide +kernel
theorem i52_118 : xI 52 118 = some (.return_) := by decide +kernel
-- 53 Ma_push
theorem i53_0 : xI 53 0 = some (.aload_n 0) := by decide +kernel
theorem i53_1 : xI 53 1 = some (.getfield 19) := by decide +kernel
theorem i53_4 : xI 53 4 = some (.bipush 16) := by decide +kernel
theorem i53_6 : xI 53 6 = some (.if_icmp .ge 23) := by decide +kernel
theorem i53_9 : xI 53 9 = some (.aload_n 0) := by decide +kernel
theorem i53_10 : xI 53 10 = some (.getfield 9) := by decide +kernel
theorem i53_13 : xI 53 13 = some (.aload_n 0) := by decide +kernel
theorem i53_14 : xI 53 14 = some (.getfield 19) := by decide +kernel
theorem i53_17 : xI 53 17 = some (.iload_n 1) := by decide +kernel
theorem i53_18 : xI 53 18 = some (.iastore) := by decide +kernel
theorem i53_19 : xI 53 19 = some (.aload_n 0) := by decide +kernel
theorem i53_20 : xI 53 20 = some (.dup) := by decide +kernel
theorem i53_21 : xI 53 21 = some (.getfield 19) := by decide +kernel
theorem i53_24 : xI 53 24 = some (.iconst 1) := by decide +kernel
theorem i53_25 : xI 53 25 = some (.iadd) := by decide +kernel
theorem i53_26 : xI 53 26 = some (.putfield 19) := by decide +kernel
theorem i53_29 : xI 53 29 = some (.return_) := by decide +kernel
-- 54 Ma_keepEffect
theorem i54_0 : xI 54 0 = some (.aload_n 0) := by decide +kernel
theorem i54_1 : xI 54 1 = some (.invokevirtual 71) := by decide +kernel
theorem i54_4 : xI 54 4 = some (.istore_n 2) := by decide +kernel
theorem i54_5 : xI 54 5 = some (.aload_n 0) := by decide +kernel
theorem i54_6 : xI 54 6 = some (.getfield 23) := by decide +kernel
theorem i54_9 : xI 54 9 = some (.bipush 8) := by decide +kernel
theorem i54_11 : xI 54 11 = some (.if_icmp .ge 33) := by decide +kernel
theorem i54_14 : xI 54 14 = some (.aload_n 0) := by decide +kernel
theorem i54_15 : xI 54 15 = some (.getfield 13) := by decide +kernel
theorem i54_18 : xI 54 18 = some (.aload_n 0) := by decide +kernel
theorem i54_19 : xI 54 19 = some (.getfield 23) := by decide +kernel
theorem i54_22 : xI 54 22 = some (.iload_n 1) := by decide +kernel
theorem i54_23 : xI 54 23 = some (.iastore) := by decide +kernel
theorem i54_24 : xI 54 24 = some (.aload_n 0) := by decide +kernel
theorem i54_25 : xI 54 25 = some (.getfield 16) := by decide +kernel
theorem i54_28 : xI 54 28 = some (.aload_n 0) := by decide +kernel
theorem i54_29 : xI 54 29 = some (.getfield 23) := by decide +kernel
theorem i54_32 : xI 54 32 = some (.iload_n 2) := by decide +kernel
theorem i54_33 : xI 54 33 = some (.iastore) := by decide +kernel
theorem i54_34 : xI 54 34 = some (.aload_n 0) := by decide +kernel
theorem i54_35 : xI 54 35 = some (.dup) := by decide +kernel
theorem i54_36 : xI 54 36 = some (.getfield 23) := by decide +kernel
theorem i54_39 : xI 54 39 = some (.iconst 1) := by decide +kernel
theorem i54_40 : xI 54 40 = some (.iadd) := by decide +kernel
theorem i54_41 : xI 54 41 = some (.putfield 23) := by decide +kernel
theorem i54_44 : xI 54 44 = some (.return_) := by decide +kernel
-- 55 Ma_pop
theorem i55_0 : xI 55 0 = some (.aload_n 0) := by decide +kernel
theorem i55_1 : xI 55 1 = some (.getfield 19) := by decide +kernel
theorem i55_4 : xI 55 4 = some (.ifCond .ne 5) := by decide +kernel
theorem i55_7 : xI 55 7 = some (.iconst 0) := by decide +kernel
theorem i55_8 : xI 55 8 = some (.ireturn) := by decide +kernel
theorem i55_9 : xI 55 9 = some (.aload_n 0) := by decide +kernel
theorem i55_10 : xI 55 10 = some (.dup) := by decide +kernel
theorem i55_11 : xI 55 11 = some (.getfield 19) := by decide +kernel
theorem i55_14 : xI 55 14 = some (.iconst 1) := by decide +kernel
theorem i55_15 : xI 55 15 = some (.isub) := by decide +kernel
theorem i55_16 : xI 55 16 = some (.putfield 19) := by decide +kernel
theorem i55_19 : xI 55 19 = some (.aload_n 0) := by decide +kernel
theorem i55_20 : xI 55 20 = some (.getfield 9) := by decide +kernel
theorem i55_23 : xI 55 23 = some (.aload_n 0) := by decide +kernel
theorem i55_24 : xI 55 24 = some (.getfield 19) := by decide +kernel
theorem i55_27 : xI 55 27 = some (.iaload) := by decide +kernel
theorem i55_28 : xI 55 28 = some (.ireturn) := by decide +kernel
-- 56 Ma_combine
theorem i56_0 : xI 56 0 = some (.aload_n 0) := by decide +kernel
theorem i56_1 : xI 56 1 = some (.invokevirtual 71) := by decide +kernel
theorem i56_4 : xI 56 4 = some (.istore_n 2) := by decide +kernel
theorem i56_5 : xI 56 5 = some (.aload_n 0) := by decide +kernel
theorem i56_6 : xI 56 6 = some (.invokevirtual 71) := by decide +kernel
theorem i56_9 : xI 56 9 = some (.istore_n 3) := by decide +kernel
theorem i56_10 : xI 56 10 = some (.iload_n 1) := by decide +kernel
theorem i56_11 : xI 56 11 = some (.tableswitch 122 10 16 #[71, 88, 105, 122, 41, 51, 61]) := by decide +kernel
theorem i56_52 : xI 56 52 = some (.aload_n 0) := by decide +kernel
theorem i56_53 : xI 56 53 = some (.iload_n 3) := by decide +kernel
theorem i56_54 : xI 56 54 = some (.iload_n 2) := by decide +kernel
theorem i56_55 : xI 56 55 = some (.iadd) := by decide +kernel
theorem i56_56 : xI 56 56 = some (.invokevirtual 55) := by decide +kernel
theorem i56_59 : xI 56 59 = some (.goto 88) := by decide +kernel
theorem i56_62 : xI 56 62 = some (.aload_n 0) := by decide +kernel
theorem i56_63 : xI 56 63 = some (.iload_n 3) := by decide +kernel
theorem i56_64 : xI 56 64 = some (.iload_n 2) := by decide +kernel
theorem i56_65 : xI 56 65 = some (.isub) := by decide +kernel
theorem i56_66 : xI 56 66 = some (.invokevirtual 55) := by decide +kernel
theorem i56_69 : xI 56 69 = some (.goto 78) := by decide +kernel
theorem i56_72 : xI 56 72 = some (.aload_n 0) := by decide +kernel
theorem i56_73 : xI 56 73 = some (.iload_n 3) := by decide +kernel
theorem i56_74 : xI 56 74 = some (.iload_n 2) := by decide +kernel
theorem i56_75 : xI 56 75 = some (.imul) := by decide +kernel
theorem i56_76 : xI 56 76 = some (.invokevirtual 55) := by decide +kernel
theorem i56_79 : xI 56 79 = some (.goto 68) := by decide +kernel
theorem i56_82 : xI 56 82 = some (.aload_n 0) := by decide +kernel
theorem i56_83 : xI 56 83 = some (.iload_n 3) := by decide +kernel
theorem i56_84 : xI 56 84 = some (.iload_n 2) := by decide +kernel
theorem i56_85 : xI 56 85 = some (.if_icmp .ne 7) := by decide +kernel
theorem i56_88 : xI 56 88 = some (.iconst 1) := by decide +kernel
theorem i56_89 : xI 56 89 = some (.goto 4) := by decide +kernel
theorem i56_92 : xI 56 92 = some (.iconst 0) := by decide +kernel
theorem i56_93 : xI 56 93 = some (.putfield 26) := by decide +kernel
theorem i56_96 : xI 56 96 = some (.goto 51) := by decide +kernel
theorem i56_99 : xI 56 99 = some (.aload_n 0) := by decide +kernel
theorem i56_100 : xI 56 100 = some (.iload_n 3) := by decide +kernel
theorem i56_101 : xI 56 101 = some (.iload_n 2) := by decide +kernel
theorem i56_102 : xI 56 102 = some (.if_icmp .eq 7) := by decide +kernel
theorem i56_105 : xI 56 105 = some (.iconst 1) := by decide +kernel
theorem i56_106 : xI 56 106 = some (.goto 4) := by decide +kernel
theorem i56_109 : xI 56 109 = some (.iconst 0) := by decide +kernel
theorem i56_110 : xI 56 110 = some (.putfield 26) := by decide +kernel
theorem i56_113 : xI 56 113 = some (.goto 34) := by decide +kernel
theorem i56_116 : xI 56 116 = some (.aload_n 0) := by decide +kernel
theorem i56_117 : xI 56 117 = some (.iload_n 3) := by decide +kernel
theorem i56_118 : xI 56 118 = some (.iload_n 2) := by decide +kernel
theorem i56_119 : xI 56 119 = some (.if_icmp .ge 7) := by decide +kernel
theorem i56_122 : xI 56 122 = some (.iconst 1) := by decide +kernel
theorem i56_123 : xI 56 123 = some (.goto 4) := by decide +kernel
theorem i56_126 : xI 56 126 = some (.iconst 0) := by decide +kernel
theorem i56_127 : xI 56 127 = some (.putfield 26) := by decide +kernel
theorem i56_130 : xI 56 130 = some (.goto 17) := by decide +kernel
theorem i56_133 : xI 56 133 = some (.aload_n 0) := by decide +kernel
theorem i56_134 : xI 56 134 = some (.iload_n 3) := by decide +kernel
theorem i56_135 : xI 56 135 = some (.iload_n 2) := by decide +kernel
theorem i56_136 : xI 56 136 = some (.if_icmp .le 7) := by decide +kernel
theorem i56_139 : xI 56 139 = some (.iconst 1) := by decide +kernel
theorem i56_140 : xI 56 140 = some (.goto 4) := by decide +kernel
theorem i56_143 : xI 56 143 = some (.iconst 0) := by decide +kernel
theorem i56_144 : xI 56 144 = some (.putfield 26) := by decide +kernel
theorem i56_147 : xI 56 147 = some (.return_) := by decide +kernel
-- 57 Ma_changeCells
theorem i57_0 : xI 57 0 = some (.iconst 0) := by decide +kernel
theorem i57_1 : xI 57 1 = some (.istore_n 2) := by decide +kernel
theorem i57_2 : xI 57 2 = some (.iload_n 2) := by decide +kernel
theorem i57_3 : xI 57 3 = some (.aload_n 0) := by decide +kernel
theorem i57_4 : xI 57 4 = some (.getfield 23) := by decide +kernel
theorem i57_7 : xI 57 7 = some (.if_icmp .ge 23) := by decide +kernel
theorem i57_10 : xI 57 10 = some (.aload_n 1) := by decide +kernel
theorem i57_11 : xI 57 11 = some (.aload_n 0) := by decide +kernel
theorem i57_12 : xI 57 12 = some (.getfield 13) := by decide +kernel
theorem i57_15 : xI 57 15 = some (.iload_n 2) := by decide +kernel
theorem i57_16 : xI 57 16 = some (.iaload) := by decide +kernel
theorem i57_17 : xI 57 17 = some (.aload_n 0) := by decide +kernel
theorem i57_18 : xI 57 18 = some (.getfield 16) := by decide +kernel
theorem i57_21 : xI 57 21 = some (.iload_n 2) := by decide +kernel
theorem i57_22 : xI 57 22 = some (.iaload) := by decide +kernel
theorem i57_23 : xI 57 23 = some (.iastore) := by decide +kernel
theorem i57_24 : xI 57 24 = some (.iinc 2 1) := by decide +kernel
theorem i57_27 : xI 57 27 = some (.goto (-25)) := by decide +kernel
theorem i57_30 : xI 57 30 = some (.return_) := by decide +kernel
-- 58 Sv_init
theorem i58_0 : xI 58 0 = some (.aload_n 0) := by decide +kernel
theorem i58_1 : xI 58 1 = some (.invokespecial 3) := by decide +kernel
theorem i58_4 : xI 58 4 = some (.aload_n 0) := by decide +kernel
theorem i58_5 : xI 58 5 = some (.iconst 5) := by decide +kernel
theorem i58_6 : xI 58 6 = some (.newarray .int) := by decide +kernel
theorem i58_8 : xI 58 8 = some (.putfield 9) := by decide +kernel
theorem i58_11 : xI 58 11 = some (.aload_n 0) := by decide +kernel
