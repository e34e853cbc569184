/-! ===== which instruction stands where (wip/gen/lay16.py) ===== -/
theorem i58_12 : xI 58 12 = some (.sipush 500) := by decide +kernel
theorem i58_15 : xI 58 15 = some (.newarray .boolean) := by decide +kernel
theorem i58_17 : xI 58 17 = some (.putfield 15) := by decide +kernel
theorem i58_20 : xI 58 20 = some (.aload_n 0) := by decide +kernel
theorem i58_21 : xI 58 21 = some (.sipush 500) := by decide +kernel
theorem i58_24 : xI 58 24 = some (.newarray .int) := by decide +kernel
theorem i58_26 : xI 58 26 = some (.putfield 19) := by decide +kernel
theorem i58_29 : xI 58 29 = some (.aload_n 0) := by decide +kernel
theorem i58_30 : xI 58 30 = some (.bipush 32) := by decide +kernel
theorem i58_32 : xI 58 32 = some (.newarray .int) := by decide +kernel
theorem i58_34 : xI 58 34 = some (.putfield 22) := by decide +kernel
theorem i58_37 : xI 58 37 = some (.aload_n 0) := by decide +kernel
theorem i58_38 : xI 58 38 = some (.bipush 32) := by decide +kernel
theorem i58_40 : xI 58 40 = some (.newarray .int) := by decide +kernel
theorem i58_42 : xI 58 42 = some (.putfield 25) := by decide +kernel
theorem i58_45 : xI 58 45 = some (.aload_n 0) := by decide +kernel
theorem i58_46 : xI 58 46 = some (.sipush 500) := by decide +kernel
theorem i58_49 : xI 58 49 = some (.newarray .int) := by decide +kernel
theorem i58_51 : xI 58 51 = some (.putfield 28) := by decide +kernel
theorem i58_54 : xI 58 54 = some (.aload_n 0) := by decide +kernel
theorem i58_55 : xI 58 55 = some (.iconst 0) := by decide +kernel
theorem i58_56 : xI 58 56 = some (.putfield 31) := by decide +kernel
theorem i58_59 : xI 58 59 = some (.aload_n 0) := by decide +kernel
theorem i58_60 : xI 58 60 = some (.iconst 0) := by decide +kernel
theorem i58_61 : xI 58 61 = some (.putfield 35) := by decide +kernel
theorem i58_64 : xI 58 64 = some (.aload_n 0) := by decide +kernel
theorem i58_65 : xI 58 65 = some (.iconst 0) := by decide +kernel
theorem i58_66 : xI 58 66 = some (.putfield 38) := by decide +kernel
theorem i58_69 : xI 58 69 = some (.aload_n 0) := by decide +kernel
theorem i58_70 : xI 58 70 = some (.iconst 0) := by decide +kernel
theorem i58_71 : xI 58 71 = some (.putfield 41) := by decide +kernel
theorem i58_74 : xI 58 74 = some (.aload_n 0) := by decide +kernel
theorem i58_75 : xI 58 75 = some (.iconst 0) := by decide +kernel
theorem i58_76 : xI 58 76 = some (.putfield 44) := by decide +kernel
theorem i58_79 : xI 58 79 = some (.aload_n 0) := by decide +kernel
theorem i58_80 : xI 58 80 = some (.aload_n 1) := by decide +kernel
theorem i58_81 : xI 58 81 = some (.putfield 47) := by decide +kernel
theorem i58_84 : xI 58 84 = some (.aload_n 0) := by decide +kernel
theorem i58_85 : xI 58 85 = some (.aload_n 2) := by decide +kernel
theorem i58_86 : xI 58 86 = some (.putfield 51) := by decide +kernel
theorem i58_89 : xI 58 89 = some (.return_) := by decide +kernel
-- 59 Sv_learn
theorem i59_0 : xI 59 0 = some (.aload_n 0) := by decide +kernel
theorem i59_1 : xI 59 1 = some (.getfield 47) := by decide +kernel
theorem i59_4 : xI 59 4 = some (.getfield 55) := by decide +kernel
theorem i59_7 : xI 59 7 = some (.iload_n 1) := by decide +kernel
theorem i59_8 : xI 59 8 = some (.aaload) := by decide +kernel
theorem i59_9 : xI 59 9 = some (.astore_n 2) := by decide +kernel
theorem i59_10 : xI 59 10 = some (.aload_n 0) := by decide +kernel
theorem i59_11 : xI 59 11 = some (.getfield 15) := by decide +kernel
theorem i59_14 : xI 59 14 = some (.iload_n 1) := by decide +kernel
theorem i59_15 : xI 59 15 = some (.iconst 1) := by decide +kernel
theorem i59_16 : xI 59 16 = some (.bastore) := by decide +kernel
theorem i59_17 : xI 59 17 = some (.aload_n 0) := by decide +kernel
theorem i59_18 : xI 59 18 = some (.aload_n 0) := by decide +kernel
theorem i59_19 : xI 59 19 = some (.getfield 31) := by decide +kernel
theorem i59_22 : xI 59 22 = some (.aload_n 2) := by decide +kernel
theorem i59_23 : xI 59 23 = some (.getfield 61) := by decide +kernel
theorem i59_26 : xI 59 26 = some (.invokestatic 66) := by decide +kernel
theorem i59_29 : xI 59 29 = some (.putfield 31) := by decide +kernel
theorem i59_32 : xI 59 32 = some (.aload_n 0) := by decide +kernel
theorem i59_33 : xI 59 33 = some (.getfield 9) := by decide +kernel
theorem i59_36 : xI 59 36 = some (.aload_n 2) := by decide +kernel
theorem i59_37 : xI 59 37 = some (.getfield 72) := by decide +kernel
theorem i59_40 : xI 59 40 = some (.aload_n 0) := by decide +kernel
theorem i59_41 : xI 59 41 = some (.getfield 9) := by decide +kernel
theorem i59_44 : xI 59 44 = some (.aload_n 2) := by decide +kernel
theorem i59_45 : xI 59 45 = some (.getfield 72) := by decide +kernel
theorem i59_48 : xI 59 48 = some (.iaload) := by decide +kernel
theorem i59_49 : xI 59 49 = some (.aload_n 2) := by decide +kernel
theorem i59_50 : xI 59 50 = some (.getfield 61) := by decide +kernel
theorem i59_53 : xI 59 53 = some (.invokestatic 66) := by decide +kernel
theorem i59_56 : xI 59 56 = some (.iastore) := by decide +kernel
theorem i59_57 : xI 59 57 = some (.aload_n 0) := by decide +kernel
theorem i59_58 : xI 59 58 = some (.getfield 41) := by decide +kernel
theorem i59_61 : xI 59 61 = some (.istore_n 3) := by decide +kernel
theorem i59_62 : xI 59 62 = some (.iload_n 3) := by decide +kernel
theorem i59_63 : xI 59 63 = some (.ifCond .le 46) := by decide +kernel
theorem i59_66 : xI 59 66 = some (.aload_n 2) := by decide +kernel
theorem i59_67 : xI 59 67 = some (.aload_n 0) := by decide +kernel
theorem i59_68 : xI 59 68 = some (.getfield 47) := by decide +kernel
theorem i59_71 : xI 59 71 = some (.getfield 55) := by decide +kernel
theorem i59_74 : xI 59 74 = some (.aload_n 0) := by decide +kernel
theorem i59_75 : xI 59 75 = some (.getfield 19) := by decide +kernel
theorem i59_78 : xI 59 78 = some (.iload_n 3) := by decide +kernel
theorem i59_79 : xI 59 79 = some (.iconst 1) := by decide +kernel
theorem i59_80 : xI 59 80 = some (.isub) := by decide +kernel
theorem i59_81 : xI 59 81 = some (.iaload) := by decide +kernel
theorem i59_82 : xI 59 82 = some (.aaload) := by decide +kernel
theorem i59_83 : xI 59 83 = some (.invokevirtual 75) := by decide +kernel
theorem i59_86 : xI 59 86 = some (.ifCond .eq 23) := by decide +kernel
theorem i59_89 : xI 59 89 = some (.aload_n 0) := by decide +kernel
theorem i59_90 : xI 59 90 = some (.getfield 19) := by decide +kernel
theorem i59_93 : xI 59 93 = some (.iload_n 3) := by decide +kernel
theorem i59_94 : xI 59 94 = some (.aload_n 0) := by decide +kernel
theorem i59_95 : xI 59 95 = some (.getfield 19) := by decide +kernel
theorem i59_98 : xI 59 98 = some (.iload_n 3) := by decide +kernel
theorem i59_99 : xI 59 99 = some (.iconst 1) := by decide +kernel
theorem i59_100 : xI 59 100 = some (.isub) := by decide +kernel
theorem i59_101 : xI 59 101 = some (.iaload) := by decide +kernel
theorem i59_102 : xI 59 102 = some (.iastore) := by decide +kernel
theorem i59_103 : xI 59 103 = some (.iinc 3 (-1)) := by decide +kernel
theorem i59_106 : xI 59 106 = some (.goto (-44)) := by decide +kernel
theorem i59_109 : xI 59 109 = some (.aload_n 0) := by decide +kernel
theorem i59_110 : xI 59 110 = some (.getfield 19) := by decide +kernel
theorem i59_113 : xI 59 113 = some (.iload_n 3) := by decide +kernel
theorem i59_114 : xI 59 114 = some (.iload_n 1) := by decide +kernel
theorem i59_115 : xI 59 115 = some (.iastore) := by decide +kernel
theorem i59_116 : xI 59 116 = some (.aload_n 0) := by decide +kernel
theorem i59_117 : xI 59 117 = some (.dup) := by decide +kernel
theorem i59_118 : xI 59 118 = some (.getfield 41) := by decide +kernel
theorem i59_121 : xI 59 121 = some (.iconst 1) := by decide +kernel
theorem i59_122 : xI 59 122 = some (.iadd) := by decide +kernel
theorem i59_123 : xI 59 123 = some (.putfield 41) := by decide +kernel
theorem i59_126 : xI 59 126 = some (.iload_n 3) := by decide +kernel
theorem i59_127 : xI 59 127 = some (.aload_n 0) := by decide +kernel
theorem i59_128 : xI 59 128 = some (.getfield 44) := by decide +kernel
theorem i59_131 : xI 59 131 = some (.if_icmp .ge 8) := by decide +kernel
theorem i59_134 : xI 59 134 = some (.aload_n 0) := by decide +kernel
theorem i59_135 : xI 59 135 = some (.iconst 0) := by decide +kernel
theorem i59_136 : xI 59 136 = some (.putfield 44) := by decide +kernel
theorem i59_139 : xI 59 139 = some (.return_) := by decide +kernel
-- 60 Sv_valueOf
theorem i60_0 : xI 60 0 = some (.iload_n 2) := by decide +kernel
theorem i60_1 : xI 60 1 = some (.ifCond .eq 10) := by decide +kernel
theorem i60_4 : xI 60 4 = some (.aload_n 0) := by decide +kernel
theorem i60_5 : xI 60 5 = some (.getfield 22) := by decide +kernel
theorem i60_8 : xI 60 8 = some (.iload_n 1) := by decide +kernel
theorem i60_9 : xI 60 9 = some (.iaload) := by decide +kernel
theorem i60_10 : xI 60 10 = some (.ireturn) := by decide +kernel
theorem i60_11 : xI 60 11 = some (.aload_n 0) := by decide +kernel
theorem i60_12 : xI 60 12 = some (.invokevirtual 101) := by decide +kernel
theorem i60_15 : xI 60 15 = some (.aload_n 0) := by decide +kernel
theorem i60_16 : xI 60 16 = some (.getfield 25) := by decide +kernel
theorem i60_19 : xI 60 19 = some (.iload_n 1) := by decide +kernel
theorem i60_20 : xI 60 20 = some (.iaload) := by decide +kernel
theorem i60_21 : xI 60 21 = some (.ireturn) := by decide +kernel
-- 61 Sv_catchUp
theorem i61_0 : xI 61 0 = some (.aload_n 0) := by decide +kernel
theorem i61_1 : xI 61 1 = some (.getfield 44) := by decide +kernel
theorem i61_4 : xI 61 4 = some (.ifCond .ne 18) := by decide +kernel
theorem i61_7 : xI 61 7 = some (.aload_n 0) := by decide +kernel
theorem i61_8 : xI 61 8 = some (.getfield 22) := by decide +kernel
theorem i61_11 : xI 61 11 = some (.iconst 0) := by decide +kernel
theorem i61_12 : xI 61 12 = some (.aload_n 0) := by decide +kernel
theorem i61_13 : xI 61 13 = some (.getfield 25) := by decide +kernel
theorem i61_16 : xI 61 16 = some (.iconst 0) := by decide +kernel
theorem i61_17 : xI 61 17 = some (.bipush 32) := by decide +kernel
theorem i61_19 : xI 61 19 = some (.invokestatic 104) := by decide +kernel
theorem i61_22 : xI 61 22 = some (.aload_n 0) := by decide +kernel
theorem i61_23 : xI 61 23 = some (.getfield 44) := by decide +kernel
theorem i61_26 : xI 61 26 = some (.istore_n 1) := by decide +kernel
theorem i61_27 : xI 61 27 = some (.iload_n 1) := by decide +kernel
theorem i61_28 : xI 61 28 = some (.aload_n 0) := by decide +kernel
theorem i61_29 : xI 61 29 = some (.getfield 41) := by decide +kernel
theorem i61_32 : xI 61 32 = some (.if_icmp .ge 42) := by decide +kernel
theorem i61_35 : xI 61 35 = some (.aload_n 0) := by decide +kernel
theorem i61_36 : xI 61 36 = some (.getfield 19) := by decide +kernel
theorem i61_39 : xI 61 39 = some (.iload_n 1) := by decide +kernel
theorem i61_40 : xI 61 40 = some (.iaload) := by decide +kernel
theorem i61_41 : xI 61 41 = some (.istore_n 2) := by decide +kernel
theorem i61_42 : xI 61 42 = some (.aload_n 0) := by decide +kernel
theorem i61_43 : xI 61 43 = some (.getfield 28) := by decide +kernel
theorem i61_46 : xI 61 46 = some (.iload_n 2) := by decide +kernel
theorem i61_47 : xI 61 47 = some (.aload_n 0) := by decide +kernel
theorem i61_48 : xI 61 48 = some (.getfield 51) := by decide +kernel
theorem i61_51 : xI 61 51 = some (.aload_n 0) := by decide +kernel
theorem i61_52 : xI 61 52 = some (.getfield 47) := by decide +kernel
theorem i61_55 : xI 61 55 = some (.getfield 55) := by decide +kernel
theorem i61_58 : xI 61 58 = some (.iload_n 2) := by decide +kernel
theorem i61_59 : xI 61 59 = some (.aaload) := by decide +kernel
theorem i61_60 : xI 61 60 = some (.aload_n 0) := by decide +kernel
theorem i61_61 : xI 61 61 = some (.getfield 25) := by decide +kernel
theorem i61_64 : xI 61 64 = some (.invokevirtual 89) := by decide +kernel
theorem i61_67 : xI 61 67 = some (.iastore) := by decide +kernel
theorem i61_68 : xI 61 68 = some (.iinc 1 1) := by decide +kernel
theorem i61_71 : xI 61 71 = some (.goto (-44)) := by decide +kernel
theorem i61_74 : xI 61 74 = some (.aload_n 0) := by decide +kernel
theorem i61_75 : xI 61 75 = some (.aload_n 0) := by decide +kernel
theorem i61_76 : xI 61 76 = some (.getfield 41) := by decide +kernel
theorem i61_79 : xI 61 79 = some (.putfield 44) := by decide +kernel
theorem i61_82 : xI 61 82 = some (.return_) := by decide +kernel
-- 62 Sv_learnNextCommit
theorem i62_0 : xI 62 0 = some (.aload_n 0) := by decide +kernel
theorem i62_1 : xI 62 1 = some (.getfield 47) := by decide +kernel
theorem i62_4 : xI 62 4 = some (.getfield 79) := by decide +kernel
theorem i62_7 : xI 62 7 = some (.aload_n 0) := by decide +kernel
theorem i62_8 : xI 62 8 = some (.getfield 35) := by decide +kernel
theorem i62_11 : xI 62 11 = some (.iaload) := by decide +kernel
theorem i62_12 : xI 62 12 = some (.istore_n 1) := by decide +kernel
theorem i62_13 : xI 62 13 = some (.aload_n 0) := by decide +kernel
theorem i62_14 : xI 62 14 = some (.getfield 15) := by decide +kernel
theorem i62_17 : xI 62 17 = some (.iload_n 1) := by decide +kernel
theorem i62_18 : xI 62 18 = some (.baload) := by decide +kernel
theorem i62_19 : xI 62 19 = some (.ifCond .ne 8) := by decide +kernel
theorem i62_22 : xI 62 22 = some (.aload_n 0) := by decide +kernel
theorem i62_23 : xI 62 23 = some (.iload_n 1) := by decide +kernel
theorem i62_24 : xI 62 24 = some (.invokevirtual 82) := by decide +kernel
theorem i62_27 : xI 62 27 = some (.aload_n 0) := by decide +kernel
theorem i62_28 : xI 62 28 = some (.iload_n 1) := by decide +kernel
theorem i62_29 : xI 62 29 = some (.invokevirtual 86) := by decide +kernel
theorem i62_32 : xI 62 32 = some (.aload_n 0) := by decide +kernel
theorem i62_33 : xI 62 33 = some (.dup) := by decide +kernel
theorem i62_34 : xI 62 34 = some (.getfield 35) := by decide +kernel
theorem i62_37 : xI 62 37 = some (.iconst 1) := by decide +kernel
theorem i62_38 : xI 62 38 = some (.iadd) := by decide +kernel
theorem i62_39 : xI 62 39 = some (.putfield 35) := by decide +kernel
theorem i62_42 : xI 62 42 = some (.aload_n 0) := by decide +kernel
theorem i62_43 : xI 62 43 = some (.getfield 28) := by decide +kernel
theorem i62_46 : xI 62 46 = some (.iload_n 1) := by decide +kernel
theorem i62_47 : xI 62 47 = some (.aload_n 0) := by decide +kernel
theorem i62_48 : xI 62 48 = some (.getfield 51) := by decide +kernel
theorem i62_51 : xI 62 51 = some (.aload_n 0) := by decide +kernel
theorem i62_52 : xI 62 52 = some (.getfield 47) := by decide +kernel
theorem i62_55 : xI 62 55 = some (.getfield 55) := by decide +kernel
theorem i62_58 : xI 62 58 = some (.iload_n 1) := by decide +kernel
theorem i62_59 : xI 62 59 = some (.aaload) := by decide +kernel
theorem i62_60 : xI 62 60 = some (.aload_n 0) := by decide +kernel
theorem i62_61 : xI 62 61 = some (.getfield 22) := by decide +kernel
theorem i62_64 : xI 62 64 = some (.invokevirtual 89) := by decide +kernel
theorem i62_67 : xI 62 67 = some (.iastore) := by decide +kernel
theorem i62_68 : xI 62 68 = some (.aload_n 0) := by decide +kernel
theorem i62_69 : xI 62 69 = some (.iconst 0) := by decide +kernel
theorem i62_70 : xI 62 70 = some (.putfield 44) := by decide +kernel
theorem i62_73 : xI 62 73 = some (.return_) := by decide +kernel
-- 63 Sv_removeTentative
theorem i63_0 : xI 63 0 = some (.iconst 0) := by decide +kernel
theorem i63_1 : xI 63 1 = some (.istore_n 2) := by decide +kernel
theorem i63_2 : xI 63 2 = some (.iload_n 2) := by decide +kernel
theorem i63_3 : xI 63 3 = some (.aload_n 0) := by decide +kernel
theorem i63_4 : xI 63 4 = some (.getfield 41) := by decide +kernel
theorem i63_7 : xI 63 7 = some (.if_icmp .ge 19) := by decide +kernel
theorem i63_10 : xI 63 10 = some (.aload_n 0) := by decide +kernel
theorem i63_11 : xI 63 11 = some (.getfield 19) := by decide +kernel
theorem i63_14 : xI 63 14 = some (.iload_n 2) := by decide +kernel
theorem i63_15 : xI 63 15 = some (.iaload) := by decide +kernel
theorem i63_16 : xI 63 16 = some (.iload_n 1) := by decide +kernel
theorem i63_17 : xI 63 17 = some (.if_icmp .eq 9) := by decide +kernel
theorem i63_20 : xI 63 20 = some (.iinc 2 1) := by decide +kernel
theorem i63_23 : xI 63 23 = some (.goto (-21)) := by decide +kernel
theorem i63_26 : xI 63 26 = some (.iload_n 2) := by decide +kernel
theorem i63_27 : xI 63 27 = some (.aload_n 0) := by decide +kernel
theorem i63_28 : xI 63 28 = some (.getfield 41) := by decide +kernel
theorem i63_31 : xI 63 31 = some (.if_icmp .ge 34) := by decide +kernel
theorem i63_34 : xI 63 34 = some (.aload_n 0) := by decide +kernel
theorem i63_35 : xI 63 35 = some (.dup) := by decide +kernel
theorem i63_36 : xI 63 36 = some (.getfield 41) := by decide +kernel
theorem i63_39 : xI 63 39 = some (.iconst 1) := by decide +kernel
theorem i63_40 : xI 63 40 = some (.isub) := by decide +kernel
theorem i63_41 : xI 63 41 = some (.putfield 41) := by decide +kernel
theorem i63_44 : xI 63 44 = some (.aload_n 0) := by decide +kernel
theorem i63_45 : xI 63 45 = some (.getfield 19) := by decide +kernel
theorem i63_48 : xI 63 48 = some (.iload_n 2) := by decide +kernel
theorem i63_49 : xI 63 49 = some (.iconst 1) := by decide +kernel
theorem i63_50 : xI 63 50 = some (.iadd) := by decide +kernel
theorem i63_51 : xI 63 51 = some (.aload_n 0) := by decide +kernel
theorem i63_52 : xI 63 52 = some (.getfield 19) := by decide +kernel
theorem i63_55 : xI 63 55 = some (.iload_n 2) := by decide +kernel
theorem i63_56 : xI 63 56 = some (.aload_n 0) := by decide +kernel
theorem i63_57 : xI 63 57 = some (.getfield 41) := by decide +kernel
theorem i63_60 : xI 63 60 = some (.iload_n 2) := by decide +kernel
theorem i63_61 : xI 63 61 = some (.isub) := by decide +kernel
theorem i63_62 : xI 63 62 = some (.invokestatic 104) := by decide +kernel
theorem i63_65 : xI 63 65 = some (.return_) := by decide +kernel
-- 64 Sv_learnForgotten
theorem i64_0 : xI 64 0 = some (.aload_n 0) := by decide +kernel
theorem i64_1 : xI 64 1 = some (.getfield 35) := by decide +kernel
theorem i64_4 : xI 64 4 = some (.istore_n 2) := by decide +kernel
theorem i64_5 : xI 64 5 = some (.iload_n 2) := by decide +kernel
theorem i64_6 : xI 64 6 = some (.iload_n 1) := by decide +kernel
theorem i64_7 : xI 64 7 = some (.if_icmp .ge 13) := by decide +kernel
theorem i64_10 : xI 64 10 = some (.aload_n 0) := by decide +kernel
theorem i64_11 : xI 64 11 = some (.invokevirtual 95) := by decide +kernel
theorem i64_14 : xI 64 14 = some (.iinc 2 1) := by decide +kernel
theorem i64_17 : xI 64 17 = some (.goto (-12)) := by decide +kernel
theorem i64_20 : xI 64 20 = some (.aload_n 0) := by decide +kernel
theorem i64_21 : xI 64 21 = some (.iload_n 1) := by decide +kernel
theorem i64_22 : xI 64 22 = some (.putfield 38) := by decide +kernel
theorem i64_25 : xI 64 25 = some (.return_) := by decide +kernel
-- 65 Sv_learnCommits
theorem i65_0 : xI 65 0 = some (.iconst 0) := by decide +kernel
theorem i65_1 : xI 65 1 = some (.iload_n 2) := by decide +kernel
theorem i65_2 : xI 65 2 = some (.aload_n 1) := by decide +kernel
theorem i65_3 : xI 65 3 = some (.getfield 35) := by decide +kernel
theorem i65_6 : xI 65 6 = some (.aload_n 0) := by decide +kernel
theorem i65_7 : xI 65 7 = some (.getfield 35) := by decide +kernel
theorem i65_10 : xI 65 10 = some (.isub) := by decide +kernel
theorem i65_11 : xI 65 11 = some (.invokestatic 98) := by decide +kernel
theorem i65_14 : xI 65 14 = some (.invokestatic 66) := by decide +kernel
theorem i65_17 : xI 65 17 = some (.istore_n 3) := by decide +kernel
theorem i65_18 : xI 65 18 = some (.iconst 0) := by decide +kernel
theorem i65_19 : xI 65 19 = some (.istore 4) := by decide +kernel
theorem i65_21 : xI 65 21 = some (.iload 4) := by decide +kernel
theorem i65_23 : xI 65 23 = some (.iload_n 3) := by decide +kernel
theorem i65_24 : xI 65 24 = some (.if_icmp .ge 13) := by decide +kernel
theorem i65_27 : xI 65 27 = some (.aload_n 0) := by decide +kernel
theorem i65_28 : xI 65 28 = some (.invokevirtual 95) := by decide +kernel
theorem i65_31 : xI 65 31 = some (.iinc 4 1) := by decide +kernel
theorem i65_34 : xI 65 34 = some (.goto (-13)) := by decide +kernel
theorem i65_37 : xI 65 37 = some (.iload_n 3) := by decide +kernel
theorem i65_38 : xI 65 38 = some (.ireturn) := by decide +kernel
-- 66 Sv_learnTentative
theorem i66_0 : xI 66 0 = some (.iconst 0) := by decide +kernel
theorem i66_1 : xI 66 1 = some (.istore_n 3) := by decide +kernel
theorem i66_2 : xI 66 2 = some (.iconst 0) := by decide +kernel
theorem i66_3 : xI 66 3 = some (.istore 4) := by decide +kernel
theorem i66_5 : xI 66 5 = some (.iload 4) := by decide +kernel
theorem i66_7 : xI 66 7 = some (.aload_n 1) := by decide +kernel
theorem i66_8 : xI 66 8 = some (.getfield 41) := by decide +kernel
theorem i66_11 : xI 66 11 = some (.if_icmp .ge 43) := by decide +kernel
theorem i66_14 : xI 66 14 = some (.iload_n 3) := by decide +kernel
theorem i66_15 : xI 66 15 = some (.iload_n 2) := by decide +kernel
theorem i66_16 : xI 66 16 = some (.if_icmp .ge 38) := by decide +kernel
theorem i66_19 : xI 66 19 = some (.aload_n 0) := by decide +kernel
theorem i66_20 : xI 66 20 = some (.getfield 15) := by decide +kernel
theorem i66_23 : xI 66 23 = some (.aload_n 1) := by decide +kernel
theorem i66_24 : xI 66 24 = some (.getfield 19) := by decide +kernel
theorem i66_27 : xI 66 27 = some (.iload 4) := by decide +kernel
theorem i66_29 : xI 66 29 = some (.iaload) := by decide +kernel
theorem i66_30 : xI 66 30 = some (.baload) := by decide +kernel
theorem i66_31 : xI 66 31 = some (.ifCond .ne 17) := by decide +kernel
theorem i66_34 : xI 66 34 = some (.aload_n 0) := by decide +kernel
theorem i66_35 : xI 66 35 = some (.aload_n 1) := by decide +kernel
theorem i66_36 : xI 66 36 = some (.getfield 19) := by decide +kernel
theorem i66_39 : xI 66 39 = some (.iload 4) := by decide +kernel
theorem i66_41 : xI 66 41 = some (.iaload) := by decide +kernel
theorem i66_42 : xI 66 42 = some (.invokevirtual 82) := by decide +kernel
theorem i66_45 : xI 66 45 = some (.iinc 3 1) := by decide +kernel
theorem i66_48 : xI 66 48 = some (.iinc 4 1) := by decide +kernel
theorem i66_51 : xI 66 51 = some (.goto (-46)) := by decide +kernel
theorem i66_54 : xI 66 54 = some (.iload_n 3) := by decide +kernel
theorem i66_55 : xI 66 55 = some (.ireturn) := by decide +kernel
-- 67 Sv_writeAt
theorem i67_0 : xI 67 0 = some (.iload_n 1) := by decide +kernel
theorem i67_1 : xI 67 1 = some (.ifCond .lt 16) := by decide +kernel
theorem i67_4 : xI 67 4 = some (.iload_n 1) := by decide +kernel
theorem i67_5 : xI 67 5 = some (.aload_n 0) := by decide +kernel
theorem i67_6 : xI 67 6 = some (.getfield 35) := by decide +kernel
theorem i67_9 : xI 67 9 = some (.aload_n 0) := by decide +kernel
theorem i67_10 : xI 67 10 = some (.getfield 41) := by decide +kernel
theorem i67_13 : xI 67 13 = some (.iadd) := by decide +kernel
theorem i67_14 : xI 67 14 = some (.if_icmp .lt 6) := by decide +kernel
theorem i67_17 : xI 67 17 = some (.bipush (-2)) := by decide +kernel
theorem i67_19 : xI 67 19 = some (.ireturn) := by decide +kernel
theorem i67_20 : xI 67 20 = some (.iload_n 1) := by decide +kernel
theorem i67_21 : xI 67 21 = some (.aload_n 0) := by decide +kernel
theorem i67_22 : xI 67 22 = some (.getfield 35) := by decide +kernel
theorem i67_25 : xI 67 25 = some (.if_icmp .ge 15) := by decide +kernel
theorem i67_28 : xI 67 28 = some (.aload_n 0) := by decide +kernel
theorem i67_29 : xI 67 29 = some (.getfield 47) := by decide +kernel
theorem i67_32 : xI 67 32 = some (.getfield 79) := by decide +kernel
theorem i67_35 : xI 67 35 = some (.iload_n 1) := by decide +kernel
theorem i67_36 : xI 67 36 = some (.iaload) := by decide +kernel
theorem i67_37 : xI 67 37 = some (.goto 14) := by decide +kernel
theorem i67_40 : xI 67 40 = some (.aload_n 0) := by decide +kernel
theorem i67_41 : xI 67 41 = some (.getfield 19) := by decide +kernel
theorem i67_44 : xI 67 44 = some (.iload_n 1) := by decide +kernel
theorem i67_45 : xI 67 45 = some (.aload_n 0) := by decide +kernel
theorem i67_46 : xI 67 46 = some (.getfield 35) := by decide +kernel
theorem i67_49 : xI 67 49 = some (.isub) := by decide +kernel
theorem i67_50 : xI 67 50 = some (.iaload) := by decide +kernel
theorem i67_51 : xI 67 51 = some (.ireturn) := by decide +kernel
-- 68 Sv_outcomeOf
theorem i68_0 : xI 68 0 = some (.aload_n 0) := by decide +kernel
theorem i68_1 : xI 68 1 = some (.getfield 15) := by decide +kernel
theorem i68_4 : xI 68 4 = some (.iload_n 1) := by decide +kernel
theorem i68_5 : xI 68 5 = some (.baload) := by decide +kernel
theorem i68_6 : xI 68 6 = some (.ifCond .ne 6) := by decide +kernel
theorem i68_9 : xI 68 9 = some (.bipush (-2)) := by decide +kernel
theorem i68_11 : xI 68 11 = some (.ireturn) := by decide +kernel
theorem i68_12 : xI 68 12 = some (.aload_n 0) := by decide +kernel
theorem i68_13 : xI 68 13 = some (.invokevirtual 101) := by decide +kernel
theorem i68_16 : xI 68 16 = some (.aload_n 0) := by decide +kernel
theorem i68_17 : xI 68 17 = some (.getfield 28) := by decide +kernel
theorem i68_20 : xI 68 20 = some (.iload_n 1) := by decide +kernel
theorem i68_21 : xI 68 21 = some (.iaload) := by decide +kernel
theorem i68_22 : xI 68 22 = some (.ireturn) := by decide +kernel
-- 69 Se_init
theorem i69_0 : xI 69 0 = some (.aload_n 0) := by decide +kernel
theorem i69_1 : xI 69 1 = some (.invokespecial 3) := by decide +kernel
theorem i69_4 : xI 69 4 = some (.aload_n 0) := by decide +kernel
theorem i69_5 : xI 69 5 = some (.iconst 5) := by decide +kernel
theorem i69_6 : xI 69 6 = some (.newarray .int) := by decide +kernel
theorem i69_8 : xI 69 8 = some (.putfield 9) := by decide +kernel
theorem i69_11 : xI 69 11 = some (.aload_n 0) := by decide +kernel
theorem i69_12 : xI 69 12 = some (.iconst 5) := by decide +kernel
theorem i69_13 : xI 69 13 = some (.newarray .int) := by decide +kernel
theorem i69_15 : xI 69 15 = some (.putfield 15) := by decide +kernel
theorem i69_18 : xI 69 18 = some (.aload_n 0) := by decide +kernel
theorem i69_19 : xI 69 19 = some (.iconst 0) := by decide +kernel
theorem i69_20 : xI 69 20 = some (.putfield 18) := by decide +kernel
theorem i69_23 : xI 69 23 = some (.return_) := by decide +kernel
-- 70 Se_mayWriteAt
theorem i70_0 : xI 70 0 = some (.aload_n 0) := by decide +kernel
theorem i70_1 : xI 70 1 = some (.iconst 4) := by decide +kernel
theorem i70_2 : xI 70 2 = some (.invokevirtual 22) := by decide +kernel
theorem i70_5 : xI 70 5 = some (.ifCond .eq 17) := by decide +kernel
theorem i70_8 : xI 70 8 = some (.aload_n 1) := by decide +kernel
theorem i70_9 : xI 70 9 = some (.getfield 26) := by decide +kernel
theorem i70_12 : xI 70 12 = some (.aload_n 0) := by decide +kernel
theorem i70_13 : xI 70 13 = some (.getfield 9) := by decide +kernel
theorem i70_16 : xI 70 16 = some (.invokestatic 31) := by decide +kernel
theorem i70_19 : xI 70 19 = some (.ifCond .eq 30) := by decide +kernel
theorem i70_22 : xI 70 22 = some (.aload_n 0) := by decide +kernel
theorem i70_23 : xI 70 23 = some (.bipush 8) := by decide +kernel
theorem i70_25 : xI 70 25 = some (.invokevirtual 22) := by decide +kernel
theorem i70_28 : xI 70 28 = some (.ifCond .eq 17) := by decide +kernel
theorem i70_31 : xI 70 31 = some (.aload_n 1) := by decide +kernel
theorem i70_32 : xI 70 32 = some (.getfield 26) := by decide +kernel
theorem i70_35 : xI 70 35 = some (.aload_n 0) := by decide +kernel
theorem i70_36 : xI 70 36 = some (.getfield 15) := by decide +kernel
theorem i70_39 : xI 70 39 = some (.invokestatic 31) := by decide +kernel
theorem i70_42 : xI 70 42 = some (.ifCond .eq 7) := by decide +kernel
theorem i70_45 : xI 70 45 = some (.iconst 1) := by decide +kernel
theorem i70_46 : xI 70 46 = some (.goto 4) := by decide +kernel
theorem i70_49 : xI 70 49 = some (.iconst 0) := by decide +kernel
theorem i70_50 : xI 70 50 = some (.ireturn) := by decide +kernel
-- 71 Se_assures
theorem i71_0 : xI 71 0 = some (.aload_n 0) := by decide +kernel
theorem i71_1 : xI 71 1 = some (.getfield 18) := by decide +kernel
theorem i71_4 : xI 71 4 = some (.iload_n 1) := by decide +kernel
theorem i71_5 : xI 71 5 = some (.iand) := by decide +kernel
theorem i71_6 : xI 71 6 = some (.ifCond .eq 7) := by decide +kernel
theorem i71_9 : xI 71 9 = some (.iconst 1) := by decide +kernel
theorem i71_10 : xI 71 10 = some (.goto 4) := by decide +kernel
theorem i71_13 : xI 71 13 = some (.iconst 0) := by decide +kernel
theorem i71_14 : xI 71 14 = some (.ireturn) := by decide +kernel
-- 72 Se_isAtLeast
theorem i72_0 : xI 72 0 = some (.iconst 0) := by decide +kernel
theorem i72_1 : xI 72 1 = some (.istore_n 2) := by decide +kernel
theorem i72_2 : xI 72 2 = some (.iload_n 2) := by decide +kernel
theorem i72_3 : xI 72 3 = some (.iconst 5) := by decide +kernel
theorem i72_4 : xI 72 4 = some (.if_icmp .ge 20) := by decide +kernel
theorem i72_7 : xI 72 7 = some (.aload_n 0) := by decide +kernel
theorem i72_8 : xI 72 8 = some (.iload_n 2) := by decide +kernel
theorem i72_9 : xI 72 9 = some (.iaload) := by decide +kernel
theorem i72_10 : xI 72 10 = some (.aload_n 1) := by decide +kernel
theorem i72_11 : xI 72 11 = some (.iload_n 2) := by decide +kernel
theorem i72_12 : xI 72 12 = some (.iaload) := by decide +kernel
theorem i72_13 : xI 72 13 = some (.if_icmp .ge 5) := by decide +kernel
theorem i72_16 : xI 72 16 = some (.iconst 0) := by decide +kernel
theorem i72_17 : xI 72 17 = some (.ireturn) := by decide +kernel
theorem i72_18 : xI 72 18 = some (.iinc 2 1) := by decide +kernel
theorem i72_21 : xI 72 21 = some (.goto (-19)) := by decide +kernel
theorem i72_24 : xI 72 24 = some (.iconst 1) := by decide +kernel
theorem i72_25 : xI 72 25 = some (.ireturn) := by decide +kernel
-- 73 Se_mayReadAt
theorem i73_0 : xI 73 0 = some (.aload_n 0) := by decide +kernel
theorem i73_1 : xI 73 1 = some (.iconst 1) := by decide +kernel
theorem i73_2 : xI 73 2 = some (.invokevirtual 22) := by decide +kernel
theorem i73_5 : xI 73 5 = some (.ifCond .eq 17) := by decide +kernel
theorem i73_8 : xI 73 8 = some (.aload_n 1) := by decide +kernel
theorem i73_9 : xI 73 9 = some (.getfield 26) := by decide +kernel
theorem i73_12 : xI 73 12 = some (.aload_n 0) := by decide +kernel
theorem i73_13 : xI 73 13 = some (.getfield 15) := by decide +kernel
theorem i73_16 : xI 73 16 = some (.invokestatic 31) := by decide +kernel
theorem i73_19 : xI 73 19 = some (.ifCond .eq 29) := by decide +kernel
theorem i73_22 : xI 73 22 = some (.aload_n 0) := by decide +kernel
theorem i73_23 : xI 73 23 = some (.iconst 2) := by decide +kernel
theorem i73_24 : xI 73 24 = some (.invokevirtual 22) := by decide +kernel
theorem i73_27 : xI 73 27 = some (.ifCond .eq 17) := by decide +kernel
theorem i73_30 : xI 73 30 = some (.aload_n 1) := by decide +kernel
theorem i73_31 : xI 73 31 = some (.getfield 26) := by decide +kernel
theorem i73_34 : xI 73 34 = some (.aload_n 0) := by decide +kernel
theorem i73_35 : xI 73 35 = some (.getfield 9) := by decide +kernel
theorem i73_38 : xI 73 38 = some (.invokestatic 31) := by decide +kernel
theorem i73_41 : xI 73 41 = some (.ifCond .eq 7) := by decide +kernel
theorem i73_44 : xI 73 44 = some (.iconst 1) := by decide +kernel
theorem i73_45 : xI 73 45 = some (.goto 4) := by decide +kernel
theorem i73_48 : xI 73 48 = some (.iconst 0) := by decide +kernel
theorem i73_49 : xI 73 49 = some (.ireturn) := by decide +kernel
-- 74 Se_hasReadAt
theorem i74_0 : xI 74 0 = some (.iconst 0) := by decide +kernel
theorem i74_1 : xI 74 1 = some (.istore_n 2) := by decide +kernel
theorem i74_2 : xI 74 2 = some (.iload_n 2) := by decide +kernel
theorem i74_3 : xI 74 3 = some (.iconst 5) := by decide +kernel
theorem i74_4 : xI 74 4 = some (.if_icmp .ge 30) := by decide +kernel
theorem i74_7 : xI 74 7 = some (.aload_n 0) := by decide +kernel
theorem i74_8 : xI 74 8 = some (.getfield 9) := by decide +kernel
theorem i74_11 : xI 74 11 = some (.iload_n 2) := by decide +kernel
theorem i74_12 : xI 74 12 = some (.aload_n 0) := by decide +kernel
theorem i74_13 : xI 74 13 = some (.getfield 9) := by decide +kernel
theorem i74_16 : xI 74 16 = some (.iload_n 2) := by decide +kernel
theorem i74_17 : xI 74 17 = some (.iaload) := by decide +kernel
theorem i74_18 : xI 74 18 = some (.aload_n 1) := by decide +kernel
theorem i74_19 : xI 74 19 = some (.getfield 26) := by decide +kernel
theorem i74_22 : xI 74 22 = some (.iload_n 2) := by decide +kernel
theorem i74_23 : xI 74 23 = some (.iaload) := by decide +kernel
theorem i74_24 : xI 74 24 = some (.invokestatic 35) := by decide +kernel
theorem i74_27 : xI 74 27 = some (.iastore) := by decide +kernel
theorem i74_28 : xI 74 28 = some (.iinc 2 1) := by decide +kernel
theorem i74_31 : xI 74 31 = some (.goto (-29)) := by decide +kernel
theorem i74_34 : xI 74 34 = some (.return_) := by decide +kernel
-- 75 Se_clearVectors
theorem i75_0 : xI 75 0 = some (.aload_n 0) := by decide +kernel
theorem i75_1 : xI 75 1 = some (.getfield 9) := by decide +kernel
theorem i75_4 : xI 75 4 = some (.iconst 0) := by decide +kernel
theorem i75_5 : xI 75 5 = some (.invokestatic 41) := by decide +kernel
theorem i75_8 : xI 75 8 = some (.aload_n 0) := by decide +kernel
theorem i75_9 : xI 75 9 = some (.getfield 15) := by decide +kernel
theorem i75_12 : xI 75 12 = some (.iconst 0) := by decide +kernel
theorem i75_13 : xI 75 13 = some (.invokestatic 41) := by decide +kernel
theorem i75_16 : xI 75 16 = some (.return_) := by decide +kernel
-- 76 Pr_init
theorem i76_0 : xI 76 0 = some (.aload_n 0) := by decide +kernel
theorem i76_1 : xI 76 1 = some (.invokespecial 1) := by decide +kernel
theorem i76_4 : xI 76 4 = some (.aload_n 0) := by decide +kernel
theorem i76_5 : xI 76 5 = some (.aload_n 1) := by decide +kernel
theorem i76_6 : xI 76 6 = some (.putfield 7) := by decide +kernel
theorem i76_9 : xI 76 9 = some (.aload_n 0) := by decide +kernel
theorem i76_10 : xI 76 10 = some (.aload_n 2) := by decide +kernel
theorem i76_11 : xI 76 11 = some (.putfield 13) := by decide +kernel
theorem i76_14 : xI 76 14 = some (.return_) := by decide +kernel
-- 77 Wr_init
theorem i77_0 : xI 77 0 = some (.aload_n 0) := by decide +kernel
theorem i77_1 : xI 77 1 = some (.invokespecial 1) := by decide +kernel
theorem i77_4 : xI 77 4 = some (.aload_n 0) := by decide +kernel
theorem i77_5 : xI 77 5 = some (.iconst 0) := by decide +kernel
theorem i77_6 : xI 77 6 = some (.putfield 7) := by decide +kernel
theorem i77_9 : xI 77 9 = some (.aload_n 0) := by decide +kernel
theorem i77_10 : xI 77 10 = some (.iload_n 1) := by decide +kernel
theorem i77_11 : xI 77 11 = some (.putfield 13) := by decide +kernel
theorem i77_14 : xI 77 14 = some (.aload_n 0) := by decide +kernel
theorem i77_15 : xI 77 15 = some (.iload_n 2) := by decide +kernel
theorem i77_16 : xI 77 16 = some (.putfield 16) := by decide +kernel
theorem i77_19 : xI 77 19 = some (.aload_n 0) := by decide +kernel
theorem i77_20 : xI 77 20 = some (.aload_n 3) := by decide +kernel
theorem i77_21 : xI 77 21 = some (.putfield 19) := by decide +kernel
theorem i77_24 : xI 77 24 = some (.return_) := by decide +kernel
-- 78 Wr_comesBefore
theorem i78_0 : xI 78 0 = some (.aload_n 0) := by decide +kernel
theorem i78_1 : xI 78 1 = some (.getfield 16) := by decide +kernel
theorem i78_4 : xI 78 4 = some (.aload_n 1) := by decide +kernel
theorem i78_5 : xI 78 5 = some (.getfield 16) := by decide +kernel
theorem i78_8 : xI 78 8 = some (.if_icmp .lt 25) := by decide +kernel
theorem i78_11 : xI 78 11 = some (.aload_n 0) := by decide +kernel
theorem i78_12 : xI 78 12 = some (.getfield 16) := by decide +kernel
theorem i78_15 : xI 78 15 = some (.aload_n 1) := by decide +kernel
theorem i78_16 : xI 78 16 = some (.getfield 16) := by decide +kernel
theorem i78_19 : xI 78 19 = some (.if_icmp .ne 18) := by decide +kernel
theorem i78_22 : xI 78 22 = some (.aload_n 0) := by decide +kernel
theorem i78_23 : xI 78 23 = some (.getfield 13) := by decide +kernel
theorem i78_26 : xI 78 26 = some (.aload_n 1) := by decide +kernel
theorem i78_27 : xI 78 27 = some (.getfield 13) := by decide +kernel
theorem i78_30 : xI 78 30 = some (.if_icmp .ge 7) := by decide +kernel
theorem i78_33 : xI 78 33 = some (.iconst 1) := by decide +kernel
theorem i78_34 : xI 78 34 = some (.goto 4) := by decide +kernel
theorem i78_37 : xI 78 37 = some (.iconst 0) := by decide +kernel
theorem i78_38 : xI 78 38 = some (.ireturn) := by decide +kernel
-- 79 M_init
theorem i79_0 : xI 79 0 = some (.aload_n 0) := by decide +kernel
theorem i79_1 : xI 79 1 = some (.invokespecial 1) := by decide +kernel
theorem i79_4 : xI 79 4 = some (.aload_n 0) := by decide +kernel
theorem i79_5 : xI 79 5 = some (.sipush 400) := by decide +kernel
theorem i79_8 : xI 79 8 = some (.newarray .byte) := by decide +kernel
theorem i79_10 : xI 79 10 = some (.putfield 9) := by decide +kernel
theorem i79_13 : xI 79 13 = some (.aload_n 0) := by decide +kernel
theorem i79_14 : xI 79 14 = some (.sipush 500) := by decide +kernel
theorem i79_17 : xI 79 17 = some (.newarray .int) := by decide +kernel
theorem i79_19 : xI 79 19 = some (.putfield 13) := by decide +kernel
theorem i79_22 : xI 79 22 = some (.aload_n 0) := by decide +kernel
theorem i79_23 : xI 79 23 = some (.sipush 500) := by decide +kernel
theorem i79_26 : xI 79 26 = some (.newarray .int) := by decide +kernel
theorem i79_28 : xI 79 28 = some (.putfield 17) := by decide +kernel
theorem i79_31 : xI 79 31 = some (.aload_n 0) := by decide +kernel
theorem i79_32 : xI 79 32 = some (.sipush 500) := by decide +kernel
theorem i79_35 : xI 79 35 = some (.newarray .int) := by decide +kernel
theorem i79_37 : xI 79 37 = some (.putfield 20) := by decide +kernel
theorem i79_40 : xI 79 40 = some (.aload_n 0) := by decide +kernel
theorem i79_41 : xI 79 41 = some (.sipush 501) := by decide +kernel
theorem i79_44 : xI 79 44 = some (.newarray .int) := by decide +kernel
theorem i79_46 : xI 79 46 = some (.putfield 23) := by decide +kernel
theorem i79_49 : xI 79 49 = some (.aload_n 0) := by decide +kernel
theorem i79_50 : xI 79 50 = some (.sipush 500) := by decide +kernel
theorem i79_53 : xI 79 53 = some (.anewarray 26) := by decide +kernel
theorem i79_56 : xI 79 56 = some (.putfield 27) := by decide +kernel
theorem i79_59 : xI 79 59 = some (.aload_n 0) := by decide +kernel
theorem i79_60 : xI 79 60 = some (.iconst 5) := by decide +kernel
theorem i79_61 : xI 79 61 = some (.sipush 500) := by decide +kernel
theorem i79_64 : xI 79 64 = some (.multianewarray 31 2) := by decide +kernel
theorem i79_68 : xI 79 68 = some (.putfield 33) := by decide +kernel
theorem i79_71 : xI 79 71 = some (.aload_n 0) := by decide +kernel
theorem i79_72 : xI 79 72 = some (.iconst 5) := by decide +kernel
theorem i79_73 : xI 79 73 = some (.newarray .int) := by decide +kernel
theorem i79_75 : xI 79 75 = some (.putfield 36) := by decide +kernel
theorem i79_78 : xI 79 78 = some (.aload_n 0) := by decide +kernel
theorem i79_79 : xI 79 79 = some (.iconst 5) := by decide +kernel
theorem i79_80 : xI 79 80 = some (.newarray .int) := by decide +kernel
theorem i79_82 : xI 79 82 = some (.putfield 39) := by decide +kernel
theorem i79_85 : xI 79 85 = some (.aload_n 0) := by decide +kernel
theorem i79_86 : xI 79 86 = some (.iconst 5) := by decide +kernel
theorem i79_87 : xI 79 87 = some (.newarray .int) := by decide +kernel
theorem i79_89 : xI 79 89 = some (.putfield 42) := by decide +kernel
theorem i79_92 : xI 79 92 = some (.aload_n 0) := by decide +kernel
theorem i79_93 : xI 79 93 = some (.bipush 8) := by decide +kernel
theorem i79_95 : xI 79 95 = some (.newarray .int) := by decide +kernel
theorem i79_97 : xI 79 97 = some (.putfield 45) := by decide +kernel
theorem i79_100 : xI 79 100 = some (.aload_n 0) := by decide +kernel
theorem i79_101 : xI 79 101 = some (.bipush 8) := by decide +kernel
theorem i79_103 : xI 79 103 = some (.iconst 5) := by decide +kernel
theorem i79_104 : xI 79 104 = some (.multianewarray 48 2) := by decide +kernel
theorem i79_108 : xI 79 108 = some (.putfield 49) := by decide +kernel
theorem i79_111 : xI 79 111 = some (.aload_n 0) := by decide +kernel
theorem i79_112 : xI 79 112 = some (.bipush 8) := by decide +kernel
theorem i79_114 : xI 79 114 = some (.iconst 5) := by decide +kernel
theorem i79_115 : xI 79 115 = some (.multianewarray 48 2) := by decide +kernel
theorem i79_119 : xI 79 119 = some (.putfield 52) := by decide +kernel
theorem i79_122 : xI 79 122 = some (.aload_n 0) := by decide +kernel
theorem i79_123 : xI 79 123 = some (.sipush 1600) := by decide +kernel
theorem i79_126 : xI 79 126 = some (.newarray .int) := by decide +kernel
theorem i79_128 : xI 79 128 = some (.putfield 55) := by decide +kernel
theorem i79_131 : xI 79 131 = some (.aload_n 0) := by decide +kernel
theorem i79_132 : xI 79 132 = some (.bipush 32) := by decide +kernel
theorem i79_134 : xI 79 134 = some (.newarray .int) := by decide +kernel
theorem i79_136 : xI 79 136 = some (.putfield 58) := by decide +kernel
theorem i79_139 : xI 79 139 = some (.aload_n 0) := by decide +kernel
theorem i79_140 : xI 79 140 = some (.sipush 160) := by decide +kernel
theorem i79_143 : xI 79 143 = some (.newarray .int) := by decide +kernel
theorem i79_145 : xI 79 145 = some (.putfield 61) := by decide +kernel
theorem i79_148 : xI 79 148 = some (.aload_n 0) := by decide +kernel
theorem i79_149 : xI 79 149 = some (.bipush 8) := by decide +kernel
theorem i79_151 : xI 79 151 = some (.newarray .int) := by decide +kernel
theorem i79_153 : xI 79 153 = some (.putfield 64) := by decide +kernel
theorem i79_156 : xI 79 156 = some (.aload_n 0) := by decide +kernel
theorem i79_157 : xI 79 157 = some (.bipush 8) := by decide +kernel
theorem i79_159 : xI 79 159 = some (.newarray .int) := by decide +kernel
theorem i79_161 : xI 79 161 = some (.putfield 67) := by decide +kernel
theorem i79_164 : xI 79 164 = some (.aload_n 0) := by decide +kernel
theorem i79_165 : xI 79 165 = some (.sipush 500) := by decide +kernel
theorem i79_168 : xI 79 168 = some (.newarray .int) := by decide +kernel
theorem i79_170 : xI 79 170 = some (.putfield 70) := by decide +kernel
theorem i79_173 : xI 79 173 = some (.return_) := by decide +kernel
-- 80 M_feed
theorem i80_0 : xI 80 0 = some (.aload_n 0) := by decide +kernel
theorem i80_1 : xI 80 1 = some (.getfield 73) := by decide +kernel
theorem i80_4 : xI 80 4 = some (.bipush 20) := by decide +kernel
theorem i80_6 : xI 80 6 = some (.iadd) := by decide +kernel
theorem i80_7 : xI 80 7 = some (.sipush 400) := by decide +kernel
theorem i80_10 : xI 80 10 = some (.if_icmp .le 6) := by decide +kernel
theorem i80_13 : xI 80 13 = some (.bipush (-3)) := by decide +kernel
theorem i80_15 : xI 80 15 = some (.ireturn) := by decide +kernel
theorem i80_16 : xI 80 16 = some (.iconst 5) := by decide +kernel
theorem i80_17 : xI 80 17 = some (.newarray .int) := by decide +kernel
theorem i80_19 : xI 80 19 = some (.dup) := by decide +kernel
theorem i80_20 : xI 80 20 = some (.iconst 0) := by decide +kernel
theorem i80_21 : xI 80 21 = some (.iload_n 1) := by decide +kernel
theorem i80_22 : xI 80 22 = some (.iastore) := by decide +kernel
theorem i80_23 : xI 80 23 = some (.dup) := by decide +kernel
theorem i80_24 : xI 80 24 = some (.iconst 1) := by decide +kernel
theorem i80_25 : xI 80 25 = some (.iload_n 2) := by decide +kernel
theorem i80_26 : xI 80 26 = some (.iastore) := by decide +kernel
theorem i80_27 : xI 80 27 = some (.dup) := by decide +kernel
theorem i80_28 : xI 80 28 = some (.iconst 2) := by decide +kernel
theorem i80_29 : xI 80 29 = some (.iload_n 3) := by decide +kernel
theorem i80_30 : xI 80 30 = some (.iastore) := by decide +kernel
theorem i80_31 : xI 80 31 = some (.dup) := by decide +kernel
theorem i80_32 : xI 80 32 = some (.iconst 3) := by decide +kernel
theorem i80_33 : xI 80 33 = some (.iload 4) := by decide +kernel
theorem i80_35 : xI 80 35 = some (.iastore) := by decide +kernel
theorem i80_36 : xI 80 36 = some (.dup) := by decide +kernel
theorem i80_37 : xI 80 37 = some (.iconst 4) := by decide +kernel
theorem i80_38 : xI 80 38 = some (.iload 5) := by decide +kernel
theorem i80_40 : xI 80 40 = some (.iastore) := by decide +kernel
theorem i80_41 : xI 80 41 = some (.astore 6) := by decide +kernel
theorem i80_43 : xI 80 43 = some (.iconst 0) := by decide +kernel
theorem i80_44 : xI 80 44 = some (.istore 7) := by decide +kernel
theorem i80_46 : xI 80 46 = some (.iload 7) := by decide +kernel
theorem i80_48 : xI 80 48 = some (.bipush 20) := by decide +kernel
theorem i80_50 : xI 80 50 = some (.if_icmp .ge 40) := by decide +kernel
theorem i80_53 : xI 80 53 = some (.aload_n 0) := by decide +kernel
theorem i80_54 : xI 80 54 = some (.getfield 9) := by decide +kernel
theorem i80_57 : xI 80 57 = some (.aload_n 0) := by decide +kernel
theorem i80_58 : xI 80 58 = some (.getfield 73) := by decide +kernel
theorem i80_61 : xI 80 61 = some (.iload 7) := by decide +kernel
theorem i80_63 : xI 80 63 = some (.iadd) := by decide +kernel
theorem i80_64 : xI 80 64 = some (.aload 6) := by decide +kernel
theorem i80_66 : xI 80 66 = some (.iload 7) := by decide +kernel
theorem i80_68 : xI 80 68 = some (.iconst 4) := by decide +kernel
theorem i80_69 : xI 80 69 = some (.idiv) := by decide +kernel
theorem i80_70 : xI 80 70 = some (.iaload) := by decide +kernel
theorem i80_71 : xI 80 71 = some (.bipush 24) := by decide +kernel
theorem i80_73 : xI 80 73 = some (.bipush 8) := by decide +kernel
theorem i80_75 : xI 80 75 = some (.iload 7) := by decide +kernel
theorem i80_77 : xI 80 77 = some (.iconst 4) := by decide +kernel
theorem i80_78 : xI 80 78 = some (.irem) := by decide +kernel
theorem i80_79 : xI 80 79 = some (.imul) := by decide +kernel
theorem i80_80 : xI 80 80 = some (.isub) := by decide +kernel
theorem i80_81 : xI 80 81 = some (.ishr) := by decide +kernel
theorem i80_82 : xI 80 82 = some (.i2b) := by decide +kernel
theorem i80_83 : xI 80 83 = some (.bastore) := by decide +kernel
theorem i80_84 : xI 80 84 = some (.iinc 7 1) := by decide +kernel
theorem i80_87 : xI 80 87 = some (.goto (-41)) := by decide +kernel
theorem i80_90 : xI 80 90 = some (.aload_n 0) := by decide +kernel
theorem i80_91 : xI 80 91 = some (.dup) := by decide +kernel
theorem i80_92 : xI 80 92 = some (.getfield 73) := by decide +kernel
theorem i80_95 : xI 80 95 = some (.bipush 20) := by decide +kernel
theorem i80_97 : xI 80 97 = some (.iadd) := by decide +kernel
theorem i80_98 : xI 80 98 = some (.putfield 73) := by decide +kernel
theorem i80_101 : xI 80 101 = some (.aload_n 0) := by decide +kernel
theorem i80_102 : xI 80 102 = some (.getfield 73) := by decide +kernel
theorem i80_105 : xI 80 105 = some (.ireturn) := by decide +kernel
-- 81 M_end
theorem i81_0 : xI 81 0 = some (.iload_n 1) := by decide +kernel
theorem i81_1 : xI 81 1 = some (.i2l) := by decide +kernel
theorem i81_2 : xI 81 2 = some (.lconst 0) := by decide +kernel
theorem i81_3 : xI 81 3 = some (.aload_n 0) := by decide +kernel
theorem i81_4 : xI 81 4 = some (.getfield 73) := by decide +kernel
theorem i81_7 : xI 81 7 = some (.i2l) := by decide +kernel
theorem i81_8 : xI 81 8 = some (.invokestatic 77) := by decide +kernel
theorem i81_11 : xI 81 11 = some (.ifCond .ne 5) := by decide +kernel
theorem i81_14 : xI 81 14 = some (.iconst (-1)) := by decide +kernel
theorem i81_15 : xI 81 15 = some (.ireturn) := by decide +kernel
theorem i81_16 : xI 81 16 = some (.aload_n 0) := by decide +kernel
theorem i81_17 : xI 81 17 = some (.iload_n 1) := by decide +kernel
theorem i81_18 : xI 81 18 = some (.putfield 73) := by decide +kernel
theorem i81_21 : xI 81 21 = some (.iload_n 1) := by decide +kernel
theorem i81_22 : xI 81 22 = some (.ireturn) := by decide +kernel
-- 82 M_in
theorem i82_0 : xI 82 0 = some (.lload_n 0) := by decide +kernel
theorem i82_1 : xI 82 1 = some (.lload_n 2) := by decide +kernel
theorem i82_2 : xI 82 2 = some (.lcmp) := by decide +kernel
theorem i82_3 : xI 82 3 = some (.ifCond .lt 14) := by decide +kernel
theorem i82_6 : xI 82 6 = some (.lload_n 0) := by decide +kernel
theorem i82_7 : xI 82 7 = some (.lload 4) := by decide +kernel
theorem i82_9 : xI 82 9 = some (.lcmp) := by decide +kernel
theorem i82_10 : xI 82 10 = some (.ifCond .gt 7) := by decide +kernel
theorem i82_13 : xI 82 13 = some (.iconst 1) := by decide +kernel
theorem i82_14 : xI 82 14 = some (.goto 4) := by decide +kernel
theorem i82_17 : xI 82 17 = some (.iconst 0) := by decide +kernel
theorem i82_18 : xI 82 18 = some (.ireturn) := by decide +kernel
-- 83 M_program
theorem i83_0 : xI 83 0 = some (.aload_n 0) := by decide +kernel
theorem i83_1 : xI 83 1 = some (.aload_n 0) := by decide +kernel
theorem i83_2 : xI 83 2 = some (.getfield 73) := by decide +kernel
theorem i83_5 : xI 83 5 = some (.putfield 84) := by decide +kernel
theorem i83_8 : xI 83 8 = some (.aload_n 0) := by decide +kernel
theorem i83_9 : xI 83 9 = some (.iconst 0) := by decide +kernel
theorem i83_10 : xI 83 10 = some (.putfield 73) := by decide +kernel
theorem i83_13 : xI 83 13 = some (.aload_n 0) := by decide +kernel
theorem i83_14 : xI 83 14 = some (.iconst 0) := by decide +kernel
theorem i83_15 : xI 83 15 = some (.putfield 81) := by decide +kernel
theorem i83_18 : xI 83 18 = some (.aload_n 0) := by decide +kernel
theorem i83_19 : xI 83 19 = some (.iconst (-1)) := by decide +kernel
theorem i83_20 : xI 83 20 = some (.putfield 149) := by decide +kernel
theorem i83_23 : xI 83 23 = some (.aload_n 0) := by decide +kernel
theorem i83_24 : xI 83 24 = some (.iconst 0) := by decide +kernel
theorem i83_25 : xI 83 25 = some (.putfield 162) := by decide +kernel
theorem i83_28 : xI 83 28 = some (.aload_n 0) := by decide +kernel
theorem i83_29 : xI 83 29 = some (.bipush 7) := by decide +kernel
theorem i83_31 : xI 83 31 = some (.putfield 159) := by decide +kernel
theorem i83_34 : xI 83 34 = some (.aload_n 0) := by decide +kernel
theorem i83_35 : xI 83 35 = some (.getfield 55) := by decide +kernel
theorem i83_38 : xI 83 38 = some (.iconst 0) := by decide +kernel
theorem i83_39 : xI 83 39 = some (.iconst 0) := by decide +kernel
theorem i83_40 : xI 83 40 = some (.iastore) := by decide +kernel
theorem i83_41 : xI 83 41 = some (.aload_n 0) := by decide +kernel
theorem i83_42 : xI 83 42 = some (.invokevirtual 156) := by decide +kernel
theorem i83_45 : xI 83 45 = some (.aload_n 0) := by decide +kernel
theorem i83_46 : xI 83 46 = some (.invokevirtual 165) := by decide +kernel
theorem i83_49 : xI 83 49 = some (.istore_n 1) := by decide +kernel
theorem i83_50 : xI 83 50 = some (.iload_n 1) := by decide +kernel
theorem i83_51 : xI 83 51 = some (.ifCond .eq 24) := by decide +kernel
theorem i83_54 : xI 83 54 = some (.aload_n 0) := by decide +kernel
theorem i83_55 : xI 83 55 = some (.ldc 108) := by decide +kernel
theorem i83_57 : xI 83 57 = some (.invokevirtual 102) := by decide +kernel
theorem i83_60 : xI 83 60 = some (.ifCond .eq 15) := by decide +kernel
theorem i83_63 : xI 83 63 = some (.aload_n 0) := by decide +kernel
theorem i83_64 : xI 83 64 = some (.invokevirtual 156) := by decide +kernel
theorem i83_67 : xI 83 67 = some (.aload_n 0) := by decide +kernel
theorem i83_68 : xI 83 68 = some (.invokevirtual 165) := by decide +kernel
theorem i83_71 : xI 83 71 = some (.istore_n 1) := by decide +kernel
theorem i83_72 : xI 83 72 = some (.goto (-22)) := by decide +kernel
theorem i83_75 : xI 83 75 = some (.iload_n 1) := by decide +kernel
theorem i83_76 : xI 83 76 = some (.ifCond .eq 15) := by decide +kernel
theorem i83_79 : xI 83 79 = some (.aload_n 0) := by decide +kernel
theorem i83_80 : xI 83 80 = some (.getfield 90) := by decide +kernel
theorem i83_83 : xI 83 83 = some (.ifCond .eq 8) := by decide +kernel
theorem i83_86 : xI 83 86 = some (.aload_n 0) := by decide +kernel
theorem i83_87 : xI 83 87 = some (.invokevirtual 152) := by decide +kernel
theorem i83_90 : xI 83 90 = some (.pop) := by decide +kernel
theorem i83_91 : xI 83 91 = some (.aload_n 0) := by decide +kernel
theorem i83_92 : xI 83 92 = some (.getfield 149) := by decide +kernel
theorem i83_95 : xI 83 95 = some (.ifCond .lt 8) := by decide +kernel
theorem i83_98 : xI 83 98 = some (.aload_n 0) := by decide +kernel
theorem i83_99 : xI 83 99 = some (.getfield 149) := by decide +kernel
theorem i83_102 : xI 83 102 = some (.ireturn) := by decide +kernel
theorem i83_103 : xI 83 103 = some (.aload_n 0) := by decide +kernel
theorem i83_104 : xI 83 104 = some (.aload_n 0) := by decide +kernel
theorem i83_105 : xI 83 105 = some (.getfield 55) := by decide +kernel
theorem i83_108 : xI 83 108 = some (.aload_n 0) := by decide +kernel
theorem i83_109 : xI 83 109 = some (.getfield 159) := by decide +kernel
theorem i83_112 : xI 83 112 = some (.invokestatic 168) := by decide +kernel
theorem i83_115 : xI 83 115 = some (.putfield 174) := by decide +kernel
theorem i83_118 : xI 83 118 = some (.bipush (-2)) := by decide +kernel
theorem i83_120 : xI 83 120 = some (.ireturn) := by decide +kernel
-- 84 M_step
theorem i84_0 : xI 84 0 = some (.aload_n 0) := by decide +kernel
theorem i84_1 : xI 84 1 = some (.getfield 81) := by decide +kernel
theorem i84_4 : xI 84 4 = some (.aload_n 0) := by decide +kernel
theorem i84_5 : xI 84 5 = some (.getfield 84) := by decide +kernel
theorem i84_8 : xI 84 8 = some (.if_icmp .ge 30) := by decide +kernel
theorem i84_11 : xI 84 11 = some (.aload_n 0) := by decide +kernel
theorem i84_12 : xI 84 12 = some (.getfield 9) := by decide +kernel
theorem i84_15 : xI 84 15 = some (.aload_n 0) := by decide +kernel
theorem i84_16 : xI 84 16 = some (.getfield 81) := by decide +kernel
theorem i84_19 : xI 84 19 = some (.baload) := by decide +kernel
theorem i84_20 : xI 84 20 = some (.bipush 32) := by decide +kernel
theorem i84_22 : xI 84 22 = some (.if_icmp .ne 16) := by decide +kernel
theorem i84_25 : xI 84 25 = some (.aload_n 0) := by decide +kernel
theorem i84_26 : xI 84 26 = some (.dup) := by decide +kernel
theorem i84_27 : xI 84 27 = some (.getfield 81) := by decide +kernel
theorem i84_30 : xI 84 30 = some (.iconst 1) := by decide +kernel
theorem i84_31 : xI 84 31 = some (.iadd) := by decide +kernel
theorem i84_32 : xI 84 32 = some (.putfield 81) := by decide +kernel
theorem i84_35 : xI 84 35 = some (.goto (-35)) := by decide +kernel
theorem i84_38 : xI 84 38 = some (.aload_n 0) := by decide +kernel
theorem i84_39 : xI 84 39 = some (.aload_n 0) := by decide +kernel
theorem i84_40 : xI 84 40 = some (.getfield 81) := by decide +kernel
theorem i84_43 : xI 84 43 = some (.putfield 87) := by decide +kernel
theorem i84_46 : xI 84 46 = some (.aload_n 0) := by decide +kernel
theorem i84_47 : xI 84 47 = some (.getfield 81) := by decide +kernel
theorem i84_50 : xI 84 50 = some (.aload_n 0) := by decide +kernel
theorem i84_51 : xI 84 51 = some (.getfield 84) := by decide +kernel
theorem i84_54 : xI 84 54 = some (.if_icmp .ne 11) := by decide +kernel
theorem i84_57 : xI 84 57 = some (.aload_n 0) := by decide +kernel
theorem i84_58 : xI 84 58 = some (.iconst 0) := by decide +kernel
theorem i84_59 : xI 84 59 = some (.putfield 90) := by decide +kernel
theorem i84_62 : xI 84 62 = some (.goto 398) := by decide +kernel
theorem i84_65 : xI 84 65 = some (.aload_n 0) := by decide +kernel
theorem i84_66 : xI 84 66 = some (.getfield 9) := by decide +kernel
theorem i84_69 : xI 84 69 = some (.aload_n 0) := by decide +kernel
theorem i84_70 : xI 84 70 = some (.getfield 81) := by decide +kernel
theorem i84_73 : xI 84 73 = some (.baload) := by decide +kernel
theorem i84_74 : xI 84 74 = some (.invokestatic 93) := by decide +kernel
theorem i84_77 : xI 84 77 = some (.ifCond .eq 126) := by decide +kernel
theorem i84_80 : xI 84 80 = some (.aload_n 0) := by decide +kernel
theorem i84_81 : xI 84 81 = some (.getfield 81) := by decide +kernel
theorem i84_84 : xI 84 84 = some (.aload_n 0) := by decide +kernel
theorem i84_85 : xI 84 85 = some (.getfield 84) := by decide +kernel
theorem i84_88 : xI 84 88 = some (.if_icmp .ge 31) := by decide +kernel
theorem i84_91 : xI 84 91 = some (.aload_n 0) := by decide +kernel
theorem i84_92 : xI 84 92 = some (.getfield 9) := by decide +kernel
theorem i84_95 : xI 84 95 = some (.aload_n 0) := by decide +kernel
theorem i84_96 : xI 84 96 = some (.getfield 81) := by decide +kernel
theorem i84_99 : xI 84 99 = some (.baload) := by decide +kernel
theorem i84_100 : xI 84 100 = some (.invokestatic 93) := by decide +kernel
theorem i84_103 : xI 84 103 = some (.ifCond .eq 16) := by decide +kernel
theorem i84_106 : xI 84 106 = some (.aload_n 0) := by decide +kernel
theorem i84_107 : xI 84 107 = some (.dup) := by decide +kernel
theorem i84_108 : xI 84 108 = some (.getfield 81) := by decide +kernel
theorem i84_111 : xI 84 111 = some (.iconst 1) := by decide +kernel
theorem i84_112 : xI 84 112 = some (.iadd) := by decide +kernel
theorem i84_113 : xI 84 113 = some (.putfield 81) := by decide +kernel
theorem i84_116 : xI 84 116 = some (.goto (-36)) := by decide +kernel
theorem i84_119 : xI 84 119 = some (.aload_n 0) := by decide +kernel
theorem i84_120 : xI 84 120 = some (.aload_n 0) := by decide +kernel
theorem i84_121 : xI 84 121 = some (.getfield 81) := by decide +kernel
theorem i84_124 : xI 84 124 = some (.putfield 97) := by decide +kernel
theorem i84_127 : xI 84 127 = some (.aload_n 0) := by decide +kernel
theorem i84_128 : xI 84 128 = some (.iconst 1) := by decide +kernel
theorem i84_129 : xI 84 129 = some (.putfield 90) := by decide +kernel
theorem i84_132 : xI 84 132 = some (.aload_n 0) := by decide +kernel
theorem i84_133 : xI 84 133 = some (.ldc 100) := by decide +kernel
theorem i84_135 : xI 84 135 = some (.invokevirtual 102) := by decide +kernel
theorem i84_138 : xI 84 138 = some (.ifCond .ne 322) := by decide +kernel
theorem i84_141 : xI 84 141 = some (.aload_n 0) := by decide +kernel
theorem i84_142 : xI 84 142 = some (.ldc 106) := by decide +kernel
theorem i84_144 : xI 84 144 = some (.invokevirtual 102) := by decide +kernel
theorem i84_147 : xI 84 147 = some (.ifCond .ne 313) := by decide +kernel
theorem i84_150 : xI 84 150 = some (.aload_n 0) := by decide +kernel
theorem i84_151 : xI 84 151 = some (.ldc 108) := by decide +kernel
theorem i84_153 : xI 84 153 = some (.invokevirtual 102) := by decide +kernel
theorem i84_156 : xI 84 156 = some (.ifCond .ne 304) := by decide +kernel
theorem i84_159 : xI 84 159 = some (.aload_n 0) := by decide +kernel
theorem i84_160 : xI 84 160 = some (.ldc 110) := by decide +kernel
theorem i84_162 : xI 84 162 = some (.invokevirtual 102) := by decide +kernel
theorem i84_165 : xI 84 165 = some (.ifCond .ne 295) := by decide +kernel
theorem i84_168 : xI 84 168 = some (.aload_n 0) := by decide +kernel
theorem i84_169 : xI 84 169 = some (.ldc 112) := by decide +kernel
theorem i84_171 : xI 84 171 = some (.invokevirtual 102) := by decide +kernel
theorem i84_174 : xI 84 174 = some (.ifCond .ne 286) := by decide +kernel
theorem i84_177 : xI 84 177 = some (.aload_n 0) := by decide +kernel
theorem i84_178 : xI 84 178 = some (.ldc 113) := by decide +kernel
theorem i84_180 : xI 84 180 = some (.invokevirtual 102) := by decide +kernel
theorem i84_183 : xI 84 183 = some (.ifCond .ne 277) := by decide +kernel
theorem i84_186 : xI 84 186 = some (.aload_n 0) := by decide +kernel
theorem i84_187 : xI 84 187 = some (.ldc 114) := by decide +kernel
theorem i84_189 : xI 84 189 = some (.invokevirtual 102) := by decide +kernel
theorem i84_192 : xI 84 192 = some (.ifCond .ne 268) := by decide +kernel
theorem i84_195 : xI 84 195 = some (.aload_n 0) := by decide +kernel
theorem i84_196 : xI 84 196 = some (.iconst 4) := by decide +kernel
theorem i84_197 : xI 84 197 = some (.putfield 90) := by decide +kernel
theorem i84_200 : xI 84 200 = some (.goto 260) := by decide +kernel
theorem i84_203 : xI 84 203 = some (.aload_n 0) := by decide +kernel
theorem i84_204 : xI 84 204 = some (.getfield 9) := by decide +kernel
theorem i84_207 : xI 84 207 = some (.aload_n 0) := by decide +kernel
theorem i84_208 : xI 84 208 = some (.getfield 81) := by decide +kernel
theorem i84_211 : xI 84 211 = some (.baload) := by decide +kernel
theorem i84_212 : xI 84 212 = some (.invokestatic 116) := by decide +kernel
theorem i84_215 : xI 84 215 = some (.ifCond .eq 103) := by decide +kernel
