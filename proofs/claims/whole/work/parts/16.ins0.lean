/-! ===== which instruction stands where (wip/gen/lay16.py) ===== -/
-- 0 D_init
theorem i0_0 : xI 0 0 = some (.aload_n 0) := by decide +kernel
theorem i0_1 : xI 0 1 = some (.invokespecial 3) := by decide +kernel
theorem i0_4 : xI 0 4 = some (.aload_n 0) := by decide +kernel
theorem i0_5 : xI 0 5 = some (.new 9) := by decide +kernel
theorem i0_8 : xI 0 8 = some (.dup) := by decide +kernel
theorem i0_9 : xI 0 9 = some (.invokespecial 11) := by decide +kernel
theorem i0_12 : xI 0 12 = some (.putfield 12) := by decide +kernel
theorem i0_15 : xI 0 15 = some (.aload_n 0) := by decide +kernel
theorem i0_16 : xI 0 16 = some (.new 16) := by decide +kernel
theorem i0_19 : xI 0 19 = some (.dup) := by decide +kernel
theorem i0_20 : xI 0 20 = some (.aload_n 0) := by decide +kernel
theorem i0_21 : xI 0 21 = some (.getfield 12) := by decide +kernel
theorem i0_24 : xI 0 24 = some (.invokespecial 18) := by decide +kernel
theorem i0_27 : xI 0 27 = some (.putfield 21) := by decide +kernel
theorem i0_30 : xI 0 30 = some (.aload_n 0) := by decide +kernel
theorem i0_31 : xI 0 31 = some (.new 25) := by decide +kernel
theorem i0_34 : xI 0 34 = some (.dup) := by decide +kernel
theorem i0_35 : xI 0 35 = some (.invokespecial 27) := by decide +kernel
theorem i0_38 : xI 0 38 = some (.putfield 28) := by decide +kernel
theorem i0_41 : xI 0 41 = some (.new 32) := by decide +kernel
theorem i0_44 : xI 0 44 = some (.dup) := by decide +kernel
theorem i0_45 : xI 0 45 = some (.invokespecial 34) := by decide +kernel
theorem i0_48 : xI 0 48 = some (.astore_n 1) := by decide +kernel
theorem i0_49 : xI 0 49 = some (.aload_n 0) := by decide +kernel
theorem i0_50 : xI 0 50 = some (.iconst 5) := by decide +kernel
theorem i0_51 : xI 0 51 = some (.anewarray 35) := by decide +kernel
theorem i0_54 : xI 0 54 = some (.putfield 37) := by decide +kernel
theorem i0_57 : xI 0 57 = some (.iconst 0) := by decide +kernel
theorem i0_58 : xI 0 58 = some (.istore_n 2) := by decide +kernel
theorem i0_59 : xI 0 59 = some (.iload_n 2) := by decide +kernel
theorem i0_60 : xI 0 60 = some (.iconst 5) := by decide +kernel
theorem i0_61 : xI 0 61 = some (.if_icmp .ge 27) := by decide +kernel
theorem i0_64 : xI 0 64 = some (.aload_n 0) := by decide +kernel
theorem i0_65 : xI 0 65 = some (.getfield 37) := by decide +kernel
theorem i0_68 : xI 0 68 = some (.iload_n 2) := by decide +kernel
theorem i0_69 : xI 0 69 = some (.new 35) := by decide +kernel
theorem i0_72 : xI 0 72 = some (.dup) := by decide +kernel
theorem i0_73 : xI 0 73 = some (.aload_n 0) := by decide +kernel
theorem i0_74 : xI 0 74 = some (.getfield 28) := by decide +kernel
theorem i0_77 : xI 0 77 = some (.aload_n 1) := by decide +kernel
theorem i0_78 : xI 0 78 = some (.invokespecial 41) := by decide +kernel
theorem i0_81 : xI 0 81 = some (.aastore) := by decide +kernel
theorem i0_82 : xI 0 82 = some (.iinc 2 1) := by decide +kernel
theorem i0_85 : xI 0 85 = some (.goto (-26)) := by decide +kernel
theorem i0_88 : xI 0 88 = some (.aload_n 0) := by decide +kernel
theorem i0_89 : xI 0 89 = some (.bipush 8) := by decide +kernel
theorem i0_91 : xI 0 91 = some (.anewarray 44) := by decide +kernel
theorem i0_94 : xI 0 94 = some (.putfield 46) := by decide +kernel
theorem i0_97 : xI 0 97 = some (.iconst 0) := by decide +kernel
theorem i0_98 : xI 0 98 = some (.istore_n 2) := by decide +kernel
theorem i0_99 : xI 0 99 = some (.iload_n 2) := by decide +kernel
theorem i0_100 : xI 0 100 = some (.bipush 8) := by decide +kernel
theorem i0_102 : xI 0 102 = some (.if_icmp .ge 22) := by decide +kernel
theorem i0_105 : xI 0 105 = some (.aload_n 0) := by decide +kernel
theorem i0_106 : xI 0 106 = some (.getfield 46) := by decide +kernel
theorem i0_109 : xI 0 109 = some (.iload_n 2) := by decide +kernel
theorem i0_110 : xI 0 110 = some (.new 44) := by decide +kernel
theorem i0_113 : xI 0 113 = some (.dup) := by decide +kernel
theorem i0_114 : xI 0 114 = some (.invokespecial 50) := by decide +kernel
theorem i0_117 : xI 0 117 = some (.aastore) := by decide +kernel
theorem i0_118 : xI 0 118 = some (.iinc 2 1) := by decide +kernel
theorem i0_121 : xI 0 121 = some (.goto (-22)) := by decide +kernel
theorem i0_124 : xI 0 124 = some (.aload_n 0) := by decide +kernel
theorem i0_125 : xI 0 125 = some (.aconst_null) := by decide +kernel
theorem i0_126 : xI 0 126 = some (.putfield 51) := by decide +kernel
theorem i0_129 : xI 0 129 = some (.return_) := by decide +kernel
-- 1 D_feed
theorem i1_0 : xI 1 0 = some (.aload_n 0) := by decide +kernel
theorem i1_1 : xI 1 1 = some (.getfield 12) := by decide +kernel
theorem i1_4 : xI 1 4 = some (.getfield 55) := by decide +kernel
theorem i1_7 : xI 1 7 = some (.sipush 380) := by decide +kernel
theorem i1_10 : xI 1 10 = some (.if_icmp .le 6) := by decide +kernel
theorem i1_13 : xI 1 13 = some (.bipush (-3)) := by decide +kernel
theorem i1_15 : xI 1 15 = some (.ireturn) := by decide +kernel
theorem i1_16 : xI 1 16 = some (.aload_n 0) := by decide +kernel
theorem i1_17 : xI 1 17 = some (.getfield 12) := by decide +kernel
theorem i1_20 : xI 1 20 = some (.iload_n 1) := by decide +kernel
theorem i1_21 : xI 1 21 = some (.invokevirtual 59) := by decide +kernel
theorem i1_24 : xI 1 24 = some (.aload_n 0) := by decide +kernel
theorem i1_25 : xI 1 25 = some (.getfield 12) := by decide +kernel
theorem i1_28 : xI 1 28 = some (.iload_n 2) := by decide +kernel
theorem i1_29 : xI 1 29 = some (.invokevirtual 59) := by decide +kernel
theorem i1_32 : xI 1 32 = some (.aload_n 0) := by decide +kernel
theorem i1_33 : xI 1 33 = some (.getfield 12) := by decide +kernel
theorem i1_36 : xI 1 36 = some (.iload_n 3) := by decide +kernel
theorem i1_37 : xI 1 37 = some (.invokevirtual 59) := by decide +kernel
theorem i1_40 : xI 1 40 = some (.aload_n 0) := by decide +kernel
theorem i1_41 : xI 1 41 = some (.getfield 12) := by decide +kernel
theorem i1_44 : xI 1 44 = some (.iload 4) := by decide +kernel
theorem i1_46 : xI 1 46 = some (.invokevirtual 59) := by decide +kernel
theorem i1_49 : xI 1 49 = some (.aload_n 0) := by decide +kernel
theorem i1_50 : xI 1 50 = some (.getfield 12) := by decide +kernel
theorem i1_53 : xI 1 53 = some (.iload 5) := by decide +kernel
theorem i1_55 : xI 1 55 = some (.invokevirtual 59) := by decide +kernel
theorem i1_58 : xI 1 58 = some (.aload_n 0) := by decide +kernel
theorem i1_59 : xI 1 59 = some (.getfield 12) := by decide +kernel
theorem i1_62 : xI 1 62 = some (.getfield 55) := by decide +kernel
theorem i1_65 : xI 1 65 = some (.ireturn) := by decide +kernel
-- 2 D_end
theorem i2_0 : xI 2 0 = some (.iload_n 1) := by decide +kernel
theorem i2_1 : xI 2 1 = some (.ifCond .lt 14) := by decide +kernel
theorem i2_4 : xI 2 4 = some (.iload_n 1) := by decide +kernel
theorem i2_5 : xI 2 5 = some (.aload_n 0) := by decide +kernel
theorem i2_6 : xI 2 6 = some (.getfield 12) := by decide +kernel
theorem i2_9 : xI 2 9 = some (.getfield 55) := by decide +kernel
theorem i2_12 : xI 2 12 = some (.if_icmp .le 5) := by decide +kernel
theorem i2_15 : xI 2 15 = some (.iconst (-1)) := by decide +kernel
theorem i2_16 : xI 2 16 = some (.ireturn) := by decide +kernel
theorem i2_17 : xI 2 17 = some (.aload_n 0) := by decide +kernel
theorem i2_18 : xI 2 18 = some (.getfield 12) := by decide +kernel
theorem i2_21 : xI 2 21 = some (.iload_n 1) := by decide +kernel
theorem i2_22 : xI 2 22 = some (.putfield 55) := by decide +kernel
theorem i2_25 : xI 2 25 = some (.iload_n 1) := by decide +kernel
theorem i2_26 : xI 2 26 = some (.ireturn) := by decide +kernel
-- 3 D_program
theorem i3_0 : xI 3 0 = some (.aload_n 0) := by decide +kernel
theorem i3_1 : xI 3 1 = some (.getfield 21) := by decide +kernel
theorem i3_4 : xI 3 4 = some (.invokevirtual 63) := by decide +kernel
theorem i3_7 : xI 3 7 = some (.istore_n 1) := by decide +kernel
theorem i3_8 : xI 3 8 = some (.aload_n 0) := by decide +kernel
theorem i3_9 : xI 3 9 = some (.getfield 12) := by decide +kernel
theorem i3_12 : xI 3 12 = some (.iconst 0) := by decide +kernel
theorem i3_13 : xI 3 13 = some (.putfield 55) := by decide +kernel
theorem i3_16 : xI 3 16 = some (.iload_n 1) := by decide +kernel
theorem i3_17 : xI 3 17 = some (.bipush (-2)) := by decide +kernel
theorem i3_19 : xI 3 19 = some (.if_icmp .ne 14) := by decide +kernel
theorem i3_22 : xI 3 22 = some (.aload_n 0) := by decide +kernel
theorem i3_23 : xI 3 23 = some (.aload_n 0) := by decide +kernel
theorem i3_24 : xI 3 24 = some (.getfield 21) := by decide +kernel
theorem i3_27 : xI 3 27 = some (.invokevirtual 67) := by decide +kernel
theorem i3_30 : xI 3 30 = some (.putfield 51) := by decide +kernel
theorem i3_33 : xI 3 33 = some (.iload_n 1) := by decide +kernel
theorem i3_34 : xI 3 34 = some (.ireturn) := by decide +kernel
-- 4 D_isCell
theorem i4_0 : xI 4 0 = some (.iload_n 0) := by decide +kernel
theorem i4_1 : xI 4 1 = some (.ifCond .lt 13) := by decide +kernel
theorem i4_4 : xI 4 4 = some (.iload_n 0) := by decide +kernel
theorem i4_5 : xI 4 5 = some (.bipush 32) := by decide +kernel
theorem i4_7 : xI 4 7 = some (.if_icmp .ge 7) := by decide +kernel
theorem i4_10 : xI 4 10 = some (.iconst 1) := by decide +kernel
theorem i4_11 : xI 4 11 = some (.goto 4) := by decide +kernel
theorem i4_14 : xI 4 14 = some (.iconst 0) := by decide +kernel
theorem i4_15 : xI 4 15 = some (.ireturn) := by decide +kernel
-- 5 D_write
theorem i5_0 : xI 5 0 = some (.iload_n 1) := by decide +kernel
theorem i5_1 : xI 5 1 = some (.invokestatic 71) := by decide +kernel
theorem i5_4 : xI 5 4 = some (.ifCond .eq 20) := by decide +kernel
theorem i5_7 : xI 5 7 = some (.iload_n 2) := by decide +kernel
theorem i5_8 : xI 5 8 = some (.invokestatic 75) := by decide +kernel
theorem i5_11 : xI 5 11 = some (.ifCond .eq 13) := by decide +kernel
theorem i5_14 : xI 5 14 = some (.iload_n 3) := by decide +kernel
theorem i5_15 : xI 5 15 = some (.ifCond .lt 9) := by decide +kernel
theorem i5_18 : xI 5 18 = some (.iload_n 3) := by decide +kernel
theorem i5_19 : xI 5 19 = some (.ldc 78) := by decide +kernel
theorem i5_21 : xI 5 21 = some (.if_icmp .le 5) := by decide +kernel
theorem i5_24 : xI 5 24 = some (.iconst (-1)) := by decide +kernel
theorem i5_25 : xI 5 25 = some (.ireturn) := by decide +kernel
theorem i5_26 : xI 5 26 = some (.aload_n 0) := by decide +kernel
theorem i5_27 : xI 5 27 = some (.getfield 51) := by decide +kernel
theorem i5_30 : xI 5 30 = some (.ifnonnull 6) := by decide +kernel
theorem i5_33 : xI 5 33 = some (.bipush (-2)) := by decide +kernel
theorem i5_35 : xI 5 35 = some (.ireturn) := by decide +kernel
theorem i5_36 : xI 5 36 = some (.aload_n 0) := by decide +kernel
theorem i5_37 : xI 5 37 = some (.getfield 28) := by decide +kernel
theorem i5_40 : xI 5 40 = some (.getfield 79) := by decide +kernel
theorem i5_43 : xI 5 43 = some (.sipush 500) := by decide +kernel
theorem i5_46 : xI 5 46 = some (.if_icmp .lt 6) := by decide +kernel
theorem i5_49 : xI 5 49 = some (.bipush (-3)) := by decide +kernel
theorem i5_51 : xI 5 51 = some (.ireturn) := by decide +kernel
theorem i5_52 : xI 5 52 = some (.aload_n 0) := by decide +kernel
theorem i5_53 : xI 5 53 = some (.getfield 37) := by decide +kernel
theorem i5_56 : xI 5 56 = some (.iload_n 1) := by decide +kernel
theorem i5_57 : xI 5 57 = some (.aaload) := by decide +kernel
theorem i5_58 : xI 5 58 = some (.astore 4) := by decide +kernel
theorem i5_60 : xI 5 60 = some (.aload_n 0) := by decide +kernel
theorem i5_61 : xI 5 61 = some (.getfield 46) := by decide +kernel
theorem i5_64 : xI 5 64 = some (.iload_n 2) := by decide +kernel
theorem i5_65 : xI 5 65 = some (.aaload) := by decide +kernel
theorem i5_66 : xI 5 66 = some (.astore 5) := by decide +kernel
theorem i5_68 : xI 5 68 = some (.aload 5) := by decide +kernel
theorem i5_70 : xI 5 70 = some (.aload 4) := by decide +kernel
theorem i5_72 : xI 5 72 = some (.invokevirtual 82) := by decide +kernel
theorem i5_75 : xI 5 75 = some (.ifCond .ne 6) := by decide +kernel
theorem i5_78 : xI 5 78 = some (.bipush (-4)) := by decide +kernel
theorem i5_80 : xI 5 80 = some (.ireturn) := by decide +kernel
theorem i5_81 : xI 5 81 = some (.aload 4) := by decide +kernel
theorem i5_83 : xI 5 83 = some (.getfield 86) := by decide +kernel
theorem i5_86 : xI 5 86 = some (.iconst 1) := by decide +kernel
theorem i5_87 : xI 5 87 = some (.iadd) := by decide +kernel
theorem i5_88 : xI 5 88 = some (.iload_n 3) := by decide +kernel
theorem i5_89 : xI 5 89 = some (.invokestatic 89) := by decide +kernel
theorem i5_92 : xI 5 92 = some (.istore 6) := by decide +kernel
theorem i5_94 : xI 5 94 = some (.aload_n 0) := by decide +kernel
theorem i5_95 : xI 5 95 = some (.getfield 28) := by decide +kernel
theorem i5_98 : xI 5 98 = some (.new 95) := by decide +kernel
theorem i5_101 : xI 5 101 = some (.dup) := by decide +kernel
theorem i5_102 : xI 5 102 = some (.iload_n 1) := by decide +kernel
theorem i5_103 : xI 5 103 = some (.iload 6) := by decide +kernel
theorem i5_105 : xI 5 105 = some (.aload_n 0) := by decide +kernel
theorem i5_106 : xI 5 106 = some (.getfield 51) := by decide +kernel
theorem i5_109 : xI 5 109 = some (.invokespecial 97) := by decide +kernel
theorem i5_112 : xI 5 112 = some (.invokevirtual 100) := by decide +kernel
theorem i5_115 : xI 5 115 = some (.istore 7) := by decide +kernel
theorem i5_117 : xI 5 117 = some (.aload 4) := by decide +kernel
theorem i5_119 : xI 5 119 = some (.iload 7) := by decide +kernel
theorem i5_121 : xI 5 121 = some (.invokevirtual 104) := by decide +kernel
theorem i5_124 : xI 5 124 = some (.aload 5) := by decide +kernel
theorem i5_126 : xI 5 126 = some (.getfield 107) := by decide +kernel
theorem i5_129 : xI 5 129 = some (.iload_n 1) := by decide +kernel
theorem i5_130 : xI 5 130 = some (.iload 6) := by decide +kernel
theorem i5_132 : xI 5 132 = some (.iastore) := by decide +kernel
theorem i5_133 : xI 5 133 = some (.iload 7) := by decide +kernel
theorem i5_135 : xI 5 135 = some (.ireturn) := by decide +kernel
-- 6 D_isServer
theorem i6_0 : xI 6 0 = some (.iload_n 0) := by decide +kernel
theorem i6_1 : xI 6 1 = some (.ifCond .lt 12) := by decide +kernel
theorem i6_4 : xI 6 4 = some (.iload_n 0) := by decide +kernel
theorem i6_5 : xI 6 5 = some (.iconst 5) := by decide +kernel
theorem i6_6 : xI 6 6 = some (.if_icmp .ge 7) := by decide +kernel
theorem i6_9 : xI 6 9 = some (.iconst 1) := by decide +kernel
theorem i6_10 : xI 6 10 = some (.goto 4) := by decide +kernel
theorem i6_13 : xI 6 13 = some (.iconst 0) := by decide +kernel
theorem i6_14 : xI 6 14 = some (.ireturn) := by decide +kernel
-- 7 D_isSession
theorem i7_0 : xI 7 0 = some (.iload_n 0) := by decide +kernel
theorem i7_1 : xI 7 1 = some (.ifCond .lt 13) := by decide +kernel
theorem i7_4 : xI 7 4 = some (.iload_n 0) := by decide +kernel
theorem i7_5 : xI 7 5 = some (.bipush 8) := by decide +kernel
theorem i7_7 : xI 7 7 = some (.if_icmp .ge 7) := by decide +kernel
theorem i7_10 : xI 7 10 = some (.iconst 1) := by decide +kernel
theorem i7_11 : xI 7 11 = some (.goto 4) := by decide +kernel
theorem i7_14 : xI 7 14 = some (.iconst 0) := by decide +kernel
theorem i7_15 : xI 7 15 = some (.ireturn) := by decide +kernel
-- 8 D_read
theorem i8_0 : xI 8 0 = some (.iload_n 1) := by decide +kernel
theorem i8_1 : xI 8 1 = some (.invokestatic 71) := by decide +kernel
theorem i8_4 : xI 8 4 = some (.ifCond .eq 17) := by decide +kernel
theorem i8_7 : xI 8 7 = some (.iload_n 2) := by decide +kernel
theorem i8_8 : xI 8 8 = some (.invokestatic 75) := by decide +kernel
theorem i8_11 : xI 8 11 = some (.ifCond .eq 10) := by decide +kernel
theorem i8_14 : xI 8 14 = some (.iload_n 3) := by decide +kernel
theorem i8_15 : xI 8 15 = some (.invokestatic 111) := by decide +kernel
theorem i8_18 : xI 8 18 = some (.ifCond .ne 7) := by decide +kernel
theorem i8_21 : xI 8 21 = some (.ldc2_w 114) := by decide +kernel
theorem i8_24 : xI 8 24 = some (.lreturn) := by decide +kernel
theorem i8_25 : xI 8 25 = some (.aload_n 0) := by decide +kernel
theorem i8_26 : xI 8 26 = some (.getfield 37) := by decide +kernel
theorem i8_29 : xI 8 29 = some (.iload_n 1) := by decide +kernel
theorem i8_30 : xI 8 30 = some (.aaload) := by decide +kernel
theorem i8_31 : xI 8 31 = some (.astore 5) := by decide +kernel
theorem i8_33 : xI 8 33 = some (.aload_n 0) := by decide +kernel
theorem i8_34 : xI 8 34 = some (.getfield 46) := by decide +kernel
theorem i8_37 : xI 8 37 = some (.iload_n 2) := by decide +kernel
theorem i8_38 : xI 8 38 = some (.aaload) := by decide +kernel
theorem i8_39 : xI 8 39 = some (.astore 6) := by decide +kernel
theorem i8_41 : xI 8 41 = some (.aload 6) := by decide +kernel
theorem i8_43 : xI 8 43 = some (.aload 5) := by decide +kernel
theorem i8_45 : xI 8 45 = some (.invokevirtual 116) := by decide +kernel
theorem i8_48 : xI 8 48 = some (.ifCond .ne 7) := by decide +kernel
theorem i8_51 : xI 8 51 = some (.ldc2_w 119) := by decide +kernel
theorem i8_54 : xI 8 54 = some (.lreturn) := by decide +kernel
theorem i8_55 : xI 8 55 = some (.aload 6) := by decide +kernel
theorem i8_57 : xI 8 57 = some (.aload 5) := by decide +kernel
theorem i8_59 : xI 8 59 = some (.invokevirtual 121) := by decide +kernel
theorem i8_62 : xI 8 62 = some (.aload 5) := by decide +kernel
theorem i8_64 : xI 8 64 = some (.iload_n 3) := by decide +kernel
theorem i8_65 : xI 8 65 = some (.iload 4) := by decide +kernel
theorem i8_67 : xI 8 67 = some (.invokevirtual 125) := by decide +kernel
theorem i8_70 : xI 8 70 = some (.i2l) := by decide +kernel
theorem i8_71 : xI 8 71 = some (.lreturn) := by decide +kernel
-- 9 D_assure
theorem i9_0 : xI 9 0 = some (.iload_n 1) := by decide +kernel
theorem i9_1 : xI 9 1 = some (.invokestatic 75) := by decide +kernel
theorem i9_4 : xI 9 4 = some (.ifCond .eq 10) := by decide +kernel
theorem i9_7 : xI 9 7 = some (.iload_n 2) := by decide +kernel
theorem i9_8 : xI 9 8 = some (.bipush (-16)) := by decide +kernel
theorem i9_10 : xI 9 10 = some (.iand) := by decide +kernel
theorem i9_11 : xI 9 11 = some (.ifCond .eq 5) := by decide +kernel
theorem i9_14 : xI 9 14 = some (.iconst (-1)) := by decide +kernel
theorem i9_15 : xI 9 15 = some (.ireturn) := by decide +kernel
theorem i9_16 : xI 9 16 = some (.aload_n 0) := by decide +kernel
theorem i9_17 : xI 9 17 = some (.getfield 46) := by decide +kernel
theorem i9_20 : xI 9 20 = some (.iload_n 1) := by decide +kernel
theorem i9_21 : xI 9 21 = some (.aaload) := by decide +kernel
theorem i9_22 : xI 9 22 = some (.astore 4) := by decide +kernel
theorem i9_24 : xI 9 24 = some (.aload 4) := by decide +kernel
theorem i9_26 : xI 9 26 = some (.getfield 129) := by decide +kernel
theorem i9_29 : xI 9 29 = some (.istore 5) := by decide +kernel
theorem i9_31 : xI 9 31 = some (.aload 4) := by decide +kernel
theorem i9_33 : xI 9 33 = some (.iload_n 2) := by decide +kernel
theorem i9_34 : xI 9 34 = some (.putfield 129) := by decide +kernel
theorem i9_37 : xI 9 37 = some (.iload_n 3) := by decide +kernel
theorem i9_38 : xI 9 38 = some (.ifCond .eq 8) := by decide +kernel
theorem i9_41 : xI 9 41 = some (.aload 4) := by decide +kernel
theorem i9_43 : xI 9 43 = some (.invokevirtual 132) := by decide +kernel
theorem i9_46 : xI 9 46 = some (.iload 5) := by decide +kernel
theorem i9_48 : xI 9 48 = some (.ireturn) := by decide +kernel
-- 10 D_commit
theorem i10_0 : xI 10 0 = some (.iload_n 1) := by decide +kernel
theorem i10_1 : xI 10 1 = some (.ifCond .ge 5) := by decide +kernel
theorem i10_4 : xI 10 4 = some (.iconst (-1)) := by decide +kernel
theorem i10_5 : xI 10 5 = some (.ireturn) := by decide +kernel
theorem i10_6 : xI 10 6 = some (.aload_n 0) := by decide +kernel
theorem i10_7 : xI 10 7 = some (.getfield 37) := by decide +kernel
theorem i10_10 : xI 10 10 = some (.iconst 0) := by decide +kernel
theorem i10_11 : xI 10 11 = some (.aaload) := by decide +kernel
theorem i10_12 : xI 10 12 = some (.astore_n 2) := by decide +kernel
theorem i10_13 : xI 10 13 = some (.iload_n 1) := by decide +kernel
theorem i10_14 : xI 10 14 = some (.aload_n 2) := by decide +kernel
theorem i10_15 : xI 10 15 = some (.getfield 135) := by decide +kernel
theorem i10_18 : xI 10 18 = some (.invokestatic 138) := by decide +kernel
theorem i10_21 : xI 10 21 = some (.istore_n 3) := by decide +kernel
theorem i10_22 : xI 10 22 = some (.iconst 0) := by decide +kernel
theorem i10_23 : xI 10 23 = some (.istore 4) := by decide +kernel
theorem i10_25 : xI 10 25 = some (.iload 4) := by decide +kernel
theorem i10_27 : xI 10 27 = some (.iload_n 3) := by decide +kernel
theorem i10_28 : xI 10 28 = some (.if_icmp .ge 26) := by decide +kernel
theorem i10_31 : xI 10 31 = some (.aload_n 0) := by decide +kernel
theorem i10_32 : xI 10 32 = some (.getfield 28) := by decide +kernel
theorem i10_35 : xI 10 35 = some (.aload_n 2) := by decide +kernel
theorem i10_36 : xI 10 36 = some (.getfield 141) := by decide +kernel
theorem i10_39 : xI 10 39 = some (.iconst 0) := by decide +kernel
theorem i10_40 : xI 10 40 = some (.iaload) := by decide +kernel
theorem i10_41 : xI 10 41 = some (.invokevirtual 144) := by decide +kernel
theorem i10_44 : xI 10 44 = some (.aload_n 2) := by decide +kernel
theorem i10_45 : xI 10 45 = some (.invokevirtual 147) := by decide +kernel
theorem i10_48 : xI 10 48 = some (.iinc 4 1) := by decide +kernel
theorem i10_51 : xI 10 51 = some (.goto (-26)) := by decide +kernel
theorem i10_54 : xI 10 54 = some (.iload_n 3) := by decide +kernel
theorem i10_55 : xI 10 55 = some (.ireturn) := by decide +kernel
-- 11 D_meet
theorem i11_0 : xI 11 0 = some (.iload_n 1) := by decide +kernel
theorem i11_1 : xI 11 1 = some (.invokestatic 71) := by decide +kernel
theorem i11_4 : xI 11 4 = some (.ifCond .eq 19) := by decide +kernel
theorem i11_7 : xI 11 7 = some (.iload_n 2) := by decide +kernel
theorem i11_8 : xI 11 8 = some (.invokestatic 71) := by decide +kernel
theorem i11_11 : xI 11 11 = some (.ifCond .eq 12) := by decide +kernel
theorem i11_14 : xI 11 14 = some (.iload_n 1) := by decide +kernel
theorem i11_15 : xI 11 15 = some (.iload_n 2) := by decide +kernel
theorem i11_16 : xI 11 16 = some (.if_icmp .eq 7) := by decide +kernel
theorem i11_19 : xI 11 19 = some (.iload_n 3) := by decide +kernel
theorem i11_20 : xI 11 20 = some (.ifCond .ge 5) := by decide +kernel
theorem i11_23 : xI 11 23 = some (.iconst (-1)) := by decide +kernel
theorem i11_24 : xI 11 24 = some (.ireturn) := by decide +kernel
theorem i11_25 : xI 11 25 = some (.aload_n 0) := by decide +kernel
theorem i11_26 : xI 11 26 = some (.getfield 37) := by decide +kernel
theorem i11_29 : xI 11 29 = some (.iload_n 1) := by decide +kernel
theorem i11_30 : xI 11 30 = some (.aaload) := by decide +kernel
theorem i11_31 : xI 11 31 = some (.astore 4) := by decide +kernel
theorem i11_33 : xI 11 33 = some (.aload_n 0) := by decide +kernel
theorem i11_34 : xI 11 34 = some (.getfield 37) := by decide +kernel
theorem i11_37 : xI 11 37 = some (.iload_n 2) := by decide +kernel
theorem i11_38 : xI 11 38 = some (.aaload) := by decide +kernel
theorem i11_39 : xI 11 39 = some (.astore 5) := by decide +kernel
theorem i11_41 : xI 11 41 = some (.iload_n 3) := by decide +kernel
theorem i11_42 : xI 11 42 = some (.istore 6) := by decide +kernel
theorem i11_44 : xI 11 44 = some (.iload 6) := by decide +kernel
theorem i11_46 : xI 11 46 = some (.ifCond .le 29) := by decide +kernel
theorem i11_49 : xI 11 49 = some (.aload 4) := by decide +kernel
theorem i11_51 : xI 11 51 = some (.getfield 150) := by decide +kernel
theorem i11_54 : xI 11 54 = some (.aload 5) := by decide +kernel
theorem i11_56 : xI 11 56 = some (.getfield 153) := by decide +kernel
theorem i11_59 : xI 11 59 = some (.if_icmp .le 16) := by decide +kernel
theorem i11_62 : xI 11 62 = some (.aload 5) := by decide +kernel
theorem i11_64 : xI 11 64 = some (.aload 4) := by decide +kernel
theorem i11_66 : xI 11 66 = some (.getfield 150) := by decide +kernel
theorem i11_69 : xI 11 69 = some (.invokevirtual 156) := by decide +kernel
theorem i11_72 : xI 11 72 = some (.iinc 6 (-1)) := by decide +kernel
theorem i11_75 : xI 11 75 = some (.iload 6) := by decide +kernel
theorem i11_77 : xI 11 77 = some (.aload 5) := by decide +kernel
theorem i11_79 : xI 11 79 = some (.aload 4) := by decide +kernel
theorem i11_81 : xI 11 81 = some (.iload 6) := by decide +kernel
theorem i11_83 : xI 11 83 = some (.invokevirtual 159) := by decide +kernel
theorem i11_86 : xI 11 86 = some (.isub) := by decide +kernel
theorem i11_87 : xI 11 87 = some (.istore 6) := by decide +kernel
theorem i11_89 : xI 11 89 = some (.iload 6) := by decide +kernel
theorem i11_91 : xI 11 91 = some (.aload 5) := by decide +kernel
theorem i11_93 : xI 11 93 = some (.aload 4) := by decide +kernel
theorem i11_95 : xI 11 95 = some (.iload 6) := by decide +kernel
theorem i11_97 : xI 11 97 = some (.invokevirtual 163) := by decide +kernel
theorem i11_100 : xI 11 100 = some (.isub) := by decide +kernel
theorem i11_101 : xI 11 101 = some (.istore 6) := by decide +kernel
theorem i11_103 : xI 11 103 = some (.iload_n 3) := by decide +kernel
theorem i11_104 : xI 11 104 = some (.iload 6) := by decide +kernel
theorem i11_106 : xI 11 106 = some (.isub) := by decide +kernel
theorem i11_107 : xI 11 107 = some (.ireturn) := by decide +kernel
-- 12 D_forget
theorem i12_0 : xI 12 0 = some (.iload_n 1) := by decide +kernel
theorem i12_1 : xI 12 1 = some (.invokestatic 71) := by decide +kernel
theorem i12_4 : xI 12 4 = some (.ifCond .eq 7) := by decide +kernel
theorem i12_7 : xI 12 7 = some (.iload_n 2) := by decide +kernel
theorem i12_8 : xI 12 8 = some (.ifCond .ge 5) := by decide +kernel
theorem i12_11 : xI 12 11 = some (.iconst (-1)) := by decide +kernel
theorem i12_12 : xI 12 12 = some (.ireturn) := by decide +kernel
theorem i12_13 : xI 12 13 = some (.aload_n 0) := by decide +kernel
theorem i12_14 : xI 12 14 = some (.getfield 37) := by decide +kernel
theorem i12_17 : xI 12 17 = some (.iload_n 1) := by decide +kernel
theorem i12_18 : xI 12 18 = some (.aaload) := by decide +kernel
theorem i12_19 : xI 12 19 = some (.astore_n 3) := by decide +kernel
theorem i12_20 : xI 12 20 = some (.aload_n 3) := by decide +kernel
theorem i12_21 : xI 12 21 = some (.dup) := by decide +kernel
theorem i12_22 : xI 12 22 = some (.getfield 150) := by decide +kernel
theorem i12_25 : xI 12 25 = some (.iload_n 2) := by decide +kernel
theorem i12_26 : xI 12 26 = some (.aload_n 3) := by decide +kernel
theorem i12_27 : xI 12 27 = some (.getfield 153) := by decide +kernel
theorem i12_30 : xI 12 30 = some (.aload_n 3) := by decide +kernel
theorem i12_31 : xI 12 31 = some (.getfield 150) := by decide +kernel
theorem i12_34 : xI 12 34 = some (.isub) := by decide +kernel
theorem i12_35 : xI 12 35 = some (.invokestatic 138) := by decide +kernel
theorem i12_38 : xI 12 38 = some (.iadd) := by decide +kernel
theorem i12_39 : xI 12 39 = some (.putfield 150) := by decide +kernel
theorem i12_42 : xI 12 42 = some (.aload_n 3) := by decide +kernel
theorem i12_43 : xI 12 43 = some (.getfield 150) := by decide +kernel
theorem i12_46 : xI 12 46 = some (.ireturn) := by decide +kernel
-- 13 D_cell
theorem i13_0 : xI 13 0 = some (.iload_n 1) := by decide +kernel
theorem i13_1 : xI 13 1 = some (.invokestatic 71) := by decide +kernel
theorem i13_4 : xI 13 4 = some (.ifCond .eq 10) := by decide +kernel
theorem i13_7 : xI 13 7 = some (.iload_n 2) := by decide +kernel
theorem i13_8 : xI 13 8 = some (.invokestatic 111) := by decide +kernel
theorem i13_11 : xI 13 11 = some (.ifCond .ne 7) := by decide +kernel
theorem i13_14 : xI 13 14 = some (.ldc2_w 114) := by decide +kernel
theorem i13_17 : xI 13 17 = some (.lreturn) := by decide +kernel
theorem i13_18 : xI 13 18 = some (.aload_n 0) := by decide +kernel
theorem i13_19 : xI 13 19 = some (.getfield 37) := by decide +kernel
theorem i13_22 : xI 13 22 = some (.iload_n 1) := by decide +kernel
theorem i13_23 : xI 13 23 = some (.aaload) := by decide +kernel
theorem i13_24 : xI 13 24 = some (.iload_n 2) := by decide +kernel
theorem i13_25 : xI 13 25 = some (.iload_n 3) := by decide +kernel
theorem i13_26 : xI 13 26 = some (.invokevirtual 125) := by decide +kernel
theorem i13_29 : xI 13 29 = some (.i2l) := by decide +kernel
theorem i13_30 : xI 13 30 = some (.lreturn) := by decide +kernel
-- 14 D_order
theorem i14_0 : xI 14 0 = some (.iload_n 1) := by decide +kernel
theorem i14_1 : xI 14 1 = some (.invokestatic 71) := by decide +kernel
theorem i14_4 : xI 14 4 = some (.ifCond .ne 5) := by decide +kernel
theorem i14_7 : xI 14 7 = some (.iconst (-1)) := by decide +kernel
theorem i14_8 : xI 14 8 = some (.ireturn) := by decide +kernel
theorem i14_9 : xI 14 9 = some (.aload_n 0) := by decide +kernel
theorem i14_10 : xI 14 10 = some (.getfield 37) := by decide +kernel
theorem i14_13 : xI 14 13 = some (.iload_n 1) := by decide +kernel
theorem i14_14 : xI 14 14 = some (.aaload) := by decide +kernel
theorem i14_15 : xI 14 15 = some (.iload_n 2) := by decide +kernel
theorem i14_16 : xI 14 16 = some (.invokevirtual 166) := by decide +kernel
theorem i14_19 : xI 14 19 = some (.ireturn) := by decide +kernel
-- 15 D_outcome
theorem i15_0 : xI 15 0 = some (.iload_n 1) := by decide +kernel
theorem i15_1 : xI 15 1 = some (.invokestatic 71) := by decide +kernel
theorem i15_4 : xI 15 4 = some (.ifCond .ne 5) := by decide +kernel
theorem i15_7 : xI 15 7 = some (.iconst (-1)) := by decide +kernel
theorem i15_8 : xI 15 8 = some (.ireturn) := by decide +kernel
theorem i15_9 : xI 15 9 = some (.aload_n 0) := by decide +kernel
theorem i15_10 : xI 15 10 = some (.getfield 28) := by decide +kernel
theorem i15_13 : xI 15 13 = some (.iload_n 2) := by decide +kernel
theorem i15_14 : xI 15 14 = some (.invokevirtual 170) := by decide +kernel
theorem i15_17 : xI 15 17 = some (.ifCond .ne 6) := by decide +kernel
theorem i15_20 : xI 15 20 = some (.bipush (-2)) := by decide +kernel
theorem i15_22 : xI 15 22 = some (.ireturn) := by decide +kernel
theorem i15_23 : xI 15 23 = some (.aload_n 0) := by decide +kernel
theorem i15_24 : xI 15 24 = some (.getfield 37) := by decide +kernel
theorem i15_27 : xI 15 27 = some (.iload_n 1) := by decide +kernel
theorem i15_28 : xI 15 28 = some (.aaload) := by decide +kernel
theorem i15_29 : xI 15 29 = some (.iload_n 2) := by decide +kernel
theorem i15_30 : xI 15 30 = some (.invokevirtual 173) := by decide +kernel
theorem i15_33 : xI 15 33 = some (.ireturn) := by decide +kernel
-- 16 D_look
theorem i16_0 : xI 16 0 = some (.iload_n 2) := by decide +kernel
theorem i16_1 : xI 16 1 = some (.ifCond .lt 8) := by decide +kernel
theorem i16_4 : xI 16 4 = some (.iload_n 2) := by decide +kernel
theorem i16_5 : xI 16 5 = some (.iconst 2) := by decide +kernel
theorem i16_6 : xI 16 6 = some (.if_icmp .le 5) := by decide +kernel
theorem i16_9 : xI 16 9 = some (.iconst (-1)) := by decide +kernel
theorem i16_10 : xI 16 10 = some (.ireturn) := by decide +kernel
theorem i16_11 : xI 16 11 = some (.aload_n 0) := by decide +kernel
theorem i16_12 : xI 16 12 = some (.getfield 28) := by decide +kernel
theorem i16_15 : xI 16 15 = some (.iload_n 1) := by decide +kernel
theorem i16_16 : xI 16 16 = some (.invokevirtual 170) := by decide +kernel
theorem i16_19 : xI 16 19 = some (.ifCond .ne 6) := by decide +kernel
theorem i16_22 : xI 16 22 = some (.bipush (-2)) := by decide +kernel
theorem i16_24 : xI 16 24 = some (.ireturn) := by decide +kernel
theorem i16_25 : xI 16 25 = some (.aload_n 0) := by decide +kernel
theorem i16_26 : xI 16 26 = some (.getfield 28) := by decide +kernel
theorem i16_29 : xI 16 29 = some (.getfield 176) := by decide +kernel
theorem i16_32 : xI 16 32 = some (.iload_n 1) := by decide +kernel
theorem i16_33 : xI 16 33 = some (.aaload) := by decide +kernel
theorem i16_34 : xI 16 34 = some (.astore_n 3) := by decide +kernel
theorem i16_35 : xI 16 35 = some (.iload_n 2) := by decide +kernel
theorem i16_36 : xI 16 36 = some (.lookupswitch 38 #[(0, 28), (1, 33)]) := by decide +kernel
theorem i16_64 : xI 16 64 = some (.aload_n 3) := by decide +kernel
theorem i16_65 : xI 16 65 = some (.getfield 180) := by decide +kernel
theorem i16_68 : xI 16 68 = some (.ireturn) := by decide +kernel
theorem i16_69 : xI 16 69 = some (.aload_n 3) := by decide +kernel
theorem i16_70 : xI 16 70 = some (.getfield 183) := by decide +kernel
theorem i16_73 : xI 16 73 = some (.ireturn) := by decide +kernel
theorem i16_74 : xI 16 74 = some (.aload_n 3) := by decide +kernel
theorem i16_75 : xI 16 75 = some (.getfield 186) := by decide +kernel
theorem i16_78 : xI 16 78 = some (.ireturn) := by decide +kernel
-- 17 D_stamp
theorem i17_0 : xI 17 0 = some (.iload_n 3) := by decide +kernel
theorem i17_1 : xI 17 1 = some (.invokestatic 71) := by decide +kernel
theorem i17_4 : xI 17 4 = some (.ifCond .ne 5) := by decide +kernel
theorem i17_7 : xI 17 7 = some (.iconst (-1)) := by decide +kernel
theorem i17_8 : xI 17 8 = some (.ireturn) := by decide +kernel
theorem i17_9 : xI 17 9 = some (.iload_n 1) := by decide +kernel
theorem i17_10 : xI 17 10 = some (.ifCond .ne 22) := by decide +kernel
theorem i17_13 : xI 17 13 = some (.iload_n 2) := by decide +kernel
theorem i17_14 : xI 17 14 = some (.invokestatic 71) := by decide +kernel
theorem i17_17 : xI 17 17 = some (.ifCond .eq 15) := by decide +kernel
theorem i17_20 : xI 17 20 = some (.aload_n 0) := by decide +kernel
theorem i17_21 : xI 17 21 = some (.getfield 37) := by decide +kernel
theorem i17_24 : xI 17 24 = some (.iload_n 2) := by decide +kernel
theorem i17_25 : xI 17 25 = some (.aaload) := by decide +kernel
theorem i17_26 : xI 17 26 = some (.getfield 189) := by decide +kernel
theorem i17_29 : xI 17 29 = some (.iload_n 3) := by decide +kernel
theorem i17_30 : xI 17 30 = some (.iaload) := by decide +kernel
theorem i17_31 : xI 17 31 = some (.ireturn) := by decide +kernel
theorem i17_32 : xI 17 32 = some (.iload_n 1) := by decide +kernel
theorem i17_33 : xI 17 33 = some (.iconst 1) := by decide +kernel
theorem i17_34 : xI 17 34 = some (.if_icmp .ne 22) := by decide +kernel
theorem i17_37 : xI 17 37 = some (.iload_n 2) := by decide +kernel
theorem i17_38 : xI 17 38 = some (.invokestatic 75) := by decide +kernel
theorem i17_41 : xI 17 41 = some (.ifCond .eq 15) := by decide +kernel
theorem i17_44 : xI 17 44 = some (.aload_n 0) := by decide +kernel
theorem i17_45 : xI 17 45 = some (.getfield 46) := by decide +kernel
theorem i17_48 : xI 17 48 = some (.iload_n 2) := by decide +kernel
theorem i17_49 : xI 17 49 = some (.aaload) := by decide +kernel
theorem i17_50 : xI 17 50 = some (.getfield 192) := by decide +kernel
theorem i17_53 : xI 17 53 = some (.iload_n 3) := by decide +kernel
theorem i17_54 : xI 17 54 = some (.iaload) := by decide +kernel
theorem i17_55 : xI 17 55 = some (.ireturn) := by decide +kernel
theorem i17_56 : xI 17 56 = some (.iload_n 1) := by decide +kernel
theorem i17_57 : xI 17 57 = some (.iconst 2) := by decide +kernel
theorem i17_58 : xI 17 58 = some (.if_icmp .ne 22) := by decide +kernel
theorem i17_61 : xI 17 61 = some (.iload_n 2) := by decide +kernel
theorem i17_62 : xI 17 62 = some (.invokestatic 75) := by decide +kernel
theorem i17_65 : xI 17 65 = some (.ifCond .eq 15) := by decide +kernel
theorem i17_68 : xI 17 68 = some (.aload_n 0) := by decide +kernel
theorem i17_69 : xI 17 69 = some (.getfield 46) := by decide +kernel
theorem i17_72 : xI 17 72 = some (.iload_n 2) := by decide +kernel
theorem i17_73 : xI 17 73 = some (.aaload) := by decide +kernel
theorem i17_74 : xI 17 74 = some (.getfield 107) := by decide +kernel
theorem i17_77 : xI 17 77 = some (.iload_n 3) := by decide +kernel
theorem i17_78 : xI 17 78 = some (.iaload) := by decide +kernel
theorem i17_79 : xI 17 79 = some (.ireturn) := by decide +kernel
theorem i17_80 : xI 17 80 = some (.iconst (-1)) := by decide +kernel
theorem i17_81 : xI 17 81 = some (.ireturn) := by decide +kernel
-- 18 D_count
theorem i18_0 : xI 18 0 = some (.iload_n 1) := by decide +kernel
theorem i18_1 : xI 18 1 = some (.invokestatic 71) := by decide +kernel
theorem i18_4 : xI 18 4 = some (.ifCond .ne 5) := by decide +kernel
theorem i18_7 : xI 18 7 = some (.iconst (-1)) := by decide +kernel
theorem i18_8 : xI 18 8 = some (.ireturn) := by decide +kernel
theorem i18_9 : xI 18 9 = some (.aload_n 0) := by decide +kernel
theorem i18_10 : xI 18 10 = some (.getfield 37) := by decide +kernel
theorem i18_13 : xI 18 13 = some (.iload_n 1) := by decide +kernel
theorem i18_14 : xI 18 14 = some (.aaload) := by decide +kernel
theorem i18_15 : xI 18 15 = some (.astore_n 3) := by decide +kernel
theorem i18_16 : xI 18 16 = some (.iload_n 2) := by decide +kernel
theorem i18_17 : xI 18 17 = some (.tableswitch 56 0 3 #[31, 41, 46, 51]) := by decide +kernel
theorem i18_48 : xI 18 48 = some (.aload_n 3) := by decide +kernel
theorem i18_49 : xI 18 49 = some (.getfield 153) := by decide +kernel
theorem i18_52 : xI 18 52 = some (.aload_n 3) := by decide +kernel
theorem i18_53 : xI 18 53 = some (.getfield 135) := by decide +kernel
theorem i18_56 : xI 18 56 = some (.iadd) := by decide +kernel
theorem i18_57 : xI 18 57 = some (.ireturn) := by decide +kernel
theorem i18_58 : xI 18 58 = some (.aload_n 3) := by decide +kernel
theorem i18_59 : xI 18 59 = some (.getfield 153) := by decide +kernel
theorem i18_62 : xI 18 62 = some (.ireturn) := by decide +kernel
theorem i18_63 : xI 18 63 = some (.aload_n 3) := by decide +kernel
theorem i18_64 : xI 18 64 = some (.getfield 150) := by decide +kernel
theorem i18_67 : xI 18 67 = some (.ireturn) := by decide +kernel
theorem i18_68 : xI 18 68 = some (.aload_n 3) := by decide +kernel
theorem i18_69 : xI 18 69 = some (.getfield 86) := by decide +kernel
theorem i18_72 : xI 18 72 = some (.ireturn) := by decide +kernel
theorem i18_73 : xI 18 73 = some (.iconst (-1)) := by decide +kernel
theorem i18_74 : xI 18 74 = some (.ireturn) := by decide +kernel
-- 19 D_writes
theorem i19_0 : xI 19 0 = some (.aload_n 0) := by decide +kernel
theorem i19_1 : xI 19 1 = some (.getfield 28) := by decide +kernel
theorem i19_4 : xI 19 4 = some (.getfield 79) := by decide +kernel
theorem i19_7 : xI 19 7 = some (.ireturn) := by decide +kernel
-- 20 Ta_init
theorem i20_0 : xI 20 0 = some (.aload_n 0) := by decide +kernel
theorem i20_1 : xI 20 1 = some (.invokespecial 3) := by decide +kernel
theorem i20_4 : xI 20 4 = some (.aload_n 0) := by decide +kernel
theorem i20_5 : xI 20 5 = some (.sipush 400) := by decide +kernel
theorem i20_8 : xI 20 8 = some (.newarray .int) := by decide +kernel
theorem i20_10 : xI 20 10 = some (.putfield 9) := by decide +kernel
theorem i20_13 : xI 20 13 = some (.aload_n 0) := by decide +kernel
theorem i20_14 : xI 20 14 = some (.iconst 0) := by decide +kernel
theorem i20_15 : xI 20 15 = some (.putfield 15) := by decide +kernel
theorem i20_18 : xI 20 18 = some (.return_) := by decide +kernel
-- 21 Ta_addInt
theorem i21_0 : xI 21 0 = some (.bipush 24) := by decide +kernel
theorem i21_2 : xI 21 2 = some (.istore_n 2) := by decide +kernel
theorem i21_3 : xI 21 3 = some (.iload_n 2) := by decide +kernel
theorem i21_4 : xI 21 4 = some (.ifCond .lt 45) := by decide +kernel
theorem i21_7 : xI 21 7 = some (.aload_n 0) := by decide +kernel
theorem i21_8 : xI 21 8 = some (.getfield 15) := by decide +kernel
theorem i21_11 : xI 21 11 = some (.sipush 400) := by decide +kernel
theorem i21_14 : xI 21 14 = some (.if_icmp .ge 35) := by decide +kernel
theorem i21_17 : xI 21 17 = some (.aload_n 0) := by decide +kernel
theorem i21_18 : xI 21 18 = some (.getfield 9) := by decide +kernel
theorem i21_21 : xI 21 21 = some (.aload_n 0) := by decide +kernel
theorem i21_22 : xI 21 22 = some (.getfield 15) := by decide +kernel
theorem i21_25 : xI 21 25 = some (.iload_n 1) := by decide +kernel
theorem i21_26 : xI 21 26 = some (.iload_n 2) := by decide +kernel
theorem i21_27 : xI 21 27 = some (.iushr) := by decide +kernel
theorem i21_28 : xI 21 28 = some (.sipush 255) := by decide +kernel
theorem i21_31 : xI 21 31 = some (.iand) := by decide +kernel
theorem i21_32 : xI 21 32 = some (.iastore) := by decide +kernel
theorem i21_33 : xI 21 33 = some (.aload_n 0) := by decide +kernel
theorem i21_34 : xI 21 34 = some (.dup) := by decide +kernel
theorem i21_35 : xI 21 35 = some (.getfield 15) := by decide +kernel
theorem i21_38 : xI 21 38 = some (.iconst 1) := by decide +kernel
theorem i21_39 : xI 21 39 = some (.iadd) := by decide +kernel
theorem i21_40 : xI 21 40 = some (.putfield 15) := by decide +kernel
theorem i21_43 : xI 21 43 = some (.iinc 2 (-8)) := by decide +kernel
theorem i21_46 : xI 21 46 = some (.goto (-43)) := by decide +kernel
theorem i21_49 : xI 21 49 = some (.return_) := by decide +kernel
-- 22 Co_init
theorem i22_0 : xI 22 0 = some (.aload_n 0) := by decide +kernel
theorem i22_1 : xI 22 1 = some (.invokespecial 5) := by decide +kernel
theorem i22_4 : xI 22 4 = some (.aload_n 0) := by decide +kernel
theorem i22_5 : xI 22 5 = some (.new 11) := by decide +kernel
theorem i22_8 : xI 22 8 = some (.dup) := by decide +kernel
theorem i22_9 : xI 22 9 = some (.invokespecial 13) := by decide +kernel
theorem i22_12 : xI 22 12 = some (.putfield 14) := by decide +kernel
theorem i22_15 : xI 22 15 = some (.aload_n 0) := by decide +kernel
theorem i22_16 : xI 22 16 = some (.sipush 406) := by decide +kernel
theorem i22_19 : xI 22 19 = some (.newarray .int) := by decide +kernel
theorem i22_21 : xI 22 21 = some (.putfield 18) := by decide +kernel
theorem i22_24 : xI 22 24 = some (.aload_n 0) := by decide +kernel
theorem i22_25 : xI 22 25 = some (.sipush 406) := by decide +kernel
theorem i22_28 : xI 22 28 = some (.newarray .int) := by decide +kernel
theorem i22_30 : xI 22 30 = some (.putfield 22) := by decide +kernel
theorem i22_33 : xI 22 33 = some (.aload_n 0) := by decide +kernel
theorem i22_34 : xI 22 34 = some (.iconst 0) := by decide +kernel
theorem i22_35 : xI 22 35 = some (.putfield 25) := by decide +kernel
theorem i22_38 : xI 22 38 = some (.aload_n 0) := by decide +kernel
theorem i22_39 : xI 22 39 = some (.iconst 0) := by decide +kernel
theorem i22_40 : xI 22 40 = some (.putfield 29) := by decide +kernel
theorem i22_43 : xI 22 43 = some (.aload_n 0) := by decide +kernel
theorem i22_44 : xI 22 44 = some (.iconst 0) := by decide +kernel
theorem i22_45 : xI 22 45 = some (.putfield 32) := by decide +kernel
theorem i22_48 : xI 22 48 = some (.aload_n 0) := by decide +kernel
theorem i22_49 : xI 22 49 = some (.bipush (-2)) := by decide +kernel
theorem i22_51 : xI 22 51 = some (.putfield 35) := by decide +kernel
theorem i22_54 : xI 22 54 = some (.aload_n 0) := by decide +kernel
theorem i22_55 : xI 22 55 = some (.aload_n 1) := by decide +kernel
theorem i22_56 : xI 22 56 = some (.putfield 38) := by decide +kernel
theorem i22_59 : xI 22 59 = some (.return_) := by decide +kernel
-- 23 Co_compile
theorem i23_0 : xI 23 0 = some (.aload_n 0) := by decide +kernel
theorem i23_1 : xI 23 1 = some (.getfield 14) := by decide +kernel
theorem i23_4 : xI 23 4 = some (.aload_n 0) := by decide +kernel
theorem i23_5 : xI 23 5 = some (.getfield 38) := by decide +kernel
theorem i23_8 : xI 23 8 = some (.invokevirtual 42) := by decide +kernel
theorem i23_11 : xI 23 11 = some (.aload_n 0) := by decide +kernel
theorem i23_12 : xI 23 12 = some (.iconst 0) := by decide +kernel
theorem i23_13 : xI 23 13 = some (.putfield 25) := by decide +kernel
theorem i23_16 : xI 23 16 = some (.aload_n 0) := by decide +kernel
theorem i23_17 : xI 23 17 = some (.iconst 0) := by decide +kernel
theorem i23_18 : xI 23 18 = some (.putfield 29) := by decide +kernel
theorem i23_21 : xI 23 21 = some (.aload_n 0) := by decide +kernel
theorem i23_22 : xI 23 22 = some (.iconst 0) := by decide +kernel
theorem i23_23 : xI 23 23 = some (.putfield 32) := by decide +kernel
theorem i23_26 : xI 23 26 = some (.aload_n 0) := by decide +kernel
theorem i23_27 : xI 23 27 = some (.bipush (-2)) := by decide +kernel
theorem i23_29 : xI 23 29 = some (.putfield 35) := by decide +kernel
theorem i23_32 : xI 23 32 = some (.iconst 1) := by decide +kernel
theorem i23_33 : xI 23 33 = some (.istore_n 1) := by decide +kernel
theorem i23_34 : xI 23 34 = some (.iconst 1) := by decide +kernel
theorem i23_35 : xI 23 35 = some (.istore_n 2) := by decide +kernel
theorem i23_36 : xI 23 36 = some (.iload_n 1) := by decide +kernel
theorem i23_37 : xI 23 37 = some (.ifCond .eq 43) := by decide +kernel
theorem i23_40 : xI 23 40 = some (.iload_n 2) := by decide +kernel
theorem i23_41 : xI 23 41 = some (.bipush 6) := by decide +kernel
theorem i23_43 : xI 23 43 = some (.if_icmp .gt 37) := by decide +kernel
theorem i23_46 : xI 23 46 = some (.aload_n 0) := by decide +kernel
theorem i23_47 : xI 23 47 = some (.iconst 2) := by decide +kernel
theorem i23_48 : xI 23 48 = some (.invokevirtual 48) := by decide +kernel
theorem i23_51 : xI 23 51 = some (.ifCond .eq 7) := by decide +kernel
theorem i23_54 : xI 23 54 = some (.aload_n 0) := by decide +kernel
theorem i23_55 : xI 23 55 = some (.invokevirtual 52) := by decide +kernel
theorem i23_58 : xI 23 58 = some (.aload_n 0) := by decide +kernel
theorem i23_59 : xI 23 59 = some (.invokevirtual 55) := by decide +kernel
theorem i23_62 : xI 23 62 = some (.aload_n 0) := by decide +kernel
theorem i23_63 : xI 23 63 = some (.iconst (-1)) := by decide +kernel
theorem i23_64 : xI 23 64 = some (.iload_n 2) := by decide +kernel
theorem i23_65 : xI 23 65 = some (.invokevirtual 60) := by decide +kernel
theorem i23_68 : xI 23 68 = some (.aload_n 0) := by decide +kernel
theorem i23_69 : xI 23 69 = some (.iconst 4) := by decide +kernel
theorem i23_70 : xI 23 70 = some (.invokevirtual 48) := by decide +kernel
theorem i23_73 : xI 23 73 = some (.istore_n 1) := by decide +kernel
theorem i23_74 : xI 23 74 = some (.iinc 2 1) := by decide +kernel
theorem i23_77 : xI 23 77 = some (.goto (-41)) := by decide +kernel
theorem i23_80 : xI 23 80 = some (.iload_n 1) := by decide +kernel
theorem i23_81 : xI 23 81 = some (.ifCond .ne 10) := by decide +kernel
theorem i23_84 : xI 23 84 = some (.aload_n 0) := by decide +kernel
theorem i23_85 : xI 23 85 = some (.invokevirtual 64) := by decide +kernel
theorem i23_88 : xI 23 88 = some (.ifCond .eq 7) := by decide +kernel
theorem i23_91 : xI 23 91 = some (.aload_n 0) := by decide +kernel
theorem i23_92 : xI 23 92 = some (.invokevirtual 68) := by decide +kernel
theorem i23_95 : xI 23 95 = some (.aload_n 0) := by decide +kernel
theorem i23_96 : xI 23 96 = some (.getfield 35) := by decide +kernel
theorem i23_99 : xI 23 99 = some (.ireturn) := by decide +kernel
-- 24 Co_accept
theorem i24_0 : xI 24 0 = some (.aload_n 0) := by decide +kernel
theorem i24_1 : xI 24 1 = some (.getfield 35) := by decide +kernel
theorem i24_4 : xI 24 4 = some (.bipush (-2)) := by decide +kernel
theorem i24_6 : xI 24 6 = some (.if_icmp .ne 35) := by decide +kernel
theorem i24_9 : xI 24 9 = some (.aload_n 0) := by decide +kernel
theorem i24_10 : xI 24 10 = some (.getfield 14) := by decide +kernel
theorem i24_13 : xI 24 13 = some (.getfield 104) := by decide +kernel
theorem i24_16 : xI 24 16 = some (.aload_n 0) := by decide +kernel
theorem i24_17 : xI 24 17 = some (.getfield 29) := by decide +kernel
theorem i24_20 : xI 24 20 = some (.iaload) := by decide +kernel
theorem i24_21 : xI 24 21 = some (.iload_n 1) := by decide +kernel
theorem i24_22 : xI 24 22 = some (.if_icmp .ne 19) := by decide +kernel
theorem i24_25 : xI 24 25 = some (.aload_n 0) := by decide +kernel
theorem i24_26 : xI 24 26 = some (.getfield 29) := by decide +kernel
theorem i24_29 : xI 24 29 = some (.iconst 1) := by decide +kernel
theorem i24_30 : xI 24 30 = some (.iadd) := by decide +kernel
theorem i24_31 : xI 24 31 = some (.aload_n 0) := by decide +kernel
theorem i24_32 : xI 24 32 = some (.getfield 14) := by decide +kernel
theorem i24_35 : xI 24 35 = some (.getfield 107) := by decide +kernel
theorem i24_38 : xI 24 38 = some (.if_icmp .lt 5) := by decide +kernel
theorem i24_41 : xI 24 41 = some (.iconst 0) := by decide +kernel
theorem i24_42 : xI 24 42 = some (.ireturn) := by decide +kernel
theorem i24_43 : xI 24 43 = some (.aload_n 0) := by decide +kernel
theorem i24_44 : xI 24 44 = some (.dup) := by decide +kernel
theorem i24_45 : xI 24 45 = some (.getfield 29) := by decide +kernel
theorem i24_48 : xI 24 48 = some (.iconst 1) := by decide +kernel
theorem i24_49 : xI 24 49 = some (.iadd) := by decide +kernel
theorem i24_50 : xI 24 50 = some (.putfield 29) := by decide +kernel
theorem i24_53 : xI 24 53 = some (.iconst 1) := by decide +kernel
theorem i24_54 : xI 24 54 = some (.ireturn) := by decide +kernel
-- 25 Co_parseTest
theorem i25_0 : xI 25 0 = some (.iconst 1) := by decide +kernel
theorem i25_1 : xI 25 1 = some (.istore_n 1) := by decide +kernel
theorem i25_2 : xI 25 2 = some (.iconst 0) := by decide +kernel
theorem i25_3 : xI 25 3 = some (.istore_n 2) := by decide +kernel
theorem i25_4 : xI 25 4 = some (.iload_n 1) := by decide +kernel
theorem i25_5 : xI 25 5 = some (.ifCond .eq 80) := by decide +kernel
theorem i25_8 : xI 25 8 = some (.iload_n 2) := by decide +kernel
theorem i25_9 : xI 25 9 = some (.sipush 400) := by decide +kernel
theorem i25_12 : xI 25 12 = some (.if_icmp .ge 73) := by decide +kernel
theorem i25_15 : xI 25 15 = some (.aload_n 0) := by decide +kernel
theorem i25_16 : xI 25 16 = some (.iconst 0) := by decide +kernel
theorem i25_17 : xI 25 17 = some (.invokevirtual 80) := by decide +kernel
theorem i25_20 : xI 25 20 = some (.aload_n 0) := by decide +kernel
theorem i25_21 : xI 25 21 = some (.invokevirtual 64) := by decide +kernel
theorem i25_24 : xI 25 24 = some (.istore_n 3) := by decide +kernel
theorem i25_25 : xI 25 25 = some (.iload_n 3) := by decide +kernel
theorem i25_26 : xI 25 26 = some (.bipush 10) := by decide +kernel
theorem i25_28 : xI 25 28 = some (.if_icmp .eq 21) := by decide +kernel
theorem i25_31 : xI 25 31 = some (.iload_n 3) := by decide +kernel
theorem i25_32 : xI 25 32 = some (.bipush 11) := by decide +kernel
theorem i25_34 : xI 25 34 = some (.if_icmp .eq 15) := by decide +kernel
theorem i25_37 : xI 25 37 = some (.iload_n 3) := by decide +kernel
theorem i25_38 : xI 25 38 = some (.bipush 12) := by decide +kernel
theorem i25_40 : xI 25 40 = some (.if_icmp .eq 9) := by decide +kernel
theorem i25_43 : xI 25 43 = some (.iload_n 3) := by decide +kernel
theorem i25_44 : xI 25 44 = some (.bipush 13) := by decide +kernel
theorem i25_46 : xI 25 46 = some (.if_icmp .ne 12) := by decide +kernel
theorem i25_49 : xI 25 49 = some (.aload_n 0) := by decide +kernel
theorem i25_50 : xI 25 50 = some (.iload_n 3) := by decide +kernel
theorem i25_51 : xI 25 51 = some (.invokevirtual 48) := by decide +kernel
theorem i25_54 : xI 25 54 = some (.pop) := by decide +kernel
theorem i25_55 : xI 25 55 = some (.goto 7) := by decide +kernel
theorem i25_58 : xI 25 58 = some (.aload_n 0) := by decide +kernel
theorem i25_59 : xI 25 59 = some (.invokevirtual 68) := by decide +kernel
theorem i25_62 : xI 25 62 = some (.aload_n 0) := by decide +kernel
theorem i25_63 : xI 25 63 = some (.iconst 0) := by decide +kernel
theorem i25_64 : xI 25 64 = some (.invokevirtual 80) := by decide +kernel
theorem i25_67 : xI 25 67 = some (.aload_n 0) := by decide +kernel
theorem i25_68 : xI 25 68 = some (.iload_n 3) := by decide +kernel
theorem i25_69 : xI 25 69 = some (.iconst 0) := by decide +kernel
theorem i25_70 : xI 25 70 = some (.invokevirtual 60) := by decide +kernel
theorem i25_73 : xI 25 73 = some (.aload_n 0) := by decide +kernel
theorem i25_74 : xI 25 74 = some (.iconst 5) := by decide +kernel
theorem i25_75 : xI 25 75 = some (.invokevirtual 48) := by decide +kernel
theorem i25_78 : xI 25 78 = some (.istore_n 1) := by decide +kernel
theorem i25_79 : xI 25 79 = some (.iinc 2 1) := by decide +kernel
theorem i25_82 : xI 25 82 = some (.goto (-78)) := by decide +kernel
theorem i25_85 : xI 25 85 = some (.aload_n 0) := by decide +kernel
theorem i25_86 : xI 25 86 = some (.iconst 3) := by decide +kernel
theorem i25_87 : xI 25 87 = some (.invokevirtual 84) := by decide +kernel
theorem i25_90 : xI 25 90 = some (.return_) := by decide +kernel
-- 26 Co_parseSum
theorem i26_0 : xI 26 0 = some (.aload_n 0) := by decide +kernel
theorem i26_1 : xI 26 1 = some (.iload_n 1) := by decide +kernel
theorem i26_2 : xI 26 2 = some (.invokevirtual 92) := by decide +kernel
theorem i26_5 : xI 26 5 = some (.iconst 1) := by decide +kernel
theorem i26_6 : xI 26 6 = some (.istore_n 2) := by decide +kernel
theorem i26_7 : xI 26 7 = some (.iconst 0) := by decide +kernel
theorem i26_8 : xI 26 8 = some (.istore_n 3) := by decide +kernel
theorem i26_9 : xI 26 9 = some (.iload_n 2) := by decide +kernel
theorem i26_10 : xI 26 10 = some (.ifCond .eq 67) := by decide +kernel
theorem i26_13 : xI 26 13 = some (.iload_n 3) := by decide +kernel
theorem i26_14 : xI 26 14 = some (.sipush 400) := by decide +kernel
theorem i26_17 : xI 26 17 = some (.if_icmp .ge 60) := by decide +kernel
theorem i26_20 : xI 26 20 = some (.aload_n 0) := by decide +kernel
theorem i26_21 : xI 26 21 = some (.invokevirtual 64) := by decide +kernel
theorem i26_24 : xI 26 24 = some (.istore 4) := by decide +kernel
theorem i26_26 : xI 26 26 = some (.iload 4) := by decide +kernel
theorem i26_28 : xI 26 28 = some (.bipush 14) := by decide +kernel
theorem i26_30 : xI 26 30 = some (.if_icmp .eq 10) := by decide +kernel
theorem i26_33 : xI 26 33 = some (.iload 4) := by decide +kernel
theorem i26_35 : xI 26 35 = some (.bipush 15) := by decide +kernel
theorem i26_37 : xI 26 37 = some (.if_icmp .ne 16) := by decide +kernel
theorem i26_40 : xI 26 40 = some (.aload_n 0) := by decide +kernel
theorem i26_41 : xI 26 41 = some (.iload 4) := by decide +kernel
theorem i26_43 : xI 26 43 = some (.invokevirtual 48) := by decide +kernel
theorem i26_46 : xI 26 46 = some (.ifCond .eq 7) := by decide +kernel
theorem i26_49 : xI 26 49 = some (.iconst 1) := by decide +kernel
theorem i26_50 : xI 26 50 = some (.goto 4) := by decide +kernel
theorem i26_53 : xI 26 53 = some (.iconst 0) := by decide +kernel
theorem i26_54 : xI 26 54 = some (.istore_n 2) := by decide +kernel
theorem i26_55 : xI 26 55 = some (.iload_n 2) := by decide +kernel
theorem i26_56 : xI 26 56 = some (.ifCond .eq 15) := by decide +kernel
theorem i26_59 : xI 26 59 = some (.aload_n 0) := by decide +kernel
theorem i26_60 : xI 26 60 = some (.iload_n 1) := by decide +kernel
theorem i26_61 : xI 26 61 = some (.invokevirtual 92) := by decide +kernel
theorem i26_64 : xI 26 64 = some (.aload_n 0) := by decide +kernel
theorem i26_65 : xI 26 65 = some (.iload 4) := by decide +kernel
theorem i26_67 : xI 26 67 = some (.iconst 0) := by decide +kernel
theorem i26_68 : xI 26 68 = some (.invokevirtual 60) := by decide +kernel
theorem i26_71 : xI 26 71 = some (.iinc 3 1) := by decide +kernel
theorem i26_74 : xI 26 74 = some (.goto (-65)) := by decide +kernel
theorem i26_77 : xI 26 77 = some (.return_) := by decide +kernel
-- 27 Co_parseTerm
theorem i27_0 : xI 27 0 = some (.aload_n 0) := by decide +kernel
theorem i27_1 : xI 27 1 = some (.iload_n 1) := by decide +kernel
theorem i27_2 : xI 27 2 = some (.invokevirtual 95) := by decide +kernel
theorem i27_5 : xI 27 5 = some (.iconst 1) := by decide +kernel
theorem i27_6 : xI 27 6 = some (.istore_n 2) := by decide +kernel
theorem i27_7 : xI 27 7 = some (.iconst 0) := by decide +kernel
theorem i27_8 : xI 27 8 = some (.istore_n 3) := by decide +kernel
theorem i27_9 : xI 27 9 = some (.iload_n 2) := by decide +kernel
theorem i27_10 : xI 27 10 = some (.ifCond .eq 39) := by decide +kernel
theorem i27_13 : xI 27 13 = some (.iload_n 3) := by decide +kernel
theorem i27_14 : xI 27 14 = some (.sipush 400) := by decide +kernel
theorem i27_17 : xI 27 17 = some (.if_icmp .ge 32) := by decide +kernel
theorem i27_20 : xI 27 20 = some (.aload_n 0) := by decide +kernel
theorem i27_21 : xI 27 21 = some (.bipush 16) := by decide +kernel
theorem i27_23 : xI 27 23 = some (.invokevirtual 48) := by decide +kernel
theorem i27_26 : xI 27 26 = some (.istore_n 2) := by decide +kernel
theorem i27_27 : xI 27 27 = some (.iload_n 2) := by decide +kernel
theorem i27_28 : xI 27 28 = some (.ifCond .eq 15) := by decide +kernel
theorem i27_31 : xI 27 31 = some (.aload_n 0) := by decide +kernel
theorem i27_32 : xI 27 32 = some (.iload_n 1) := by decide +kernel
theorem i27_33 : xI 27 33 = some (.invokevirtual 95) := by decide +kernel
theorem i27_36 : xI 27 36 = some (.aload_n 0) := by decide +kernel
theorem i27_37 : xI 27 37 = some (.bipush 16) := by decide +kernel
theorem i27_39 : xI 27 39 = some (.iconst 0) := by decide +kernel
theorem i27_40 : xI 27 40 = some (.invokevirtual 60) := by decide +kernel
theorem i27_43 : xI 27 43 = some (.iinc 3 1) := by decide +kernel
theorem i27_46 : xI 27 46 = some (.goto (-37)) := by decide +kernel
theorem i27_49 : xI 27 49 = some (.return_) := by decide +kernel
-- 28 Co_parsePart
theorem i28_0 : xI 28 0 = some (.iload_n 1) := by decide +kernel
theorem i28_1 : xI 28 1 = some (.bipush 6) := by decide +kernel
theorem i28_3 : xI 28 3 = some (.if_icmp .ge 26) := by decide +kernel
theorem i28_6 : xI 28 6 = some (.aload_n 0) := by decide +kernel
theorem i28_7 : xI 28 7 = some (.bipush 19) := by decide +kernel
theorem i28_9 : xI 28 9 = some (.invokevirtual 48) := by decide +kernel
theorem i28_12 : xI 28 12 = some (.ifCond .eq 17) := by decide +kernel
theorem i28_15 : xI 28 15 = some (.aload_n 0) := by decide +kernel
theorem i28_16 : xI 28 16 = some (.iload_n 1) := by decide +kernel
theorem i28_17 : xI 28 17 = some (.iconst 1) := by decide +kernel
theorem i28_18 : xI 28 18 = some (.iadd) := by decide +kernel
theorem i28_19 : xI 28 19 = some (.invokevirtual 80) := by decide +kernel
theorem i28_22 : xI 28 22 = some (.aload_n 0) := by decide +kernel
theorem i28_23 : xI 28 23 = some (.bipush 20) := by decide +kernel
theorem i28_25 : xI 28 25 = some (.invokevirtual 84) := by decide +kernel
theorem i28_28 : xI 28 28 = some (.return_) := by decide +kernel
theorem i28_29 : xI 28 29 = some (.aload_n 0) := by decide +kernel
theorem i28_30 : xI 28 30 = some (.invokevirtual 64) := by decide +kernel
theorem i28_33 : xI 28 33 = some (.istore_n 2) := by decide +kernel
theorem i28_34 : xI 28 34 = some (.aload_n 0) := by decide +kernel
theorem i28_35 : xI 28 35 = some (.getfield 32) := by decide +kernel
theorem i28_38 : xI 28 38 = some (.bipush 80) := by decide +kernel
theorem i28_40 : xI 28 40 = some (.if_icmp .lt 8) := by decide +kernel
theorem i28_43 : xI 28 43 = some (.aload_n 0) := by decide +kernel
theorem i28_44 : xI 28 44 = some (.invokevirtual 68) := by decide +kernel
theorem i28_47 : xI 28 47 = some (.return_) := by decide +kernel
theorem i28_48 : xI 28 48 = some (.aload_n 0) := by decide +kernel
theorem i28_49 : xI 28 49 = some (.dup) := by decide +kernel
theorem i28_50 : xI 28 50 = some (.getfield 32) := by decide +kernel
theorem i28_53 : xI 28 53 = some (.iconst 1) := by decide +kernel
theorem i28_54 : xI 28 54 = some (.iadd) := by decide +kernel
theorem i28_55 : xI 28 55 = some (.putfield 32) := by decide +kernel
theorem i28_58 : xI 28 58 = some (.iload_n 2) := by decide +kernel
theorem i28_59 : xI 28 59 = some (.bipush 8) := by decide +kernel
theorem i28_61 : xI 28 61 = some (.if_icmp .ne 23) := by decide +kernel
theorem i28_64 : xI 28 64 = some (.aload_n 0) := by decide +kernel
theorem i28_65 : xI 28 65 = some (.bipush 8) := by decide +kernel
