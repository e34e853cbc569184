/-! ===== which instruction stands where (wip/gen/lay16.py) ===== -/
theorem i103_32 : xI 103 32 = some (.istore 4) := by decide +kernel
theorem i103_34 : xI 103 34 = some (.iload 4) := by decide +kernel
theorem i103_36 : xI 103 36 = some (.iload_n 3) := by decide +kernel
theorem i103_37 : xI 103 37 = some (.if_icmp .ge 21) := by decide +kernel
theorem i103_40 : xI 103 40 = some (.aload_n 0) := by decide +kernel
theorem i103_41 : xI 103 41 = some (.aload_n 0) := by decide +kernel
theorem i103_42 : xI 103 42 = some (.getfield 70) := by decide +kernel
theorem i103_45 : xI 103 45 = some (.iload 4) := by decide +kernel
theorem i103_47 : xI 103 47 = some (.iaload) := by decide +kernel
theorem i103_48 : xI 103 48 = some (.invokevirtual 256) := by decide +kernel
theorem i103_51 : xI 103 51 = some (.pop) := by decide +kernel
theorem i103_52 : xI 103 52 = some (.iinc 4 1) := by decide +kernel
theorem i103_55 : xI 103 55 = some (.goto (-21)) := by decide +kernel
theorem i103_58 : xI 103 58 = some (.return_) := by decide +kernel
-- 104 M_arrange
theorem i104_0 : xI 104 0 = some (.aload_n 0) := by decide +kernel
theorem i104_1 : xI 104 1 = some (.iconst 0) := by decide +kernel
theorem i104_2 : xI 104 2 = some (.putfield 236) := by decide +kernel
theorem i104_5 : xI 104 5 = some (.iconst 1) := by decide +kernel
theorem i104_6 : xI 104 6 = some (.istore_n 2) := by decide +kernel
theorem i104_7 : xI 104 7 = some (.iload_n 2) := by decide +kernel
theorem i104_8 : xI 104 8 = some (.aload_n 0) := by decide +kernel
theorem i104_9 : xI 104 9 = some (.getfield 39) := by decide +kernel
theorem i104_12 : xI 104 12 = some (.iload_n 1) := by decide +kernel
theorem i104_13 : xI 104 13 = some (.iaload) := by decide +kernel
theorem i104_14 : xI 104 14 = some (.if_icmp .gt 34) := by decide +kernel
theorem i104_17 : xI 104 17 = some (.aload_n 0) := by decide +kernel
theorem i104_18 : xI 104 18 = some (.getfield 70) := by decide +kernel
theorem i104_21 : xI 104 21 = some (.aload_n 0) := by decide +kernel
theorem i104_22 : xI 104 22 = some (.getfield 236) := by decide +kernel
theorem i104_25 : xI 104 25 = some (.aload_n 0) := by decide +kernel
theorem i104_26 : xI 104 26 = some (.getfield 23) := by decide +kernel
theorem i104_29 : xI 104 29 = some (.iload_n 2) := by decide +kernel
theorem i104_30 : xI 104 30 = some (.iaload) := by decide +kernel
theorem i104_31 : xI 104 31 = some (.iastore) := by decide +kernel
theorem i104_32 : xI 104 32 = some (.aload_n 0) := by decide +kernel
theorem i104_33 : xI 104 33 = some (.dup) := by decide +kernel
theorem i104_34 : xI 104 34 = some (.getfield 236) := by decide +kernel
theorem i104_37 : xI 104 37 = some (.iconst 1) := by decide +kernel
theorem i104_38 : xI 104 38 = some (.iadd) := by decide +kernel
theorem i104_39 : xI 104 39 = some (.putfield 236) := by decide +kernel
theorem i104_42 : xI 104 42 = some (.iinc 2 1) := by decide +kernel
theorem i104_45 : xI 104 45 = some (.goto (-38)) := by decide +kernel
theorem i104_48 : xI 104 48 = some (.iconst 0) := by decide +kernel
theorem i104_49 : xI 104 49 = some (.istore_n 2) := by decide +kernel
theorem i104_50 : xI 104 50 = some (.iload_n 2) := by decide +kernel
theorem i104_51 : xI 104 51 = some (.aload_n 0) := by decide +kernel
theorem i104_52 : xI 104 52 = some (.getfield 239) := by decide +kernel
theorem i104_55 : xI 104 55 = some (.if_icmp .ge 100) := by decide +kernel
theorem i104_58 : xI 104 58 = some (.aload_n 0) := by decide +kernel
theorem i104_59 : xI 104 59 = some (.getfield 33) := by decide +kernel
theorem i104_62 : xI 104 62 = some (.iload_n 1) := by decide +kernel
theorem i104_63 : xI 104 63 = some (.aaload) := by decide +kernel
theorem i104_64 : xI 104 64 = some (.iload_n 2) := by decide +kernel
theorem i104_65 : xI 104 65 = some (.baload) := by decide +kernel
theorem i104_66 : xI 104 66 = some (.ifCond .eq 83) := by decide +kernel
theorem i104_69 : xI 104 69 = some (.aload_n 0) := by decide +kernel
theorem i104_70 : xI 104 70 = some (.iload_n 1) := by decide +kernel
theorem i104_71 : xI 104 71 = some (.iload_n 2) := by decide +kernel
theorem i104_72 : xI 104 72 = some (.invokevirtual 242) := by decide +kernel
theorem i104_75 : xI 104 75 = some (.ifCond .eq 6) := by decide +kernel
theorem i104_78 : xI 104 78 = some (.goto 71) := by decide +kernel
theorem i104_81 : xI 104 81 = some (.aload_n 0) := by decide +kernel
theorem i104_82 : xI 104 82 = some (.getfield 236) := by decide +kernel
theorem i104_85 : xI 104 85 = some (.istore_n 3) := by decide +kernel
theorem i104_86 : xI 104 86 = some (.iload_n 3) := by decide +kernel
theorem i104_87 : xI 104 87 = some (.aload_n 0) := by decide +kernel
theorem i104_88 : xI 104 88 = some (.getfield 39) := by decide +kernel
theorem i104_91 : xI 104 91 = some (.iload_n 1) := by decide +kernel
theorem i104_92 : xI 104 92 = some (.iaload) := by decide +kernel
theorem i104_93 : xI 104 93 = some (.if_icmp .le 39) := by decide +kernel
theorem i104_96 : xI 104 96 = some (.aload_n 0) := by decide +kernel
theorem i104_97 : xI 104 97 = some (.iload_n 2) := by decide +kernel
theorem i104_98 : xI 104 98 = some (.aload_n 0) := by decide +kernel
theorem i104_99 : xI 104 99 = some (.getfield 70) := by decide +kernel
theorem i104_102 : xI 104 102 = some (.iload_n 3) := by decide +kernel
theorem i104_103 : xI 104 103 = some (.iconst 1) := by decide +kernel
theorem i104_104 : xI 104 104 = some (.isub) := by decide +kernel
theorem i104_105 : xI 104 105 = some (.iaload) := by decide +kernel
theorem i104_106 : xI 104 106 = some (.invokevirtual 246) := by decide +kernel
theorem i104_109 : xI 104 109 = some (.ifCond .eq 23) := by decide +kernel
theorem i104_112 : xI 104 112 = some (.aload_n 0) := by decide +kernel
theorem i104_113 : xI 104 113 = some (.getfield 70) := by decide +kernel
theorem i104_116 : xI 104 116 = some (.iload_n 3) := by decide +kernel
theorem i104_117 : xI 104 117 = some (.aload_n 0) := by decide +kernel
theorem i104_118 : xI 104 118 = some (.getfield 70) := by decide +kernel
theorem i104_121 : xI 104 121 = some (.iload_n 3) := by decide +kernel
theorem i104_122 : xI 104 122 = some (.iconst 1) := by decide +kernel
theorem i104_123 : xI 104 123 = some (.isub) := by decide +kernel
theorem i104_124 : xI 104 124 = some (.iaload) := by decide +kernel
theorem i104_125 : xI 104 125 = some (.iastore) := by decide +kernel
theorem i104_126 : xI 104 126 = some (.iinc 3 (-1)) := by decide +kernel
theorem i104_129 : xI 104 129 = some (.goto (-43)) := by decide +kernel
theorem i104_132 : xI 104 132 = some (.aload_n 0) := by decide +kernel
theorem i104_133 : xI 104 133 = some (.getfield 70) := by decide +kernel
theorem i104_136 : xI 104 136 = some (.iload_n 3) := by decide +kernel
theorem i104_137 : xI 104 137 = some (.iload_n 2) := by decide +kernel
theorem i104_138 : xI 104 138 = some (.iastore) := by decide +kernel
theorem i104_139 : xI 104 139 = some (.aload_n 0) := by decide +kernel
theorem i104_140 : xI 104 140 = some (.dup) := by decide +kernel
theorem i104_141 : xI 104 141 = some (.getfield 236) := by decide +kernel
theorem i104_144 : xI 104 144 = some (.iconst 1) := by decide +kernel
theorem i104_145 : xI 104 145 = some (.iadd) := by decide +kernel
theorem i104_146 : xI 104 146 = some (.putfield 236) := by decide +kernel
theorem i104_149 : xI 104 149 = some (.iinc 2 1) := by decide +kernel
theorem i104_152 : xI 104 152 = some (.goto (-102)) := by decide +kernel
theorem i104_155 : xI 104 155 = some (.return_) := by decide +kernel
-- 105 M_isCommitted
theorem i105_0 : xI 105 0 = some (.aload_n 0) := by decide +kernel
theorem i105_1 : xI 105 1 = some (.getfield 20) := by decide +kernel
theorem i105_4 : xI 105 4 = some (.iload_n 2) := by decide +kernel
theorem i105_5 : xI 105 5 = some (.iaload) := by decide +kernel
theorem i105_6 : xI 105 6 = some (.ifCond .le 22) := by decide +kernel
theorem i105_9 : xI 105 9 = some (.aload_n 0) := by decide +kernel
theorem i105_10 : xI 105 10 = some (.getfield 20) := by decide +kernel
theorem i105_13 : xI 105 13 = some (.iload_n 2) := by decide +kernel
theorem i105_14 : xI 105 14 = some (.iaload) := by decide +kernel
theorem i105_15 : xI 105 15 = some (.aload_n 0) := by decide +kernel
theorem i105_16 : xI 105 16 = some (.getfield 39) := by decide +kernel
theorem i105_19 : xI 105 19 = some (.iload_n 1) := by decide +kernel
theorem i105_20 : xI 105 20 = some (.iaload) := by decide +kernel
theorem i105_21 : xI 105 21 = some (.if_icmp .gt 7) := by decide +kernel
theorem i105_24 : xI 105 24 = some (.iconst 1) := by decide +kernel
theorem i105_25 : xI 105 25 = some (.goto 4) := by decide +kernel
theorem i105_28 : xI 105 28 = some (.iconst 0) := by decide +kernel
theorem i105_29 : xI 105 29 = some (.ireturn) := by decide +kernel
-- 106 M_isBefore
theorem i106_0 : xI 106 0 = some (.aload_n 0) := by decide +kernel
theorem i106_1 : xI 106 1 = some (.getfield 17) := by decide +kernel
theorem i106_4 : xI 106 4 = some (.iload_n 1) := by decide +kernel
theorem i106_5 : xI 106 5 = some (.iaload) := by decide +kernel
theorem i106_6 : xI 106 6 = some (.aload_n 0) := by decide +kernel
theorem i106_7 : xI 106 7 = some (.getfield 17) := by decide +kernel
theorem i106_10 : xI 106 10 = some (.iload_n 2) := by decide +kernel
theorem i106_11 : xI 106 11 = some (.iaload) := by decide +kernel
theorem i106_12 : xI 106 12 = some (.if_icmp .eq 26) := by decide +kernel
theorem i106_15 : xI 106 15 = some (.aload_n 0) := by decide +kernel
theorem i106_16 : xI 106 16 = some (.getfield 17) := by decide +kernel
theorem i106_19 : xI 106 19 = some (.iload_n 1) := by decide +kernel
theorem i106_20 : xI 106 20 = some (.iaload) := by decide +kernel
theorem i106_21 : xI 106 21 = some (.aload_n 0) := by decide +kernel
theorem i106_22 : xI 106 22 = some (.getfield 17) := by decide +kernel
theorem i106_25 : xI 106 25 = some (.iload_n 2) := by decide +kernel
theorem i106_26 : xI 106 26 = some (.iaload) := by decide +kernel
theorem i106_27 : xI 106 27 = some (.if_icmp .ge 7) := by decide +kernel
theorem i106_30 : xI 106 30 = some (.iconst 1) := by decide +kernel
theorem i106_31 : xI 106 31 = some (.goto 27) := by decide +kernel
theorem i106_34 : xI 106 34 = some (.iconst 0) := by decide +kernel
theorem i106_35 : xI 106 35 = some (.goto 23) := by decide +kernel
theorem i106_38 : xI 106 38 = some (.aload_n 0) := by decide +kernel
theorem i106_39 : xI 106 39 = some (.getfield 13) := by decide +kernel
theorem i106_42 : xI 106 42 = some (.iload_n 1) := by decide +kernel
theorem i106_43 : xI 106 43 = some (.iaload) := by decide +kernel
theorem i106_44 : xI 106 44 = some (.aload_n 0) := by decide +kernel
theorem i106_45 : xI 106 45 = some (.getfield 13) := by decide +kernel
theorem i106_48 : xI 106 48 = some (.iload_n 2) := by decide +kernel
theorem i106_49 : xI 106 49 = some (.iaload) := by decide +kernel
theorem i106_50 : xI 106 50 = some (.if_icmp .ge 7) := by decide +kernel
theorem i106_53 : xI 106 53 = some (.iconst 1) := by decide +kernel
theorem i106_54 : xI 106 54 = some (.goto 4) := by decide +kernel
theorem i106_57 : xI 106 57 = some (.iconst 0) := by decide +kernel
theorem i106_58 : xI 106 58 = some (.ireturn) := by decide +kernel
-- 107 M_perform
theorem i107_0 : xI 107 0 = some (.aload_n 0) := by decide +kernel
theorem i107_1 : xI 107 1 = some (.getfield 27) := by decide +kernel
theorem i107_4 : xI 107 4 = some (.iload_n 1) := by decide +kernel
theorem i107_5 : xI 107 5 = some (.aaload) := by decide +kernel
theorem i107_6 : xI 107 6 = some (.astore_n 2) := by decide +kernel
theorem i107_7 : xI 107 7 = some (.iconst 1) := by decide +kernel
theorem i107_8 : xI 107 8 = some (.istore_n 3) := by decide +kernel
theorem i107_9 : xI 107 9 = some (.iload_n 3) := by decide +kernel
theorem i107_10 : xI 107 10 = some (.aload_n 2) := by decide +kernel
theorem i107_11 : xI 107 11 = some (.iconst 0) := by decide +kernel
theorem i107_12 : xI 107 12 = some (.iaload) := by decide +kernel
theorem i107_13 : xI 107 13 = some (.if_icmp .gt 133) := by decide +kernel
theorem i107_16 : xI 107 16 = some (.aload_n 0) := by decide +kernel
theorem i107_17 : xI 107 17 = some (.aload_n 2) := by decide +kernel
theorem i107_18 : xI 107 18 = some (.iload_n 3) := by decide +kernel
theorem i107_19 : xI 107 19 = some (.iaload) := by decide +kernel
theorem i107_20 : xI 107 20 = some (.putfield 226) := by decide +kernel
theorem i107_23 : xI 107 23 = some (.aload_n 0) := by decide +kernel
theorem i107_24 : xI 107 24 = some (.iload_n 1) := by decide +kernel
theorem i107_25 : xI 107 25 = some (.invokevirtual 233) := by decide +kernel
theorem i107_28 : xI 107 28 = some (.ifCond .ne 6) := by decide +kernel
theorem i107_31 : xI 107 31 = some (.goto 109) := by decide +kernel
theorem i107_34 : xI 107 34 = some (.aload_n 2) := by decide +kernel
theorem i107_35 : xI 107 35 = some (.aload_n 0) := by decide +kernel
theorem i107_36 : xI 107 36 = some (.getfield 226) := by decide +kernel
theorem i107_39 : xI 107 39 = some (.iaload) := by decide +kernel
theorem i107_40 : xI 107 40 = some (.istore 4) := by decide +kernel
theorem i107_42 : xI 107 42 = some (.aload_n 0) := by decide +kernel
theorem i107_43 : xI 107 43 = some (.dup) := by decide +kernel
theorem i107_44 : xI 107 44 = some (.getfield 226) := by decide +kernel
theorem i107_47 : xI 107 47 = some (.iconst 1) := by decide +kernel
theorem i107_48 : xI 107 48 = some (.iadd) := by decide +kernel
theorem i107_49 : xI 107 49 = some (.putfield 226) := by decide +kernel
theorem i107_52 : xI 107 52 = some (.iconst 0) := by decide +kernel
theorem i107_53 : xI 107 53 = some (.istore 5) := by decide +kernel
theorem i107_55 : xI 107 55 = some (.iload 5) := by decide +kernel
theorem i107_57 : xI 107 57 = some (.iload 4) := by decide +kernel
theorem i107_59 : xI 107 59 = some (.if_icmp .ge 44) := by decide +kernel
theorem i107_62 : xI 107 62 = some (.aload_n 0) := by decide +kernel
theorem i107_63 : xI 107 63 = some (.getfield 67) := by decide +kernel
theorem i107_66 : xI 107 66 = some (.iload 5) := by decide +kernel
theorem i107_68 : xI 107 68 = some (.aload_n 2) := by decide +kernel
theorem i107_69 : xI 107 69 = some (.aload_n 0) := by decide +kernel
theorem i107_70 : xI 107 70 = some (.getfield 226) := by decide +kernel
theorem i107_73 : xI 107 73 = some (.iaload) := by decide +kernel
theorem i107_74 : xI 107 74 = some (.iastore) := by decide +kernel
theorem i107_75 : xI 107 75 = some (.aload_n 0) := by decide +kernel
theorem i107_76 : xI 107 76 = some (.dup) := by decide +kernel
theorem i107_77 : xI 107 77 = some (.getfield 226) := by decide +kernel
theorem i107_80 : xI 107 80 = some (.iconst 1) := by decide +kernel
theorem i107_81 : xI 107 81 = some (.iadd) := by decide +kernel
theorem i107_82 : xI 107 82 = some (.putfield 226) := by decide +kernel
theorem i107_85 : xI 107 85 = some (.aload_n 0) := by decide +kernel
theorem i107_86 : xI 107 86 = some (.getfield 64) := by decide +kernel
theorem i107_89 : xI 107 89 = some (.iload 5) := by decide +kernel
theorem i107_91 : xI 107 91 = some (.aload_n 0) := by decide +kernel
theorem i107_92 : xI 107 92 = some (.iload_n 1) := by decide +kernel
theorem i107_93 : xI 107 93 = some (.invokevirtual 229) := by decide +kernel
theorem i107_96 : xI 107 96 = some (.iastore) := by decide +kernel
theorem i107_97 : xI 107 97 = some (.iinc 5 1) := by decide +kernel
theorem i107_100 : xI 107 100 = some (.goto (-45)) := by decide +kernel
theorem i107_103 : xI 107 103 = some (.iconst 0) := by decide +kernel
theorem i107_104 : xI 107 104 = some (.istore 5) := by decide +kernel
theorem i107_106 : xI 107 106 = some (.iload 5) := by decide +kernel
theorem i107_108 : xI 107 108 = some (.iload 4) := by decide +kernel
theorem i107_110 : xI 107 110 = some (.if_icmp .ge 28) := by decide +kernel
theorem i107_113 : xI 107 113 = some (.aload_n 0) := by decide +kernel
theorem i107_114 : xI 107 114 = some (.getfield 58) := by decide +kernel
theorem i107_117 : xI 107 117 = some (.aload_n 0) := by decide +kernel
theorem i107_118 : xI 107 118 = some (.getfield 67) := by decide +kernel
theorem i107_121 : xI 107 121 = some (.iload 5) := by decide +kernel
theorem i107_123 : xI 107 123 = some (.iaload) := by decide +kernel
theorem i107_124 : xI 107 124 = some (.aload_n 0) := by decide +kernel
theorem i107_125 : xI 107 125 = some (.getfield 64) := by decide +kernel
theorem i107_128 : xI 107 128 = some (.iload 5) := by decide +kernel
theorem i107_130 : xI 107 130 = some (.iaload) := by decide +kernel
theorem i107_131 : xI 107 131 = some (.iastore) := by decide +kernel
theorem i107_132 : xI 107 132 = some (.iinc 5 1) := by decide +kernel
theorem i107_135 : xI 107 135 = some (.goto (-29)) := by decide +kernel
theorem i107_138 : xI 107 138 = some (.iload_n 3) := by decide +kernel
theorem i107_139 : xI 107 139 = some (.ireturn) := by decide +kernel
theorem i107_140 : xI 107 140 = some (.iinc 3 1) := by decide +kernel
theorem i107_143 : xI 107 143 = some (.goto (-134)) := by decide +kernel
theorem i107_146 : xI 107 146 = some (.iconst 0) := by decide +kernel
theorem i107_147 : xI 107 147 = some (.ireturn) := by decide +kernel
-- 108 M_holds
theorem i108_0 : xI 108 0 = some (.aload_n 0) := by decide +kernel
theorem i108_1 : xI 108 1 = some (.getfield 27) := by decide +kernel
theorem i108_4 : xI 108 4 = some (.iload_n 1) := by decide +kernel
theorem i108_5 : xI 108 5 = some (.aaload) := by decide +kernel
theorem i108_6 : xI 108 6 = some (.astore_n 2) := by decide +kernel
theorem i108_7 : xI 108 7 = some (.aload_n 2) := by decide +kernel
theorem i108_8 : xI 108 8 = some (.aload_n 0) := by decide +kernel
theorem i108_9 : xI 108 9 = some (.getfield 226) := by decide +kernel
theorem i108_12 : xI 108 12 = some (.iaload) := by decide +kernel
theorem i108_13 : xI 108 13 = some (.istore_n 3) := by decide +kernel
theorem i108_14 : xI 108 14 = some (.aload_n 0) := by decide +kernel
theorem i108_15 : xI 108 15 = some (.dup) := by decide +kernel
theorem i108_16 : xI 108 16 = some (.getfield 226) := by decide +kernel
theorem i108_19 : xI 108 19 = some (.iconst 1) := by decide +kernel
theorem i108_20 : xI 108 20 = some (.iadd) := by decide +kernel
theorem i108_21 : xI 108 21 = some (.putfield 226) := by decide +kernel
theorem i108_24 : xI 108 24 = some (.iconst 0) := by decide +kernel
theorem i108_25 : xI 108 25 = some (.istore 4) := by decide +kernel
theorem i108_27 : xI 108 27 = some (.iload 4) := by decide +kernel
theorem i108_29 : xI 108 29 = some (.iload_n 3) := by decide +kernel
theorem i108_30 : xI 108 30 = some (.if_icmp .ge 128) := by decide +kernel
theorem i108_33 : xI 108 33 = some (.aload_n 2) := by decide +kernel
theorem i108_34 : xI 108 34 = some (.aload_n 0) := by decide +kernel
theorem i108_35 : xI 108 35 = some (.getfield 226) := by decide +kernel
theorem i108_38 : xI 108 38 = some (.iaload) := by decide +kernel
theorem i108_39 : xI 108 39 = some (.istore 5) := by decide +kernel
theorem i108_41 : xI 108 41 = some (.aload_n 0) := by decide +kernel
theorem i108_42 : xI 108 42 = some (.dup) := by decide +kernel
theorem i108_43 : xI 108 43 = some (.getfield 226) := by decide +kernel
theorem i108_46 : xI 108 46 = some (.iconst 1) := by decide +kernel
theorem i108_47 : xI 108 47 = some (.iadd) := by decide +kernel
theorem i108_48 : xI 108 48 = some (.putfield 226) := by decide +kernel
theorem i108_51 : xI 108 51 = some (.aload_n 0) := by decide +kernel
theorem i108_52 : xI 108 52 = some (.iload_n 1) := by decide +kernel
theorem i108_53 : xI 108 53 = some (.invokevirtual 229) := by decide +kernel
theorem i108_56 : xI 108 56 = some (.istore 6) := by decide +kernel
theorem i108_58 : xI 108 58 = some (.aload_n 0) := by decide +kernel
theorem i108_59 : xI 108 59 = some (.iload_n 1) := by decide +kernel
theorem i108_60 : xI 108 60 = some (.invokevirtual 229) := by decide +kernel
theorem i108_63 : xI 108 63 = some (.istore 7) := by decide +kernel
theorem i108_65 : xI 108 65 = some (.iload 5) := by decide +kernel
theorem i108_67 : xI 108 67 = some (.bipush 61) := by decide +kernel
theorem i108_69 : xI 108 69 = some (.if_icmp .ne 18) := by decide +kernel
theorem i108_72 : xI 108 72 = some (.iload 6) := by decide +kernel
theorem i108_74 : xI 108 74 = some (.iload 7) := by decide +kernel
theorem i108_76 : xI 108 76 = some (.if_icmp .ne 7) := by decide +kernel
theorem i108_79 : xI 108 79 = some (.iconst 1) := by decide +kernel
theorem i108_80 : xI 108 80 = some (.goto 63) := by decide +kernel
theorem i108_83 : xI 108 83 = some (.iconst 0) := by decide +kernel
theorem i108_84 : xI 108 84 = some (.goto 59) := by decide +kernel
theorem i108_87 : xI 108 87 = some (.iload 5) := by decide +kernel
theorem i108_89 : xI 108 89 = some (.bipush 35) := by decide +kernel
theorem i108_91 : xI 108 91 = some (.if_icmp .ne 18) := by decide +kernel
theorem i108_94 : xI 108 94 = some (.iload 6) := by decide +kernel
theorem i108_96 : xI 108 96 = some (.iload 7) := by decide +kernel
theorem i108_98 : xI 108 98 = some (.if_icmp .eq 7) := by decide +kernel
theorem i108_101 : xI 108 101 = some (.iconst 1) := by decide +kernel
theorem i108_102 : xI 108 102 = some (.goto 41) := by decide +kernel
theorem i108_105 : xI 108 105 = some (.iconst 0) := by decide +kernel
theorem i108_106 : xI 108 106 = some (.goto 37) := by decide +kernel
theorem i108_109 : xI 108 109 = some (.iload 5) := by decide +kernel
theorem i108_111 : xI 108 111 = some (.bipush 60) := by decide +kernel
theorem i108_113 : xI 108 113 = some (.if_icmp .ne 18) := by decide +kernel
theorem i108_116 : xI 108 116 = some (.iload 6) := by decide +kernel
theorem i108_118 : xI 108 118 = some (.iload 7) := by decide +kernel
theorem i108_120 : xI 108 120 = some (.if_icmp .ge 7) := by decide +kernel
theorem i108_123 : xI 108 123 = some (.iconst 1) := by decide +kernel
theorem i108_124 : xI 108 124 = some (.goto 19) := by decide +kernel
theorem i108_127 : xI 108 127 = some (.iconst 0) := by decide +kernel
theorem i108_128 : xI 108 128 = some (.goto 15) := by decide +kernel
theorem i108_131 : xI 108 131 = some (.iload 6) := by decide +kernel
theorem i108_133 : xI 108 133 = some (.iload 7) := by decide +kernel
theorem i108_135 : xI 108 135 = some (.if_icmp .le 7) := by decide +kernel
theorem i108_138 : xI 108 138 = some (.iconst 1) := by decide +kernel
theorem i108_139 : xI 108 139 = some (.goto 4) := by decide +kernel
theorem i108_142 : xI 108 142 = some (.iconst 0) := by decide +kernel
theorem i108_143 : xI 108 143 = some (.istore 8) := by decide +kernel
theorem i108_145 : xI 108 145 = some (.iload 8) := by decide +kernel
theorem i108_147 : xI 108 147 = some (.ifCond .ne 5) := by decide +kernel
theorem i108_150 : xI 108 150 = some (.iconst 0) := by decide +kernel
theorem i108_151 : xI 108 151 = some (.ireturn) := by decide +kernel
theorem i108_152 : xI 108 152 = some (.iinc 4 1) := by decide +kernel
theorem i108_155 : xI 108 155 = some (.goto (-128)) := by decide +kernel
theorem i108_158 : xI 108 158 = some (.iconst 1) := by decide +kernel
theorem i108_159 : xI 108 159 = some (.ireturn) := by decide +kernel
-- 109 M_value
theorem i109_0 : xI 109 0 = some (.aload_n 0) := by decide +kernel
theorem i109_1 : xI 109 1 = some (.getfield 27) := by decide +kernel
theorem i109_4 : xI 109 4 = some (.iload_n 1) := by decide +kernel
theorem i109_5 : xI 109 5 = some (.aaload) := by decide +kernel
theorem i109_6 : xI 109 6 = some (.astore_n 2) := by decide +kernel
theorem i109_7 : xI 109 7 = some (.iconst 0) := by decide +kernel
theorem i109_8 : xI 109 8 = some (.istore_n 3) := by decide +kernel
theorem i109_9 : xI 109 9 = some (.aload_n 2) := by decide +kernel
theorem i109_10 : xI 109 10 = some (.aload_n 0) := by decide +kernel
theorem i109_11 : xI 109 11 = some (.getfield 226) := by decide +kernel
theorem i109_14 : xI 109 14 = some (.iaload) := by decide +kernel
theorem i109_15 : xI 109 15 = some (.bipush 7) := by decide +kernel
theorem i109_17 : xI 109 17 = some (.if_icmp .eq 187) := by decide +kernel
theorem i109_20 : xI 109 20 = some (.aload_n 2) := by decide +kernel
theorem i109_21 : xI 109 21 = some (.aload_n 0) := by decide +kernel
theorem i109_22 : xI 109 22 = some (.getfield 226) := by decide +kernel
theorem i109_25 : xI 109 25 = some (.iaload) := by decide +kernel
theorem i109_26 : xI 109 26 = some (.istore 4) := by decide +kernel
theorem i109_28 : xI 109 28 = some (.aload_n 0) := by decide +kernel
theorem i109_29 : xI 109 29 = some (.dup) := by decide +kernel
theorem i109_30 : xI 109 30 = some (.getfield 226) := by decide +kernel
theorem i109_33 : xI 109 33 = some (.iconst 1) := by decide +kernel
theorem i109_34 : xI 109 34 = some (.iadd) := by decide +kernel
theorem i109_35 : xI 109 35 = some (.putfield 226) := by decide +kernel
theorem i109_38 : xI 109 38 = some (.iload 4) := by decide +kernel
theorem i109_40 : xI 109 40 = some (.iconst 3) := by decide +kernel
theorem i109_41 : xI 109 41 = some (.if_icmp .gt 86) := by decide +kernel
theorem i109_44 : xI 109 44 = some (.aload_n 0) := by decide +kernel
theorem i109_45 : xI 109 45 = some (.getfield 61) := by decide +kernel
theorem i109_48 : xI 109 48 = some (.iload_n 3) := by decide +kernel
theorem i109_49 : xI 109 49 = some (.iload 4) := by decide +kernel
theorem i109_51 : xI 109 51 = some (.ifCond .ne 12) := by decide +kernel
theorem i109_54 : xI 109 54 = some (.aload_n 2) := by decide +kernel
theorem i109_55 : xI 109 55 = some (.aload_n 0) := by decide +kernel
theorem i109_56 : xI 109 56 = some (.getfield 226) := by decide +kernel
theorem i109_59 : xI 109 59 = some (.iaload) := by decide +kernel
theorem i109_60 : xI 109 60 = some (.goto 44) := by decide +kernel
theorem i109_63 : xI 109 63 = some (.iload 4) := by decide +kernel
theorem i109_65 : xI 109 65 = some (.iconst 1) := by decide +kernel
theorem i109_66 : xI 109 66 = some (.if_icmp .ne 17) := by decide +kernel
theorem i109_69 : xI 109 69 = some (.aload_n 0) := by decide +kernel
theorem i109_70 : xI 109 70 = some (.getfield 58) := by decide +kernel
theorem i109_73 : xI 109 73 = some (.aload_n 2) := by decide +kernel
theorem i109_74 : xI 109 74 = some (.aload_n 0) := by decide +kernel
theorem i109_75 : xI 109 75 = some (.getfield 226) := by decide +kernel
theorem i109_78 : xI 109 78 = some (.iaload) := by decide +kernel
theorem i109_79 : xI 109 79 = some (.iaload) := by decide +kernel
theorem i109_80 : xI 109 80 = some (.goto 24) := by decide +kernel
theorem i109_83 : xI 109 83 = some (.iload 4) := by decide +kernel
theorem i109_85 : xI 109 85 = some (.iconst 2) := by decide +kernel
theorem i109_86 : xI 109 86 = some (.if_icmp .ne 12) := by decide +kernel
theorem i109_89 : xI 109 89 = some (.aload_n 0) := by decide +kernel
theorem i109_90 : xI 109 90 = some (.getfield 13) := by decide +kernel
theorem i109_93 : xI 109 93 = some (.iload_n 1) := by decide +kernel
theorem i109_94 : xI 109 94 = some (.iaload) := by decide +kernel
theorem i109_95 : xI 109 95 = some (.goto 9) := by decide +kernel
theorem i109_98 : xI 109 98 = some (.aload_n 0) := by decide +kernel
theorem i109_99 : xI 109 99 = some (.getfield 17) := by decide +kernel
theorem i109_102 : xI 109 102 = some (.iload_n 1) := by decide +kernel
theorem i109_103 : xI 109 103 = some (.iaload) := by decide +kernel
theorem i109_104 : xI 109 104 = some (.iastore) := by decide +kernel
theorem i109_105 : xI 109 105 = some (.iload 4) := by decide +kernel
theorem i109_107 : xI 109 107 = some (.iconst 1) := by decide +kernel
theorem i109_108 : xI 109 108 = some (.if_icmp .gt 13) := by decide +kernel
theorem i109_111 : xI 109 111 = some (.aload_n 0) := by decide +kernel
theorem i109_112 : xI 109 112 = some (.dup) := by decide +kernel
theorem i109_113 : xI 109 113 = some (.getfield 226) := by decide +kernel
theorem i109_116 : xI 109 116 = some (.iconst 1) := by decide +kernel
theorem i109_117 : xI 109 117 = some (.iadd) := by decide +kernel
theorem i109_118 : xI 109 118 = some (.putfield 226) := by decide +kernel
theorem i109_121 : xI 109 121 = some (.iinc 3 1) := by decide +kernel
theorem i109_124 : xI 109 124 = some (.goto 77) := by decide +kernel
theorem i109_127 : xI 109 127 = some (.iinc 3 (-1)) := by decide +kernel
theorem i109_130 : xI 109 130 = some (.aload_n 0) := by decide +kernel
theorem i109_131 : xI 109 131 = some (.getfield 61) := by decide +kernel
theorem i109_134 : xI 109 134 = some (.iload_n 3) := by decide +kernel
theorem i109_135 : xI 109 135 = some (.iconst 1) := by decide +kernel
theorem i109_136 : xI 109 136 = some (.isub) := by decide +kernel
theorem i109_137 : xI 109 137 = some (.iload 4) := by decide +kernel
theorem i109_139 : xI 109 139 = some (.iconst 4) := by decide +kernel
theorem i109_140 : xI 109 140 = some (.if_icmp .ne 21) := by decide +kernel
theorem i109_143 : xI 109 143 = some (.aload_n 0) := by decide +kernel
theorem i109_144 : xI 109 144 = some (.getfield 61) := by decide +kernel
theorem i109_147 : xI 109 147 = some (.iload_n 3) := by decide +kernel
theorem i109_148 : xI 109 148 = some (.iconst 1) := by decide +kernel
theorem i109_149 : xI 109 149 = some (.isub) := by decide +kernel
theorem i109_150 : xI 109 150 = some (.iaload) := by decide +kernel
theorem i109_151 : xI 109 151 = some (.aload_n 0) := by decide +kernel
theorem i109_152 : xI 109 152 = some (.getfield 61) := by decide +kernel
theorem i109_155 : xI 109 155 = some (.iload_n 3) := by decide +kernel
theorem i109_156 : xI 109 156 = some (.iaload) := by decide +kernel
theorem i109_157 : xI 109 157 = some (.iadd) := by decide +kernel
theorem i109_158 : xI 109 158 = some (.goto 42) := by decide +kernel
theorem i109_161 : xI 109 161 = some (.iload 4) := by decide +kernel
theorem i109_163 : xI 109 163 = some (.iconst 5) := by decide +kernel
theorem i109_164 : xI 109 164 = some (.if_icmp .ne 21) := by decide +kernel
theorem i109_167 : xI 109 167 = some (.aload_n 0) := by decide +kernel
theorem i109_168 : xI 109 168 = some (.getfield 61) := by decide +kernel
theorem i109_171 : xI 109 171 = some (.iload_n 3) := by decide +kernel
theorem i109_172 : xI 109 172 = some (.iconst 1) := by decide +kernel
theorem i109_173 : xI 109 173 = some (.isub) := by decide +kernel
theorem i109_174 : xI 109 174 = some (.iaload) := by decide +kernel
theorem i109_175 : xI 109 175 = some (.aload_n 0) := by decide +kernel
theorem i109_176 : xI 109 176 = some (.getfield 61) := by decide +kernel
theorem i109_179 : xI 109 179 = some (.iload_n 3) := by decide +kernel
theorem i109_180 : xI 109 180 = some (.iaload) := by decide +kernel
theorem i109_181 : xI 109 181 = some (.isub) := by decide +kernel
theorem i109_182 : xI 109 182 = some (.goto 18) := by decide +kernel
theorem i109_185 : xI 109 185 = some (.aload_n 0) := by decide +kernel
theorem i109_186 : xI 109 186 = some (.getfield 61) := by decide +kernel
theorem i109_189 : xI 109 189 = some (.iload_n 3) := by decide +kernel
theorem i109_190 : xI 109 190 = some (.iconst 1) := by decide +kernel
theorem i109_191 : xI 109 191 = some (.isub) := by decide +kernel
theorem i109_192 : xI 109 192 = some (.iaload) := by decide +kernel
theorem i109_193 : xI 109 193 = some (.aload_n 0) := by decide +kernel
theorem i109_194 : xI 109 194 = some (.getfield 61) := by decide +kernel
theorem i109_197 : xI 109 197 = some (.iload_n 3) := by decide +kernel
theorem i109_198 : xI 109 198 = some (.iaload) := by decide +kernel
theorem i109_199 : xI 109 199 = some (.imul) := by decide +kernel
theorem i109_200 : xI 109 200 = some (.iastore) := by decide +kernel
theorem i109_201 : xI 109 201 = some (.goto (-192)) := by decide +kernel
theorem i109_204 : xI 109 204 = some (.aload_n 0) := by decide +kernel
theorem i109_205 : xI 109 205 = some (.dup) := by decide +kernel
theorem i109_206 : xI 109 206 = some (.getfield 226) := by decide +kernel
theorem i109_209 : xI 109 209 = some (.iconst 1) := by decide +kernel
theorem i109_210 : xI 109 210 = some (.iadd) := by decide +kernel
theorem i109_211 : xI 109 211 = some (.putfield 226) := by decide +kernel
theorem i109_214 : xI 109 214 = some (.aload_n 0) := by decide +kernel
theorem i109_215 : xI 109 215 = some (.getfield 61) := by decide +kernel
theorem i109_218 : xI 109 218 = some (.iconst 0) := by decide +kernel
theorem i109_219 : xI 109 219 = some (.iaload) := by decide +kernel
theorem i109_220 : xI 109 220 = some (.ireturn) := by decide +kernel
-- 110 M_assure
theorem i110_0 : xI 110 0 = some (.iload_n 1) := by decide +kernel
theorem i110_1 : xI 110 1 = some (.i2l) := by decide +kernel
theorem i110_2 : xI 110 2 = some (.lconst 0) := by decide +kernel
theorem i110_3 : xI 110 3 = some (.ldc2_w 268) := by decide +kernel
theorem i110_6 : xI 110 6 = some (.invokestatic 77) := by decide +kernel
theorem i110_9 : xI 110 9 = some (.ifCond .eq 15) := by decide +kernel
theorem i110_12 : xI 110 12 = some (.iload_n 2) := by decide +kernel
theorem i110_13 : xI 110 13 = some (.i2l) := by decide +kernel
theorem i110_14 : xI 110 14 = some (.lconst 0) := by decide +kernel
theorem i110_15 : xI 110 15 = some (.ldc2_w 283) := by decide +kernel
theorem i110_18 : xI 110 18 = some (.invokestatic 77) := by decide +kernel
theorem i110_21 : xI 110 21 = some (.ifCond .ne 5) := by decide +kernel
theorem i110_24 : xI 110 24 = some (.iconst (-1)) := by decide +kernel
theorem i110_25 : xI 110 25 = some (.ireturn) := by decide +kernel
theorem i110_26 : xI 110 26 = some (.aload_n 0) := by decide +kernel
theorem i110_27 : xI 110 27 = some (.getfield 45) := by decide +kernel
theorem i110_30 : xI 110 30 = some (.iload_n 1) := by decide +kernel
theorem i110_31 : xI 110 31 = some (.iaload) := by decide +kernel
theorem i110_32 : xI 110 32 = some (.istore 4) := by decide +kernel
theorem i110_34 : xI 110 34 = some (.aload_n 0) := by decide +kernel
theorem i110_35 : xI 110 35 = some (.getfield 45) := by decide +kernel
theorem i110_38 : xI 110 38 = some (.iload_n 1) := by decide +kernel
theorem i110_39 : xI 110 39 = some (.iload_n 2) := by decide +kernel
theorem i110_40 : xI 110 40 = some (.iastore) := by decide +kernel
theorem i110_41 : xI 110 41 = some (.iload_n 3) := by decide +kernel
theorem i110_42 : xI 110 42 = some (.ifCond .eq 23) := by decide +kernel
theorem i110_45 : xI 110 45 = some (.aload_n 0) := by decide +kernel
theorem i110_46 : xI 110 46 = some (.getfield 49) := by decide +kernel
theorem i110_49 : xI 110 49 = some (.iload_n 1) := by decide +kernel
theorem i110_50 : xI 110 50 = some (.aaload) := by decide +kernel
theorem i110_51 : xI 110 51 = some (.iconst 0) := by decide +kernel
theorem i110_52 : xI 110 52 = some (.invokestatic 252) := by decide +kernel
theorem i110_55 : xI 110 55 = some (.aload_n 0) := by decide +kernel
theorem i110_56 : xI 110 56 = some (.getfield 52) := by decide +kernel
theorem i110_59 : xI 110 59 = some (.iload_n 1) := by decide +kernel
theorem i110_60 : xI 110 60 = some (.aaload) := by decide +kernel
theorem i110_61 : xI 110 61 = some (.iconst 0) := by decide +kernel
theorem i110_62 : xI 110 62 = some (.invokestatic 252) := by decide +kernel
theorem i110_65 : xI 110 65 = some (.iload 4) := by decide +kernel
theorem i110_67 : xI 110 67 = some (.ireturn) := by decide +kernel
-- 111 M_commit
theorem i111_0 : xI 111 0 = some (.iload_n 1) := by decide +kernel
theorem i111_1 : xI 111 1 = some (.ifCond .ge 5) := by decide +kernel
theorem i111_4 : xI 111 4 = some (.iconst (-1)) := by decide +kernel
theorem i111_5 : xI 111 5 = some (.ireturn) := by decide +kernel
theorem i111_6 : xI 111 6 = some (.aload_n 0) := by decide +kernel
theorem i111_7 : xI 111 7 = some (.iconst 0) := by decide +kernel
theorem i111_8 : xI 111 8 = some (.invokevirtual 249) := by decide +kernel
theorem i111_11 : xI 111 11 = some (.iconst 0) := by decide +kernel
theorem i111_12 : xI 111 12 = some (.istore_n 2) := by decide +kernel
theorem i111_13 : xI 111 13 = some (.aload_n 0) := by decide +kernel
theorem i111_14 : xI 111 14 = some (.getfield 39) := by decide +kernel
theorem i111_17 : xI 111 17 = some (.iconst 0) := by decide +kernel
theorem i111_18 : xI 111 18 = some (.iaload) := by decide +kernel
theorem i111_19 : xI 111 19 = some (.istore_n 3) := by decide +kernel
theorem i111_20 : xI 111 20 = some (.iload_n 3) := by decide +kernel
theorem i111_21 : xI 111 21 = some (.aload_n 0) := by decide +kernel
theorem i111_22 : xI 111 22 = some (.getfield 236) := by decide +kernel
theorem i111_25 : xI 111 25 = some (.if_icmp .ge 57) := by decide +kernel
theorem i111_28 : xI 111 28 = some (.iload_n 2) := by decide +kernel
theorem i111_29 : xI 111 29 = some (.iload_n 1) := by decide +kernel
theorem i111_30 : xI 111 30 = some (.if_icmp .ge 52) := by decide +kernel
theorem i111_33 : xI 111 33 = some (.aload_n 0) := by decide +kernel
theorem i111_34 : xI 111 34 = some (.dup) := by decide +kernel
theorem i111_35 : xI 111 35 = some (.getfield 285) := by decide +kernel
theorem i111_38 : xI 111 38 = some (.iconst 1) := by decide +kernel
theorem i111_39 : xI 111 39 = some (.iadd) := by decide +kernel
theorem i111_40 : xI 111 40 = some (.putfield 285) := by decide +kernel
theorem i111_43 : xI 111 43 = some (.aload_n 0) := by decide +kernel
theorem i111_44 : xI 111 44 = some (.getfield 20) := by decide +kernel
theorem i111_47 : xI 111 47 = some (.aload_n 0) := by decide +kernel
theorem i111_48 : xI 111 48 = some (.getfield 70) := by decide +kernel
theorem i111_51 : xI 111 51 = some (.iload_n 3) := by decide +kernel
theorem i111_52 : xI 111 52 = some (.iaload) := by decide +kernel
theorem i111_53 : xI 111 53 = some (.aload_n 0) := by decide +kernel
theorem i111_54 : xI 111 54 = some (.getfield 285) := by decide +kernel
theorem i111_57 : xI 111 57 = some (.iastore) := by decide +kernel
theorem i111_58 : xI 111 58 = some (.aload_n 0) := by decide +kernel
theorem i111_59 : xI 111 59 = some (.getfield 23) := by decide +kernel
theorem i111_62 : xI 111 62 = some (.aload_n 0) := by decide +kernel
theorem i111_63 : xI 111 63 = some (.getfield 285) := by decide +kernel
theorem i111_66 : xI 111 66 = some (.aload_n 0) := by decide +kernel
theorem i111_67 : xI 111 67 = some (.getfield 70) := by decide +kernel
theorem i111_70 : xI 111 70 = some (.iload_n 3) := by decide +kernel
theorem i111_71 : xI 111 71 = some (.iaload) := by decide +kernel
theorem i111_72 : xI 111 72 = some (.iastore) := by decide +kernel
theorem i111_73 : xI 111 73 = some (.iinc 2 1) := by decide +kernel
theorem i111_76 : xI 111 76 = some (.iinc 3 1) := by decide +kernel
theorem i111_79 : xI 111 79 = some (.goto (-59)) := by decide +kernel
theorem i111_82 : xI 111 82 = some (.aload_n 0) := by decide +kernel
theorem i111_83 : xI 111 83 = some (.getfield 39) := by decide +kernel
theorem i111_86 : xI 111 86 = some (.iconst 0) := by decide +kernel
theorem i111_87 : xI 111 87 = some (.dup2) := by decide +kernel
theorem i111_88 : xI 111 88 = some (.iaload) := by decide +kernel
theorem i111_89 : xI 111 89 = some (.iload_n 2) := by decide +kernel
theorem i111_90 : xI 111 90 = some (.iadd) := by decide +kernel
theorem i111_91 : xI 111 91 = some (.iastore) := by decide +kernel
theorem i111_92 : xI 111 92 = some (.iload_n 2) := by decide +kernel
theorem i111_93 : xI 111 93 = some (.ireturn) := by decide +kernel
-- 112 M_meet
theorem i112_0 : xI 112 0 = some (.iload_n 3) := by decide +kernel
theorem i112_1 : xI 112 1 = some (.ifCond .lt 32) := by decide +kernel
theorem i112_4 : xI 112 4 = some (.iload_n 1) := by decide +kernel
theorem i112_5 : xI 112 5 = some (.i2l) := by decide +kernel
theorem i112_6 : xI 112 6 = some (.lconst 0) := by decide +kernel
theorem i112_7 : xI 112 7 = some (.ldc2_w 266) := by decide +kernel
theorem i112_10 : xI 112 10 = some (.invokestatic 77) := by decide +kernel
theorem i112_13 : xI 112 13 = some (.ifCond .eq 20) := by decide +kernel
theorem i112_16 : xI 112 16 = some (.iload_n 2) := by decide +kernel
theorem i112_17 : xI 112 17 = some (.i2l) := by decide +kernel
theorem i112_18 : xI 112 18 = some (.lconst 0) := by decide +kernel
theorem i112_19 : xI 112 19 = some (.ldc2_w 266) := by decide +kernel
theorem i112_22 : xI 112 22 = some (.invokestatic 77) := by decide +kernel
theorem i112_25 : xI 112 25 = some (.ifCond .eq 8) := by decide +kernel
theorem i112_28 : xI 112 28 = some (.iload_n 1) := by decide +kernel
theorem i112_29 : xI 112 29 = some (.iload_n 2) := by decide +kernel
theorem i112_30 : xI 112 30 = some (.if_icmp .ne 5) := by decide +kernel
theorem i112_33 : xI 112 33 = some (.iconst (-1)) := by decide +kernel
theorem i112_34 : xI 112 34 = some (.ireturn) := by decide +kernel
theorem i112_35 : xI 112 35 = some (.iconst 0) := by decide +kernel
theorem i112_36 : xI 112 36 = some (.istore 4) := by decide +kernel
theorem i112_38 : xI 112 38 = some (.aload_n 0) := by decide +kernel
theorem i112_39 : xI 112 39 = some (.iload_n 1) := by decide +kernel
theorem i112_40 : xI 112 40 = some (.invokevirtual 249) := by decide +kernel
theorem i112_43 : xI 112 43 = some (.aload_n 0) := by decide +kernel
theorem i112_44 : xI 112 44 = some (.getfield 42) := by decide +kernel
theorem i112_47 : xI 112 47 = some (.iload_n 1) := by decide +kernel
theorem i112_48 : xI 112 48 = some (.iaload) := by decide +kernel
theorem i112_49 : xI 112 49 = some (.aload_n 0) := by decide +kernel
theorem i112_50 : xI 112 50 = some (.getfield 39) := by decide +kernel
theorem i112_53 : xI 112 53 = some (.iload_n 2) := by decide +kernel
theorem i112_54 : xI 112 54 = some (.iaload) := by decide +kernel
theorem i112_55 : xI 112 55 = some (.if_icmp .le 68) := by decide +kernel
theorem i112_58 : xI 112 58 = some (.iload 4) := by decide +kernel
theorem i112_60 : xI 112 60 = some (.iload_n 3) := by decide +kernel
theorem i112_61 : xI 112 61 = some (.if_icmp .ge 62) := by decide +kernel
theorem i112_64 : xI 112 64 = some (.iconst 1) := by decide +kernel
theorem i112_65 : xI 112 65 = some (.istore 5) := by decide +kernel
theorem i112_67 : xI 112 67 = some (.iload 5) := by decide +kernel
theorem i112_69 : xI 112 69 = some (.aload_n 0) := by decide +kernel
theorem i112_70 : xI 112 70 = some (.getfield 42) := by decide +kernel
theorem i112_73 : xI 112 73 = some (.iload_n 1) := by decide +kernel
theorem i112_74 : xI 112 74 = some (.iaload) := by decide +kernel
theorem i112_75 : xI 112 75 = some (.if_icmp .gt 21) := by decide +kernel
theorem i112_78 : xI 112 78 = some (.aload_n 0) := by decide +kernel
theorem i112_79 : xI 112 79 = some (.iload_n 2) := by decide +kernel
theorem i112_80 : xI 112 80 = some (.aload_n 0) := by decide +kernel
theorem i112_81 : xI 112 81 = some (.getfield 23) := by decide +kernel
theorem i112_84 : xI 112 84 = some (.iload 5) := by decide +kernel
theorem i112_86 : xI 112 86 = some (.iaload) := by decide +kernel
theorem i112_87 : xI 112 87 = some (.invokevirtual 288) := by decide +kernel
theorem i112_90 : xI 112 90 = some (.iinc 5 1) := by decide +kernel
theorem i112_93 : xI 112 93 = some (.goto (-26)) := by decide +kernel
theorem i112_96 : xI 112 96 = some (.aload_n 0) := by decide +kernel
theorem i112_97 : xI 112 97 = some (.getfield 39) := by decide +kernel
theorem i112_100 : xI 112 100 = some (.iload_n 2) := by decide +kernel
theorem i112_101 : xI 112 101 = some (.aload_n 0) := by decide +kernel
theorem i112_102 : xI 112 102 = some (.getfield 42) := by decide +kernel
theorem i112_105 : xI 112 105 = some (.iload_n 1) := by decide +kernel
theorem i112_106 : xI 112 106 = some (.iaload) := by decide +kernel
theorem i112_107 : xI 112 107 = some (.iastore) := by decide +kernel
theorem i112_108 : xI 112 108 = some (.aload_n 0) := by decide +kernel
theorem i112_109 : xI 112 109 = some (.getfield 42) := by decide +kernel
theorem i112_112 : xI 112 112 = some (.iload_n 2) := by decide +kernel
theorem i112_113 : xI 112 113 = some (.aload_n 0) := by decide +kernel
theorem i112_114 : xI 112 114 = some (.getfield 42) := by decide +kernel
theorem i112_117 : xI 112 117 = some (.iload_n 1) := by decide +kernel
theorem i112_118 : xI 112 118 = some (.iaload) := by decide +kernel
theorem i112_119 : xI 112 119 = some (.iastore) := by decide +kernel
theorem i112_120 : xI 112 120 = some (.iinc 4 1) := by decide +kernel
theorem i112_123 : xI 112 123 = some (.aload_n 0) := by decide +kernel
theorem i112_124 : xI 112 124 = some (.getfield 42) := by decide +kernel
theorem i112_127 : xI 112 127 = some (.iload_n 1) := by decide +kernel
theorem i112_128 : xI 112 128 = some (.iaload) := by decide +kernel
theorem i112_129 : xI 112 129 = some (.istore 5) := by decide +kernel
theorem i112_131 : xI 112 131 = some (.iload 5) := by decide +kernel
theorem i112_133 : xI 112 133 = some (.aload_n 0) := by decide +kernel
theorem i112_134 : xI 112 134 = some (.getfield 236) := by decide +kernel
theorem i112_137 : xI 112 137 = some (.if_icmp .ge 105) := by decide +kernel
theorem i112_140 : xI 112 140 = some (.iload 4) := by decide +kernel
theorem i112_142 : xI 112 142 = some (.iload_n 3) := by decide +kernel
theorem i112_143 : xI 112 143 = some (.if_icmp .ge 99) := by decide +kernel
theorem i112_146 : xI 112 146 = some (.aload_n 0) := by decide +kernel
theorem i112_147 : xI 112 147 = some (.getfield 70) := by decide +kernel
theorem i112_150 : xI 112 150 = some (.iload 5) := by decide +kernel
theorem i112_152 : xI 112 152 = some (.iaload) := by decide +kernel
theorem i112_153 : xI 112 153 = some (.istore 6) := by decide +kernel
theorem i112_155 : xI 112 155 = some (.iload 5) := by decide +kernel
theorem i112_157 : xI 112 157 = some (.aload_n 0) := by decide +kernel
theorem i112_158 : xI 112 158 = some (.getfield 39) := by decide +kernel
theorem i112_161 : xI 112 161 = some (.iload_n 1) := by decide +kernel
theorem i112_162 : xI 112 162 = some (.iaload) := by decide +kernel
theorem i112_163 : xI 112 163 = some (.if_icmp .ge 51) := by decide +kernel
theorem i112_166 : xI 112 166 = some (.aload_n 0) := by decide +kernel
theorem i112_167 : xI 112 167 = some (.iload_n 2) := by decide +kernel
theorem i112_168 : xI 112 168 = some (.iload 6) := by decide +kernel
theorem i112_170 : xI 112 170 = some (.invokevirtual 242) := by decide +kernel
theorem i112_173 : xI 112 173 = some (.ifCond .eq 6) := by decide +kernel
theorem i112_176 : xI 112 176 = some (.goto 60) := by decide +kernel
theorem i112_179 : xI 112 179 = some (.aload_n 0) := by decide +kernel
theorem i112_180 : xI 112 180 = some (.getfield 33) := by decide +kernel
theorem i112_183 : xI 112 183 = some (.iload_n 2) := by decide +kernel
theorem i112_184 : xI 112 184 = some (.aaload) := by decide +kernel
theorem i112_185 : xI 112 185 = some (.iload 6) := by decide +kernel
theorem i112_187 : xI 112 187 = some (.baload) := by decide +kernel
theorem i112_188 : xI 112 188 = some (.ifCond .ne 10) := by decide +kernel
theorem i112_191 : xI 112 191 = some (.aload_n 0) := by decide +kernel
theorem i112_192 : xI 112 192 = some (.iload_n 2) := by decide +kernel
theorem i112_193 : xI 112 193 = some (.iload 6) := by decide +kernel
theorem i112_195 : xI 112 195 = some (.invokevirtual 288) := by decide +kernel
theorem i112_198 : xI 112 198 = some (.aload_n 0) := by decide +kernel
theorem i112_199 : xI 112 199 = some (.getfield 39) := by decide +kernel
theorem i112_202 : xI 112 202 = some (.iload_n 2) := by decide +kernel
theorem i112_203 : xI 112 203 = some (.dup2) := by decide +kernel
theorem i112_204 : xI 112 204 = some (.iaload) := by decide +kernel
theorem i112_205 : xI 112 205 = some (.iconst 1) := by decide +kernel
theorem i112_206 : xI 112 206 = some (.iadd) := by decide +kernel
theorem i112_207 : xI 112 207 = some (.iastore) := by decide +kernel
theorem i112_208 : xI 112 208 = some (.iinc 4 1) := by decide +kernel
theorem i112_211 : xI 112 211 = some (.goto 25) := by decide +kernel
theorem i112_214 : xI 112 214 = some (.aload_n 0) := by decide +kernel
theorem i112_215 : xI 112 215 = some (.getfield 33) := by decide +kernel
theorem i112_218 : xI 112 218 = some (.iload_n 2) := by decide +kernel
theorem i112_219 : xI 112 219 = some (.aaload) := by decide +kernel
theorem i112_220 : xI 112 220 = some (.iload 6) := by decide +kernel
theorem i112_222 : xI 112 222 = some (.baload) := by decide +kernel
theorem i112_223 : xI 112 223 = some (.ifCond .ne 13) := by decide +kernel
theorem i112_226 : xI 112 226 = some (.aload_n 0) := by decide +kernel
theorem i112_227 : xI 112 227 = some (.iload_n 2) := by decide +kernel
theorem i112_228 : xI 112 228 = some (.iload 6) := by decide +kernel
theorem i112_230 : xI 112 230 = some (.invokevirtual 288) := by decide +kernel
theorem i112_233 : xI 112 233 = some (.iinc 4 1) := by decide +kernel
theorem i112_236 : xI 112 236 = some (.iinc 5 1) := by decide +kernel
theorem i112_239 : xI 112 239 = some (.goto (-108)) := by decide +kernel
theorem i112_242 : xI 112 242 = some (.iload 4) := by decide +kernel
theorem i112_244 : xI 112 244 = some (.ireturn) := by decide +kernel
-- 113 M_learn
theorem i113_0 : xI 113 0 = some (.aload_n 0) := by decide +kernel
theorem i113_1 : xI 113 1 = some (.getfield 33) := by decide +kernel
theorem i113_4 : xI 113 4 = some (.iload_n 1) := by decide +kernel
theorem i113_5 : xI 113 5 = some (.aaload) := by decide +kernel
theorem i113_6 : xI 113 6 = some (.iload_n 2) := by decide +kernel
theorem i113_7 : xI 113 7 = some (.iconst 1) := by decide +kernel
theorem i113_8 : xI 113 8 = some (.bastore) := by decide +kernel
theorem i113_9 : xI 113 9 = some (.aload_n 0) := by decide +kernel
theorem i113_10 : xI 113 10 = some (.getfield 36) := by decide +kernel
theorem i113_13 : xI 113 13 = some (.iload_n 1) := by decide +kernel
theorem i113_14 : xI 113 14 = some (.aload_n 0) := by decide +kernel
theorem i113_15 : xI 113 15 = some (.getfield 36) := by decide +kernel
theorem i113_18 : xI 113 18 = some (.iload_n 1) := by decide +kernel
theorem i113_19 : xI 113 19 = some (.iaload) := by decide +kernel
theorem i113_20 : xI 113 20 = some (.aload_n 0) := by decide +kernel
theorem i113_21 : xI 113 21 = some (.getfield 17) := by decide +kernel
theorem i113_24 : xI 113 24 = some (.iload_n 2) := by decide +kernel
theorem i113_25 : xI 113 25 = some (.iaload) := by decide +kernel
theorem i113_26 : xI 113 26 = some (.invokestatic 259) := by decide +kernel
theorem i113_29 : xI 113 29 = some (.iastore) := by decide +kernel
theorem i113_30 : xI 113 30 = some (.return_) := by decide +kernel
-- 114 M_forget
theorem i114_0 : xI 114 0 = some (.iload_n 1) := by decide +kernel
theorem i114_1 : xI 114 1 = some (.i2l) := by decide +kernel
theorem i114_2 : xI 114 2 = some (.lconst 0) := by decide +kernel
theorem i114_3 : xI 114 3 = some (.ldc2_w 266) := by decide +kernel
theorem i114_6 : xI 114 6 = some (.invokestatic 77) := by decide +kernel
theorem i114_9 : xI 114 9 = some (.ifCond .eq 7) := by decide +kernel
theorem i114_12 : xI 114 12 = some (.iload_n 2) := by decide +kernel
theorem i114_13 : xI 114 13 = some (.ifCond .ge 5) := by decide +kernel
theorem i114_16 : xI 114 16 = some (.iconst (-1)) := by decide +kernel
theorem i114_17 : xI 114 17 = some (.ireturn) := by decide +kernel
theorem i114_18 : xI 114 18 = some (.aload_n 0) := by decide +kernel
theorem i114_19 : xI 114 19 = some (.getfield 42) := by decide +kernel
theorem i114_22 : xI 114 22 = some (.iload_n 1) := by decide +kernel
theorem i114_23 : xI 114 23 = some (.aload_n 0) := by decide +kernel
theorem i114_24 : xI 114 24 = some (.getfield 39) := by decide +kernel
theorem i114_27 : xI 114 27 = some (.iload_n 1) := by decide +kernel
theorem i114_28 : xI 114 28 = some (.iaload) := by decide +kernel
theorem i114_29 : xI 114 29 = some (.i2l) := by decide +kernel
theorem i114_30 : xI 114 30 = some (.aload_n 0) := by decide +kernel
theorem i114_31 : xI 114 31 = some (.getfield 42) := by decide +kernel
theorem i114_34 : xI 114 34 = some (.iload_n 1) := by decide +kernel
theorem i114_35 : xI 114 35 = some (.iaload) := by decide +kernel
theorem i114_36 : xI 114 36 = some (.i2l) := by decide +kernel
theorem i114_37 : xI 114 37 = some (.iload_n 2) := by decide +kernel
theorem i114_38 : xI 114 38 = some (.i2l) := by decide +kernel
theorem i114_39 : xI 114 39 = some (.ladd) := by decide +kernel
theorem i114_40 : xI 114 40 = some (.invokestatic 129) := by decide +kernel
theorem i114_43 : xI 114 43 = some (.l2i) := by decide +kernel
theorem i114_44 : xI 114 44 = some (.iastore) := by decide +kernel
theorem i114_45 : xI 114 45 = some (.aload_n 0) := by decide +kernel
theorem i114_46 : xI 114 46 = some (.getfield 42) := by decide +kernel
theorem i114_49 : xI 114 49 = some (.iload_n 1) := by decide +kernel
theorem i114_50 : xI 114 50 = some (.iaload) := by decide +kernel
theorem i114_51 : xI 114 51 = some (.ireturn) := by decide +kernel
-- 115 M_order
theorem i115_0 : xI 115 0 = some (.iload_n 1) := by decide +kernel
theorem i115_1 : xI 115 1 = some (.i2l) := by decide +kernel
theorem i115_2 : xI 115 2 = some (.lconst 0) := by decide +kernel
theorem i115_3 : xI 115 3 = some (.ldc2_w 266) := by decide +kernel
theorem i115_6 : xI 115 6 = some (.invokestatic 77) := by decide +kernel
theorem i115_9 : xI 115 9 = some (.ifCond .ne 5) := by decide +kernel
theorem i115_12 : xI 115 12 = some (.iconst (-1)) := by decide +kernel
theorem i115_13 : xI 115 13 = some (.ireturn) := by decide +kernel
theorem i115_14 : xI 115 14 = some (.aload_n 0) := by decide +kernel
theorem i115_15 : xI 115 15 = some (.iload_n 1) := by decide +kernel
theorem i115_16 : xI 115 16 = some (.invokevirtual 249) := by decide +kernel
theorem i115_19 : xI 115 19 = some (.iload_n 2) := by decide +kernel
theorem i115_20 : xI 115 20 = some (.i2l) := by decide +kernel
theorem i115_21 : xI 115 21 = some (.lconst 0) := by decide +kernel
theorem i115_22 : xI 115 22 = some (.aload_n 0) := by decide +kernel
theorem i115_23 : xI 115 23 = some (.getfield 236) := by decide +kernel
theorem i115_26 : xI 115 26 = some (.iconst 1) := by decide +kernel
theorem i115_27 : xI 115 27 = some (.isub) := by decide +kernel
theorem i115_28 : xI 115 28 = some (.i2l) := by decide +kernel
theorem i115_29 : xI 115 29 = some (.invokestatic 77) := by decide +kernel
theorem i115_32 : xI 115 32 = some (.ifCond .eq 12) := by decide +kernel
theorem i115_35 : xI 115 35 = some (.aload_n 0) := by decide +kernel
theorem i115_36 : xI 115 36 = some (.getfield 70) := by decide +kernel
theorem i115_39 : xI 115 39 = some (.iload_n 2) := by decide +kernel
theorem i115_40 : xI 115 40 = some (.iaload) := by decide +kernel
theorem i115_41 : xI 115 41 = some (.goto 5) := by decide +kernel
theorem i115_44 : xI 115 44 = some (.bipush (-2)) := by decide +kernel
theorem i115_46 : xI 115 46 = some (.ireturn) := by decide +kernel
-- 116 M_outcome
theorem i116_0 : xI 116 0 = some (.iload_n 1) := by decide +kernel
theorem i116_1 : xI 116 1 = some (.i2l) := by decide +kernel
theorem i116_2 : xI 116 2 = some (.lconst 0) := by decide +kernel
theorem i116_3 : xI 116 3 = some (.ldc2_w 266) := by decide +kernel
theorem i116_6 : xI 116 6 = some (.invokestatic 77) := by decide +kernel
theorem i116_9 : xI 116 9 = some (.ifCond .ne 5) := by decide +kernel
theorem i116_12 : xI 116 12 = some (.iconst (-1)) := by decide +kernel
theorem i116_13 : xI 116 13 = some (.ireturn) := by decide +kernel
theorem i116_14 : xI 116 14 = some (.iload_n 2) := by decide +kernel
theorem i116_15 : xI 116 15 = some (.i2l) := by decide +kernel
theorem i116_16 : xI 116 16 = some (.lconst 0) := by decide +kernel
theorem i116_17 : xI 116 17 = some (.aload_n 0) := by decide +kernel
theorem i116_18 : xI 116 18 = some (.getfield 239) := by decide +kernel
theorem i116_21 : xI 116 21 = some (.iconst 1) := by decide +kernel
theorem i116_22 : xI 116 22 = some (.isub) := by decide +kernel
theorem i116_23 : xI 116 23 = some (.i2l) := by decide +kernel
theorem i116_24 : xI 116 24 = some (.invokestatic 77) := by decide +kernel
theorem i116_27 : xI 116 27 = some (.ifCond .eq 14) := by decide +kernel
theorem i116_30 : xI 116 30 = some (.aload_n 0) := by decide +kernel
theorem i116_31 : xI 116 31 = some (.getfield 33) := by decide +kernel
theorem i116_34 : xI 116 34 = some (.iload_n 1) := by decide +kernel
theorem i116_35 : xI 116 35 = some (.aaload) := by decide +kernel
theorem i116_36 : xI 116 36 = some (.iload_n 2) := by decide +kernel
theorem i116_37 : xI 116 37 = some (.baload) := by decide +kernel
theorem i116_38 : xI 116 38 = some (.ifCond .ne 6) := by decide +kernel
theorem i116_41 : xI 116 41 = some (.bipush (-2)) := by decide +kernel
theorem i116_43 : xI 116 43 = some (.ireturn) := by decide +kernel
theorem i116_44 : xI 116 44 = some (.aload_n 0) := by decide +kernel
theorem i116_45 : xI 116 45 = some (.iload_n 1) := by decide +kernel
theorem i116_46 : xI 116 46 = some (.invokevirtual 249) := by decide +kernel
theorem i116_49 : xI 116 49 = some (.aload_n 0) := by decide +kernel
theorem i116_50 : xI 116 50 = some (.getfield 58) := by decide +kernel
theorem i116_53 : xI 116 53 = some (.iconst 0) := by decide +kernel
theorem i116_54 : xI 116 54 = some (.invokestatic 252) := by decide +kernel
theorem i116_57 : xI 116 57 = some (.iconst 0) := by decide +kernel
theorem i116_58 : xI 116 58 = some (.istore_n 3) := by decide +kernel
theorem i116_59 : xI 116 59 = some (.iconst 0) := by decide +kernel
theorem i116_60 : xI 116 60 = some (.istore 4) := by decide +kernel
theorem i116_62 : xI 116 62 = some (.iload 4) := by decide +kernel
theorem i116_64 : xI 116 64 = some (.aload_n 0) := by decide +kernel
theorem i116_65 : xI 116 65 = some (.getfield 236) := by decide +kernel
theorem i116_68 : xI 116 68 = some (.if_icmp .ge 34) := by decide +kernel
theorem i116_71 : xI 116 71 = some (.aload_n 0) := by decide +kernel
theorem i116_72 : xI 116 72 = some (.aload_n 0) := by decide +kernel
theorem i116_73 : xI 116 73 = some (.getfield 70) := by decide +kernel
theorem i116_76 : xI 116 76 = some (.iload 4) := by decide +kernel
theorem i116_78 : xI 116 78 = some (.iaload) := by decide +kernel
theorem i116_79 : xI 116 79 = some (.invokevirtual 256) := by decide +kernel
theorem i116_82 : xI 116 82 = some (.istore_n 3) := by decide +kernel
theorem i116_83 : xI 116 83 = some (.aload_n 0) := by decide +kernel
theorem i116_84 : xI 116 84 = some (.getfield 70) := by decide +kernel
theorem i116_87 : xI 116 87 = some (.iload 4) := by decide +kernel
theorem i116_89 : xI 116 89 = some (.iaload) := by decide +kernel
theorem i116_90 : xI 116 90 = some (.iload_n 2) := by decide +kernel
theorem i116_91 : xI 116 91 = some (.if_icmp .ne 5) := by decide +kernel
theorem i116_94 : xI 116 94 = some (.iload_n 3) := by decide +kernel
theorem i116_95 : xI 116 95 = some (.ireturn) := by decide +kernel
theorem i116_96 : xI 116 96 = some (.iinc 4 1) := by decide +kernel
theorem i116_99 : xI 116 99 = some (.goto (-37)) := by decide +kernel
theorem i116_102 : xI 116 102 = some (.iload_n 3) := by decide +kernel
theorem i116_103 : xI 116 103 = some (.ireturn) := by decide +kernel
-- 117 M_look
theorem i117_0 : xI 117 0 = some (.iload_n 2) := by decide +kernel
theorem i117_1 : xI 117 1 = some (.i2l) := by decide +kernel
theorem i117_2 : xI 117 2 = some (.lconst 0) := by decide +kernel
theorem i117_3 : xI 117 3 = some (.ldc2_w 296) := by decide +kernel
theorem i117_6 : xI 117 6 = some (.invokestatic 77) := by decide +kernel
theorem i117_9 : xI 117 9 = some (.ifCond .ne 5) := by decide +kernel
theorem i117_12 : xI 117 12 = some (.iconst (-1)) := by decide +kernel
theorem i117_13 : xI 117 13 = some (.ireturn) := by decide +kernel
theorem i117_14 : xI 117 14 = some (.iload_n 1) := by decide +kernel
theorem i117_15 : xI 117 15 = some (.i2l) := by decide +kernel
theorem i117_16 : xI 117 16 = some (.lconst 0) := by decide +kernel
theorem i117_17 : xI 117 17 = some (.aload_n 0) := by decide +kernel
theorem i117_18 : xI 117 18 = some (.getfield 239) := by decide +kernel
theorem i117_21 : xI 117 21 = some (.iconst 1) := by decide +kernel
theorem i117_22 : xI 117 22 = some (.isub) := by decide +kernel
theorem i117_23 : xI 117 23 = some (.i2l) := by decide +kernel
theorem i117_24 : xI 117 24 = some (.invokestatic 77) := by decide +kernel
theorem i117_27 : xI 117 27 = some (.ifCond .ne 6) := by decide +kernel
theorem i117_30 : xI 117 30 = some (.bipush (-2)) := by decide +kernel
theorem i117_32 : xI 117 32 = some (.ireturn) := by decide +kernel
theorem i117_33 : xI 117 33 = some (.iload_n 2) := by decide +kernel
theorem i117_34 : xI 117 34 = some (.ifCond .ne 12) := by decide +kernel
theorem i117_37 : xI 117 37 = some (.aload_n 0) := by decide +kernel
theorem i117_38 : xI 117 38 = some (.getfield 13) := by decide +kernel
theorem i117_41 : xI 117 41 = some (.iload_n 1) := by decide +kernel
theorem i117_42 : xI 117 42 = some (.iaload) := by decide +kernel
theorem i117_43 : xI 117 43 = some (.goto 23) := by decide +kernel
theorem i117_46 : xI 117 46 = some (.iload_n 2) := by decide +kernel
theorem i117_47 : xI 117 47 = some (.iconst 1) := by decide +kernel
theorem i117_48 : xI 117 48 = some (.if_icmp .ne 12) := by decide +kernel
theorem i117_51 : xI 117 51 = some (.aload_n 0) := by decide +kernel
theorem i117_52 : xI 117 52 = some (.getfield 17) := by decide +kernel
theorem i117_55 : xI 117 55 = some (.iload_n 1) := by decide +kernel
theorem i117_56 : xI 117 56 = some (.iaload) := by decide +kernel
theorem i117_57 : xI 117 57 = some (.goto 9) := by decide +kernel
theorem i117_60 : xI 117 60 = some (.aload_n 0) := by decide +kernel
theorem i117_61 : xI 117 61 = some (.getfield 20) := by decide +kernel
theorem i117_64 : xI 117 64 = some (.iload_n 1) := by decide +kernel
theorem i117_65 : xI 117 65 = some (.iaload) := by decide +kernel
theorem i117_66 : xI 117 66 = some (.ireturn) := by decide +kernel
-- 118 M_stamp
theorem i118_0 : xI 118 0 = some (.iload_n 1) := by decide +kernel
theorem i118_1 : xI 118 1 = some (.i2l) := by decide +kernel
theorem i118_2 : xI 118 2 = some (.lconst 0) := by decide +kernel
theorem i118_3 : xI 118 3 = some (.ldc2_w 296) := by decide +kernel
theorem i118_6 : xI 118 6 = some (.invokestatic 77) := by decide +kernel
theorem i118_9 : xI 118 9 = some (.ifCond .eq 37) := by decide +kernel
