/-! ===== which instruction stands where (wip/gen/lay16.py) ===== -/
theorem i118_12 : xI 118 12 = some (.iload_n 3) := by decide +kernel
theorem i118_13 : xI 118 13 = some (.i2l) := by decide +kernel
theorem i118_14 : xI 118 14 = some (.lconst 0) := by decide +kernel
theorem i118_15 : xI 118 15 = some (.ldc2_w 266) := by decide +kernel
theorem i118_18 : xI 118 18 = some (.invokestatic 77) := by decide +kernel
theorem i118_21 : xI 118 21 = some (.ifCond .eq 25) := by decide +kernel
theorem i118_24 : xI 118 24 = some (.iload_n 2) := by decide +kernel
theorem i118_25 : xI 118 25 = some (.i2l) := by decide +kernel
theorem i118_26 : xI 118 26 = some (.lconst 0) := by decide +kernel
theorem i118_27 : xI 118 27 = some (.iload_n 1) := by decide +kernel
theorem i118_28 : xI 118 28 = some (.ifCond .ne 9) := by decide +kernel
theorem i118_31 : xI 118 31 = some (.ldc2_w 266) := by decide +kernel
theorem i118_34 : xI 118 34 = some (.goto 6) := by decide +kernel
theorem i118_37 : xI 118 37 = some (.ldc2_w 268) := by decide +kernel
theorem i118_40 : xI 118 40 = some (.invokestatic 77) := by decide +kernel
theorem i118_43 : xI 118 43 = some (.ifCond .ne 5) := by decide +kernel
theorem i118_46 : xI 118 46 = some (.iconst (-1)) := by decide +kernel
theorem i118_47 : xI 118 47 = some (.ireturn) := by decide +kernel
theorem i118_48 : xI 118 48 = some (.iload_n 1) := by decide +kernel
theorem i118_49 : xI 118 49 = some (.ifCond .ne 12) := by decide +kernel
theorem i118_52 : xI 118 52 = some (.aload_n 0) := by decide +kernel
theorem i118_53 : xI 118 53 = some (.iload_n 2) := by decide +kernel
theorem i118_54 : xI 118 54 = some (.iload_n 3) := by decide +kernel
theorem i118_55 : xI 118 55 = some (.invokevirtual 263) := by decide +kernel
theorem i118_58 : xI 118 58 = some (.goto 27) := by decide +kernel
theorem i118_61 : xI 118 61 = some (.iload_n 1) := by decide +kernel
theorem i118_62 : xI 118 62 = some (.iconst 1) := by decide +kernel
theorem i118_63 : xI 118 63 = some (.if_icmp .ne 14) := by decide +kernel
theorem i118_66 : xI 118 66 = some (.aload_n 0) := by decide +kernel
theorem i118_67 : xI 118 67 = some (.getfield 49) := by decide +kernel
theorem i118_70 : xI 118 70 = some (.iload_n 2) := by decide +kernel
theorem i118_71 : xI 118 71 = some (.aaload) := by decide +kernel
theorem i118_72 : xI 118 72 = some (.iload_n 3) := by decide +kernel
theorem i118_73 : xI 118 73 = some (.iaload) := by decide +kernel
theorem i118_74 : xI 118 74 = some (.goto 11) := by decide +kernel
theorem i118_77 : xI 118 77 = some (.aload_n 0) := by decide +kernel
theorem i118_78 : xI 118 78 = some (.getfield 52) := by decide +kernel
theorem i118_81 : xI 118 81 = some (.iload_n 2) := by decide +kernel
theorem i118_82 : xI 118 82 = some (.aaload) := by decide +kernel
theorem i118_83 : xI 118 83 = some (.iload_n 3) := by decide +kernel
theorem i118_84 : xI 118 84 = some (.iaload) := by decide +kernel
theorem i118_85 : xI 118 85 = some (.ireturn) := by decide +kernel
-- 119 M_count
theorem i119_0 : xI 119 0 = some (.iload_n 1) := by decide +kernel
theorem i119_1 : xI 119 1 = some (.i2l) := by decide +kernel
theorem i119_2 : xI 119 2 = some (.lconst 0) := by decide +kernel
theorem i119_3 : xI 119 3 = some (.ldc2_w 266) := by decide +kernel
theorem i119_6 : xI 119 6 = some (.invokestatic 77) := by decide +kernel
theorem i119_9 : xI 119 9 = some (.ifCond .eq 15) := by decide +kernel
theorem i119_12 : xI 119 12 = some (.iload_n 2) := by decide +kernel
theorem i119_13 : xI 119 13 = some (.i2l) := by decide +kernel
theorem i119_14 : xI 119 14 = some (.lconst 0) := by decide +kernel
theorem i119_15 : xI 119 15 = some (.ldc2_w 298) := by decide +kernel
theorem i119_18 : xI 119 18 = some (.invokestatic 77) := by decide +kernel
theorem i119_21 : xI 119 21 = some (.ifCond .ne 5) := by decide +kernel
theorem i119_24 : xI 119 24 = some (.iconst (-1)) := by decide +kernel
theorem i119_25 : xI 119 25 = some (.ireturn) := by decide +kernel
theorem i119_26 : xI 119 26 = some (.iload_n 2) := by decide +kernel
theorem i119_27 : xI 119 27 = some (.iconst 1) := by decide +kernel
theorem i119_28 : xI 119 28 = some (.if_icmp .ne 10) := by decide +kernel
theorem i119_31 : xI 119 31 = some (.aload_n 0) := by decide +kernel
theorem i119_32 : xI 119 32 = some (.getfield 39) := by decide +kernel
theorem i119_35 : xI 119 35 = some (.iload_n 1) := by decide +kernel
theorem i119_36 : xI 119 36 = some (.iaload) := by decide +kernel
theorem i119_37 : xI 119 37 = some (.ireturn) := by decide +kernel
theorem i119_38 : xI 119 38 = some (.iload_n 2) := by decide +kernel
theorem i119_39 : xI 119 39 = some (.iconst 2) := by decide +kernel
theorem i119_40 : xI 119 40 = some (.if_icmp .ne 10) := by decide +kernel
theorem i119_43 : xI 119 43 = some (.aload_n 0) := by decide +kernel
theorem i119_44 : xI 119 44 = some (.getfield 42) := by decide +kernel
theorem i119_47 : xI 119 47 = some (.iload_n 1) := by decide +kernel
theorem i119_48 : xI 119 48 = some (.iaload) := by decide +kernel
theorem i119_49 : xI 119 49 = some (.ireturn) := by decide +kernel
theorem i119_50 : xI 119 50 = some (.iload_n 2) := by decide +kernel
theorem i119_51 : xI 119 51 = some (.iconst 3) := by decide +kernel
theorem i119_52 : xI 119 52 = some (.if_icmp .ne 10) := by decide +kernel
theorem i119_55 : xI 119 55 = some (.aload_n 0) := by decide +kernel
theorem i119_56 : xI 119 56 = some (.getfield 36) := by decide +kernel
theorem i119_59 : xI 119 59 = some (.iload_n 1) := by decide +kernel
theorem i119_60 : xI 119 60 = some (.iaload) := by decide +kernel
theorem i119_61 : xI 119 61 = some (.ireturn) := by decide +kernel
theorem i119_62 : xI 119 62 = some (.iconst 0) := by decide +kernel
theorem i119_63 : xI 119 63 = some (.istore_n 3) := by decide +kernel
theorem i119_64 : xI 119 64 = some (.iconst 0) := by decide +kernel
theorem i119_65 : xI 119 65 = some (.istore 4) := by decide +kernel
theorem i119_67 : xI 119 67 = some (.iload 4) := by decide +kernel
theorem i119_69 : xI 119 69 = some (.aload_n 0) := by decide +kernel
theorem i119_70 : xI 119 70 = some (.getfield 239) := by decide +kernel
theorem i119_73 : xI 119 73 = some (.if_icmp .ge 24) := by decide +kernel
theorem i119_76 : xI 119 76 = some (.aload_n 0) := by decide +kernel
theorem i119_77 : xI 119 77 = some (.getfield 33) := by decide +kernel
theorem i119_80 : xI 119 80 = some (.iload_n 1) := by decide +kernel
theorem i119_81 : xI 119 81 = some (.aaload) := by decide +kernel
theorem i119_82 : xI 119 82 = some (.iload 4) := by decide +kernel
theorem i119_84 : xI 119 84 = some (.baload) := by decide +kernel
theorem i119_85 : xI 119 85 = some (.ifCond .eq 6) := by decide +kernel
theorem i119_88 : xI 119 88 = some (.iinc 3 1) := by decide +kernel
theorem i119_91 : xI 119 91 = some (.iinc 4 1) := by decide +kernel
theorem i119_94 : xI 119 94 = some (.goto (-27)) := by decide +kernel
theorem i119_97 : xI 119 97 = some (.iload_n 3) := by decide +kernel
theorem i119_98 : xI 119 98 = some (.ireturn) := by decide +kernel
-- 120 M_writes
theorem i120_0 : xI 120 0 = some (.aload_n 0) := by decide +kernel
theorem i120_1 : xI 120 1 = some (.getfield 239) := by decide +kernel
theorem i120_4 : xI 120 4 = some (.ireturn) := by decide +kernel
-- 121 Ar_copyOf
theorem i121_0 : xI 121 0 = some (.iload_n 1) := by decide +kernel
theorem i121_1 : xI 121 1 = some (.aload_n 0) := by decide +kernel
theorem i121_2 : xI 121 2 = some (.arraylength) := by decide +kernel
theorem i121_3 : xI 121 3 = some (.if_icmp .ne 11) := by decide +kernel
theorem i121_6 : xI 121 6 = some (.aload_n 0) := by decide +kernel
theorem i121_7 : xI 121 7 = some (.invokevirtual 316) := by decide +kernel
theorem i121_13 : xI 121 13 = some (.areturn) := by decide +kernel
theorem i121_14 : xI 121 14 = some (.iload_n 1) := by decide +kernel
theorem i121_15 : xI 121 15 = some (.newarray .int) := by decide +kernel
theorem i121_17 : xI 121 17 = some (.astore_n 2) := by decide +kernel
theorem i121_18 : xI 121 18 = some (.aload_n 0) := by decide +kernel
theorem i121_19 : xI 121 19 = some (.iconst 0) := by decide +kernel
theorem i121_20 : xI 121 20 = some (.aload_n 2) := by decide +kernel
theorem i121_21 : xI 121 21 = some (.iconst 0) := by decide +kernel
theorem i121_22 : xI 121 22 = some (.aload_n 0) := by decide +kernel
theorem i121_23 : xI 121 23 = some (.arraylength) := by decide +kernel
theorem i121_24 : xI 121 24 = some (.iload_n 1) := by decide +kernel
theorem i121_25 : xI 121 25 = some (.invokestatic 304) := by decide +kernel
theorem i121_28 : xI 121 28 = some (.invokestatic 150) := by decide +kernel
theorem i121_31 : xI 121 31 = some (.aload_n 2) := by decide +kernel
theorem i121_32 : xI 121 32 = some (.areturn) := by decide +kernel
-- 122 Ar_fill
theorem i122_0 : xI 122 0 = some (.iconst 0) := by decide +kernel
theorem i122_1 : xI 122 1 = some (.istore_n 2) := by decide +kernel
theorem i122_2 : xI 122 2 = some (.aload_n 0) := by decide +kernel
theorem i122_3 : xI 122 3 = some (.arraylength) := by decide +kernel
theorem i122_4 : xI 122 4 = some (.istore_n 3) := by decide +kernel
theorem i122_5 : xI 122 5 = some (.iload_n 2) := by decide +kernel
theorem i122_6 : xI 122 6 = some (.iload_n 3) := by decide +kernel
theorem i122_7 : xI 122 7 = some (.if_icmp .ge 13) := by decide +kernel
theorem i122_10 : xI 122 10 = some (.aload_n 0) := by decide +kernel
theorem i122_11 : xI 122 11 = some (.iload_n 2) := by decide +kernel
theorem i122_12 : xI 122 12 = some (.iload_n 1) := by decide +kernel
theorem i122_13 : xI 122 13 = some (.iastore) := by decide +kernel
theorem i122_14 : xI 122 14 = some (.iinc 2 1) := by decide +kernel
theorem i122_17 : xI 122 17 = some (.goto (-12)) := by decide +kernel
theorem i122_20 : xI 122 20 = some (.return_) := by decide +kernel
-- 123 L_law
theorem i123_0 : xI 123 0 = some (.new 7) := by decide +kernel
theorem i123_3 : xI 123 3 = some (.dup) := by decide +kernel
theorem i123_4 : xI 123 4 = some (.invokespecial 9) := by decide +kernel
theorem i123_7 : xI 123 7 = some (.astore_n 1) := by decide +kernel
theorem i123_8 : xI 123 8 = some (.new 10) := by decide +kernel
theorem i123_11 : xI 123 11 = some (.dup) := by decide +kernel
theorem i123_12 : xI 123 12 = some (.invokespecial 12) := by decide +kernel
theorem i123_15 : xI 123 15 = some (.astore_n 2) := by decide +kernel
theorem i123_16 : xI 123 16 = some (.iconst 0) := by decide +kernel
theorem i123_17 : xI 123 17 = some (.istore_n 3) := by decide +kernel
theorem i123_18 : xI 123 18 = some (.iload_n 3) := by decide +kernel
theorem i123_19 : xI 123 19 = some (.aload_n 0) := by decide +kernel
theorem i123_20 : xI 123 20 = some (.arraylength) := by decide +kernel
theorem i123_21 : xI 123 21 = some (.bipush 6) := by decide +kernel
theorem i123_23 : xI 123 23 = some (.isub) := by decide +kernel
theorem i123_24 : xI 123 24 = some (.if_icmp .gt 712) := by decide +kernel
theorem i123_27 : xI 123 27 = some (.aload_n 0) := by decide +kernel
theorem i123_28 : xI 123 28 = some (.iload_n 3) := by decide +kernel
theorem i123_29 : xI 123 29 = some (.iaload) := by decide +kernel
theorem i123_30 : xI 123 30 = some (.bipush 15) := by decide +kernel
theorem i123_32 : xI 123 32 = some (.iand) := by decide +kernel
theorem i123_33 : xI 123 33 = some (.tableswitch 697 0 15 #[79, 142, 165, 178, 221, 291, 350, 373, 416, 449, 509, 542, 575, 608, 651, 684]) := by decide +kernel
theorem i123_112 : xI 123 112 = some (.aload_n 1) := by decide +kernel
theorem i123_113 : xI 123 113 = some (.aload_n 0) := by decide +kernel
theorem i123_114 : xI 123 114 = some (.iload_n 3) := by decide +kernel
theorem i123_115 : xI 123 115 = some (.iconst 1) := by decide +kernel
theorem i123_116 : xI 123 116 = some (.iadd) := by decide +kernel
theorem i123_117 : xI 123 117 = some (.iaload) := by decide +kernel
theorem i123_118 : xI 123 118 = some (.aload_n 0) := by decide +kernel
theorem i123_119 : xI 123 119 = some (.iload_n 3) := by decide +kernel
theorem i123_120 : xI 123 120 = some (.iconst 2) := by decide +kernel
theorem i123_121 : xI 123 121 = some (.iadd) := by decide +kernel
theorem i123_122 : xI 123 122 = some (.iaload) := by decide +kernel
theorem i123_123 : xI 123 123 = some (.aload_n 0) := by decide +kernel
theorem i123_124 : xI 123 124 = some (.iload_n 3) := by decide +kernel
theorem i123_125 : xI 123 125 = some (.iconst 3) := by decide +kernel
theorem i123_126 : xI 123 126 = some (.iadd) := by decide +kernel
theorem i123_127 : xI 123 127 = some (.iaload) := by decide +kernel
theorem i123_128 : xI 123 128 = some (.aload_n 0) := by decide +kernel
theorem i123_129 : xI 123 129 = some (.iload_n 3) := by decide +kernel
theorem i123_130 : xI 123 130 = some (.iconst 4) := by decide +kernel
theorem i123_131 : xI 123 131 = some (.iadd) := by decide +kernel
theorem i123_132 : xI 123 132 = some (.iaload) := by decide +kernel
theorem i123_133 : xI 123 133 = some (.aload_n 0) := by decide +kernel
theorem i123_134 : xI 123 134 = some (.iload_n 3) := by decide +kernel
theorem i123_135 : xI 123 135 = some (.iconst 5) := by decide +kernel
theorem i123_136 : xI 123 136 = some (.iadd) := by decide +kernel
theorem i123_137 : xI 123 137 = some (.iaload) := by decide +kernel
theorem i123_138 : xI 123 138 = some (.invokevirtual 13) := by decide +kernel
theorem i123_141 : xI 123 141 = some (.aload_n 2) := by decide +kernel
theorem i123_142 : xI 123 142 = some (.aload_n 0) := by decide +kernel
theorem i123_143 : xI 123 143 = some (.iload_n 3) := by decide +kernel
theorem i123_144 : xI 123 144 = some (.iconst 1) := by decide +kernel
theorem i123_145 : xI 123 145 = some (.iadd) := by decide +kernel
theorem i123_146 : xI 123 146 = some (.iaload) := by decide +kernel
theorem i123_147 : xI 123 147 = some (.aload_n 0) := by decide +kernel
theorem i123_148 : xI 123 148 = some (.iload_n 3) := by decide +kernel
theorem i123_149 : xI 123 149 = some (.iconst 2) := by decide +kernel
theorem i123_150 : xI 123 150 = some (.iadd) := by decide +kernel
theorem i123_151 : xI 123 151 = some (.iaload) := by decide +kernel
theorem i123_152 : xI 123 152 = some (.aload_n 0) := by decide +kernel
theorem i123_153 : xI 123 153 = some (.iload_n 3) := by decide +kernel
theorem i123_154 : xI 123 154 = some (.iconst 3) := by decide +kernel
theorem i123_155 : xI 123 155 = some (.iadd) := by decide +kernel
theorem i123_156 : xI 123 156 = some (.iaload) := by decide +kernel
theorem i123_157 : xI 123 157 = some (.aload_n 0) := by decide +kernel
theorem i123_158 : xI 123 158 = some (.iload_n 3) := by decide +kernel
theorem i123_159 : xI 123 159 = some (.iconst 4) := by decide +kernel
theorem i123_160 : xI 123 160 = some (.iadd) := by decide +kernel
theorem i123_161 : xI 123 161 = some (.iaload) := by decide +kernel
theorem i123_162 : xI 123 162 = some (.aload_n 0) := by decide +kernel
theorem i123_163 : xI 123 163 = some (.iload_n 3) := by decide +kernel
theorem i123_164 : xI 123 164 = some (.iconst 5) := by decide +kernel
theorem i123_165 : xI 123 165 = some (.iadd) := by decide +kernel
theorem i123_166 : xI 123 166 = some (.iaload) := by decide +kernel
theorem i123_167 : xI 123 167 = some (.invokevirtual 17) := by decide +kernel
theorem i123_170 : xI 123 170 = some (.if_icmp .eq 560) := by decide +kernel
theorem i123_173 : xI 123 173 = some (.iconst 0) := by decide +kernel
theorem i123_174 : xI 123 174 = some (.ireturn) := by decide +kernel
theorem i123_175 : xI 123 175 = some (.aload_n 1) := by decide +kernel
theorem i123_176 : xI 123 176 = some (.aload_n 0) := by decide +kernel
theorem i123_177 : xI 123 177 = some (.iload_n 3) := by decide +kernel
theorem i123_178 : xI 123 178 = some (.iconst 1) := by decide +kernel
theorem i123_179 : xI 123 179 = some (.iadd) := by decide +kernel
theorem i123_180 : xI 123 180 = some (.iaload) := by decide +kernel
theorem i123_181 : xI 123 181 = some (.invokevirtual 18) := by decide +kernel
theorem i123_184 : xI 123 184 = some (.aload_n 2) := by decide +kernel
theorem i123_185 : xI 123 185 = some (.aload_n 0) := by decide +kernel
theorem i123_186 : xI 123 186 = some (.iload_n 3) := by decide +kernel
theorem i123_187 : xI 123 187 = some (.iconst 1) := by decide +kernel
theorem i123_188 : xI 123 188 = some (.iadd) := by decide +kernel
theorem i123_189 : xI 123 189 = some (.iaload) := by decide +kernel
theorem i123_190 : xI 123 190 = some (.invokevirtual 22) := by decide +kernel
theorem i123_193 : xI 123 193 = some (.if_icmp .eq 537) := by decide +kernel
theorem i123_196 : xI 123 196 = some (.iconst 0) := by decide +kernel
theorem i123_197 : xI 123 197 = some (.ireturn) := by decide +kernel
theorem i123_198 : xI 123 198 = some (.aload_n 1) := by decide +kernel
theorem i123_199 : xI 123 199 = some (.invokevirtual 23) := by decide +kernel
theorem i123_202 : xI 123 202 = some (.aload_n 2) := by decide +kernel
theorem i123_203 : xI 123 203 = some (.invokevirtual 27) := by decide +kernel
theorem i123_206 : xI 123 206 = some (.if_icmp .eq 524) := by decide +kernel
theorem i123_209 : xI 123 209 = some (.iconst 0) := by decide +kernel
theorem i123_210 : xI 123 210 = some (.ireturn) := by decide +kernel
theorem i123_211 : xI 123 211 = some (.aload_n 1) := by decide +kernel
theorem i123_212 : xI 123 212 = some (.aload_n 0) := by decide +kernel
theorem i123_213 : xI 123 213 = some (.iload_n 3) := by decide +kernel
theorem i123_214 : xI 123 214 = some (.iconst 1) := by decide +kernel
theorem i123_215 : xI 123 215 = some (.iadd) := by decide +kernel
theorem i123_216 : xI 123 216 = some (.iaload) := by decide +kernel
theorem i123_217 : xI 123 217 = some (.aload_n 0) := by decide +kernel
theorem i123_218 : xI 123 218 = some (.iload_n 3) := by decide +kernel
theorem i123_219 : xI 123 219 = some (.iconst 2) := by decide +kernel
theorem i123_220 : xI 123 220 = some (.iadd) := by decide +kernel
theorem i123_221 : xI 123 221 = some (.iaload) := by decide +kernel
theorem i123_222 : xI 123 222 = some (.aload_n 0) := by decide +kernel
theorem i123_223 : xI 123 223 = some (.iload_n 3) := by decide +kernel
theorem i123_224 : xI 123 224 = some (.iconst 3) := by decide +kernel
theorem i123_225 : xI 123 225 = some (.iadd) := by decide +kernel
theorem i123_226 : xI 123 226 = some (.iaload) := by decide +kernel
theorem i123_227 : xI 123 227 = some (.invokevirtual 28) := by decide +kernel
theorem i123_230 : xI 123 230 = some (.aload_n 2) := by decide +kernel
theorem i123_231 : xI 123 231 = some (.aload_n 0) := by decide +kernel
theorem i123_232 : xI 123 232 = some (.iload_n 3) := by decide +kernel
theorem i123_233 : xI 123 233 = some (.iconst 1) := by decide +kernel
theorem i123_234 : xI 123 234 = some (.iadd) := by decide +kernel
theorem i123_235 : xI 123 235 = some (.iaload) := by decide +kernel
theorem i123_236 : xI 123 236 = some (.aload_n 0) := by decide +kernel
theorem i123_237 : xI 123 237 = some (.iload_n 3) := by decide +kernel
theorem i123_238 : xI 123 238 = some (.iconst 2) := by decide +kernel
theorem i123_239 : xI 123 239 = some (.iadd) := by decide +kernel
theorem i123_240 : xI 123 240 = some (.iaload) := by decide +kernel
theorem i123_241 : xI 123 241 = some (.aload_n 0) := by decide +kernel
theorem i123_242 : xI 123 242 = some (.iload_n 3) := by decide +kernel
theorem i123_243 : xI 123 243 = some (.iconst 3) := by decide +kernel
theorem i123_244 : xI 123 244 = some (.iadd) := by decide +kernel
theorem i123_245 : xI 123 245 = some (.iaload) := by decide +kernel
theorem i123_246 : xI 123 246 = some (.invokevirtual 32) := by decide +kernel
theorem i123_249 : xI 123 249 = some (.if_icmp .eq 481) := by decide +kernel
theorem i123_252 : xI 123 252 = some (.iconst 0) := by decide +kernel
theorem i123_253 : xI 123 253 = some (.ireturn) := by decide +kernel
theorem i123_254 : xI 123 254 = some (.aload_n 1) := by decide +kernel
theorem i123_255 : xI 123 255 = some (.aload_n 0) := by decide +kernel
theorem i123_256 : xI 123 256 = some (.iload_n 3) := by decide +kernel
theorem i123_257 : xI 123 257 = some (.iconst 1) := by decide +kernel
theorem i123_258 : xI 123 258 = some (.iadd) := by decide +kernel
theorem i123_259 : xI 123 259 = some (.iaload) := by decide +kernel
theorem i123_260 : xI 123 260 = some (.aload_n 0) := by decide +kernel
theorem i123_261 : xI 123 261 = some (.iload_n 3) := by decide +kernel
theorem i123_262 : xI 123 262 = some (.iconst 2) := by decide +kernel
theorem i123_263 : xI 123 263 = some (.iadd) := by decide +kernel
theorem i123_264 : xI 123 264 = some (.iaload) := by decide +kernel
theorem i123_265 : xI 123 265 = some (.aload_n 0) := by decide +kernel
theorem i123_266 : xI 123 266 = some (.iload_n 3) := by decide +kernel
theorem i123_267 : xI 123 267 = some (.iconst 3) := by decide +kernel
theorem i123_268 : xI 123 268 = some (.iadd) := by decide +kernel
theorem i123_269 : xI 123 269 = some (.iaload) := by decide +kernel
theorem i123_270 : xI 123 270 = some (.aload_n 0) := by decide +kernel
theorem i123_271 : xI 123 271 = some (.iload_n 3) := by decide +kernel
theorem i123_272 : xI 123 272 = some (.iconst 4) := by decide +kernel
theorem i123_273 : xI 123 273 = some (.iadd) := by decide +kernel
theorem i123_274 : xI 123 274 = some (.iaload) := by decide +kernel
theorem i123_275 : xI 123 275 = some (.ifCond .eq 7) := by decide +kernel
theorem i123_278 : xI 123 278 = some (.iconst 1) := by decide +kernel
theorem i123_279 : xI 123 279 = some (.goto 4) := by decide +kernel
theorem i123_282 : xI 123 282 = some (.iconst 0) := by decide +kernel
theorem i123_283 : xI 123 283 = some (.invokevirtual 33) := by decide +kernel
theorem i123_286 : xI 123 286 = some (.aload_n 2) := by decide +kernel
theorem i123_287 : xI 123 287 = some (.aload_n 0) := by decide +kernel
theorem i123_288 : xI 123 288 = some (.iload_n 3) := by decide +kernel
theorem i123_289 : xI 123 289 = some (.iconst 1) := by decide +kernel
theorem i123_290 : xI 123 290 = some (.iadd) := by decide +kernel
theorem i123_291 : xI 123 291 = some (.iaload) := by decide +kernel
theorem i123_292 : xI 123 292 = some (.aload_n 0) := by decide +kernel
theorem i123_293 : xI 123 293 = some (.iload_n 3) := by decide +kernel
theorem i123_294 : xI 123 294 = some (.iconst 2) := by decide +kernel
theorem i123_295 : xI 123 295 = some (.iadd) := by decide +kernel
theorem i123_296 : xI 123 296 = some (.iaload) := by decide +kernel
theorem i123_297 : xI 123 297 = some (.aload_n 0) := by decide +kernel
theorem i123_298 : xI 123 298 = some (.iload_n 3) := by decide +kernel
theorem i123_299 : xI 123 299 = some (.iconst 3) := by decide +kernel
theorem i123_300 : xI 123 300 = some (.iadd) := by decide +kernel
theorem i123_301 : xI 123 301 = some (.iaload) := by decide +kernel
theorem i123_302 : xI 123 302 = some (.aload_n 0) := by decide +kernel
theorem i123_303 : xI 123 303 = some (.iload_n 3) := by decide +kernel
theorem i123_304 : xI 123 304 = some (.iconst 4) := by decide +kernel
theorem i123_305 : xI 123 305 = some (.iadd) := by decide +kernel
theorem i123_306 : xI 123 306 = some (.iaload) := by decide +kernel
theorem i123_307 : xI 123 307 = some (.ifCond .eq 7) := by decide +kernel
theorem i123_310 : xI 123 310 = some (.iconst 1) := by decide +kernel
theorem i123_311 : xI 123 311 = some (.goto 4) := by decide +kernel
theorem i123_314 : xI 123 314 = some (.iconst 0) := by decide +kernel
theorem i123_315 : xI 123 315 = some (.invokevirtual 37) := by decide +kernel
theorem i123_318 : xI 123 318 = some (.lcmp) := by decide +kernel
theorem i123_319 : xI 123 319 = some (.ifCond .eq 411) := by decide +kernel
theorem i123_322 : xI 123 322 = some (.iconst 0) := by decide +kernel
theorem i123_323 : xI 123 323 = some (.ireturn) := by decide +kernel
theorem i123_324 : xI 123 324 = some (.aload_n 1) := by decide +kernel
theorem i123_325 : xI 123 325 = some (.aload_n 0) := by decide +kernel
theorem i123_326 : xI 123 326 = some (.iload_n 3) := by decide +kernel
theorem i123_327 : xI 123 327 = some (.iconst 1) := by decide +kernel
theorem i123_328 : xI 123 328 = some (.iadd) := by decide +kernel
theorem i123_329 : xI 123 329 = some (.iaload) := by decide +kernel
theorem i123_330 : xI 123 330 = some (.aload_n 0) := by decide +kernel
theorem i123_331 : xI 123 331 = some (.iload_n 3) := by decide +kernel
theorem i123_332 : xI 123 332 = some (.iconst 2) := by decide +kernel
theorem i123_333 : xI 123 333 = some (.iadd) := by decide +kernel
theorem i123_334 : xI 123 334 = some (.iaload) := by decide +kernel
theorem i123_335 : xI 123 335 = some (.aload_n 0) := by decide +kernel
theorem i123_336 : xI 123 336 = some (.iload_n 3) := by decide +kernel
theorem i123_337 : xI 123 337 = some (.iconst 3) := by decide +kernel
theorem i123_338 : xI 123 338 = some (.iadd) := by decide +kernel
theorem i123_339 : xI 123 339 = some (.iaload) := by decide +kernel
theorem i123_340 : xI 123 340 = some (.ifCond .eq 7) := by decide +kernel
theorem i123_343 : xI 123 343 = some (.iconst 1) := by decide +kernel
theorem i123_344 : xI 123 344 = some (.goto 4) := by decide +kernel
theorem i123_347 : xI 123 347 = some (.iconst 0) := by decide +kernel
theorem i123_348 : xI 123 348 = some (.invokevirtual 38) := by decide +kernel
theorem i123_351 : xI 123 351 = some (.aload_n 2) := by decide +kernel
theorem i123_352 : xI 123 352 = some (.aload_n 0) := by decide +kernel
theorem i123_353 : xI 123 353 = some (.iload_n 3) := by decide +kernel
theorem i123_354 : xI 123 354 = some (.iconst 1) := by decide +kernel
theorem i123_355 : xI 123 355 = some (.iadd) := by decide +kernel
theorem i123_356 : xI 123 356 = some (.iaload) := by decide +kernel
theorem i123_357 : xI 123 357 = some (.aload_n 0) := by decide +kernel
theorem i123_358 : xI 123 358 = some (.iload_n 3) := by decide +kernel
theorem i123_359 : xI 123 359 = some (.iconst 2) := by decide +kernel
theorem i123_360 : xI 123 360 = some (.iadd) := by decide +kernel
theorem i123_361 : xI 123 361 = some (.iaload) := by decide +kernel
theorem i123_362 : xI 123 362 = some (.aload_n 0) := by decide +kernel
theorem i123_363 : xI 123 363 = some (.iload_n 3) := by decide +kernel
theorem i123_364 : xI 123 364 = some (.iconst 3) := by decide +kernel
theorem i123_365 : xI 123 365 = some (.iadd) := by decide +kernel
theorem i123_366 : xI 123 366 = some (.iaload) := by decide +kernel
theorem i123_367 : xI 123 367 = some (.ifCond .eq 7) := by decide +kernel
theorem i123_370 : xI 123 370 = some (.iconst 1) := by decide +kernel
theorem i123_371 : xI 123 371 = some (.goto 4) := by decide +kernel
theorem i123_374 : xI 123 374 = some (.iconst 0) := by decide +kernel
theorem i123_375 : xI 123 375 = some (.invokevirtual 42) := by decide +kernel
theorem i123_378 : xI 123 378 = some (.if_icmp .eq 352) := by decide +kernel
theorem i123_381 : xI 123 381 = some (.iconst 0) := by decide +kernel
theorem i123_382 : xI 123 382 = some (.ireturn) := by decide +kernel
theorem i123_383 : xI 123 383 = some (.aload_n 1) := by decide +kernel
theorem i123_384 : xI 123 384 = some (.aload_n 0) := by decide +kernel
theorem i123_385 : xI 123 385 = some (.iload_n 3) := by decide +kernel
theorem i123_386 : xI 123 386 = some (.iconst 1) := by decide +kernel
theorem i123_387 : xI 123 387 = some (.iadd) := by decide +kernel
theorem i123_388 : xI 123 388 = some (.iaload) := by decide +kernel
theorem i123_389 : xI 123 389 = some (.invokevirtual 43) := by decide +kernel
theorem i123_392 : xI 123 392 = some (.aload_n 2) := by decide +kernel
theorem i123_393 : xI 123 393 = some (.aload_n 0) := by decide +kernel
theorem i123_394 : xI 123 394 = some (.iload_n 3) := by decide +kernel
theorem i123_395 : xI 123 395 = some (.iconst 1) := by decide +kernel
theorem i123_396 : xI 123 396 = some (.iadd) := by decide +kernel
theorem i123_397 : xI 123 397 = some (.iaload) := by decide +kernel
theorem i123_398 : xI 123 398 = some (.invokevirtual 46) := by decide +kernel
theorem i123_401 : xI 123 401 = some (.if_icmp .eq 329) := by decide +kernel
theorem i123_404 : xI 123 404 = some (.iconst 0) := by decide +kernel
theorem i123_405 : xI 123 405 = some (.ireturn) := by decide +kernel
theorem i123_406 : xI 123 406 = some (.aload_n 1) := by decide +kernel
theorem i123_407 : xI 123 407 = some (.aload_n 0) := by decide +kernel
theorem i123_408 : xI 123 408 = some (.iload_n 3) := by decide +kernel
theorem i123_409 : xI 123 409 = some (.iconst 1) := by decide +kernel
theorem i123_410 : xI 123 410 = some (.iadd) := by decide +kernel
theorem i123_411 : xI 123 411 = some (.iaload) := by decide +kernel
theorem i123_412 : xI 123 412 = some (.aload_n 0) := by decide +kernel
theorem i123_413 : xI 123 413 = some (.iload_n 3) := by decide +kernel
theorem i123_414 : xI 123 414 = some (.iconst 2) := by decide +kernel
theorem i123_415 : xI 123 415 = some (.iadd) := by decide +kernel
theorem i123_416 : xI 123 416 = some (.iaload) := by decide +kernel
theorem i123_417 : xI 123 417 = some (.aload_n 0) := by decide +kernel
theorem i123_418 : xI 123 418 = some (.iload_n 3) := by decide +kernel
theorem i123_419 : xI 123 419 = some (.iconst 3) := by decide +kernel
theorem i123_420 : xI 123 420 = some (.iadd) := by decide +kernel
theorem i123_421 : xI 123 421 = some (.iaload) := by decide +kernel
theorem i123_422 : xI 123 422 = some (.invokevirtual 47) := by decide +kernel
theorem i123_425 : xI 123 425 = some (.aload_n 2) := by decide +kernel
theorem i123_426 : xI 123 426 = some (.aload_n 0) := by decide +kernel
theorem i123_427 : xI 123 427 = some (.iload_n 3) := by decide +kernel
theorem i123_428 : xI 123 428 = some (.iconst 1) := by decide +kernel
theorem i123_429 : xI 123 429 = some (.iadd) := by decide +kernel
theorem i123_430 : xI 123 430 = some (.iaload) := by decide +kernel
theorem i123_431 : xI 123 431 = some (.aload_n 0) := by decide +kernel
theorem i123_432 : xI 123 432 = some (.iload_n 3) := by decide +kernel
theorem i123_433 : xI 123 433 = some (.iconst 2) := by decide +kernel
theorem i123_434 : xI 123 434 = some (.iadd) := by decide +kernel
theorem i123_435 : xI 123 435 = some (.iaload) := by decide +kernel
theorem i123_436 : xI 123 436 = some (.aload_n 0) := by decide +kernel
theorem i123_437 : xI 123 437 = some (.iload_n 3) := by decide +kernel
theorem i123_438 : xI 123 438 = some (.iconst 3) := by decide +kernel
theorem i123_439 : xI 123 439 = some (.iadd) := by decide +kernel
theorem i123_440 : xI 123 440 = some (.iaload) := by decide +kernel
theorem i123_441 : xI 123 441 = some (.invokevirtual 50) := by decide +kernel
theorem i123_444 : xI 123 444 = some (.if_icmp .eq 286) := by decide +kernel
theorem i123_447 : xI 123 447 = some (.iconst 0) := by decide +kernel
theorem i123_448 : xI 123 448 = some (.ireturn) := by decide +kernel
theorem i123_449 : xI 123 449 = some (.aload_n 1) := by decide +kernel
theorem i123_450 : xI 123 450 = some (.aload_n 0) := by decide +kernel
theorem i123_451 : xI 123 451 = some (.iload_n 3) := by decide +kernel
theorem i123_452 : xI 123 452 = some (.iconst 1) := by decide +kernel
theorem i123_453 : xI 123 453 = some (.iadd) := by decide +kernel
theorem i123_454 : xI 123 454 = some (.iaload) := by decide +kernel
theorem i123_455 : xI 123 455 = some (.aload_n 0) := by decide +kernel
theorem i123_456 : xI 123 456 = some (.iload_n 3) := by decide +kernel
theorem i123_457 : xI 123 457 = some (.iconst 2) := by decide +kernel
theorem i123_458 : xI 123 458 = some (.iadd) := by decide +kernel
theorem i123_459 : xI 123 459 = some (.iaload) := by decide +kernel
theorem i123_460 : xI 123 460 = some (.invokevirtual 51) := by decide +kernel
theorem i123_463 : xI 123 463 = some (.aload_n 2) := by decide +kernel
theorem i123_464 : xI 123 464 = some (.aload_n 0) := by decide +kernel
theorem i123_465 : xI 123 465 = some (.iload_n 3) := by decide +kernel
theorem i123_466 : xI 123 466 = some (.iconst 1) := by decide +kernel
theorem i123_467 : xI 123 467 = some (.iadd) := by decide +kernel
theorem i123_468 : xI 123 468 = some (.iaload) := by decide +kernel
theorem i123_469 : xI 123 469 = some (.aload_n 0) := by decide +kernel
theorem i123_470 : xI 123 470 = some (.iload_n 3) := by decide +kernel
theorem i123_471 : xI 123 471 = some (.iconst 2) := by decide +kernel
theorem i123_472 : xI 123 472 = some (.iadd) := by decide +kernel
theorem i123_473 : xI 123 473 = some (.iaload) := by decide +kernel
theorem i123_474 : xI 123 474 = some (.invokevirtual 55) := by decide +kernel
theorem i123_477 : xI 123 477 = some (.if_icmp .eq 253) := by decide +kernel
theorem i123_480 : xI 123 480 = some (.iconst 0) := by decide +kernel
theorem i123_481 : xI 123 481 = some (.ireturn) := by decide +kernel
theorem i123_482 : xI 123 482 = some (.aload_n 1) := by decide +kernel
theorem i123_483 : xI 123 483 = some (.aload_n 0) := by decide +kernel
theorem i123_484 : xI 123 484 = some (.iload_n 3) := by decide +kernel
theorem i123_485 : xI 123 485 = some (.iconst 1) := by decide +kernel
theorem i123_486 : xI 123 486 = some (.iadd) := by decide +kernel
theorem i123_487 : xI 123 487 = some (.iaload) := by decide +kernel
theorem i123_488 : xI 123 488 = some (.aload_n 0) := by decide +kernel
theorem i123_489 : xI 123 489 = some (.iload_n 3) := by decide +kernel
theorem i123_490 : xI 123 490 = some (.iconst 2) := by decide +kernel
theorem i123_491 : xI 123 491 = some (.iadd) := by decide +kernel
theorem i123_492 : xI 123 492 = some (.iaload) := by decide +kernel
theorem i123_493 : xI 123 493 = some (.aload_n 0) := by decide +kernel
theorem i123_494 : xI 123 494 = some (.iload_n 3) := by decide +kernel
theorem i123_495 : xI 123 495 = some (.iconst 3) := by decide +kernel
theorem i123_496 : xI 123 496 = some (.iadd) := by decide +kernel
theorem i123_497 : xI 123 497 = some (.iaload) := by decide +kernel
theorem i123_498 : xI 123 498 = some (.ifCond .eq 7) := by decide +kernel
theorem i123_501 : xI 123 501 = some (.iconst 1) := by decide +kernel
theorem i123_502 : xI 123 502 = some (.goto 4) := by decide +kernel
theorem i123_505 : xI 123 505 = some (.iconst 0) := by decide +kernel
theorem i123_506 : xI 123 506 = some (.invokevirtual 56) := by decide +kernel
theorem i123_509 : xI 123 509 = some (.aload_n 2) := by decide +kernel
theorem i123_510 : xI 123 510 = some (.aload_n 0) := by decide +kernel
theorem i123_511 : xI 123 511 = some (.iload_n 3) := by decide +kernel
theorem i123_512 : xI 123 512 = some (.iconst 1) := by decide +kernel
theorem i123_513 : xI 123 513 = some (.iadd) := by decide +kernel
theorem i123_514 : xI 123 514 = some (.iaload) := by decide +kernel
theorem i123_515 : xI 123 515 = some (.aload_n 0) := by decide +kernel
theorem i123_516 : xI 123 516 = some (.iload_n 3) := by decide +kernel
theorem i123_517 : xI 123 517 = some (.iconst 2) := by decide +kernel
theorem i123_518 : xI 123 518 = some (.iadd) := by decide +kernel
theorem i123_519 : xI 123 519 = some (.iaload) := by decide +kernel
theorem i123_520 : xI 123 520 = some (.aload_n 0) := by decide +kernel
theorem i123_521 : xI 123 521 = some (.iload_n 3) := by decide +kernel
theorem i123_522 : xI 123 522 = some (.iconst 3) := by decide +kernel
theorem i123_523 : xI 123 523 = some (.iadd) := by decide +kernel
theorem i123_524 : xI 123 524 = some (.iaload) := by decide +kernel
theorem i123_525 : xI 123 525 = some (.ifCond .eq 7) := by decide +kernel
theorem i123_528 : xI 123 528 = some (.iconst 1) := by decide +kernel
theorem i123_529 : xI 123 529 = some (.goto 4) := by decide +kernel
theorem i123_532 : xI 123 532 = some (.iconst 0) := by decide +kernel
theorem i123_533 : xI 123 533 = some (.invokevirtual 60) := by decide +kernel
theorem i123_536 : xI 123 536 = some (.lcmp) := by decide +kernel
theorem i123_537 : xI 123 537 = some (.ifCond .eq 193) := by decide +kernel
theorem i123_540 : xI 123 540 = some (.iconst 0) := by decide +kernel
theorem i123_541 : xI 123 541 = some (.ireturn) := by decide +kernel
theorem i123_542 : xI 123 542 = some (.aload_n 1) := by decide +kernel
theorem i123_543 : xI 123 543 = some (.aload_n 0) := by decide +kernel
theorem i123_544 : xI 123 544 = some (.iload_n 3) := by decide +kernel
theorem i123_545 : xI 123 545 = some (.iconst 1) := by decide +kernel
theorem i123_546 : xI 123 546 = some (.iadd) := by decide +kernel
theorem i123_547 : xI 123 547 = some (.iaload) := by decide +kernel
theorem i123_548 : xI 123 548 = some (.aload_n 0) := by decide +kernel
theorem i123_549 : xI 123 549 = some (.iload_n 3) := by decide +kernel
theorem i123_550 : xI 123 550 = some (.iconst 2) := by decide +kernel
theorem i123_551 : xI 123 551 = some (.iadd) := by decide +kernel
theorem i123_552 : xI 123 552 = some (.iaload) := by decide +kernel
theorem i123_553 : xI 123 553 = some (.invokevirtual 61) := by decide +kernel
theorem i123_556 : xI 123 556 = some (.aload_n 2) := by decide +kernel
theorem i123_557 : xI 123 557 = some (.aload_n 0) := by decide +kernel
theorem i123_558 : xI 123 558 = some (.iload_n 3) := by decide +kernel
theorem i123_559 : xI 123 559 = some (.iconst 1) := by decide +kernel
theorem i123_560 : xI 123 560 = some (.iadd) := by decide +kernel
theorem i123_561 : xI 123 561 = some (.iaload) := by decide +kernel
theorem i123_562 : xI 123 562 = some (.aload_n 0) := by decide +kernel
theorem i123_563 : xI 123 563 = some (.iload_n 3) := by decide +kernel
theorem i123_564 : xI 123 564 = some (.iconst 2) := by decide +kernel
theorem i123_565 : xI 123 565 = some (.iadd) := by decide +kernel
theorem i123_566 : xI 123 566 = some (.iaload) := by decide +kernel
theorem i123_567 : xI 123 567 = some (.invokevirtual 64) := by decide +kernel
theorem i123_570 : xI 123 570 = some (.if_icmp .eq 160) := by decide +kernel
theorem i123_573 : xI 123 573 = some (.iconst 0) := by decide +kernel
theorem i123_574 : xI 123 574 = some (.ireturn) := by decide +kernel
theorem i123_575 : xI 123 575 = some (.aload_n 1) := by decide +kernel
theorem i123_576 : xI 123 576 = some (.aload_n 0) := by decide +kernel
theorem i123_577 : xI 123 577 = some (.iload_n 3) := by decide +kernel
theorem i123_578 : xI 123 578 = some (.iconst 1) := by decide +kernel
theorem i123_579 : xI 123 579 = some (.iadd) := by decide +kernel
theorem i123_580 : xI 123 580 = some (.iaload) := by decide +kernel
theorem i123_581 : xI 123 581 = some (.aload_n 0) := by decide +kernel
theorem i123_582 : xI 123 582 = some (.iload_n 3) := by decide +kernel
theorem i123_583 : xI 123 583 = some (.iconst 2) := by decide +kernel
theorem i123_584 : xI 123 584 = some (.iadd) := by decide +kernel
theorem i123_585 : xI 123 585 = some (.iaload) := by decide +kernel
theorem i123_586 : xI 123 586 = some (.invokevirtual 65) := by decide +kernel
theorem i123_589 : xI 123 589 = some (.aload_n 2) := by decide +kernel
theorem i123_590 : xI 123 590 = some (.aload_n 0) := by decide +kernel
theorem i123_591 : xI 123 591 = some (.iload_n 3) := by decide +kernel
theorem i123_592 : xI 123 592 = some (.iconst 1) := by decide +kernel
theorem i123_593 : xI 123 593 = some (.iadd) := by decide +kernel
theorem i123_594 : xI 123 594 = some (.iaload) := by decide +kernel
theorem i123_595 : xI 123 595 = some (.aload_n 0) := by decide +kernel
theorem i123_596 : xI 123 596 = some (.iload_n 3) := by decide +kernel
theorem i123_597 : xI 123 597 = some (.iconst 2) := by decide +kernel
theorem i123_598 : xI 123 598 = some (.iadd) := by decide +kernel
theorem i123_599 : xI 123 599 = some (.iaload) := by decide +kernel
theorem i123_600 : xI 123 600 = some (.invokevirtual 68) := by decide +kernel
theorem i123_603 : xI 123 603 = some (.if_icmp .eq 127) := by decide +kernel
theorem i123_606 : xI 123 606 = some (.iconst 0) := by decide +kernel
theorem i123_607 : xI 123 607 = some (.ireturn) := by decide +kernel
theorem i123_608 : xI 123 608 = some (.aload_n 1) := by decide +kernel
theorem i123_609 : xI 123 609 = some (.aload_n 0) := by decide +kernel
theorem i123_610 : xI 123 610 = some (.iload_n 3) := by decide +kernel
theorem i123_611 : xI 123 611 = some (.iconst 1) := by decide +kernel
theorem i123_612 : xI 123 612 = some (.iadd) := by decide +kernel
theorem i123_613 : xI 123 613 = some (.iaload) := by decide +kernel
theorem i123_614 : xI 123 614 = some (.aload_n 0) := by decide +kernel
theorem i123_615 : xI 123 615 = some (.iload_n 3) := by decide +kernel
theorem i123_616 : xI 123 616 = some (.iconst 2) := by decide +kernel
theorem i123_617 : xI 123 617 = some (.iadd) := by decide +kernel
theorem i123_618 : xI 123 618 = some (.iaload) := by decide +kernel
theorem i123_619 : xI 123 619 = some (.invokevirtual 69) := by decide +kernel
theorem i123_622 : xI 123 622 = some (.aload_n 2) := by decide +kernel
theorem i123_623 : xI 123 623 = some (.aload_n 0) := by decide +kernel
theorem i123_624 : xI 123 624 = some (.iload_n 3) := by decide +kernel
theorem i123_625 : xI 123 625 = some (.iconst 1) := by decide +kernel
theorem i123_626 : xI 123 626 = some (.iadd) := by decide +kernel
theorem i123_627 : xI 123 627 = some (.iaload) := by decide +kernel
theorem i123_628 : xI 123 628 = some (.aload_n 0) := by decide +kernel
theorem i123_629 : xI 123 629 = some (.iload_n 3) := by decide +kernel
theorem i123_630 : xI 123 630 = some (.iconst 2) := by decide +kernel
theorem i123_631 : xI 123 631 = some (.iadd) := by decide +kernel
theorem i123_632 : xI 123 632 = some (.iaload) := by decide +kernel
theorem i123_633 : xI 123 633 = some (.invokevirtual 72) := by decide +kernel
theorem i123_636 : xI 123 636 = some (.if_icmp .eq 94) := by decide +kernel
theorem i123_639 : xI 123 639 = some (.iconst 0) := by decide +kernel
theorem i123_640 : xI 123 640 = some (.ireturn) := by decide +kernel
theorem i123_641 : xI 123 641 = some (.aload_n 1) := by decide +kernel
theorem i123_642 : xI 123 642 = some (.aload_n 0) := by decide +kernel
theorem i123_643 : xI 123 643 = some (.iload_n 3) := by decide +kernel
theorem i123_644 : xI 123 644 = some (.iconst 1) := by decide +kernel
theorem i123_645 : xI 123 645 = some (.iadd) := by decide +kernel
theorem i123_646 : xI 123 646 = some (.iaload) := by decide +kernel
theorem i123_647 : xI 123 647 = some (.aload_n 0) := by decide +kernel
theorem i123_648 : xI 123 648 = some (.iload_n 3) := by decide +kernel
theorem i123_649 : xI 123 649 = some (.iconst 2) := by decide +kernel
theorem i123_650 : xI 123 650 = some (.iadd) := by decide +kernel
theorem i123_651 : xI 123 651 = some (.iaload) := by decide +kernel
theorem i123_652 : xI 123 652 = some (.aload_n 0) := by decide +kernel
theorem i123_653 : xI 123 653 = some (.iload_n 3) := by decide +kernel
theorem i123_654 : xI 123 654 = some (.iconst 3) := by decide +kernel
theorem i123_655 : xI 123 655 = some (.iadd) := by decide +kernel
theorem i123_656 : xI 123 656 = some (.iaload) := by decide +kernel
theorem i123_657 : xI 123 657 = some (.invokevirtual 73) := by decide +kernel
theorem i123_660 : xI 123 660 = some (.aload_n 2) := by decide +kernel
theorem i123_661 : xI 123 661 = some (.aload_n 0) := by decide +kernel
theorem i123_662 : xI 123 662 = some (.iload_n 3) := by decide +kernel
theorem i123_663 : xI 123 663 = some (.iconst 1) := by decide +kernel
theorem i123_664 : xI 123 664 = some (.iadd) := by decide +kernel
theorem i123_665 : xI 123 665 = some (.iaload) := by decide +kernel
theorem i123_666 : xI 123 666 = some (.aload_n 0) := by decide +kernel
theorem i123_667 : xI 123 667 = some (.iload_n 3) := by decide +kernel
theorem i123_668 : xI 123 668 = some (.iconst 2) := by decide +kernel
theorem i123_669 : xI 123 669 = some (.iadd) := by decide +kernel
theorem i123_670 : xI 123 670 = some (.iaload) := by decide +kernel
theorem i123_671 : xI 123 671 = some (.aload_n 0) := by decide +kernel
theorem i123_672 : xI 123 672 = some (.iload_n 3) := by decide +kernel
theorem i123_673 : xI 123 673 = some (.iconst 3) := by decide +kernel
theorem i123_674 : xI 123 674 = some (.iadd) := by decide +kernel
theorem i123_675 : xI 123 675 = some (.iaload) := by decide +kernel
theorem i123_676 : xI 123 676 = some (.invokevirtual 76) := by decide +kernel
theorem i123_679 : xI 123 679 = some (.if_icmp .eq 51) := by decide +kernel
theorem i123_682 : xI 123 682 = some (.iconst 0) := by decide +kernel
theorem i123_683 : xI 123 683 = some (.ireturn) := by decide +kernel
theorem i123_684 : xI 123 684 = some (.aload_n 1) := by decide +kernel
theorem i123_685 : xI 123 685 = some (.aload_n 0) := by decide +kernel
theorem i123_686 : xI 123 686 = some (.iload_n 3) := by decide +kernel
theorem i123_687 : xI 123 687 = some (.iconst 1) := by decide +kernel
theorem i123_688 : xI 123 688 = some (.iadd) := by decide +kernel
theorem i123_689 : xI 123 689 = some (.iaload) := by decide +kernel
theorem i123_690 : xI 123 690 = some (.aload_n 0) := by decide +kernel
theorem i123_691 : xI 123 691 = some (.iload_n 3) := by decide +kernel
theorem i123_692 : xI 123 692 = some (.iconst 2) := by decide +kernel
theorem i123_693 : xI 123 693 = some (.iadd) := by decide +kernel
theorem i123_694 : xI 123 694 = some (.iaload) := by decide +kernel
theorem i123_695 : xI 123 695 = some (.invokevirtual 77) := by decide +kernel
theorem i123_698 : xI 123 698 = some (.aload_n 2) := by decide +kernel
theorem i123_699 : xI 123 699 = some (.aload_n 0) := by decide +kernel
theorem i123_700 : xI 123 700 = some (.iload_n 3) := by decide +kernel
theorem i123_701 : xI 123 701 = some (.iconst 1) := by decide +kernel
theorem i123_702 : xI 123 702 = some (.iadd) := by decide +kernel
theorem i123_703 : xI 123 703 = some (.iaload) := by decide +kernel
theorem i123_704 : xI 123 704 = some (.aload_n 0) := by decide +kernel
theorem i123_705 : xI 123 705 = some (.iload_n 3) := by decide +kernel
theorem i123_706 : xI 123 706 = some (.iconst 2) := by decide +kernel
theorem i123_707 : xI 123 707 = some (.iadd) := by decide +kernel
theorem i123_708 : xI 123 708 = some (.iaload) := by decide +kernel
theorem i123_709 : xI 123 709 = some (.invokevirtual 80) := by decide +kernel
theorem i123_712 : xI 123 712 = some (.if_icmp .eq 18) := by decide +kernel
theorem i123_715 : xI 123 715 = some (.iconst 0) := by decide +kernel
theorem i123_716 : xI 123 716 = some (.ireturn) := by decide +kernel
theorem i123_717 : xI 123 717 = some (.aload_n 1) := by decide +kernel
theorem i123_718 : xI 123 718 = some (.invokevirtual 81) := by decide +kernel
theorem i123_721 : xI 123 721 = some (.aload_n 2) := by decide +kernel
theorem i123_722 : xI 123 722 = some (.invokevirtual 84) := by decide +kernel
theorem i123_725 : xI 123 725 = some (.if_icmp .eq 5) := by decide +kernel
theorem i123_728 : xI 123 728 = some (.iconst 0) := by decide +kernel
theorem i123_729 : xI 123 729 = some (.ireturn) := by decide +kernel
theorem i123_730 : xI 123 730 = some (.iinc 3 6) := by decide +kernel
theorem i123_733 : xI 123 733 = some (.goto (-715)) := by decide +kernel
theorem i123_736 : xI 123 736 = some (.iconst 1) := by decide +kernel
theorem i123_737 : xI 123 737 = some (.ireturn) := by decide +kernel
