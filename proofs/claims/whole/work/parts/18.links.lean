/-! ===== the links of each method (wip/gen/lay18.py) ===== -/
theorem xo_0 : xO 0 = 0 := by decide +kernel
theorem xc0_3 : xCl (xO 0) 3 = some (0, 3, 5, 0, 70, 0, 0) := rfl
theorem xk0_9 : xKl (xO 0) 9 = some (0, 9, 1, 73, 74, 48) := by decide +kernel
theorem xc0_11 : xCl (xO 0) 11 = some (0, 11, 3, 20, 75, 76, 0) := rfl
theorem xf0_12 : xFl (xO 0) 12 = some (0, 12, 0, 0, 0, 269) := by decide +kernel
theorem xk0_16 : xKl (xO 0) 16 = some (0, 16, 2, 90, 91, 49) := by decide +kernel
theorem xc0_18 : xCl (xO 0) 18 = some (0, 18, 2, 22, 92, 93, 0) := rfl
theorem xf0_21 : xFl (xO 0) 21 = some (0, 21, 0, 1, 0, 270) := by decide +kernel
theorem xk0_25 : xKl (xO 0) 25 = some (0, 25, 4, 144, 145, 51) := by decide +kernel
theorem xc0_27 : xCl (xO 0) 27 = some (0, 27, 3, 45, 146, 147, 0) := rfl
theorem xf0_28 : xFl (xO 0) 28 = some (0, 28, 0, 2, 0, 271) := by decide +kernel
theorem xk0_32 : xKl (xO 0) 32 = some (0, 32, 5, 169, 170, 52) := by decide +kernel
theorem xc0_34 : xCl (xO 0) 34 = some (0, 34, 3, 49, 171, 172, 0) := rfl
theorem xn0_35 : xNl (xO 0) 35 = some (0, 35, 4, 194, 195) := by decide +kernel
theorem xf0_37 : xFl (xO 0) 37 = some (0, 37, 0, 3, 0, 272) := by decide +kernel
theorem xk0_35 : xKl (xO 0) 35 = some (0, 35, 6, 194, 196, 53) := by decide +kernel
theorem xc0_41 : xCl (xO 0) 41 = some (0, 41, 2, 58, 197, 198, 0) := rfl
theorem xn0_44 : xNl (xO 0) 44 = some (0, 44, 5, 249, 250) := by decide +kernel
theorem xf0_46 : xFl (xO 0) 46 = some (0, 46, 0, 4, 0, 273) := by decide +kernel
theorem xk0_44 : xKl (xO 0) 44 = some (0, 44, 7, 249, 251, 54) := by decide +kernel
theorem xc0_50 : xCl (xO 0) 50 = some (0, 50, 3, 69, 252, 253, 0) := rfl
theorem xf0_51 : xFl (xO 0) 51 = some (0, 51, 0, 5, 0, 274) := by decide +kernel
theorem xo_1 : xO 1 = 0 := by decide +kernel
theorem xf1_12 : xFl (xO 1) 12 = some (0, 12, 0, 0, 0, 269) := by decide +kernel
theorem xf1_55 : xFl (xO 1) 55 = some (0, 55, 1, 1, 1, 82) := by decide +kernel
theorem xc1_59 : xCl (xO 1) 59 = some (0, 59, 0, 21, 292, 293, 294) := rfl
theorem xo_2 : xO 2 = 0 := by decide +kernel
theorem xf2_12 : xFl (xO 2) 12 = some (0, 12, 0, 0, 0, 269) := by decide +kernel
theorem xf2_55 : xFl (xO 2) 55 = some (0, 55, 1, 1, 1, 82) := by decide +kernel
theorem xo_3 : xO 3 = 0 := by decide +kernel
theorem xf3_21 : xFl (xO 3) 21 = some (0, 21, 0, 1, 0, 270) := by decide +kernel
theorem xc3_63 : xCl (xO 3) 63 = some (0, 63, 0, 23, 304, 305, 306) := rfl
theorem xf3_12 : xFl (xO 3) 12 = some (0, 12, 0, 0, 0, 269) := by decide +kernel
theorem xf3_55 : xFl (xO 3) 55 = some (0, 55, 1, 1, 1, 82) := by decide +kernel
theorem xc3_67 : xCl (xO 3) 67 = some (0, 67, 0, 35, 440, 441, 442) := rfl
theorem xf3_51 : xFl (xO 3) 51 = some (0, 51, 0, 5, 0, 274) := by decide +kernel
theorem xo_4 : xO 4 = 0 := by decide +kernel
theorem xo_5 : xO 5 = 0 := by decide +kernel
theorem xc5_71 : xCl (xO 5) 71 = some (0, 71, 1, 6, 480, 481, 0) := rfl
theorem xc5_75 : xCl (xO 5) 75 = some (0, 75, 1, 7, 483, 484, 0) := rfl
theorem xd5_78 : xDl (xO 5) 78 = some (0, 78, 0, 1000000000, 0, 486) := by decide +kernel
theorem xf5_51 : xFl (xO 5) 51 = some (0, 51, 0, 5, 0, 274) := by decide +kernel
theorem xf5_28 : xFl (xO 5) 28 = some (0, 28, 0, 2, 0, 271) := by decide +kernel
theorem xf5_79 : xFl (xO 5) 79 = some (0, 79, 4, 2, 1, 158) := by decide +kernel
theorem xf5_37 : xFl (xO 5) 37 = some (0, 37, 0, 3, 0, 272) := by decide +kernel
theorem xf5_46 : xFl (xO 5) 46 = some (0, 46, 0, 4, 0, 273) := by decide +kernel
theorem xc5_82 : xCl (xO 5) 82 = some (0, 82, 0, 70, 487, 488, 489) := rfl
theorem xf5_86 : xFl (xO 5) 86 = some (0, 86, 6, 8, 1, 213) := by decide +kernel
theorem xc5_89 : xCl (xO 5) 89 = some (0, 89, 6, 0, 498, 0, 0) := rfl
theorem xk5_95 : xKl (xO 5) 95 = some (0, 95, 9, 501, 502, 64) := by decide +kernel
theorem xc5_97 : xCl (xO 5) 97 = some (0, 97, 2, 77, 503, 504, 0) := rfl
theorem xc5_100 : xCl (xO 5) 100 = some (0, 100, 0, 46, 529, 530, 531) := rfl
theorem xc5_104 : xCl (xO 5) 104 = some (0, 104, 0, 59, 533, 534, 535) := rfl
theorem xf5_107 : xFl (xO 5) 107 = some (0, 107, 7, 1, 1, 259) := by decide +kernel
theorem xo_6 : xO 6 = 0 := by decide +kernel
theorem xo_7 : xO 7 = 0 := by decide +kernel
theorem xo_8 : xO 8 = 0 := by decide +kernel
theorem xc8_71 : xCl (xO 8) 71 = some (0, 71, 1, 6, 480, 481, 0) := rfl
theorem xc8_75 : xCl (xO 8) 75 = some (0, 75, 1, 7, 483, 484, 0) := rfl
theorem xc8_111 : xCl (xO 8) 111 = some (0, 111, 1, 4, 546, 430, 0) := rfl
theorem xl8_114 : xLl (xO 8) 114 = some (0, 114, 1099511627776, 547) := by decide +kernel
theorem xf8_37 : xFl (xO 8) 37 = some (0, 37, 0, 3, 0, 272) := by decide +kernel
theorem xf8_46 : xFl (xO 8) 46 = some (0, 46, 0, 4, 0, 273) := by decide +kernel
theorem xc8_116 : xCl (xO 8) 116 = some (0, 116, 0, 73, 548, 549, 550) := rfl
theorem xl8_119 : xLl (xO 8) 119 = some (0, 119, 1099511627777, 552) := by decide +kernel
theorem xc8_121 : xCl (xO 8) 121 = some (0, 121, 0, 74, 553, 554, 555) := rfl
theorem xc8_125 : xCl (xO 8) 125 = some (0, 125, 0, 60, 558, 559, 560) := rfl
theorem xo_9 : xO 9 = 0 := by decide +kernel
theorem xc9_75 : xCl (xO 9) 75 = some (0, 75, 1, 7, 483, 484, 0) := rfl
theorem xf9_46 : xFl (xO 9) 46 = some (0, 46, 0, 4, 0, 273) := by decide +kernel
theorem xf9_129 : xFl (xO 9) 129 = some (0, 129, 7, 2, 1, 261) := by decide +kernel
theorem xc9_132 : xCl (xO 9) 132 = some (0, 132, 0, 75, 603, 604, 605) := rfl
theorem xo_10 : xO 10 = 0 := by decide +kernel
theorem xf10_37 : xFl (xO 10) 37 = some (0, 37, 0, 3, 0, 272) := by decide +kernel
theorem xf10_135 : xFl (xO 10) 135 = some (0, 135, 6, 11, 1, 219) := by decide +kernel
theorem xc10_138 : xCl (xO 10) 138 = some (0, 138, 7, 0, 614, 0, 0) := rfl
theorem xf10_28 : xFl (xO 10) 28 = some (0, 28, 0, 2, 0, 271) := by decide +kernel
theorem xf10_141 : xFl (xO 10) 141 = some (0, 141, 6, 4, 1, 208) := by decide +kernel
theorem xc10_144 : xCl (xO 10) 144 = some (0, 144, 0, 47, 615, 616, 617) := rfl
theorem xc10_147 : xCl (xO 10) 147 = some (0, 147, 0, 62, 619, 620, 621) := rfl
theorem xo_11 : xO 11 = 0 := by decide +kernel
theorem xc11_71 : xCl (xO 11) 71 = some (0, 71, 1, 6, 480, 481, 0) := rfl
theorem xf11_37 : xFl (xO 11) 37 = some (0, 37, 0, 3, 0, 272) := by decide +kernel
theorem xf11_150 : xFl (xO 11) 150 = some (0, 150, 6, 10, 1, 217) := by decide +kernel
theorem xf11_153 : xFl (xO 11) 153 = some (0, 153, 6, 9, 1, 215) := by decide +kernel
theorem xc11_156 : xCl (xO 11) 156 = some (0, 156, 0, 64, 632, 633, 634) := rfl
theorem xc11_159 : xCl (xO 11) 159 = some (0, 159, 0, 65, 637, 638, 639) := rfl
theorem xc11_163 : xCl (xO 11) 163 = some (0, 163, 0, 66, 642, 643, 644) := rfl
theorem xo_12 : xO 12 = 0 := by decide +kernel
theorem xc12_71 : xCl (xO 12) 71 = some (0, 71, 1, 6, 480, 481, 0) := rfl
theorem xf12_37 : xFl (xO 12) 37 = some (0, 37, 0, 3, 0, 272) := by decide +kernel
theorem xf12_150 : xFl (xO 12) 150 = some (0, 150, 6, 10, 1, 217) := by decide +kernel
theorem xf12_153 : xFl (xO 12) 153 = some (0, 153, 6, 9, 1, 215) := by decide +kernel
theorem xc12_138 : xCl (xO 12) 138 = some (0, 138, 7, 0, 614, 0, 0) := rfl
theorem xo_13 : xO 13 = 0 := by decide +kernel
theorem xc13_71 : xCl (xO 13) 71 = some (0, 71, 1, 6, 480, 481, 0) := rfl
theorem xc13_111 : xCl (xO 13) 111 = some (0, 111, 1, 4, 546, 430, 0) := rfl
theorem xl13_114 : xLl (xO 13) 114 = some (0, 114, 1099511627776, 547) := by decide +kernel
theorem xf13_37 : xFl (xO 13) 37 = some (0, 37, 0, 3, 0, 272) := by decide +kernel
theorem xc13_125 : xCl (xO 13) 125 = some (0, 125, 0, 60, 558, 559, 560) := rfl
theorem xo_14 : xO 14 = 0 := by decide +kernel
theorem xc14_71 : xCl (xO 14) 71 = some (0, 71, 1, 6, 480, 481, 0) := rfl
theorem xf14_37 : xFl (xO 14) 37 = some (0, 37, 0, 3, 0, 272) := by decide +kernel
theorem xc14_166 : xCl (xO 14) 166 = some (0, 166, 0, 67, 658, 659, 660) := rfl
theorem xo_15 : xO 15 = 0 := by decide +kernel
theorem xc15_71 : xCl (xO 15) 71 = some (0, 71, 1, 6, 480, 481, 0) := rfl
theorem xf15_28 : xFl (xO 15) 28 = some (0, 28, 0, 2, 0, 271) := by decide +kernel
theorem xc15_170 : xCl (xO 15) 170 = some (0, 170, 0, 48, 666, 667, 668) := rfl
theorem xf15_37 : xFl (xO 15) 37 = some (0, 37, 0, 3, 0, 272) := by decide +kernel
theorem xc15_173 : xCl (xO 15) 173 = some (0, 173, 0, 68, 670, 671, 672) := rfl
theorem xo_16 : xO 16 = 0 := by decide +kernel
theorem xf16_28 : xFl (xO 16) 28 = some (0, 28, 0, 2, 0, 271) := by decide +kernel
theorem xc16_170 : xCl (xO 16) 170 = some (0, 170, 0, 48, 666, 667, 668) := rfl
theorem xf16_176 : xFl (xO 16) 176 = some (0, 176, 4, 0, 1, 154) := by decide +kernel
theorem xf16_180 : xFl (xO 16) 180 = some (0, 180, 9, 0, 1, 510) := by decide +kernel
theorem xf16_183 : xFl (xO 16) 183 = some (0, 183, 9, 1, 1, 514) := by decide +kernel
theorem xf16_186 : xFl (xO 16) 186 = some (0, 186, 9, 3, 1, 519) := by decide +kernel
theorem xo_17 : xO 17 = 0 := by decide +kernel
theorem xc17_71 : xCl (xO 17) 71 = some (0, 71, 1, 6, 480, 481, 0) := rfl
theorem xf17_37 : xFl (xO 17) 37 = some (0, 37, 0, 3, 0, 272) := by decide +kernel
theorem xf17_189 : xFl (xO 17) 189 = some (0, 189, 6, 2, 1, 205) := by decide +kernel
theorem xc17_75 : xCl (xO 17) 75 = some (0, 75, 1, 7, 483, 484, 0) := rfl
theorem xf17_46 : xFl (xO 17) 46 = some (0, 46, 0, 4, 0, 273) := by decide +kernel
theorem xf17_192 : xFl (xO 17) 192 = some (0, 192, 7, 0, 1, 257) := by decide +kernel
theorem xf17_107 : xFl (xO 17) 107 = some (0, 107, 7, 1, 1, 259) := by decide +kernel
theorem xo_18 : xO 18 = 0 := by decide +kernel
theorem xc18_71 : xCl (xO 18) 71 = some (0, 71, 1, 6, 480, 481, 0) := rfl
theorem xf18_37 : xFl (xO 18) 37 = some (0, 37, 0, 3, 0, 272) := by decide +kernel
theorem xf18_153 : xFl (xO 18) 153 = some (0, 153, 6, 9, 1, 215) := by decide +kernel
theorem xf18_135 : xFl (xO 18) 135 = some (0, 135, 6, 11, 1, 219) := by decide +kernel
theorem xf18_150 : xFl (xO 18) 150 = some (0, 150, 6, 10, 1, 217) := by decide +kernel
theorem xf18_86 : xFl (xO 18) 86 = some (0, 86, 6, 8, 1, 213) := by decide +kernel
theorem xo_19 : xO 19 = 0 := by decide +kernel
theorem xf19_28 : xFl (xO 19) 28 = some (0, 28, 0, 2, 0, 271) := by decide +kernel
theorem xf19_79 : xFl (xO 19) 79 = some (0, 79, 4, 2, 1, 158) := by decide +kernel
theorem xo_20 : xO 20 = 1 := by decide +kernel
theorem xc20_3 : xCl (xO 20) 3 = some (1, 3, 5, 0, 78, 0, 0) := rfl
theorem xf20_9 : xFl (xO 20) 9 = some (1, 9, 1, 0, 0, 79) := by decide +kernel
theorem xf20_15 : xFl (xO 20) 15 = some (1, 15, 1, 1, 0, 81) := by decide +kernel
theorem xo_21 : xO 21 = 1 := by decide +kernel
theorem xf21_15 : xFl (xO 21) 15 = some (1, 15, 1, 1, 0, 81) := by decide +kernel
theorem xf21_9 : xFl (xO 21) 9 = some (1, 9, 1, 0, 0, 79) := by decide +kernel
theorem xo_22 : xO 22 = 2 := by decide +kernel
theorem xc22_5 : xCl (xO 22) 5 = some (2, 5, 5, 0, 95, 0, 0) := rfl
theorem xk22_11 : xKl (xO 22) 11 = some (2, 11, 3, 96, 97, 50) := by decide +kernel
theorem xc22_13 : xCl (xO 22) 13 = some (2, 13, 3, 36, 98, 99, 0) := rfl
theorem xf22_14 : xFl (xO 22) 14 = some (2, 14, 2, 1, 0, 120) := by decide +kernel
theorem xf22_18 : xFl (xO 22) 18 = some (2, 18, 2, 2, 0, 121) := by decide +kernel
theorem xf22_22 : xFl (xO 22) 22 = some (2, 22, 2, 3, 0, 122) := by decide +kernel
theorem xf22_25 : xFl (xO 22) 25 = some (2, 25, 2, 4, 0, 123) := by decide +kernel
theorem xf22_29 : xFl (xO 22) 29 = some (2, 29, 2, 5, 0, 124) := by decide +kernel
theorem xf22_32 : xFl (xO 22) 32 = some (2, 32, 2, 6, 0, 125) := by decide +kernel
theorem xf22_35 : xFl (xO 22) 35 = some (2, 35, 2, 7, 0, 126) := by decide +kernel
theorem xf22_38 : xFl (xO 22) 38 = some (2, 38, 2, 0, 0, 119) := by decide +kernel
theorem xo_23 : xO 23 = 2 := by decide +kernel
theorem xf23_14 : xFl (xO 23) 14 = some (2, 14, 2, 1, 0, 120) := by decide +kernel
theorem xf23_38 : xFl (xO 23) 38 = some (2, 38, 2, 0, 0, 119) := by decide +kernel
theorem xc23_42 : xCl (xO 23) 42 = some (2, 42, 0, 37, 308, 309, 310) := rfl
theorem xf23_25 : xFl (xO 23) 25 = some (2, 25, 2, 4, 0, 123) := by decide +kernel
theorem xf23_29 : xFl (xO 23) 29 = some (2, 29, 2, 5, 0, 124) := by decide +kernel
theorem xf23_32 : xFl (xO 23) 32 = some (2, 32, 2, 6, 0, 125) := by decide +kernel
theorem xf23_35 : xFl (xO 23) 35 = some (2, 35, 2, 7, 0, 126) := by decide +kernel
theorem xc23_48 : xCl (xO 23) 48 = some (2, 48, 0, 24, 393, 395, 3) := rfl
theorem xc23_52 : xCl (xO 23) 52 = some (2, 52, 0, 25, 397, 399, 4) := rfl
theorem xc23_55 : xCl (xO 23) 55 = some (2, 55, 0, 34, 436, 438, 13) := rfl
theorem xc23_60 : xCl (xO 23) 60 = some (2, 60, 0, 33, 432, 434, 12) := rfl
theorem xc23_64 : xCl (xO 23) 64 = some (2, 64, 0, 31, 421, 423, 10) := rfl
theorem xc23_68 : xCl (xO 23) 68 = some (2, 68, 0, 30, 417, 419, 9) := rfl
theorem xo_24 : xO 24 = 2 := by decide +kernel
theorem xf24_35 : xFl (xO 24) 35 = some (2, 35, 2, 7, 0, 126) := by decide +kernel
theorem xf24_14 : xFl (xO 24) 14 = some (2, 14, 2, 1, 0, 120) := by decide +kernel
theorem xf24_104 : xFl (xO 24) 104 = some (2, 104, 3, 0, 1, 103) := by decide +kernel
theorem xf24_29 : xFl (xO 24) 29 = some (2, 29, 2, 5, 0, 124) := by decide +kernel
theorem xf24_107 : xFl (xO 24) 107 = some (2, 107, 3, 3, 1, 109) := by decide +kernel
theorem xo_25 : xO 25 = 2 := by decide +kernel
theorem xc25_80 : xCl (xO 25) 80 = some (2, 80, 0, 26, 401, 403, 5) := rfl
theorem xc25_64 : xCl (xO 25) 64 = some (2, 64, 0, 31, 421, 423, 10) := rfl
theorem xc25_48 : xCl (xO 25) 48 = some (2, 48, 0, 24, 393, 395, 3) := rfl
theorem xc25_68 : xCl (xO 25) 68 = some (2, 68, 0, 30, 417, 419, 9) := rfl
theorem xc25_60 : xCl (xO 25) 60 = some (2, 60, 0, 33, 432, 434, 12) := rfl
theorem xc25_84 : xCl (xO 25) 84 = some (2, 84, 0, 29, 413, 415, 8) := rfl
theorem xo_26 : xO 26 = 2 := by decide +kernel
theorem xc26_92 : xCl (xO 26) 92 = some (2, 92, 0, 27, 405, 407, 6) := rfl
theorem xc26_64 : xCl (xO 26) 64 = some (2, 64, 0, 31, 421, 423, 10) := rfl
theorem xc26_48 : xCl (xO 26) 48 = some (2, 48, 0, 24, 393, 395, 3) := rfl
theorem xc26_60 : xCl (xO 26) 60 = some (2, 60, 0, 33, 432, 434, 12) := rfl
theorem xo_27 : xO 27 = 2 := by decide +kernel
theorem xc27_95 : xCl (xO 27) 95 = some (2, 95, 0, 28, 409, 411, 7) := rfl
theorem xc27_48 : xCl (xO 27) 48 = some (2, 48, 0, 24, 393, 395, 3) := rfl
theorem xc27_60 : xCl (xO 27) 60 = some (2, 60, 0, 33, 432, 434, 12) := rfl
theorem xo_28 : xO 28 = 2 := by decide +kernel
theorem xc28_48 : xCl (xO 28) 48 = some (2, 48, 0, 24, 393, 395, 3) := rfl
theorem xc28_80 : xCl (xO 28) 80 = some (2, 80, 0, 26, 401, 403, 5) := rfl
theorem xc28_84 : xCl (xO 28) 84 = some (2, 84, 0, 29, 413, 415, 8) := rfl
theorem xc28_64 : xCl (xO 28) 64 = some (2, 64, 0, 31, 421, 423, 10) := rfl
theorem xf28_32 : xFl (xO 28) 32 = some (2, 32, 2, 6, 0, 125) := by decide +kernel
theorem xc28_68 : xCl (xO 28) 68 = some (2, 68, 0, 30, 417, 419, 9) := rfl
theorem xc28_89 : xCl (xO 28) 89 = some (2, 89, 0, 32, 425, 427, 11) := rfl
theorem xc28_60 : xCl (xO 28) 60 = some (2, 60, 0, 33, 432, 434, 12) := rfl
theorem xf28_14 : xFl (xO 28) 14 = some (2, 14, 2, 1, 0, 120) := by decide +kernel
theorem xf28_98 : xFl (xO 28) 98 = some (2, 98, 3, 2, 1, 107) := by decide +kernel
theorem xf28_29 : xFl (xO 28) 29 = some (2, 29, 2, 5, 0, 124) := by decide +kernel
theorem xo_29 : xO 29 = 2 := by decide +kernel
theorem xc29_48 : xCl (xO 29) 48 = some (2, 48, 0, 24, 393, 395, 3) := rfl
theorem xc29_68 : xCl (xO 29) 68 = some (2, 68, 0, 30, 417, 419, 9) := rfl
theorem xo_30 : xO 30 = 2 := by decide +kernel
theorem xf30_35 : xFl (xO 30) 35 = some (2, 35, 2, 7, 0, 126) := by decide +kernel
theorem xf30_14 : xFl (xO 30) 14 = some (2, 14, 2, 1, 0, 120) := by decide +kernel
theorem xf30_108 : xFl (xO 30) 108 = some (2, 108, 3, 1, 1, 105) := by decide +kernel
theorem xf30_29 : xFl (xO 30) 29 = some (2, 29, 2, 5, 0, 124) := by decide +kernel
theorem xo_31 : xO 31 = 2 := by decide +kernel
theorem xf31_14 : xFl (xO 31) 14 = some (2, 14, 2, 1, 0, 120) := by decide +kernel
theorem xf31_104 : xFl (xO 31) 104 = some (2, 104, 3, 0, 1, 103) := by decide +kernel
theorem xf31_29 : xFl (xO 31) 29 = some (2, 29, 2, 5, 0, 124) := by decide +kernel
theorem xo_32 : xO 32 = 2 := by decide +kernel
theorem xf32_14 : xFl (xO 32) 14 = some (2, 14, 2, 1, 0, 120) := by decide +kernel
theorem xf32_98 : xFl (xO 32) 98 = some (2, 98, 3, 2, 1, 107) := by decide +kernel
theorem xf32_29 : xFl (xO 32) 29 = some (2, 29, 2, 5, 0, 124) := by decide +kernel
theorem xc32_101 : xCl (xO 32) 101 = some (2, 101, 4, 4, 429, 430, 0) := rfl
theorem xc32_48 : xCl (xO 32) 48 = some (2, 48, 0, 24, 393, 395, 3) := rfl
theorem xc32_68 : xCl (xO 32) 68 = some (2, 68, 0, 30, 417, 419, 9) := rfl
theorem xo_33 : xO 33 = 2 := by decide +kernel
theorem xf33_35 : xFl (xO 33) 35 = some (2, 35, 2, 7, 0, 126) := by decide +kernel
theorem xf33_25 : xFl (xO 33) 25 = some (2, 25, 2, 4, 0, 123) := by decide +kernel
theorem xf33_18 : xFl (xO 33) 18 = some (2, 18, 2, 2, 0, 121) := by decide +kernel
theorem xf33_22 : xFl (xO 33) 22 = some (2, 22, 2, 3, 0, 122) := by decide +kernel
theorem xo_34 : xO 34 = 2 := by decide +kernel
theorem xc34_84 : xCl (xO 34) 84 = some (2, 84, 0, 29, 413, 415, 8) := rfl
theorem xc34_89 : xCl (xO 34) 89 = some (2, 89, 0, 32, 425, 427, 11) := rfl
theorem xc34_80 : xCl (xO 34) 80 = some (2, 80, 0, 26, 401, 403, 5) := rfl
theorem xc34_60 : xCl (xO 34) 60 = some (2, 60, 0, 33, 432, 434, 12) := rfl
theorem xc34_48 : xCl (xO 34) 48 = some (2, 48, 0, 24, 393, 395, 3) := rfl
theorem xc34_68 : xCl (xO 34) 68 = some (2, 68, 0, 30, 417, 419, 9) := rfl
theorem xo_35 : xO 35 = 2 := by decide +kernel
theorem xk35_58 : xKl (xO 35) 58 = some (2, 58, 8, 444, 445, 60) := by decide +kernel
theorem xf35_18 : xFl (xO 35) 18 = some (2, 18, 2, 2, 0, 121) := by decide +kernel
theorem xf35_25 : xFl (xO 35) 25 = some (2, 25, 2, 4, 0, 123) := by decide +kernel
theorem xc35_71 : xCl (xO 35) 71 = some (2, 71, 1, 121, 446, 447, 0) := rfl
theorem xf35_22 : xFl (xO 35) 22 = some (2, 22, 2, 3, 0, 122) := by decide +kernel
theorem xc35_77 : xCl (xO 35) 77 = some (2, 77, 2, 76, 462, 463, 0) := rfl
theorem xo_36 : xO 36 = 3 := by decide +kernel
theorem xc36_3 : xCl (xO 36) 3 = some (3, 3, 5, 0, 101, 0, 0) := rfl
theorem xf36_9 : xFl (xO 36) 9 = some (3, 9, 3, 0, 0, 102) := by decide +kernel
theorem xf36_15 : xFl (xO 36) 15 = some (3, 15, 3, 1, 0, 104) := by decide +kernel
theorem xf36_18 : xFl (xO 36) 18 = some (3, 18, 3, 2, 0, 106) := by decide +kernel
theorem xf36_21 : xFl (xO 36) 21 = some (3, 21, 3, 3, 0, 108) := by decide +kernel
theorem xo_37 : xO 37 = 3 := by decide +kernel
theorem xf37_21 : xFl (xO 37) 21 = some (3, 21, 3, 3, 0, 108) := by decide +kernel
theorem xc37_25 : xCl (xO 37) 25 = some (3, 25, 1, 38, 312, 313, 0) := rfl
theorem xc37_29 : xCl (xO 37) 29 = some (3, 29, 0, 39, 315, 317, 0) := rfl
theorem xf37_15 : xFl (xO 37) 15 = some (3, 15, 3, 1, 0, 104) := by decide +kernel
theorem xf37_9 : xFl (xO 37) 9 = some (3, 9, 3, 0, 0, 102) := by decide +kernel
theorem xo_38 : xO 38 = 3 := by decide +kernel
theorem xf38_34 : xFl (xO 38) 34 = some (3, 34, 1, 1, 1, 83) := by decide +kernel
theorem xf38_39 : xFl (xO 38) 39 = some (3, 39, 1, 0, 1, 80) := by decide +kernel
theorem xo_39 : xO 39 = 3 := by decide +kernel
theorem xf39_18 : xFl (xO 39) 18 = some (3, 18, 3, 2, 0, 106) := by decide +kernel
theorem xf39_21 : xFl (xO 39) 21 = some (3, 21, 3, 3, 0, 108) := by decide +kernel
theorem xf39_34 : xFl (xO 39) 34 = some (3, 34, 1, 1, 1, 83) := by decide +kernel
theorem xf39_9 : xFl (xO 39) 9 = some (3, 9, 3, 0, 0, 102) := by decide +kernel
theorem xf39_39 : xFl (xO 39) 39 = some (3, 39, 1, 0, 1, 80) := by decide +kernel
theorem xc39_42 : xCl (xO 39) 42 = some (3, 42, 0, 40, 319, 321, 1) := rfl
theorem xc39_45 : xCl (xO 39) 45 = some (3, 45, 0, 43, 384, 386, 2) := rfl
theorem xc39_48 : xCl (xO 39) 48 = some (3, 48, 1, 44, 390, 391, 0) := rfl
theorem xo_40 : xO 40 = 3 := by decide +kernel
theorem xf40_34 : xFl (xO 40) 34 = some (3, 34, 1, 1, 1, 83) := by decide +kernel
theorem xf40_39 : xFl (xO 40) 39 = some (3, 39, 1, 0, 1, 80) := by decide +kernel
theorem xf40_9 : xFl (xO 40) 9 = some (3, 9, 3, 0, 0, 102) := by decide +kernel
theorem xf40_21 : xFl (xO 40) 21 = some (3, 21, 3, 3, 0, 108) := by decide +kernel
theorem xc40_52 : xCl (xO 40) 52 = some (3, 52, 1, 41, 323, 324, 0) := rfl
theorem xo_41 : xO 41 = 3 := by decide +kernel
theorem xd41_62 : xDl (xO 41) 62 = some (3, 62, 1, 0, 0, 326) := by decide +kernel
theorem xc41_64 : xCl (xO 41) 64 = some (3, 64, 1, 42, 327, 328, 0) := rfl
theorem xd41_68 : xDl (xO 41) 68 = some (3, 68, 1, 0, 1, 378) := by decide +kernel
theorem xd41_70 : xDl (xO 41) 70 = some (3, 70, 1, 0, 2, 379) := by decide +kernel
theorem xd41_72 : xDl (xO 41) 72 = some (3, 72, 1, 0, 3, 380) := by decide +kernel
theorem xd41_74 : xDl (xO 41) 74 = some (3, 74, 1, 0, 4, 381) := by decide +kernel
theorem xd41_76 : xDl (xO 41) 76 = some (3, 76, 1, 0, 5, 382) := by decide +kernel
theorem xd41_78 : xDl (xO 41) 78 = some (3, 78, 1, 0, 6, 383) := by decide +kernel
theorem xo_42 : xO 42 = 3 := by decide +kernel
theorem xc42_80 : xCl (xO 42) 80 = some (3, 80, 10, 0, 330, 0, 0) := rfl
theorem xf42_39 : xFl (xO 42) 39 = some (3, 39, 1, 0, 1, 80) := by decide +kernel
theorem xc42_85 : xCl (xO 42) 85 = some (3, 85, 11, 0, 340, 0, 0) := rfl
theorem xo_43 : xO 43 = 3 := by decide +kernel
theorem xf43_34 : xFl (xO 43) 34 = some (3, 34, 1, 1, 1, 83) := by decide +kernel
theorem xf43_39 : xFl (xO 43) 39 = some (3, 39, 1, 0, 1, 80) := by decide +kernel
theorem xl43_58 : xLl (xO 43) 58 = some (3, 58, 2147483647, 388) := by decide +kernel
theorem xl43_60 : xLl (xO 43) 60 = some (3, 60, 10, 389) := by decide +kernel
theorem xf43_9 : xFl (xO 43) 9 = some (3, 9, 3, 0, 0, 102) := by decide +kernel
theorem xf43_21 : xFl (xO 43) 21 = some (3, 21, 3, 3, 0, 108) := by decide +kernel
theorem xf43_18 : xFl (xO 43) 18 = some (3, 18, 3, 2, 0, 106) := by decide +kernel
theorem xo_44 : xO 44 = 3 := by decide +kernel
theorem xo_45 : xO 45 = 4 := by decide +kernel
theorem xc45_3 : xCl (xO 45) 3 = some (4, 3, 5, 0, 149, 0, 0) := rfl
theorem xn45_9 : xNl (xO 45) 9 = some (4, 9, 3, 150, 151) := by decide +kernel
theorem xf45_11 : xFl (xO 45) 11 = some (4, 11, 4, 0, 0, 152) := by decide +kernel
theorem xf45_17 : xFl (xO 45) 17 = some (4, 17, 4, 1, 0, 155) := by decide +kernel
theorem xf45_21 : xFl (xO 45) 21 = some (4, 21, 4, 2, 0, 157) := by decide +kernel
theorem xf45_25 : xFl (xO 45) 25 = some (4, 25, 4, 3, 0, 159) := by decide +kernel
theorem xo_46 : xO 46 = 4 := by decide +kernel
theorem xf46_11 : xFl (xO 46) 11 = some (4, 11, 4, 0, 0, 152) := by decide +kernel
theorem xf46_21 : xFl (xO 46) 21 = some (4, 21, 4, 2, 0, 157) := by decide +kernel
theorem xo_47 : xO 47 = 4 := by decide +kernel
theorem xf47_17 : xFl (xO 47) 17 = some (4, 17, 4, 1, 0, 155) := by decide +kernel
theorem xf47_25 : xFl (xO 47) 25 = some (4, 25, 4, 3, 0, 159) := by decide +kernel
theorem xf47_11 : xFl (xO 47) 11 = some (4, 11, 4, 0, 0, 152) := by decide +kernel
theorem xf47_28 : xFl (xO 47) 28 = some (4, 28, 9, 3, 1, 518) := by decide +kernel
theorem xo_48 : xO 48 = 4 := by decide +kernel
theorem xf48_21 : xFl (xO 48) 21 = some (4, 21, 4, 2, 0, 157) := by decide +kernel
theorem xo_49 : xO 49 = 5 := by decide +kernel
theorem xc49_1 : xCl (xO 49) 1 = some (5, 1, 5, 0, 174, 0, 0) := rfl
theorem xf49_9 : xFl (xO 49) 9 = some (5, 9, 5, 0, 0, 175) := by decide +kernel
theorem xf49_13 : xFl (xO 49) 13 = some (5, 13, 5, 1, 0, 176) := by decide +kernel
theorem xf49_16 : xFl (xO 49) 16 = some (5, 16, 5, 2, 0, 177) := by decide +kernel
theorem xf49_19 : xFl (xO 49) 19 = some (5, 19, 5, 3, 0, 178) := by decide +kernel
theorem xf49_23 : xFl (xO 49) 23 = some (5, 23, 5, 4, 0, 179) := by decide +kernel
theorem xf49_26 : xFl (xO 49) 26 = some (5, 26, 5, 5, 0, 180) := by decide +kernel
theorem xo_50 : xO 50 = 5 := by decide +kernel
theorem xf50_30 : xFl (xO 50) 30 = some (5, 30, 9, 2, 1, 516) := by decide +kernel
theorem xc50_36 : xCl (xO 50) 36 = some (5, 36, 0, 51, 571, 573, 16) := rfl
theorem xf50_39 : xFl (xO 50) 39 = some (5, 39, 8, 0, 1, 467) := by decide +kernel
theorem xf50_26 : xFl (xO 50) 26 = some (5, 26, 5, 5, 0, 180) := by decide +kernel
theorem xf50_44 : xFl (xO 50) 44 = some (5, 44, 8, 1, 1, 469) := by decide +kernel
theorem xc50_47 : xCl (xO 50) 47 = some (5, 47, 0, 52, 575, 577, 17) := rfl
theorem xc50_51 : xCl (xO 50) 51 = some (5, 51, 0, 57, 595, 597, 22) := rfl
theorem xo_51 : xO 51 = 5 := by decide +kernel
theorem xf51_19 : xFl (xO 51) 19 = some (5, 19, 5, 3, 0, 178) := by decide +kernel
theorem xf51_23 : xFl (xO 51) 23 = some (5, 23, 5, 4, 0, 179) := by decide +kernel
theorem xf51_26 : xFl (xO 51) 26 = some (5, 26, 5, 5, 0, 180) := by decide +kernel
theorem xo_52 : xO 52 = 5 := by decide +kernel
theorem xc52_55 : xCl (xO 52) 55 = some (5, 55, 0, 53, 579, 581, 18) := rfl
theorem xf52_59 : xFl (xO 52) 59 = some (5, 59, 9, 0, 1, 509) := by decide +kernel
theorem xf52_62 : xFl (xO 52) 62 = some (5, 62, 9, 1, 1, 513) := by decide +kernel
theorem xc52_65 : xCl (xO 52) 65 = some (5, 65, 0, 54, 583, 585, 19) := rfl
theorem xc52_68 : xCl (xO 52) 68 = some (5, 68, 0, 56, 591, 593, 21) := rfl
theorem xo_53 : xO 53 = 5 := by decide +kernel
theorem xf53_19 : xFl (xO 53) 19 = some (5, 19, 5, 3, 0, 178) := by decide +kernel
theorem xf53_9 : xFl (xO 53) 9 = some (5, 9, 5, 0, 0, 175) := by decide +kernel
theorem xo_54 : xO 54 = 5 := by decide +kernel
theorem xc54_71 : xCl (xO 54) 71 = some (5, 71, 0, 55, 587, 589, 20) := rfl
theorem xf54_23 : xFl (xO 54) 23 = some (5, 23, 5, 4, 0, 179) := by decide +kernel
theorem xf54_13 : xFl (xO 54) 13 = some (5, 13, 5, 1, 0, 176) := by decide +kernel
theorem xf54_16 : xFl (xO 54) 16 = some (5, 16, 5, 2, 0, 177) := by decide +kernel
theorem xo_55 : xO 55 = 5 := by decide +kernel
theorem xf55_19 : xFl (xO 55) 19 = some (5, 19, 5, 3, 0, 178) := by decide +kernel
theorem xf55_9 : xFl (xO 55) 9 = some (5, 9, 5, 0, 0, 175) := by decide +kernel
theorem xo_56 : xO 56 = 5 := by decide +kernel
theorem xc56_71 : xCl (xO 56) 71 = some (5, 71, 0, 55, 587, 589, 20) := rfl
theorem xc56_55 : xCl (xO 56) 55 = some (5, 55, 0, 53, 579, 581, 18) := rfl
theorem xf56_26 : xFl (xO 56) 26 = some (5, 26, 5, 5, 0, 180) := by decide +kernel
theorem xo_57 : xO 57 = 5 := by decide +kernel
theorem xf57_23 : xFl (xO 57) 23 = some (5, 23, 5, 4, 0, 179) := by decide +kernel
theorem xf57_13 : xFl (xO 57) 13 = some (5, 13, 5, 1, 0, 176) := by decide +kernel
theorem xf57_16 : xFl (xO 57) 16 = some (5, 16, 5, 2, 0, 177) := by decide +kernel
theorem xo_58 : xO 58 = 6 := by decide +kernel
theorem xc58_3 : xCl (xO 58) 3 = some (6, 3, 5, 0, 200, 0, 0) := rfl
theorem xf58_9 : xFl (xO 58) 9 = some (6, 9, 6, 2, 0, 203) := by decide +kernel
theorem xf58_15 : xFl (xO 58) 15 = some (6, 15, 6, 3, 0, 206) := by decide +kernel
theorem xf58_19 : xFl (xO 58) 19 = some (6, 19, 6, 4, 0, 207) := by decide +kernel
theorem xf58_22 : xFl (xO 58) 22 = some (6, 22, 6, 5, 0, 209) := by decide +kernel
theorem xf58_25 : xFl (xO 58) 25 = some (6, 25, 6, 6, 0, 210) := by decide +kernel
theorem xf58_28 : xFl (xO 58) 28 = some (6, 28, 6, 7, 0, 211) := by decide +kernel
theorem xf58_31 : xFl (xO 58) 31 = some (6, 31, 6, 8, 0, 212) := by decide +kernel
theorem xf58_35 : xFl (xO 58) 35 = some (6, 35, 6, 9, 0, 214) := by decide +kernel
theorem xf58_38 : xFl (xO 58) 38 = some (6, 38, 6, 10, 0, 216) := by decide +kernel
theorem xf58_41 : xFl (xO 58) 41 = some (6, 41, 6, 11, 0, 218) := by decide +kernel
theorem xf58_44 : xFl (xO 58) 44 = some (6, 44, 6, 12, 0, 220) := by decide +kernel
theorem xf58_47 : xFl (xO 58) 47 = some (6, 47, 6, 0, 0, 201) := by decide +kernel
theorem xf58_51 : xFl (xO 58) 51 = some (6, 51, 6, 1, 0, 202) := by decide +kernel
theorem xo_59 : xO 59 = 6 := by decide +kernel
theorem xf59_47 : xFl (xO 59) 47 = some (6, 47, 6, 0, 0, 201) := by decide +kernel
theorem xf59_55 : xFl (xO 59) 55 = some (6, 55, 4, 0, 1, 153) := by decide +kernel
theorem xf59_15 : xFl (xO 59) 15 = some (6, 15, 6, 3, 0, 206) := by decide +kernel
theorem xf59_31 : xFl (xO 59) 31 = some (6, 31, 6, 8, 0, 212) := by decide +kernel
theorem xf59_61 : xFl (xO 59) 61 = some (6, 61, 9, 1, 1, 512) := by decide +kernel
theorem xc59_66 : xCl (xO 59) 66 = some (6, 66, 6, 0, 537, 0, 0) := rfl
theorem xf59_9 : xFl (xO 59) 9 = some (6, 9, 6, 2, 0, 203) := by decide +kernel
theorem xf59_72 : xFl (xO 59) 72 = some (6, 72, 9, 0, 1, 508) := by decide +kernel
theorem xf59_41 : xFl (xO 59) 41 = some (6, 41, 6, 11, 0, 218) := by decide +kernel
theorem xf59_19 : xFl (xO 59) 19 = some (6, 19, 6, 4, 0, 207) := by decide +kernel
theorem xc59_75 : xCl (xO 59) 75 = some (6, 75, 0, 78, 538, 539, 540) := rfl
theorem xf59_44 : xFl (xO 59) 44 = some (6, 44, 6, 12, 0, 220) := by decide +kernel
theorem xo_60 : xO 60 = 6 := by decide +kernel
theorem xf60_22 : xFl (xO 60) 22 = some (6, 22, 6, 5, 0, 209) := by decide +kernel
theorem xc60_101 : xCl (xO 60) 101 = some (6, 101, 0, 61, 562, 564, 15) := rfl
theorem xf60_25 : xFl (xO 60) 25 = some (6, 25, 6, 6, 0, 210) := by decide +kernel
theorem xo_61 : xO 61 = 6 := by decide +kernel
theorem xf61_44 : xFl (xO 61) 44 = some (6, 44, 6, 12, 0, 220) := by decide +kernel
theorem xf61_22 : xFl (xO 61) 22 = some (6, 22, 6, 5, 0, 209) := by decide +kernel
theorem xf61_25 : xFl (xO 61) 25 = some (6, 25, 6, 6, 0, 210) := by decide +kernel
theorem xc61_104 : xCl (xO 61) 104 = some (6, 104, 9, 0, 566, 0, 0) := rfl
theorem xf61_41 : xFl (xO 61) 41 = some (6, 41, 6, 11, 0, 218) := by decide +kernel
theorem xf61_19 : xFl (xO 61) 19 = some (6, 19, 6, 4, 0, 207) := by decide +kernel
theorem xf61_28 : xFl (xO 61) 28 = some (6, 28, 6, 7, 0, 211) := by decide +kernel
theorem xf61_51 : xFl (xO 61) 51 = some (6, 51, 6, 1, 0, 202) := by decide +kernel
theorem xf61_47 : xFl (xO 61) 47 = some (6, 47, 6, 0, 0, 201) := by decide +kernel
theorem xf61_55 : xFl (xO 61) 55 = some (6, 55, 4, 0, 1, 153) := by decide +kernel
theorem xc61_89 : xCl (xO 61) 89 = some (6, 89, 0, 50, 567, 568, 569) := rfl
theorem xo_62 : xO 62 = 6 := by decide +kernel
theorem xf62_47 : xFl (xO 62) 47 = some (6, 47, 6, 0, 0, 201) := by decide +kernel
theorem xf62_79 : xFl (xO 62) 79 = some (6, 79, 4, 1, 1, 156) := by decide +kernel
theorem xf62_35 : xFl (xO 62) 35 = some (6, 35, 6, 9, 0, 214) := by decide +kernel
theorem xf62_15 : xFl (xO 62) 15 = some (6, 15, 6, 3, 0, 206) := by decide +kernel
theorem xc62_82 : xCl (xO 62) 82 = some (6, 82, 0, 59, 623, 534, 535) := rfl
theorem xc62_86 : xCl (xO 62) 86 = some (6, 86, 0, 63, 624, 626, 23) := rfl
theorem xf62_28 : xFl (xO 62) 28 = some (6, 28, 6, 7, 0, 211) := by decide +kernel
theorem xf62_51 : xFl (xO 62) 51 = some (6, 51, 6, 1, 0, 202) := by decide +kernel
theorem xf62_55 : xFl (xO 62) 55 = some (6, 55, 4, 0, 1, 153) := by decide +kernel
theorem xf62_22 : xFl (xO 62) 22 = some (6, 22, 6, 5, 0, 209) := by decide +kernel
theorem xc62_89 : xCl (xO 62) 89 = some (6, 89, 0, 50, 567, 568, 569) := rfl
theorem xf62_44 : xFl (xO 62) 44 = some (6, 44, 6, 12, 0, 220) := by decide +kernel
theorem xo_63 : xO 63 = 6 := by decide +kernel
theorem xf63_41 : xFl (xO 63) 41 = some (6, 41, 6, 11, 0, 218) := by decide +kernel
theorem xf63_19 : xFl (xO 63) 19 = some (6, 19, 6, 4, 0, 207) := by decide +kernel
theorem xc63_104 : xCl (xO 63) 104 = some (6, 104, 9, 0, 566, 0, 0) := rfl
theorem xo_64 : xO 64 = 6 := by decide +kernel
theorem xf64_35 : xFl (xO 64) 35 = some (6, 35, 6, 9, 0, 214) := by decide +kernel
theorem xc64_95 : xCl (xO 64) 95 = some (6, 95, 0, 62, 636, 620, 621) := rfl
theorem xf64_38 : xFl (xO 64) 38 = some (6, 38, 6, 10, 0, 216) := by decide +kernel
theorem xo_65 : xO 65 = 6 := by decide +kernel
theorem xf65_35 : xFl (xO 65) 35 = some (6, 35, 6, 9, 0, 214) := by decide +kernel
theorem xc65_98 : xCl (xO 65) 98 = some (6, 98, 7, 0, 641, 0, 0) := rfl
theorem xc65_66 : xCl (xO 65) 66 = some (6, 66, 6, 0, 537, 0, 0) := rfl
theorem xc65_95 : xCl (xO 65) 95 = some (6, 95, 0, 62, 636, 620, 621) := rfl
theorem xo_66 : xO 66 = 6 := by decide +kernel
theorem xf66_41 : xFl (xO 66) 41 = some (6, 41, 6, 11, 0, 218) := by decide +kernel
theorem xf66_15 : xFl (xO 66) 15 = some (6, 15, 6, 3, 0, 206) := by decide +kernel
theorem xf66_19 : xFl (xO 66) 19 = some (6, 19, 6, 4, 0, 207) := by decide +kernel
theorem xc66_82 : xCl (xO 66) 82 = some (6, 82, 0, 59, 623, 534, 535) := rfl
theorem xo_67 : xO 67 = 6 := by decide +kernel
theorem xf67_35 : xFl (xO 67) 35 = some (6, 35, 6, 9, 0, 214) := by decide +kernel
theorem xf67_41 : xFl (xO 67) 41 = some (6, 41, 6, 11, 0, 218) := by decide +kernel
theorem xf67_47 : xFl (xO 67) 47 = some (6, 47, 6, 0, 0, 201) := by decide +kernel
theorem xf67_79 : xFl (xO 67) 79 = some (6, 79, 4, 1, 1, 156) := by decide +kernel
theorem xf67_19 : xFl (xO 67) 19 = some (6, 19, 6, 4, 0, 207) := by decide +kernel
theorem xo_68 : xO 68 = 6 := by decide +kernel
theorem xf68_15 : xFl (xO 68) 15 = some (6, 15, 6, 3, 0, 206) := by decide +kernel
theorem xc68_101 : xCl (xO 68) 101 = some (6, 101, 0, 61, 562, 564, 15) := rfl
theorem xf68_28 : xFl (xO 68) 28 = some (6, 28, 6, 7, 0, 211) := by decide +kernel
theorem xo_69 : xO 69 = 7 := by decide +kernel
theorem xc69_3 : xCl (xO 69) 3 = some (7, 3, 5, 0, 255, 0, 0) := rfl
theorem xf69_9 : xFl (xO 69) 9 = some (7, 9, 7, 0, 0, 256) := by decide +kernel
theorem xf69_15 : xFl (xO 69) 15 = some (7, 15, 7, 1, 0, 258) := by decide +kernel
theorem xf69_18 : xFl (xO 69) 18 = some (7, 18, 7, 2, 0, 260) := by decide +kernel
theorem xo_70 : xO 70 = 7 := by decide +kernel
theorem xc70_22 : xCl (xO 70) 22 = some (7, 22, 0, 71, 491, 493, 14) := rfl
theorem xf70_26 : xFl (xO 70) 26 = some (7, 26, 6, 2, 1, 204) := by decide +kernel
theorem xf70_9 : xFl (xO 70) 9 = some (7, 9, 7, 0, 0, 256) := by decide +kernel
theorem xc70_31 : xCl (xO 70) 31 = some (7, 31, 1, 72, 495, 496, 0) := rfl
theorem xf70_15 : xFl (xO 70) 15 = some (7, 15, 7, 1, 0, 258) := by decide +kernel
theorem xo_71 : xO 71 = 7 := by decide +kernel
theorem xf71_18 : xFl (xO 71) 18 = some (7, 18, 7, 2, 0, 260) := by decide +kernel
theorem xo_72 : xO 72 = 7 := by decide +kernel
theorem xo_73 : xO 73 = 7 := by decide +kernel
theorem xc73_22 : xCl (xO 73) 22 = some (7, 22, 0, 71, 491, 493, 14) := rfl
theorem xf73_26 : xFl (xO 73) 26 = some (7, 26, 6, 2, 1, 204) := by decide +kernel
theorem xf73_15 : xFl (xO 73) 15 = some (7, 15, 7, 1, 0, 258) := by decide +kernel
theorem xc73_31 : xCl (xO 73) 31 = some (7, 31, 1, 72, 495, 496, 0) := rfl
theorem xf73_9 : xFl (xO 73) 9 = some (7, 9, 7, 0, 0, 256) := by decide +kernel
theorem xo_74 : xO 74 = 7 := by decide +kernel
theorem xf74_9 : xFl (xO 74) 9 = some (7, 9, 7, 0, 0, 256) := by decide +kernel
theorem xf74_26 : xFl (xO 74) 26 = some (7, 26, 6, 2, 1, 204) := by decide +kernel
theorem xc74_35 : xCl (xO 74) 35 = some (7, 35, 6, 0, 557, 0, 0) := rfl
theorem xo_75 : xO 75 = 7 := by decide +kernel
theorem xf75_9 : xFl (xO 75) 9 = some (7, 9, 7, 0, 0, 256) := by decide +kernel
theorem xc75_41 : xCl (xO 75) 41 = some (7, 41, 1, 122, 607, 608, 0) := rfl
theorem xf75_15 : xFl (xO 75) 15 = some (7, 15, 7, 1, 0, 258) := by decide +kernel
theorem xo_76 : xO 76 = 8 := by decide +kernel
theorem xc76_1 : xCl (xO 76) 1 = some (8, 1, 5, 0, 465, 0, 0) := rfl
theorem xf76_7 : xFl (xO 76) 7 = some (8, 7, 8, 0, 0, 466) := by decide +kernel
theorem xf76_13 : xFl (xO 76) 13 = some (8, 13, 8, 1, 0, 468) := by decide +kernel
theorem xo_77 : xO 77 = 9 := by decide +kernel
theorem xc77_1 : xCl (xO 77) 1 = some (9, 1, 5, 0, 506, 0, 0) := rfl
theorem xf77_7 : xFl (xO 77) 7 = some (9, 7, 9, 3, 0, 517) := by decide +kernel
theorem xf77_13 : xFl (xO 77) 13 = some (9, 13, 9, 0, 0, 507) := by decide +kernel
theorem xf77_16 : xFl (xO 77) 16 = some (9, 16, 9, 1, 0, 511) := by decide +kernel
theorem xf77_19 : xFl (xO 77) 19 = some (9, 19, 9, 2, 0, 515) := by decide +kernel
theorem xo_78 : xO 78 = 9 := by decide +kernel
theorem xf78_16 : xFl (xO 78) 16 = some (9, 16, 9, 1, 0, 511) := by decide +kernel
theorem xf78_13 : xFl (xO 78) 13 = some (9, 13, 9, 0, 0, 507) := by decide +kernel
theorem xo_79 : xO 79 = 10 := by decide +kernel
theorem xc79_1 : xCl (xO 79) 1 = some (10, 1, 5, 0, 695, 0, 0) := rfl
theorem xf79_9 : xFl (xO 79) 9 = some (10, 9, 10, 0, 0, 701) := by decide +kernel
theorem xf79_13 : xFl (xO 79) 13 = some (10, 13, 10, 2, 0, 703) := by decide +kernel
theorem xf79_17 : xFl (xO 79) 17 = some (10, 17, 10, 3, 0, 704) := by decide +kernel
theorem xf79_20 : xFl (xO 79) 20 = some (10, 20, 10, 4, 0, 705) := by decide +kernel
theorem xf79_23 : xFl (xO 79) 23 = some (10, 23, 10, 5, 0, 706) := by decide +kernel
theorem xn79_26 : xNl (xO 79) 26 = some (10, 26, 6, 696, 697) := by decide +kernel
theorem xf79_27 : xFl (xO 79) 27 = some (10, 27, 10, 6, 0, 707) := by decide +kernel
theorem xn79_31 : xNl (xO 79) 31 = some (10, 31, 17, 698, 699) := by decide +kernel
theorem xf79_33 : xFl (xO 79) 33 = some (10, 33, 10, 9, 0, 710) := by decide +kernel
theorem xf79_36 : xFl (xO 79) 36 = some (10, 36, 10, 10, 0, 711) := by decide +kernel
theorem xf79_39 : xFl (xO 79) 39 = some (10, 39, 10, 11, 0, 712) := by decide +kernel
theorem xf79_42 : xFl (xO 79) 42 = some (10, 42, 10, 12, 0, 713) := by decide +kernel
theorem xf79_45 : xFl (xO 79) 45 = some (10, 45, 10, 13, 0, 714) := by decide +kernel
theorem xn79_48 : xNl (xO 79) 48 = some (10, 48, 16, 700, 697) := by decide +kernel
theorem xf79_49 : xFl (xO 79) 49 = some (10, 49, 10, 14, 0, 715) := by decide +kernel
theorem xf79_52 : xFl (xO 79) 52 = some (10, 52, 10, 15, 0, 716) := by decide +kernel
theorem xf79_55 : xFl (xO 79) 55 = some (10, 55, 10, 25, 0, 726) := by decide +kernel
theorem xf79_58 : xFl (xO 79) 58 = some (10, 58, 10, 27, 0, 728) := by decide +kernel
theorem xf79_61 : xFl (xO 79) 61 = some (10, 61, 10, 28, 0, 729) := by decide +kernel
theorem xf79_64 : xFl (xO 79) 64 = some (10, 64, 10, 29, 0, 730) := by decide +kernel
theorem xf79_67 : xFl (xO 79) 67 = some (10, 67, 10, 30, 0, 731) := by decide +kernel
theorem xf79_70 : xFl (xO 79) 70 = some (10, 70, 10, 32, 0, 733) := by decide +kernel
theorem xo_80 : xO 80 = 10 := by decide +kernel
theorem xf80_73 : xFl (xO 80) 73 = some (10, 73, 10, 1, 0, 702) := by decide +kernel
theorem xf80_9 : xFl (xO 80) 9 = some (10, 9, 10, 0, 0, 701) := by decide +kernel
theorem xo_81 : xO 81 = 10 := by decide +kernel
theorem xf81_73 : xFl (xO 81) 73 = some (10, 73, 10, 1, 0, 702) := by decide +kernel
theorem xc81_77 : xCl (xO 81) 77 = some (10, 77, 1, 82, 812, 813, 0) := rfl
theorem xo_82 : xO 82 = 10 := by decide +kernel
theorem xo_83 : xO 83 = 10 := by decide +kernel
theorem xf83_73 : xFl (xO 83) 73 = some (10, 73, 10, 1, 0, 702) := by decide +kernel
theorem xf83_84 : xFl (xO 83) 84 = some (10, 84, 10, 18, 0, 719) := by decide +kernel
theorem xf83_81 : xFl (xO 83) 81 = some (10, 81, 10, 17, 0, 718) := by decide +kernel
theorem xf83_149 : xFl (xO 83) 149 = some (10, 149, 10, 22, 0, 723) := by decide +kernel
theorem xf83_162 : xFl (xO 83) 162 = some (10, 162, 10, 23, 0, 724) := by decide +kernel
theorem xf83_159 : xFl (xO 83) 159 = some (10, 159, 10, 26, 0, 727) := by decide +kernel
theorem xf83_55 : xFl (xO 83) 55 = some (10, 55, 10, 25, 0, 726) := by decide +kernel
theorem xc83_156 : xCl (xO 83) 156 = some (10, 156, 0, 84, 819, 821, 24) := rfl
theorem xc83_165 : xCl (xO 83) 165 = some (10, 165, 0, 88, 849, 851, 26) := rfl
theorem xd83_108 : xDl (xO 83) 108 = some (10, 108, 1, 0, 3, 834) := by decide +kernel
theorem xc83_102 : xCl (xO 83) 102 = some (10, 102, 0, 86, 827, 829, 25) := rfl
theorem xf83_90 : xFl (xO 83) 90 = some (10, 90, 10, 19, 0, 720) := by decide +kernel
theorem xc83_152 : xCl (xO 83) 152 = some (10, 152, 0, 89, 853, 855, 27) := rfl
theorem xc83_168 : xCl (xO 83) 168 = some (10, 168, 1, 121, 901, 447, 0) := rfl
theorem xf83_174 : xFl (xO 83) 174 = some (10, 174, 10, 16, 0, 717) := by decide +kernel
theorem xo_84 : xO 84 = 10 := by decide +kernel
theorem xf84_81 : xFl (xO 84) 81 = some (10, 81, 10, 17, 0, 718) := by decide +kernel
theorem xf84_84 : xFl (xO 84) 84 = some (10, 84, 10, 18, 0, 719) := by decide +kernel
theorem xf84_9 : xFl (xO 84) 9 = some (10, 9, 10, 0, 0, 701) := by decide +kernel
theorem xf84_87 : xFl (xO 84) 87 = some (10, 87, 10, 20, 0, 721) := by decide +kernel
theorem xf84_90 : xFl (xO 84) 90 = some (10, 90, 10, 19, 0, 720) := by decide +kernel
theorem xc84_93 : xCl (xO 84) 93 = some (10, 93, 1, 85, 823, 824, 0) := rfl
theorem xf84_97 : xFl (xO 84) 97 = some (10, 97, 10, 21, 0, 722) := by decide +kernel
theorem xd84_100 : xDl (xO 84) 100 = some (10, 100, 1, 0, 1, 826) := by decide +kernel
theorem xc84_102 : xCl (xO 84) 102 = some (10, 102, 0, 86, 827, 829, 25) := rfl
theorem xd84_106 : xDl (xO 84) 106 = some (10, 106, 1, 0, 2, 833) := by decide +kernel
theorem xd84_108 : xDl (xO 84) 108 = some (10, 108, 1, 0, 3, 834) := by decide +kernel
theorem xd84_110 : xDl (xO 84) 110 = some (10, 110, 1, 0, 4, 835) := by decide +kernel
theorem xd84_112 : xDl (xO 84) 112 = some (10, 112, 1, 0, 5, 836) := by decide +kernel
theorem xd84_113 : xDl (xO 84) 113 = some (10, 113, 1, 0, 6, 837) := by decide +kernel
theorem xd84_114 : xDl (xO 84) 114 = some (10, 114, 1, 0, 0, 838) := by decide +kernel
theorem xc84_116 : xCl (xO 84) 116 = some (10, 116, 1, 87, 839, 840, 0) := rfl
theorem xf84_119 : xFl (xO 84) 119 = some (10, 119, 10, 24, 0, 725) := by decide +kernel
theorem xl84_123 : xLl (xO 84) 123 = some (10, 123, 1099511627776, 842) := by decide +kernel
theorem xl84_125 : xLl (xO 84) 125 = some (10, 125, 10, 843) := by decide +kernel
theorem xl84_127 : xLl (xO 84) 127 = some (10, 127, 48, 844) := by decide +kernel
theorem xc84_129 : xCl (xO 84) 129 = some (10, 129, 8, 0, 845, 0, 0) := rfl
theorem xl84_137 : xLl (xO 84) 137 = some (10, 137, 2147483647, 848) := by decide +kernel
theorem xo_85 : xO 85 = 10 := by decide +kernel
theorem xo_86 : xO 86 = 10 := by decide +kernel
theorem xf86_90 : xFl (xO 86) 90 = some (10, 90, 10, 19, 0, 720) := by decide +kernel
theorem xf86_97 : xFl (xO 86) 97 = some (10, 97, 10, 21, 0, 722) := by decide +kernel
theorem xf86_87 : xFl (xO 86) 87 = some (10, 87, 10, 20, 0, 721) := by decide +kernel
theorem xc86_139 : xCl (xO 86) 139 = some (10, 139, 10, 0, 831, 0, 0) := rfl
theorem xf86_9 : xFl (xO 86) 9 = some (10, 9, 10, 0, 0, 701) := by decide +kernel
theorem xc86_145 : xCl (xO 86) 145 = some (10, 145, 11, 0, 832, 0, 0) := rfl
theorem xo_87 : xO 87 = 10 := by decide +kernel
theorem xo_88 : xO 88 = 10 := by decide +kernel
theorem xf88_55 : xFl (xO 88) 55 = some (10, 55, 10, 25, 0, 726) := by decide +kernel
theorem xc88_152 : xCl (xO 88) 152 = some (10, 152, 0, 89, 853, 855, 27) := rfl
theorem xf88_159 : xFl (xO 88) 159 = some (10, 159, 10, 26, 0, 727) := by decide +kernel
theorem xc88_177 : xCl (xO 88) 177 = some (10, 177, 0, 90, 857, 859, 28) := rfl
theorem xd88_100 : xDl (xO 88) 100 = some (10, 100, 1, 0, 1, 826) := by decide +kernel
theorem xc88_102 : xCl (xO 88) 102 = some (10, 102, 0, 86, 827, 829, 25) := rfl
theorem xc88_156 : xCl (xO 88) 156 = some (10, 156, 0, 84, 819, 821, 24) := rfl
theorem xc88_181 : xCl (xO 88) 181 = some (10, 181, 0, 91, 861, 863, 29) := rfl
theorem xd88_110 : xDl (xO 88) 110 = some (10, 110, 1, 0, 4, 835) := by decide +kernel
theorem xd88_106 : xDl (xO 88) 106 = some (10, 106, 1, 0, 2, 833) := by decide +kernel
theorem xc88_184 : xCl (xO 88) 184 = some (10, 184, 0, 96, 883, 885, 34) := rfl
theorem xc88_187 : xCl (xO 88) 187 = some (10, 187, 0, 97, 887, 889, 35) := rfl
theorem xd88_190 : xDl (xO 88) 190 = some (10, 190, 1, 0, 16, 899) := by decide +kernel
theorem xc88_192 : xCl (xO 88) 192 = some (10, 192, 0, 92, 865, 867, 30) := rfl
theorem xd88_195 : xDl (xO 88) 195 = some (10, 195, 1, 0, 17, 900) := by decide +kernel
theorem xo_89 : xO 89 = 10 := by decide +kernel
theorem xf89_149 : xFl (xO 89) 149 = some (10, 149, 10, 22, 0, 723) := by decide +kernel
theorem xf89_87 : xFl (xO 89) 87 = some (10, 87, 10, 20, 0, 721) := by decide +kernel
theorem xo_90 : xO 90 = 10 := by decide +kernel
theorem xf90_55 : xFl (xO 90) 55 = some (10, 55, 10, 25, 0, 726) := by decide +kernel
theorem xf90_159 : xFl (xO 90) 159 = some (10, 159, 10, 26, 0, 727) := by decide +kernel
theorem xo_91 : xO 91 = 10 := by decide +kernel
theorem xf91_159 : xFl (xO 91) 159 = some (10, 159, 10, 26, 0, 727) := by decide +kernel
theorem xc91_177 : xCl (xO 91) 177 = some (10, 177, 0, 90, 857, 859, 28) := rfl
theorem xc91_192 : xCl (xO 91) 192 = some (10, 192, 0, 92, 865, 867, 30) := rfl
theorem xd91_199 : xDl (xO 91) 199 = some (10, 199, 1, 0, 12, 895) := by decide +kernel
theorem xc91_102 : xCl (xO 91) 102 = some (10, 102, 0, 86, 827, 829, 25) := rfl
theorem xd91_201 : xDl (xO 91) 201 = some (10, 201, 1, 0, 13, 896) := by decide +kernel
theorem xd91_203 : xDl (xO 91) 203 = some (10, 203, 1, 0, 14, 897) := by decide +kernel
theorem xd91_205 : xDl (xO 91) 205 = some (10, 205, 1, 0, 15, 898) := by decide +kernel
theorem xc91_152 : xCl (xO 91) 152 = some (10, 152, 0, 89, 853, 855, 27) := rfl
theorem xf91_55 : xFl (xO 91) 55 = some (10, 55, 10, 25, 0, 726) := by decide +kernel
theorem xf91_9 : xFl (xO 91) 9 = some (10, 9, 10, 0, 0, 701) := by decide +kernel
theorem xf91_87 : xFl (xO 91) 87 = some (10, 87, 10, 20, 0, 721) := by decide +kernel
theorem xc91_156 : xCl (xO 91) 156 = some (10, 156, 0, 84, 819, 821, 24) := rfl
theorem xo_92 : xO 92 = 10 := by decide +kernel
theorem xc92_207 : xCl (xO 92) 207 = some (10, 207, 0, 93, 869, 871, 31) := rfl
theorem xc92_177 : xCl (xO 92) 177 = some (10, 177, 0, 90, 857, 859, 28) := rfl
theorem xo_93 : xO 93 = 10 := by decide +kernel
theorem xc93_210 : xCl (xO 93) 210 = some (10, 210, 0, 94, 873, 875, 32) := rfl
theorem xd93_213 : xDl (xO 93) 213 = some (10, 213, 1, 0, 10, 893) := by decide +kernel
theorem xc93_102 : xCl (xO 93) 102 = some (10, 102, 0, 86, 827, 829, 25) := rfl
theorem xd93_215 : xDl (xO 93) 215 = some (10, 215, 1, 0, 11, 894) := by decide +kernel
theorem xc93_156 : xCl (xO 93) 156 = some (10, 156, 0, 84, 819, 821, 24) := rfl
theorem xc93_177 : xCl (xO 93) 177 = some (10, 177, 0, 90, 857, 859, 28) := rfl
theorem xo_94 : xO 94 = 10 := by decide +kernel
theorem xc94_217 : xCl (xO 94) 217 = some (10, 217, 0, 95, 877, 879, 33) := rfl
theorem xd94_220 : xDl (xO 94) 220 = some (10, 220, 1, 0, 9, 892) := by decide +kernel
theorem xc94_102 : xCl (xO 94) 102 = some (10, 102, 0, 86, 827, 829, 25) := rfl
theorem xc94_156 : xCl (xO 94) 156 = some (10, 156, 0, 84, 819, 821, 24) := rfl
theorem xc94_177 : xCl (xO 94) 177 = some (10, 177, 0, 90, 857, 859, 28) := rfl
theorem xo_95 : xO 95 = 10 := by decide +kernel
theorem xd95_222 : xDl (xO 95) 222 = some (10, 222, 1, 0, 7, 881) := by decide +kernel
theorem xc95_102 : xCl (xO 95) 102 = some (10, 102, 0, 86, 827, 829, 25) := rfl
theorem xc95_152 : xCl (xO 95) 152 = some (10, 152, 0, 89, 853, 855, 27) := rfl
theorem xc95_156 : xCl (xO 95) 156 = some (10, 156, 0, 84, 819, 821, 24) := rfl
theorem xc95_207 : xCl (xO 95) 207 = some (10, 207, 0, 93, 869, 871, 31) := rfl
theorem xd95_224 : xDl (xO 95) 224 = some (10, 224, 1, 0, 8, 882) := by decide +kernel
theorem xc95_184 : xCl (xO 95) 184 = some (10, 184, 0, 96, 883, 885, 34) := rfl
theorem xf95_90 : xFl (xO 95) 90 = some (10, 90, 10, 19, 0, 720) := by decide +kernel
theorem xd95_114 : xDl (xO 95) 114 = some (10, 114, 1, 0, 0, 838) := by decide +kernel
theorem xd95_112 : xDl (xO 95) 112 = some (10, 112, 1, 0, 5, 836) := by decide +kernel
theorem xd95_113 : xDl (xO 95) 113 = some (10, 113, 1, 0, 6, 837) := by decide +kernel
theorem xf95_162 : xFl (xO 95) 162 = some (10, 162, 10, 23, 0, 724) := by decide +kernel
theorem xc95_177 : xCl (xO 95) 177 = some (10, 177, 0, 90, 857, 859, 28) := rfl
theorem xc95_187 : xCl (xO 95) 187 = some (10, 187, 0, 97, 887, 889, 35) := rfl
theorem xf95_119 : xFl (xO 95) 119 = some (10, 119, 10, 24, 0, 725) := by decide +kernel
theorem xo_96 : xO 96 = 10 := by decide +kernel
theorem xc96_102 : xCl (xO 96) 102 = some (10, 102, 0, 86, 827, 829, 25) := rfl
theorem xc96_152 : xCl (xO 96) 152 = some (10, 152, 0, 89, 853, 855, 27) := rfl
theorem xc96_156 : xCl (xO 96) 156 = some (10, 156, 0, 84, 819, 821, 24) := rfl
theorem xo_97 : xO 97 = 10 := by decide +kernel
theorem xd97_114 : xDl (xO 97) 114 = some (10, 114, 1, 0, 0, 838) := by decide +kernel
theorem xc97_184 : xCl (xO 97) 184 = some (10, 184, 0, 96, 883, 885, 34) := rfl
theorem xf97_90 : xFl (xO 97) 90 = some (10, 90, 10, 19, 0, 720) := by decide +kernel
theorem xf97_119 : xFl (xO 97) 119 = some (10, 119, 10, 24, 0, 725) := by decide +kernel
theorem xl97_197 : xLl (xO 97) 197 = some (10, 197, 32, 891) := by decide +kernel
theorem xc97_152 : xCl (xO 97) 152 = some (10, 152, 0, 89, 853, 855, 27) := rfl
theorem xc97_177 : xCl (xO 97) 177 = some (10, 177, 0, 90, 857, 859, 28) := rfl
theorem xc97_156 : xCl (xO 97) 156 = some (10, 156, 0, 84, 819, 821, 24) := rfl
theorem xo_98 : xO 98 = 10 := by decide +kernel
theorem xl98_266 : xLl (xO 98) 266 = some (10, 266, 4, 906) := by decide +kernel
theorem xc98_77 : xCl (xO 98) 77 = some (10, 77, 1, 82, 812, 813, 0) := rfl
theorem xl98_268 : xLl (xO 98) 268 = some (10, 268, 7, 907) := by decide +kernel
theorem xl98_270 : xLl (xO 98) 270 = some (10, 270, 1000000000, 908) := by decide +kernel
theorem xf98_174 : xFl (xO 98) 174 = some (10, 174, 10, 16, 0, 717) := by decide +kernel
theorem xf98_239 : xFl (xO 98) 239 = some (10, 239, 10, 7, 0, 708) := by decide +kernel
theorem xf98_45 : xFl (xO 98) 45 = some (10, 45, 10, 13, 0, 714) := by decide +kernel
theorem xf98_49 : xFl (xO 98) 49 = some (10, 49, 10, 14, 0, 715) := by decide +kernel
theorem xc98_272 : xCl (xO 98) 272 = some (10, 272, 0, 99, 909, 911, 36) := rfl
theorem xf98_52 : xFl (xO 98) 52 = some (10, 52, 10, 15, 0, 716) := by decide +kernel
theorem xf98_36 : xFl (xO 98) 36 = some (10, 36, 10, 10, 0, 711) := by decide +kernel
theorem xc98_259 : xCl (xO 98) 259 = some (10, 259, 6, 0, 917, 0, 0) := rfl
theorem xf98_13 : xFl (xO 98) 13 = some (10, 13, 10, 2, 0, 703) := by decide +kernel
theorem xf98_17 : xFl (xO 98) 17 = some (10, 17, 10, 3, 0, 704) := by decide +kernel
theorem xf98_27 : xFl (xO 98) 27 = some (10, 27, 10, 6, 0, 707) := by decide +kernel
theorem xf98_20 : xFl (xO 98) 20 = some (10, 20, 10, 4, 0, 705) := by decide +kernel
theorem xf98_33 : xFl (xO 98) 33 = some (10, 33, 10, 9, 0, 710) := by decide +kernel
theorem xo_99 : xO 99 = 10 := by decide +kernel
theorem xc99_263 : xCl (xO 99) 263 = some (10, 263, 0, 100, 913, 915, 37) := rfl
theorem xo_100 : xO 100 = 10 := by decide +kernel
theorem xf100_239 : xFl (xO 100) 239 = some (10, 239, 10, 7, 0, 708) := by decide +kernel
theorem xf100_33 : xFl (xO 100) 33 = some (10, 33, 10, 9, 0, 710) := by decide +kernel
theorem xf100_13 : xFl (xO 100) 13 = some (10, 13, 10, 2, 0, 703) := by decide +kernel
theorem xf100_17 : xFl (xO 100) 17 = some (10, 17, 10, 3, 0, 704) := by decide +kernel
theorem xc100_259 : xCl (xO 100) 259 = some (10, 259, 6, 0, 917, 0, 0) := rfl
theorem xo_101 : xO 101 = 10 := by decide +kernel
theorem xl101_266 : xLl (xO 101) 266 = some (10, 266, 4, 906) := by decide +kernel
theorem xc101_77 : xCl (xO 101) 77 = some (10, 77, 1, 82, 812, 813, 0) := rfl
theorem xl101_268 : xLl (xO 101) 268 = some (10, 268, 7, 907) := by decide +kernel
theorem xl101_276 : xLl (xO 101) 276 = some (10, 276, 31, 922) := by decide +kernel
theorem xl101_123 : xLl (xO 101) 123 = some (10, 123, 1099511627776, 842) := by decide +kernel
theorem xf101_45 : xFl (xO 101) 45 = some (10, 45, 10, 13, 0, 714) := by decide +kernel
theorem xf101_52 : xFl (xO 101) 52 = some (10, 52, 10, 15, 0, 716) := by decide +kernel
theorem xc101_272 : xCl (xO 101) 272 = some (10, 272, 0, 99, 909, 911, 36) := rfl
theorem xf101_49 : xFl (xO 101) 49 = some (10, 49, 10, 14, 0, 715) := by decide +kernel
theorem xl101_278 : xLl (xO 101) 278 = some (10, 278, 1099511627777, 923) := by decide +kernel
theorem xc101_263 : xCl (xO 101) 263 = some (10, 263, 0, 100, 913, 915, 37) := rfl
theorem xc101_259 : xCl (xO 101) 259 = some (10, 259, 6, 0, 917, 0, 0) := rfl
theorem xc101_280 : xCl (xO 101) 280 = some (10, 280, 0, 102, 924, 925, 926) := rfl
theorem xo_102 : xO 102 = 10 := by decide +kernel
theorem xl102_266 : xLl (xO 102) 266 = some (10, 266, 4, 906) := by decide +kernel
theorem xc102_77 : xCl (xO 102) 77 = some (10, 77, 1, 82, 812, 813, 0) := rfl
theorem xl102_276 : xLl (xO 102) 276 = some (10, 276, 31, 922) := by decide +kernel
theorem xl102_123 : xLl (xO 102) 123 = some (10, 123, 1099511627776, 842) := by decide +kernel
theorem xc102_292 : xCl (xO 102) 292 = some (10, 292, 0, 103, 928, 930, 38) := rfl
theorem xf102_58 : xFl (xO 102) 58 = some (10, 58, 10, 27, 0, 728) := by decide +kernel
theorem xo_103 : xO 103 = 10 := by decide +kernel
theorem xc103_249 : xCl (xO 103) 249 = some (10, 249, 0, 104, 932, 934, 39) := rfl
theorem xf103_58 : xFl (xO 103) 58 = some (10, 58, 10, 27, 0, 728) := by decide +kernel
theorem xc103_252 : xCl (xO 103) 252 = some (10, 252, 1, 122, 944, 608, 0) := rfl
theorem xf103_39 : xFl (xO 103) 39 = some (10, 39, 10, 11, 0, 712) := by decide +kernel
theorem xf103_236 : xFl (xO 103) 236 = some (10, 236, 10, 33, 0, 734) := by decide +kernel
theorem xf103_70 : xFl (xO 103) 70 = some (10, 70, 10, 32, 0, 733) := by decide +kernel
theorem xc103_256 : xCl (xO 103) 256 = some (10, 256, 0, 107, 945, 947, 42) := rfl
theorem xo_104 : xO 104 = 10 := by decide +kernel
theorem xf104_236 : xFl (xO 104) 236 = some (10, 236, 10, 33, 0, 734) := by decide +kernel
theorem xf104_39 : xFl (xO 104) 39 = some (10, 39, 10, 11, 0, 712) := by decide +kernel
theorem xf104_70 : xFl (xO 104) 70 = some (10, 70, 10, 32, 0, 733) := by decide +kernel
theorem xf104_23 : xFl (xO 104) 23 = some (10, 23, 10, 5, 0, 706) := by decide +kernel
theorem xf104_239 : xFl (xO 104) 239 = some (10, 239, 10, 7, 0, 708) := by decide +kernel
theorem xf104_33 : xFl (xO 104) 33 = some (10, 33, 10, 9, 0, 710) := by decide +kernel
theorem xc104_242 : xCl (xO 104) 242 = some (10, 242, 0, 105, 936, 938, 40) := rfl
theorem xc104_246 : xCl (xO 104) 246 = some (10, 246, 0, 106, 940, 942, 41) := rfl
theorem xo_105 : xO 105 = 10 := by decide +kernel
theorem xf105_20 : xFl (xO 105) 20 = some (10, 20, 10, 4, 0, 705) := by decide +kernel
theorem xf105_39 : xFl (xO 105) 39 = some (10, 39, 10, 11, 0, 712) := by decide +kernel
theorem xo_106 : xO 106 = 10 := by decide +kernel
theorem xf106_17 : xFl (xO 106) 17 = some (10, 17, 10, 3, 0, 704) := by decide +kernel
theorem xf106_13 : xFl (xO 106) 13 = some (10, 13, 10, 2, 0, 703) := by decide +kernel
theorem xo_107 : xO 107 = 10 := by decide +kernel
theorem xf107_27 : xFl (xO 107) 27 = some (10, 27, 10, 6, 0, 707) := by decide +kernel
theorem xf107_226 : xFl (xO 107) 226 = some (10, 226, 10, 31, 0, 732) := by decide +kernel
theorem xc107_233 : xCl (xO 107) 233 = some (10, 233, 0, 108, 949, 951, 43) := rfl
theorem xf107_67 : xFl (xO 107) 67 = some (10, 67, 10, 30, 0, 731) := by decide +kernel
theorem xf107_64 : xFl (xO 107) 64 = some (10, 64, 10, 29, 0, 730) := by decide +kernel
theorem xc107_229 : xCl (xO 107) 229 = some (10, 229, 0, 109, 953, 955, 44) := rfl
theorem xf107_58 : xFl (xO 107) 58 = some (10, 58, 10, 27, 0, 728) := by decide +kernel
theorem xo_108 : xO 108 = 10 := by decide +kernel
theorem xf108_27 : xFl (xO 108) 27 = some (10, 27, 10, 6, 0, 707) := by decide +kernel
theorem xf108_226 : xFl (xO 108) 226 = some (10, 226, 10, 31, 0, 732) := by decide +kernel
theorem xc108_229 : xCl (xO 108) 229 = some (10, 229, 0, 109, 953, 955, 44) := rfl
theorem xo_109 : xO 109 = 10 := by decide +kernel
theorem xf109_27 : xFl (xO 109) 27 = some (10, 27, 10, 6, 0, 707) := by decide +kernel
theorem xf109_226 : xFl (xO 109) 226 = some (10, 226, 10, 31, 0, 732) := by decide +kernel
theorem xf109_61 : xFl (xO 109) 61 = some (10, 61, 10, 28, 0, 729) := by decide +kernel
theorem xf109_58 : xFl (xO 109) 58 = some (10, 58, 10, 27, 0, 728) := by decide +kernel
theorem xf109_13 : xFl (xO 109) 13 = some (10, 13, 10, 2, 0, 703) := by decide +kernel
theorem xf109_17 : xFl (xO 109) 17 = some (10, 17, 10, 3, 0, 704) := by decide +kernel
theorem xo_110 : xO 110 = 10 := by decide +kernel
theorem xl110_268 : xLl (xO 110) 268 = some (10, 268, 7, 907) := by decide +kernel
theorem xc110_77 : xCl (xO 110) 77 = some (10, 77, 1, 82, 812, 813, 0) := rfl
theorem xl110_283 : xLl (xO 110) 283 = some (10, 283, 15, 961) := by decide +kernel
theorem xf110_45 : xFl (xO 110) 45 = some (10, 45, 10, 13, 0, 714) := by decide +kernel
theorem xf110_49 : xFl (xO 110) 49 = some (10, 49, 10, 14, 0, 715) := by decide +kernel
theorem xc110_252 : xCl (xO 110) 252 = some (10, 252, 1, 122, 944, 608, 0) := rfl
theorem xf110_52 : xFl (xO 110) 52 = some (10, 52, 10, 15, 0, 716) := by decide +kernel
theorem xo_111 : xO 111 = 10 := by decide +kernel
theorem xc111_249 : xCl (xO 111) 249 = some (10, 249, 0, 104, 932, 934, 39) := rfl
theorem xf111_39 : xFl (xO 111) 39 = some (10, 39, 10, 11, 0, 712) := by decide +kernel
theorem xf111_236 : xFl (xO 111) 236 = some (10, 236, 10, 33, 0, 734) := by decide +kernel
theorem xf111_285 : xFl (xO 111) 285 = some (10, 285, 10, 8, 0, 709) := by decide +kernel
theorem xf111_20 : xFl (xO 111) 20 = some (10, 20, 10, 4, 0, 705) := by decide +kernel
theorem xf111_70 : xFl (xO 111) 70 = some (10, 70, 10, 32, 0, 733) := by decide +kernel
theorem xf111_23 : xFl (xO 111) 23 = some (10, 23, 10, 5, 0, 706) := by decide +kernel
theorem xo_112 : xO 112 = 10 := by decide +kernel
theorem xl112_266 : xLl (xO 112) 266 = some (10, 266, 4, 906) := by decide +kernel
theorem xc112_77 : xCl (xO 112) 77 = some (10, 77, 1, 82, 812, 813, 0) := rfl
theorem xc112_249 : xCl (xO 112) 249 = some (10, 249, 0, 104, 932, 934, 39) := rfl
theorem xf112_42 : xFl (xO 112) 42 = some (10, 42, 10, 12, 0, 713) := by decide +kernel
theorem xf112_39 : xFl (xO 112) 39 = some (10, 39, 10, 11, 0, 712) := by decide +kernel
theorem xf112_23 : xFl (xO 112) 23 = some (10, 23, 10, 5, 0, 706) := by decide +kernel
theorem xc112_288 : xCl (xO 112) 288 = some (10, 288, 0, 113, 970, 972, 45) := rfl
theorem xf112_236 : xFl (xO 112) 236 = some (10, 236, 10, 33, 0, 734) := by decide +kernel
theorem xf112_70 : xFl (xO 112) 70 = some (10, 70, 10, 32, 0, 733) := by decide +kernel
theorem xc112_242 : xCl (xO 112) 242 = some (10, 242, 0, 105, 936, 938, 40) := rfl
theorem xf112_33 : xFl (xO 112) 33 = some (10, 33, 10, 9, 0, 710) := by decide +kernel
theorem xo_113 : xO 113 = 10 := by decide +kernel
theorem xf113_33 : xFl (xO 113) 33 = some (10, 33, 10, 9, 0, 710) := by decide +kernel
theorem xf113_36 : xFl (xO 113) 36 = some (10, 36, 10, 10, 0, 711) := by decide +kernel
theorem xf113_17 : xFl (xO 113) 17 = some (10, 17, 10, 3, 0, 704) := by decide +kernel
theorem xc113_259 : xCl (xO 113) 259 = some (10, 259, 6, 0, 917, 0, 0) := rfl
theorem xo_114 : xO 114 = 10 := by decide +kernel
theorem xl114_266 : xLl (xO 114) 266 = some (10, 266, 4, 906) := by decide +kernel
theorem xc114_77 : xCl (xO 114) 77 = some (10, 77, 1, 82, 812, 813, 0) := rfl
theorem xf114_42 : xFl (xO 114) 42 = some (10, 42, 10, 12, 0, 713) := by decide +kernel
theorem xf114_39 : xFl (xO 114) 39 = some (10, 39, 10, 11, 0, 712) := by decide +kernel
theorem xc114_129 : xCl (xO 114) 129 = some (10, 129, 8, 0, 845, 0, 0) := rfl
theorem xo_115 : xO 115 = 10 := by decide +kernel
theorem xl115_266 : xLl (xO 115) 266 = some (10, 266, 4, 906) := by decide +kernel
theorem xc115_77 : xCl (xO 115) 77 = some (10, 77, 1, 82, 812, 813, 0) := rfl
theorem xc115_249 : xCl (xO 115) 249 = some (10, 249, 0, 104, 932, 934, 39) := rfl
theorem xf115_236 : xFl (xO 115) 236 = some (10, 236, 10, 33, 0, 734) := by decide +kernel
theorem xf115_70 : xFl (xO 115) 70 = some (10, 70, 10, 32, 0, 733) := by decide +kernel
theorem xo_116 : xO 116 = 10 := by decide +kernel
theorem xl116_266 : xLl (xO 116) 266 = some (10, 266, 4, 906) := by decide +kernel
theorem xc116_77 : xCl (xO 116) 77 = some (10, 77, 1, 82, 812, 813, 0) := rfl
theorem xf116_239 : xFl (xO 116) 239 = some (10, 239, 10, 7, 0, 708) := by decide +kernel
theorem xf116_33 : xFl (xO 116) 33 = some (10, 33, 10, 9, 0, 710) := by decide +kernel
theorem xc116_249 : xCl (xO 116) 249 = some (10, 249, 0, 104, 932, 934, 39) := rfl
theorem xf116_58 : xFl (xO 116) 58 = some (10, 58, 10, 27, 0, 728) := by decide +kernel
theorem xc116_252 : xCl (xO 116) 252 = some (10, 252, 1, 122, 944, 608, 0) := rfl
theorem xf116_236 : xFl (xO 116) 236 = some (10, 236, 10, 33, 0, 734) := by decide +kernel
theorem xf116_70 : xFl (xO 116) 70 = some (10, 70, 10, 32, 0, 733) := by decide +kernel
theorem xc116_256 : xCl (xO 116) 256 = some (10, 256, 0, 107, 945, 947, 42) := rfl
theorem xo_117 : xO 117 = 10 := by decide +kernel
theorem xl117_296 : xLl (xO 117) 296 = some (10, 296, 2, 991) := by decide +kernel
theorem xc117_77 : xCl (xO 117) 77 = some (10, 77, 1, 82, 812, 813, 0) := rfl
theorem xf117_239 : xFl (xO 117) 239 = some (10, 239, 10, 7, 0, 708) := by decide +kernel
theorem xf117_13 : xFl (xO 117) 13 = some (10, 13, 10, 2, 0, 703) := by decide +kernel
theorem xf117_17 : xFl (xO 117) 17 = some (10, 17, 10, 3, 0, 704) := by decide +kernel
theorem xf117_20 : xFl (xO 117) 20 = some (10, 20, 10, 4, 0, 705) := by decide +kernel
theorem xo_118 : xO 118 = 10 := by decide +kernel
theorem xl118_296 : xLl (xO 118) 296 = some (10, 296, 2, 991) := by decide +kernel
theorem xc118_77 : xCl (xO 118) 77 = some (10, 77, 1, 82, 812, 813, 0) := rfl
theorem xl118_266 : xLl (xO 118) 266 = some (10, 266, 4, 906) := by decide +kernel
theorem xl118_268 : xLl (xO 118) 268 = some (10, 268, 7, 907) := by decide +kernel
theorem xc118_263 : xCl (xO 118) 263 = some (10, 263, 0, 100, 913, 915, 37) := rfl
theorem xf118_49 : xFl (xO 118) 49 = some (10, 49, 10, 14, 0, 715) := by decide +kernel
theorem xf118_52 : xFl (xO 118) 52 = some (10, 52, 10, 15, 0, 716) := by decide +kernel
theorem xo_119 : xO 119 = 10 := by decide +kernel
theorem xl119_266 : xLl (xO 119) 266 = some (10, 266, 4, 906) := by decide +kernel
theorem xc119_77 : xCl (xO 119) 77 = some (10, 77, 1, 82, 812, 813, 0) := rfl
theorem xl119_298 : xLl (xO 119) 298 = some (10, 298, 3, 1000) := by decide +kernel
theorem xf119_39 : xFl (xO 119) 39 = some (10, 39, 10, 11, 0, 712) := by decide +kernel
theorem xf119_42 : xFl (xO 119) 42 = some (10, 42, 10, 12, 0, 713) := by decide +kernel
theorem xf119_36 : xFl (xO 119) 36 = some (10, 36, 10, 10, 0, 711) := by decide +kernel
theorem xf119_239 : xFl (xO 119) 239 = some (10, 239, 10, 7, 0, 708) := by decide +kernel
theorem xf119_33 : xFl (xO 119) 33 = some (10, 33, 10, 9, 0, 710) := by decide +kernel
theorem xo_120 : xO 120 = 10 := by decide +kernel
theorem xf120_239 : xFl (xO 120) 239 = some (10, 239, 10, 7, 0, 708) := by decide +kernel
theorem xo_121 : xO 121 = 11 := by decide +kernel
theorem xc121_304 : xCl (xO 121) 304 = some (11, 304, 7, 0, 456, 0, 0) := rfl
theorem xc121_150 : xCl (xO 121) 150 = some (11, 150, 9, 0, 459, 0, 0) := rfl
theorem xo_122 : xO 122 = 11 := by decide +kernel
theorem xo_123 : xO 123 = 12 := by decide +kernel
theorem xk123_7 : xKl (xO 123) 7 = some (12, 7, 0, 65, 66, 47) := by decide +kernel
theorem xc123_9 : xCl (xO 123) 9 = some (12, 9, 2, 0, 67, 68, 0) := rfl
theorem xk123_10 : xKl (xO 123) 10 = some (12, 10, 10, 690, 691, 55) := by decide +kernel
theorem xc123_12 : xCl (xO 123) 12 = some (12, 12, 2, 79, 692, 693, 0) := rfl
theorem xc123_13 : xCl (xO 123) 13 = some (12, 13, 0, 1, 288, 289, 290) := rfl
theorem xc123_17 : xCl (xO 123) 17 = some (12, 17, 0, 80, 804, 805, 806) := rfl
theorem xc123_18 : xCl (xO 123) 18 = some (12, 18, 0, 2, 296, 297, 298) := rfl
theorem xc123_22 : xCl (xO 123) 22 = some (12, 22, 0, 81, 808, 809, 810) := rfl
theorem xc123_23 : xCl (xO 123) 23 = some (12, 23, 0, 3, 300, 301, 302) := rfl
theorem xc123_27 : xCl (xO 123) 27 = some (12, 27, 0, 83, 815, 816, 817) := rfl
theorem xc123_28 : xCl (xO 123) 28 = some (12, 28, 0, 5, 476, 477, 478) := rfl
theorem xc123_32 : xCl (xO 123) 32 = some (12, 32, 0, 98, 902, 903, 904) := rfl
theorem xc123_33 : xCl (xO 123) 33 = some (12, 33, 0, 8, 542, 543, 544) := rfl
theorem xc123_37 : xCl (xO 123) 37 = some (12, 37, 0, 101, 918, 919, 920) := rfl
theorem xc123_38 : xCl (xO 123) 38 = some (12, 38, 0, 9, 599, 600, 601) := rfl
theorem xc123_42 : xCl (xO 123) 42 = some (12, 42, 0, 110, 957, 958, 959) := rfl
theorem xc123_43 : xCl (xO 123) 43 = some (12, 43, 0, 10, 610, 611, 612) := rfl
theorem xc123_46 : xCl (xO 123) 46 = some (12, 46, 0, 111, 962, 963, 964) := rfl
theorem xc123_47 : xCl (xO 123) 47 = some (12, 47, 0, 11, 628, 629, 630) := rfl
theorem xc123_50 : xCl (xO 123) 50 = some (12, 50, 0, 112, 966, 967, 968) := rfl
theorem xc123_51 : xCl (xO 123) 51 = some (12, 51, 0, 12, 646, 647, 648) := rfl
theorem xc123_55 : xCl (xO 123) 55 = some (12, 55, 0, 114, 974, 975, 976) := rfl
theorem xc123_56 : xCl (xO 123) 56 = some (12, 56, 0, 13, 650, 651, 652) := rfl
theorem xc123_60 : xCl (xO 123) 60 = some (12, 60, 0, 102, 978, 925, 926) := rfl
theorem xc123_61 : xCl (xO 123) 61 = some (12, 61, 0, 14, 654, 655, 656) := rfl
theorem xc123_64 : xCl (xO 123) 64 = some (12, 64, 0, 115, 979, 980, 981) := rfl
theorem xc123_65 : xCl (xO 123) 65 = some (12, 65, 0, 15, 662, 663, 664) := rfl
theorem xc123_68 : xCl (xO 123) 68 = some (12, 68, 0, 116, 983, 984, 985) := rfl
theorem xc123_69 : xCl (xO 123) 69 = some (12, 69, 0, 16, 674, 675, 676) := rfl
theorem xc123_72 : xCl (xO 123) 72 = some (12, 72, 0, 117, 987, 988, 989) := rfl
theorem xc123_73 : xCl (xO 123) 73 = some (12, 73, 0, 17, 678, 679, 680) := rfl
theorem xc123_76 : xCl (xO 123) 76 = some (12, 76, 0, 118, 992, 993, 994) := rfl
theorem xc123_77 : xCl (xO 123) 77 = some (12, 77, 0, 18, 682, 683, 684) := rfl
theorem xc123_80 : xCl (xO 123) 80 = some (12, 80, 0, 119, 996, 997, 998) := rfl
theorem xc123_81 : xCl (xO 123) 81 = some (12, 81, 0, 19, 686, 687, 688) := rfl
theorem xc123_84 : xCl (xO 123) 84 = some (12, 84, 0, 120, 1001, 1002, 1003) := rfl
theorem xa_0 : xA 0 = 0 := by decide +kernel
theorem xt_0 : xT 0 = none := rfl
theorem xm_0 : xM 0 = 3 := by decide +kernel
theorem xa_1 : xA 1 = 5 := by decide +kernel
theorem xt_1 : xT 1 = (some .int) := rfl
theorem xm_1 : xM 1 = 6 := by decide +kernel
theorem xa_2 : xA 2 = 1 := by decide +kernel
theorem xt_2 : xT 2 = (some .int) := rfl
theorem xm_2 : xM 2 = 2 := by decide +kernel
theorem xa_3 : xA 3 = 0 := by decide +kernel
theorem xt_3 : xT 3 = (some .int) := rfl
theorem xm_3 : xM 3 = 2 := by decide +kernel
theorem xa_4 : xA 4 = 1 := by decide +kernel
theorem xt_4 : xT 4 = (some .boolean) := rfl
theorem xm_4 : xM 4 = 1 := by decide +kernel
theorem xa_5 : xA 5 = 3 := by decide +kernel
theorem xt_5 : xT 5 = (some .int) := rfl
theorem xm_5 : xM 5 = 8 := by decide +kernel
theorem xa_6 : xA 6 = 1 := by decide +kernel
theorem xt_6 : xT 6 = (some .boolean) := rfl
theorem xm_6 : xM 6 = 1 := by decide +kernel
theorem xa_7 : xA 7 = 1 := by decide +kernel
theorem xt_7 : xT 7 = (some .boolean) := rfl
theorem xm_7 : xM 7 = 1 := by decide +kernel
theorem xa_8 : xA 8 = 4 := by decide +kernel
theorem xt_8 : xT 8 = (some .long) := rfl
theorem xm_8 : xM 8 = 7 := by decide +kernel
theorem xa_9 : xA 9 = 3 := by decide +kernel
theorem xt_9 : xT 9 = (some .int) := rfl
theorem xm_9 : xM 9 = 6 := by decide +kernel
theorem xa_10 : xA 10 = 1 := by decide +kernel
theorem xt_10 : xT 10 = (some .int) := rfl
theorem xm_10 : xM 10 = 5 := by decide +kernel
theorem xa_11 : xA 11 = 3 := by decide +kernel
theorem xt_11 : xT 11 = (some .int) := rfl
theorem xm_11 : xM 11 = 7 := by decide +kernel
theorem xa_12 : xA 12 = 2 := by decide +kernel
theorem xt_12 : xT 12 = (some .int) := rfl
theorem xm_12 : xM 12 = 4 := by decide +kernel
theorem xa_13 : xA 13 = 3 := by decide +kernel
theorem xt_13 : xT 13 = (some .long) := rfl
theorem xm_13 : xM 13 = 4 := by decide +kernel
theorem xa_14 : xA 14 = 2 := by decide +kernel
theorem xt_14 : xT 14 = (some .int) := rfl
theorem xm_14 : xM 14 = 3 := by decide +kernel
theorem xa_15 : xA 15 = 2 := by decide +kernel
theorem xt_15 : xT 15 = (some .int) := rfl
theorem xm_15 : xM 15 = 3 := by decide +kernel
theorem xa_16 : xA 16 = 2 := by decide +kernel
theorem xt_16 : xT 16 = (some .int) := rfl
theorem xm_16 : xM 16 = 4 := by decide +kernel
theorem xa_17 : xA 17 = 3 := by decide +kernel
theorem xt_17 : xT 17 = (some .int) := rfl
theorem xm_17 : xM 17 = 4 := by decide +kernel
theorem xa_18 : xA 18 = 2 := by decide +kernel
theorem xt_18 : xT 18 = (some .int) := rfl
theorem xm_18 : xM 18 = 4 := by decide +kernel
theorem xa_19 : xA 19 = 0 := by decide +kernel
theorem xt_19 : xT 19 = (some .int) := rfl
theorem xm_19 : xM 19 = 1 := by decide +kernel
theorem xa_20 : xA 20 = 0 := by decide +kernel
theorem xt_20 : xT 20 = none := rfl
theorem xm_20 : xM 20 = 1 := by decide +kernel
theorem xa_21 : xA 21 = 1 := by decide +kernel
theorem xt_21 : xT 21 = none := rfl
theorem xm_21 : xM 21 = 3 := by decide +kernel
theorem xa_22 : xA 22 = 1 := by decide +kernel
theorem xt_22 : xT 22 = none := rfl
theorem xm_22 : xM 22 = 2 := by decide +kernel
theorem xa_23 : xA 23 = 0 := by decide +kernel
theorem xt_23 : xT 23 = (some .int) := rfl
theorem xm_23 : xM 23 = 3 := by decide +kernel
theorem xa_24 : xA 24 = 1 := by decide +kernel
theorem xt_24 : xT 24 = (some .boolean) := rfl
theorem xm_24 : xM 24 = 2 := by decide +kernel
theorem xa_25 : xA 25 = 0 := by decide +kernel
theorem xt_25 : xT 25 = none := rfl
theorem xm_25 : xM 25 = 4 := by decide +kernel
theorem xa_26 : xA 26 = 1 := by decide +kernel
theorem xt_26 : xT 26 = none := rfl
theorem xm_26 : xM 26 = 5 := by decide +kernel
theorem xa_27 : xA 27 = 1 := by decide +kernel
theorem xt_27 : xT 27 = none := rfl
theorem xm_27 : xM 27 = 4 := by decide +kernel
theorem xa_28 : xA 28 = 1 := by decide +kernel
theorem xt_28 : xT 28 = none := rfl
theorem xm_28 : xM 28 = 3 := by decide +kernel
theorem xa_29 : xA 29 = 1 := by decide +kernel
theorem xt_29 : xT 29 = none := rfl
theorem xm_29 : xM 29 = 2 := by decide +kernel
theorem xa_30 : xA 30 = 0 := by decide +kernel
theorem xt_30 : xT 30 = none := rfl
theorem xm_30 : xM 30 = 1 := by decide +kernel
theorem xa_31 : xA 31 = 0 := by decide +kernel
theorem xt_31 : xT 31 = (some .int) := rfl
theorem xm_31 : xM 31 = 1 := by decide +kernel
theorem xa_32 : xA 32 = 0 := by decide +kernel
theorem xt_32 : xT 32 = (some .int) := rfl
theorem xm_32 : xM 32 = 2 := by decide +kernel
theorem xa_33 : xA 33 = 2 := by decide +kernel
theorem xt_33 : xT 33 = none := rfl
theorem xm_33 : xM 33 = 3 := by decide +kernel
theorem xa_34 : xA 34 = 0 := by decide +kernel
theorem xt_34 : xT 34 = none := rfl
theorem xm_34 : xM 34 = 4 := by decide +kernel
theorem xa_35 : xA 35 = 0 := by decide +kernel
theorem xt_35 : xT 35 = (some (.object "DriftStore$Program")) := rfl
theorem xm_35 : xM 35 = 1 := by decide +kernel
theorem xa_36 : xA 36 = 0 := by decide +kernel
theorem xt_36 : xT 36 = none := rfl
theorem xm_36 : xM 36 = 1 := by decide +kernel
theorem xa_37 : xA 37 = 1 := by decide +kernel
theorem xt_37 : xT 37 = none := rfl
theorem xm_37 : xM 37 = 5 := by decide +kernel
theorem xa_38 : xA 38 = 2 := by decide +kernel
theorem xt_38 : xT 38 = (some .int) := rfl
theorem xm_38 : xM 38 = 3 := by decide +kernel
theorem xa_39 : xA 39 = 2 := by decide +kernel
theorem xt_39 : xT 39 = (some .int) := rfl
theorem xm_39 : xM 39 = 5 := by decide +kernel
theorem xa_40 : xA 40 = 2 := by decide +kernel
theorem xt_40 : xT 40 = (some .int) := rfl
theorem xm_40 : xM 40 = 4 := by decide +kernel
theorem xa_41 : xA 41 = 3 := by decide +kernel
theorem xt_41 : xT 41 = (some .int) := rfl
theorem xm_41 : xM 41 = 3 := by decide +kernel
theorem xa_42 : xA 42 = 4 := by decide +kernel
theorem xt_42 : xT 42 = (some .boolean) := rfl
theorem xm_42 : xM 42 = 5 := by decide +kernel
theorem xa_43 : xA 43 = 2 := by decide +kernel
theorem xt_43 : xT 43 = (some .int) := rfl
theorem xm_43 : xM 43 = 7 := by decide +kernel
theorem xa_44 : xA 44 = 1 := by decide +kernel
theorem xt_44 : xT 44 = (some .int) := rfl
theorem xm_44 : xM 44 = 1 := by decide +kernel
theorem xa_45 : xA 45 = 0 := by decide +kernel
theorem xt_45 : xT 45 = none := rfl
theorem xm_45 : xM 45 = 1 := by decide +kernel
theorem xa_46 : xA 46 = 1 := by decide +kernel
theorem xt_46 : xT 46 = (some .int) := rfl
theorem xm_46 : xM 46 = 2 := by decide +kernel
theorem xa_47 : xA 47 = 1 := by decide +kernel
theorem xt_47 : xT 47 = none := rfl
theorem xm_47 : xM 47 = 2 := by decide +kernel
theorem xa_48 : xA 48 = 1 := by decide +kernel
theorem xt_48 : xT 48 = (some .boolean) := rfl
theorem xm_48 : xM 48 = 2 := by decide +kernel
theorem xa_49 : xA 49 = 0 := by decide +kernel
theorem xt_49 : xT 49 = none := rfl
theorem xm_49 : xM 49 = 1 := by decide +kernel
theorem xa_50 : xA 50 = 2 := by decide +kernel
theorem xt_50 : xT 50 = (some .int) := rfl
theorem xm_50 : xM 50 = 6 := by decide +kernel
theorem xa_51 : xA 51 = 0 := by decide +kernel
theorem xt_51 : xT 51 = none := rfl
theorem xm_51 : xM 51 = 1 := by decide +kernel
theorem xa_52 : xA 52 = 4 := by decide +kernel
theorem xt_52 : xT 52 = none := rfl
theorem xm_52 : xM 52 = 5 := by decide +kernel
theorem xa_53 : xA 53 = 1 := by decide +kernel
theorem xt_53 : xT 53 = none := rfl
theorem xm_53 : xM 53 = 2 := by decide +kernel
theorem xa_54 : xA 54 = 1 := by decide +kernel
theorem xt_54 : xT 54 = none := rfl
theorem xm_54 : xM 54 = 3 := by decide +kernel
theorem xa_55 : xA 55 = 0 := by decide +kernel
theorem xt_55 : xT 55 = (some .int) := rfl
theorem xm_55 : xM 55 = 1 := by decide +kernel
theorem xa_56 : xA 56 = 1 := by decide +kernel
theorem xt_56 : xT 56 = none := rfl
theorem xm_56 : xM 56 = 4 := by decide +kernel
theorem xa_57 : xA 57 = 1 := by decide +kernel
theorem xt_57 : xT 57 = none := rfl
theorem xm_57 : xM 57 = 3 := by decide +kernel
theorem xa_58 : xA 58 = 2 := by decide +kernel
theorem xt_58 : xT 58 = none := rfl
theorem xm_58 : xM 58 = 3 := by decide +kernel
theorem xa_59 : xA 59 = 1 := by decide +kernel
theorem xt_59 : xT 59 = none := rfl
theorem xm_59 : xM 59 = 4 := by decide +kernel
theorem xa_60 : xA 60 = 2 := by decide +kernel
theorem xt_60 : xT 60 = (some .int) := rfl
theorem xm_60 : xM 60 = 3 := by decide +kernel
theorem xa_61 : xA 61 = 0 := by decide +kernel
theorem xt_61 : xT 61 = none := rfl
theorem xm_61 : xM 61 = 3 := by decide +kernel
theorem xa_62 : xA 62 = 0 := by decide +kernel
theorem xt_62 : xT 62 = none := rfl
theorem xm_62 : xM 62 = 2 := by decide +kernel
theorem xa_63 : xA 63 = 1 := by decide +kernel
theorem xt_63 : xT 63 = none := rfl
theorem xm_63 : xM 63 = 3 := by decide +kernel
theorem xa_64 : xA 64 = 1 := by decide +kernel
theorem xt_64 : xT 64 = none := rfl
theorem xm_64 : xM 64 = 3 := by decide +kernel
theorem xa_65 : xA 65 = 2 := by decide +kernel
theorem xt_65 : xT 65 = (some .int) := rfl
theorem xm_65 : xM 65 = 5 := by decide +kernel
theorem xa_66 : xA 66 = 2 := by decide +kernel
theorem xt_66 : xT 66 = (some .int) := rfl
theorem xm_66 : xM 66 = 5 := by decide +kernel
theorem xa_67 : xA 67 = 1 := by decide +kernel
theorem xt_67 : xT 67 = (some .int) := rfl
theorem xm_67 : xM 67 = 2 := by decide +kernel
theorem xa_68 : xA 68 = 1 := by decide +kernel
theorem xt_68 : xT 68 = (some .int) := rfl
theorem xm_68 : xM 68 = 2 := by decide +kernel
theorem xa_69 : xA 69 = 0 := by decide +kernel
theorem xt_69 : xT 69 = none := rfl
theorem xm_69 : xM 69 = 1 := by decide +kernel
theorem xa_70 : xA 70 = 1 := by decide +kernel
theorem xt_70 : xT 70 = (some .boolean) := rfl
theorem xm_70 : xM 70 = 2 := by decide +kernel
theorem xa_71 : xA 71 = 1 := by decide +kernel
theorem xt_71 : xT 71 = (some .boolean) := rfl
theorem xm_71 : xM 71 = 2 := by decide +kernel
theorem xa_72 : xA 72 = 2 := by decide +kernel
theorem xt_72 : xT 72 = (some .boolean) := rfl
theorem xm_72 : xM 72 = 3 := by decide +kernel
theorem xa_73 : xA 73 = 1 := by decide +kernel
theorem xt_73 : xT 73 = (some .boolean) := rfl
theorem xm_73 : xM 73 = 2 := by decide +kernel
theorem xa_74 : xA 74 = 1 := by decide +kernel
theorem xt_74 : xT 74 = none := rfl
theorem xm_74 : xM 74 = 3 := by decide +kernel
theorem xa_75 : xA 75 = 0 := by decide +kernel
theorem xt_75 : xT 75 = none := rfl
theorem xm_75 : xM 75 = 1 := by decide +kernel
theorem xa_76 : xA 76 = 2 := by decide +kernel
theorem xt_76 : xT 76 = none := rfl
theorem xm_76 : xM 76 = 3 := by decide +kernel
theorem xa_77 : xA 77 = 3 := by decide +kernel
theorem xt_77 : xT 77 = none := rfl
theorem xm_77 : xM 77 = 4 := by decide +kernel
theorem xa_78 : xA 78 = 1 := by decide +kernel
theorem xt_78 : xT 78 = (some .boolean) := rfl
theorem xm_78 : xM 78 = 2 := by decide +kernel
theorem xa_79 : xA 79 = 0 := by decide +kernel
theorem xt_79 : xT 79 = none := rfl
theorem xm_79 : xM 79 = 1 := by decide +kernel
theorem xa_80 : xA 80 = 5 := by decide +kernel
theorem xt_80 : xT 80 = (some .int) := rfl
theorem xm_80 : xM 80 = 8 := by decide +kernel
theorem xa_81 : xA 81 = 1 := by decide +kernel
theorem xt_81 : xT 81 = (some .int) := rfl
theorem xm_81 : xM 81 = 2 := by decide +kernel
theorem xa_82 : xA 82 = 3 := by decide +kernel
theorem xt_82 : xT 82 = (some .boolean) := rfl
theorem xm_82 : xM 82 = 6 := by decide +kernel
theorem xa_83 : xA 83 = 0 := by decide +kernel
theorem xt_83 : xT 83 = (some .int) := rfl
theorem xm_83 : xM 83 = 2 := by decide +kernel
theorem xa_84 : xA 84 = 0 := by decide +kernel
theorem xt_84 : xT 84 = none := rfl
theorem xm_84 : xM 84 = 3 := by decide +kernel
theorem xa_85 : xA 85 = 1 := by decide +kernel
theorem xt_85 : xT 85 = (some .boolean) := rfl
theorem xm_85 : xM 85 = 1 := by decide +kernel
theorem xa_86 : xA 86 = 1 := by decide +kernel
theorem xt_86 : xT 86 = (some .boolean) := rfl
theorem xm_86 : xM 86 = 3 := by decide +kernel
theorem xa_87 : xA 87 = 1 := by decide +kernel
theorem xt_87 : xT 87 = (some .boolean) := rfl
theorem xm_87 : xM 87 = 1 := by decide +kernel
theorem xa_88 : xA 88 = 0 := by decide +kernel
theorem xt_88 : xT 88 = (some .boolean) := rfl
theorem xm_88 : xM 88 = 4 := by decide +kernel
theorem xa_89 : xA 89 = 0 := by decide +kernel
theorem xt_89 : xT 89 = (some .boolean) := rfl
theorem xm_89 : xM 89 = 1 := by decide +kernel
theorem xa_90 : xA 90 = 1 := by decide +kernel
theorem xt_90 : xT 90 = none := rfl
theorem xm_90 : xM 90 = 2 := by decide +kernel
theorem xa_91 : xA 91 = 0 := by decide +kernel
theorem xt_91 : xT 91 = (some .boolean) := rfl
theorem xm_91 : xM 91 = 2 := by decide +kernel
theorem xa_92 : xA 92 = 0 := by decide +kernel
theorem xt_92 : xT 92 = (some .boolean) := rfl
theorem xm_92 : xM 92 = 1 := by decide +kernel
theorem xa_93 : xA 93 = 1 := by decide +kernel
theorem xt_93 : xT 93 = (some .boolean) := rfl
theorem xm_93 : xM 93 = 3 := by decide +kernel
theorem xa_94 : xA 94 = 1 := by decide +kernel
theorem xt_94 : xT 94 = (some .boolean) := rfl
theorem xm_94 : xM 94 = 2 := by decide +kernel
theorem xa_95 : xA 95 = 1 := by decide +kernel
theorem xt_95 : xT 95 = (some .boolean) := rfl
theorem xm_95 : xM 95 = 2 := by decide +kernel
theorem xa_96 : xA 96 = 1 := by decide +kernel
theorem xt_96 : xT 96 = (some .boolean) := rfl
theorem xm_96 : xM 96 = 2 := by decide +kernel
theorem xa_97 : xA 97 = 0 := by decide +kernel
theorem xt_97 : xT 97 = (some .boolean) := rfl
theorem xm_97 : xM 97 = 1 := by decide +kernel
theorem xa_98 : xA 98 = 3 := by decide +kernel
theorem xt_98 : xT 98 = (some .int) := rfl
theorem xm_98 : xM 98 = 4 := by decide +kernel
theorem xa_99 : xA 99 = 2 := by decide +kernel
theorem xt_99 : xT 99 = (some .boolean) := rfl
theorem xm_99 : xM 99 = 4 := by decide +kernel
theorem xa_100 : xA 100 = 2 := by decide +kernel
theorem xt_100 : xT 100 = (some .int) := rfl
theorem xm_100 : xM 100 = 5 := by decide +kernel
theorem xa_101 : xA 101 = 4 := by decide +kernel
theorem xt_101 : xT 101 = (some .long) := rfl
theorem xm_101 : xM 101 = 6 := by decide +kernel
theorem xa_102 : xA 102 = 3 := by decide +kernel
theorem xt_102 : xT 102 = (some .long) := rfl
theorem xm_102 : xM 102 = 4 := by decide +kernel
theorem xa_103 : xA 103 = 2 := by decide +kernel
theorem xt_103 : xT 103 = none := rfl
theorem xm_103 : xM 103 = 5 := by decide +kernel
theorem xa_104 : xA 104 = 1 := by decide +kernel
theorem xt_104 : xT 104 = none := rfl
theorem xm_104 : xM 104 = 4 := by decide +kernel
theorem xa_105 : xA 105 = 2 := by decide +kernel
theorem xt_105 : xT 105 = (some .boolean) := rfl
theorem xm_105 : xM 105 = 3 := by decide +kernel
theorem xa_106 : xA 106 = 2 := by decide +kernel
theorem xt_106 : xT 106 = (some .boolean) := rfl
theorem xm_106 : xM 106 = 3 := by decide +kernel
theorem xa_107 : xA 107 = 1 := by decide +kernel
theorem xt_107 : xT 107 = (some .int) := rfl
theorem xm_107 : xM 107 = 6 := by decide +kernel
theorem xa_108 : xA 108 = 1 := by decide +kernel
theorem xt_108 : xT 108 = (some .boolean) := rfl
theorem xm_108 : xM 108 = 9 := by decide +kernel
theorem xa_109 : xA 109 = 1 := by decide +kernel
theorem xt_109 : xT 109 = (some .int) := rfl
theorem xm_109 : xM 109 = 5 := by decide +kernel
theorem xa_110 : xA 110 = 3 := by decide +kernel
theorem xt_110 : xT 110 = (some .int) := rfl
theorem xm_110 : xM 110 = 5 := by decide +kernel
theorem xa_111 : xA 111 = 1 := by decide +kernel
theorem xt_111 : xT 111 = (some .int) := rfl
theorem xm_111 : xM 111 = 4 := by decide +kernel
theorem xa_112 : xA 112 = 3 := by decide +kernel
theorem xt_112 : xT 112 = (some .int) := rfl
theorem xm_112 : xM 112 = 7 := by decide +kernel
theorem xa_113 : xA 113 = 2 := by decide +kernel
theorem xt_113 : xT 113 = none := rfl
theorem xm_113 : xM 113 = 3 := by decide +kernel
theorem xa_114 : xA 114 = 2 := by decide +kernel
theorem xt_114 : xT 114 = (some .int) := rfl
theorem xm_114 : xM 114 = 3 := by decide +kernel
theorem xa_115 : xA 115 = 2 := by decide +kernel
theorem xt_115 : xT 115 = (some .int) := rfl
theorem xm_115 : xM 115 = 3 := by decide +kernel
theorem xa_116 : xA 116 = 2 := by decide +kernel
theorem xt_116 : xT 116 = (some .int) := rfl
theorem xm_116 : xM 116 = 5 := by decide +kernel
theorem xa_117 : xA 117 = 2 := by decide +kernel
theorem xt_117 : xT 117 = (some .int) := rfl
theorem xm_117 : xM 117 = 3 := by decide +kernel
theorem xa_118 : xA 118 = 3 := by decide +kernel
theorem xt_118 : xT 118 = (some .int) := rfl
theorem xm_118 : xM 118 = 4 := by decide +kernel
theorem xa_119 : xA 119 = 2 := by decide +kernel
theorem xt_119 : xT 119 = (some .int) := rfl
theorem xm_119 : xM 119 = 5 := by decide +kernel
theorem xa_120 : xA 120 = 0 := by decide +kernel
theorem xt_120 : xT 120 = (some .int) := rfl
theorem xm_120 : xM 120 = 1 := by decide +kernel
theorem xa_121 : xA 121 = 2 := by decide +kernel
theorem xt_121 : xT 121 = (some (.array .int)) := rfl
theorem xm_121 : xM 121 = 3 := by decide +kernel
theorem xa_122 : xA 122 = 2 := by decide +kernel
theorem xt_122 : xT 122 = none := rfl
theorem xm_122 : xM 122 = 4 := by decide +kernel
