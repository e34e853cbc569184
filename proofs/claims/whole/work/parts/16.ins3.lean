/-! ===== which instruction stands where (wip/gen/lay16.py) ===== -/
theorem i84_218 : xI 84 218 = some (.aload_n 0) := by decide +kernel
theorem i84_219 : xI 84 219 = some (.lconst 0) := by decide +kernel
theorem i84_220 : xI 84 220 = some (.putfield 119) := by decide +kernel
theorem i84_223 : xI 84 223 = some (.aload_n 0) := by decide +kernel
theorem i84_224 : xI 84 224 = some (.getfield 81) := by decide +kernel
theorem i84_227 : xI 84 227 = some (.aload_n 0) := by decide +kernel
theorem i84_228 : xI 84 228 = some (.getfield 84) := by decide +kernel
theorem i84_231 : xI 84 231 = some (.if_icmp .ge 64) := by decide +kernel
theorem i84_234 : xI 84 234 = some (.aload_n 0) := by decide +kernel
theorem i84_235 : xI 84 235 = some (.getfield 9) := by decide +kernel
theorem i84_238 : xI 84 238 = some (.aload_n 0) := by decide +kernel
theorem i84_239 : xI 84 239 = some (.getfield 81) := by decide +kernel
theorem i84_242 : xI 84 242 = some (.baload) := by decide +kernel
theorem i84_243 : xI 84 243 = some (.invokestatic 116) := by decide +kernel
theorem i84_246 : xI 84 246 = some (.ifCond .eq 49) := by decide +kernel
theorem i84_249 : xI 84 249 = some (.aload_n 0) := by decide +kernel
theorem i84_250 : xI 84 250 = some (.ldc2_w 123) := by decide +kernel
theorem i84_253 : xI 84 253 = some (.ldc2_w 125) := by decide +kernel
theorem i84_256 : xI 84 256 = some (.aload_n 0) := by decide +kernel
theorem i84_257 : xI 84 257 = some (.getfield 119) := by decide +kernel
theorem i84_260 : xI 84 260 = some (.lmul) := by decide +kernel
theorem i84_261 : xI 84 261 = some (.aload_n 0) := by decide +kernel
theorem i84_262 : xI 84 262 = some (.getfield 9) := by decide +kernel
theorem i84_265 : xI 84 265 = some (.aload_n 0) := by decide +kernel
theorem i84_266 : xI 84 266 = some (.getfield 81) := by decide +kernel
theorem i84_269 : xI 84 269 = some (.baload) := by decide +kernel
theorem i84_270 : xI 84 270 = some (.i2l) := by decide +kernel
theorem i84_271 : xI 84 271 = some (.ladd) := by decide +kernel
theorem i84_272 : xI 84 272 = some (.ldc2_w 127) := by decide +kernel
theorem i84_275 : xI 84 275 = some (.lsub) := by decide +kernel
theorem i84_276 : xI 84 276 = some (.invokestatic 129) := by decide +kernel
theorem i84_279 : xI 84 279 = some (.putfield 119) := by decide +kernel
theorem i84_282 : xI 84 282 = some (.aload_n 0) := by decide +kernel
theorem i84_283 : xI 84 283 = some (.dup) := by decide +kernel
theorem i84_284 : xI 84 284 = some (.getfield 81) := by decide +kernel
theorem i84_287 : xI 84 287 = some (.iconst 1) := by decide +kernel
theorem i84_288 : xI 84 288 = some (.iadd) := by decide +kernel
theorem i84_289 : xI 84 289 = some (.putfield 81) := by decide +kernel
theorem i84_292 : xI 84 292 = some (.goto (-69)) := by decide +kernel
theorem i84_295 : xI 84 295 = some (.aload_n 0) := by decide +kernel
theorem i84_296 : xI 84 296 = some (.aload_n 0) := by decide +kernel
theorem i84_297 : xI 84 297 = some (.getfield 119) := by decide +kernel
theorem i84_300 : xI 84 300 = some (.ldc2_w 137) := by decide +kernel
theorem i84_303 : xI 84 303 = some (.lcmp) := by decide +kernel
theorem i84_304 : xI 84 304 = some (.ifCond .gt 7) := by decide +kernel
theorem i84_307 : xI 84 307 = some (.iconst 2) := by decide +kernel
theorem i84_308 : xI 84 308 = some (.goto 4) := by decide +kernel
theorem i84_311 : xI 84 311 = some (.iconst 4) := by decide +kernel
theorem i84_312 : xI 84 312 = some (.putfield 90) := by decide +kernel
theorem i84_315 : xI 84 315 = some (.goto 145) := by decide +kernel
theorem i84_318 : xI 84 318 = some (.aload_n 0) := by decide +kernel
theorem i84_319 : xI 84 319 = some (.getfield 9) := by decide +kernel
theorem i84_322 : xI 84 322 = some (.aload_n 0) := by decide +kernel
theorem i84_323 : xI 84 323 = some (.getfield 81) := by decide +kernel
theorem i84_326 : xI 84 326 = some (.baload) := by decide +kernel
theorem i84_327 : xI 84 327 = some (.istore_n 1) := by decide +kernel
theorem i84_328 : xI 84 328 = some (.iload_n 1) := by decide +kernel
theorem i84_329 : xI 84 329 = some (.bipush 58) := by decide +kernel
theorem i84_331 : xI 84 331 = some (.if_icmp .ne 36) := by decide +kernel
theorem i84_334 : xI 84 334 = some (.aload_n 0) := by decide +kernel
theorem i84_335 : xI 84 335 = some (.getfield 81) := by decide +kernel
theorem i84_338 : xI 84 338 = some (.iconst 1) := by decide +kernel
theorem i84_339 : xI 84 339 = some (.iadd) := by decide +kernel
theorem i84_340 : xI 84 340 = some (.aload_n 0) := by decide +kernel
theorem i84_341 : xI 84 341 = some (.getfield 84) := by decide +kernel
theorem i84_344 : xI 84 344 = some (.if_icmp .ge 23) := by decide +kernel
theorem i84_347 : xI 84 347 = some (.aload_n 0) := by decide +kernel
theorem i84_348 : xI 84 348 = some (.getfield 9) := by decide +kernel
theorem i84_351 : xI 84 351 = some (.aload_n 0) := by decide +kernel
theorem i84_352 : xI 84 352 = some (.getfield 81) := by decide +kernel
theorem i84_355 : xI 84 355 = some (.iconst 1) := by decide +kernel
theorem i84_356 : xI 84 356 = some (.iadd) := by decide +kernel
theorem i84_357 : xI 84 357 = some (.baload) := by decide +kernel
theorem i84_358 : xI 84 358 = some (.bipush 61) := by decide +kernel
theorem i84_360 : xI 84 360 = some (.if_icmp .ne 7) := by decide +kernel
theorem i84_363 : xI 84 363 = some (.iconst 1) := by decide +kernel
theorem i84_364 : xI 84 364 = some (.goto 4) := by decide +kernel
theorem i84_367 : xI 84 367 = some (.iconst 0) := by decide +kernel
theorem i84_368 : xI 84 368 = some (.istore_n 2) := by decide +kernel
theorem i84_369 : xI 84 369 = some (.aload_n 0) := by decide +kernel
theorem i84_370 : xI 84 370 = some (.iload_n 2) := by decide +kernel
theorem i84_371 : xI 84 371 = some (.ifCond .ne 63) := by decide +kernel
theorem i84_374 : xI 84 374 = some (.iload_n 1) := by decide +kernel
theorem i84_375 : xI 84 375 = some (.bipush 61) := by decide +kernel
theorem i84_377 : xI 84 377 = some (.if_icmp .eq 57) := by decide +kernel
theorem i84_380 : xI 84 380 = some (.iload_n 1) := by decide +kernel
theorem i84_381 : xI 84 381 = some (.bipush 35) := by decide +kernel
theorem i84_383 : xI 84 383 = some (.if_icmp .eq 51) := by decide +kernel
theorem i84_386 : xI 84 386 = some (.iload_n 1) := by decide +kernel
theorem i84_387 : xI 84 387 = some (.bipush 60) := by decide +kernel
theorem i84_389 : xI 84 389 = some (.if_icmp .eq 45) := by decide +kernel
theorem i84_392 : xI 84 392 = some (.iload_n 1) := by decide +kernel
theorem i84_393 : xI 84 393 = some (.bipush 62) := by decide +kernel
theorem i84_395 : xI 84 395 = some (.if_icmp .eq 39) := by decide +kernel
theorem i84_398 : xI 84 398 = some (.iload_n 1) := by decide +kernel
theorem i84_399 : xI 84 399 = some (.bipush 43) := by decide +kernel
theorem i84_401 : xI 84 401 = some (.if_icmp .eq 33) := by decide +kernel
theorem i84_404 : xI 84 404 = some (.iload_n 1) := by decide +kernel
theorem i84_405 : xI 84 405 = some (.bipush 45) := by decide +kernel
theorem i84_407 : xI 84 407 = some (.if_icmp .eq 27) := by decide +kernel
theorem i84_410 : xI 84 410 = some (.iload_n 1) := by decide +kernel
theorem i84_411 : xI 84 411 = some (.bipush 42) := by decide +kernel
theorem i84_413 : xI 84 413 = some (.if_icmp .eq 21) := by decide +kernel
theorem i84_416 : xI 84 416 = some (.iload_n 1) := by decide +kernel
theorem i84_417 : xI 84 417 = some (.bipush 44) := by decide +kernel
theorem i84_419 : xI 84 419 = some (.if_icmp .eq 15) := by decide +kernel
theorem i84_422 : xI 84 422 = some (.iload_n 1) := by decide +kernel
theorem i84_423 : xI 84 423 = some (.bipush 40) := by decide +kernel
theorem i84_425 : xI 84 425 = some (.if_icmp .eq 9) := by decide +kernel
theorem i84_428 : xI 84 428 = some (.iload_n 1) := by decide +kernel
theorem i84_429 : xI 84 429 = some (.bipush 41) := by decide +kernel
theorem i84_431 : xI 84 431 = some (.if_icmp .ne 7) := by decide +kernel
theorem i84_434 : xI 84 434 = some (.iconst 3) := by decide +kernel
theorem i84_435 : xI 84 435 = some (.goto 4) := by decide +kernel
theorem i84_438 : xI 84 438 = some (.iconst 4) := by decide +kernel
theorem i84_439 : xI 84 439 = some (.putfield 90) := by decide +kernel
theorem i84_442 : xI 84 442 = some (.aload_n 0) := by decide +kernel
theorem i84_443 : xI 84 443 = some (.dup) := by decide +kernel
theorem i84_444 : xI 84 444 = some (.getfield 81) := by decide +kernel
theorem i84_447 : xI 84 447 = some (.iload_n 2) := by decide +kernel
theorem i84_448 : xI 84 448 = some (.ifCond .eq 7) := by decide +kernel
theorem i84_451 : xI 84 451 = some (.iconst 2) := by decide +kernel
theorem i84_452 : xI 84 452 = some (.goto 4) := by decide +kernel
theorem i84_455 : xI 84 455 = some (.iconst 1) := by decide +kernel
theorem i84_456 : xI 84 456 = some (.iadd) := by decide +kernel
theorem i84_457 : xI 84 457 = some (.putfield 81) := by decide +kernel
theorem i84_460 : xI 84 460 = some (.aload_n 0) := by decide +kernel
theorem i84_461 : xI 84 461 = some (.aload_n 0) := by decide +kernel
theorem i84_462 : xI 84 462 = some (.getfield 81) := by decide +kernel
theorem i84_465 : xI 84 465 = some (.putfield 97) := by decide +kernel
theorem i84_468 : xI 84 468 = some (.return_) := by decide +kernel
-- 85 M_isLetter
theorem i85_0 : xI 85 0 = some (.iload_n 0) := by decide +kernel
theorem i85_1 : xI 85 1 = some (.bipush 97) := by decide +kernel
theorem i85_3 : xI 85 3 = some (.if_icmp .lt 13) := by decide +kernel
theorem i85_6 : xI 85 6 = some (.iload_n 0) := by decide +kernel
theorem i85_7 : xI 85 7 = some (.bipush 122) := by decide +kernel
theorem i85_9 : xI 85 9 = some (.if_icmp .gt 7) := by decide +kernel
theorem i85_12 : xI 85 12 = some (.iconst 1) := by decide +kernel
theorem i85_13 : xI 85 13 = some (.goto 4) := by decide +kernel
theorem i85_16 : xI 85 16 = some (.iconst 0) := by decide +kernel
theorem i85_17 : xI 85 17 = some (.ireturn) := by decide +kernel
-- 86 M_is
theorem i86_0 : xI 86 0 = some (.aload_n 0) := by decide +kernel
theorem i86_1 : xI 86 1 = some (.getfield 90) := by decide +kernel
theorem i86_4 : xI 86 4 = some (.iconst 1) := by decide +kernel
theorem i86_5 : xI 86 5 = some (.if_icmp .eq 11) := by decide +kernel
theorem i86_8 : xI 86 8 = some (.aload_n 0) := by decide +kernel
theorem i86_9 : xI 86 9 = some (.getfield 90) := by decide +kernel
theorem i86_12 : xI 86 12 = some (.iconst 3) := by decide +kernel
theorem i86_13 : xI 86 13 = some (.if_icmp .ne 19) := by decide +kernel
theorem i86_16 : xI 86 16 = some (.aload_n 0) := by decide +kernel
theorem i86_17 : xI 86 17 = some (.getfield 97) := by decide +kernel
theorem i86_20 : xI 86 20 = some (.aload_n 0) := by decide +kernel
theorem i86_21 : xI 86 21 = some (.getfield 87) := by decide +kernel
theorem i86_24 : xI 86 24 = some (.isub) := by decide +kernel
theorem i86_25 : xI 86 25 = some (.aload_n 1) := by decide +kernel
theorem i86_26 : xI 86 26 = some (.invokevirtual 139) := by decide +kernel
theorem i86_29 : xI 86 29 = some (.if_icmp .eq 5) := by decide +kernel
theorem i86_32 : xI 86 32 = some (.iconst 0) := by decide +kernel
theorem i86_33 : xI 86 33 = some (.ireturn) := by decide +kernel
theorem i86_34 : xI 86 34 = some (.iconst 0) := by decide +kernel
theorem i86_35 : xI 86 35 = some (.istore_n 2) := by decide +kernel
theorem i86_36 : xI 86 36 = some (.iload_n 2) := by decide +kernel
theorem i86_37 : xI 86 37 = some (.aload_n 1) := by decide +kernel
theorem i86_38 : xI 86 38 = some (.invokevirtual 139) := by decide +kernel
theorem i86_41 : xI 86 41 = some (.if_icmp .ge 30) := by decide +kernel
theorem i86_44 : xI 86 44 = some (.aload_n 0) := by decide +kernel
theorem i86_45 : xI 86 45 = some (.getfield 9) := by decide +kernel
theorem i86_48 : xI 86 48 = some (.aload_n 0) := by decide +kernel
theorem i86_49 : xI 86 49 = some (.getfield 87) := by decide +kernel
theorem i86_52 : xI 86 52 = some (.iload_n 2) := by decide +kernel
theorem i86_53 : xI 86 53 = some (.iadd) := by decide +kernel
theorem i86_54 : xI 86 54 = some (.baload) := by decide +kernel
theorem i86_55 : xI 86 55 = some (.aload_n 1) := by decide +kernel
theorem i86_56 : xI 86 56 = some (.iload_n 2) := by decide +kernel
theorem i86_57 : xI 86 57 = some (.invokevirtual 145) := by decide +kernel
theorem i86_60 : xI 86 60 = some (.if_icmp .eq 5) := by decide +kernel
theorem i86_63 : xI 86 63 = some (.iconst 0) := by decide +kernel
theorem i86_64 : xI 86 64 = some (.ireturn) := by decide +kernel
theorem i86_65 : xI 86 65 = some (.iinc 2 1) := by decide +kernel
theorem i86_68 : xI 86 68 = some (.goto (-32)) := by decide +kernel
theorem i86_71 : xI 86 71 = some (.iconst 1) := by decide +kernel
theorem i86_72 : xI 86 72 = some (.ireturn) := by decide +kernel
-- 87 M_isDigit
theorem i87_0 : xI 87 0 = some (.iload_n 0) := by decide +kernel
theorem i87_1 : xI 87 1 = some (.bipush 48) := by decide +kernel
theorem i87_3 : xI 87 3 = some (.if_icmp .lt 13) := by decide +kernel
theorem i87_6 : xI 87 6 = some (.iload_n 0) := by decide +kernel
theorem i87_7 : xI 87 7 = some (.bipush 57) := by decide +kernel
theorem i87_9 : xI 87 9 = some (.if_icmp .gt 7) := by decide +kernel
theorem i87_12 : xI 87 12 = some (.iconst 1) := by decide +kernel
theorem i87_13 : xI 87 13 = some (.goto 4) := by decide +kernel
theorem i87_16 : xI 87 16 = some (.iconst 0) := by decide +kernel
theorem i87_17 : xI 87 17 = some (.ireturn) := by decide +kernel
-- 88 M_rule
theorem i88_0 : xI 88 0 = some (.aload_n 0) := by decide +kernel
theorem i88_1 : xI 88 1 = some (.getfield 55) := by decide +kernel
theorem i88_4 : xI 88 4 = some (.iconst 0) := by decide +kernel
theorem i88_5 : xI 88 5 = some (.iaload) := by decide +kernel
theorem i88_6 : xI 88 6 = some (.bipush 6) := by decide +kernel
theorem i88_8 : xI 88 8 = some (.if_icmp .ne 8) := by decide +kernel
theorem i88_11 : xI 88 11 = some (.aload_n 0) := by decide +kernel
theorem i88_12 : xI 88 12 = some (.invokevirtual 152) := by decide +kernel
theorem i88_15 : xI 88 15 = some (.ireturn) := by decide +kernel
theorem i88_16 : xI 88 16 = some (.aload_n 0) := by decide +kernel
theorem i88_17 : xI 88 17 = some (.getfield 55) := by decide +kernel
theorem i88_20 : xI 88 20 = some (.iconst 0) := by decide +kernel
theorem i88_21 : xI 88 21 = some (.dup2) := by decide +kernel
theorem i88_22 : xI 88 22 = some (.iaload) := by decide +kernel
theorem i88_23 : xI 88 23 = some (.iconst 1) := by decide +kernel
theorem i88_24 : xI 88 24 = some (.iadd) := by decide +kernel
theorem i88_25 : xI 88 25 = some (.iastore) := by decide +kernel
theorem i88_26 : xI 88 26 = some (.aload_n 0) := by decide +kernel
theorem i88_27 : xI 88 27 = some (.getfield 55) := by decide +kernel
theorem i88_30 : xI 88 30 = some (.aload_n 0) := by decide +kernel
theorem i88_31 : xI 88 31 = some (.getfield 55) := by decide +kernel
theorem i88_34 : xI 88 34 = some (.iconst 0) := by decide +kernel
theorem i88_35 : xI 88 35 = some (.iaload) := by decide +kernel
theorem i88_36 : xI 88 36 = some (.aload_n 0) := by decide +kernel
theorem i88_37 : xI 88 37 = some (.getfield 159) := by decide +kernel
theorem i88_40 : xI 88 40 = some (.iastore) := by decide +kernel
theorem i88_41 : xI 88 41 = some (.aload_n 0) := by decide +kernel
theorem i88_42 : xI 88 42 = some (.getfield 159) := by decide +kernel
theorem i88_45 : xI 88 45 = some (.istore_n 1) := by decide +kernel
theorem i88_46 : xI 88 46 = some (.aload_n 0) := by decide +kernel
theorem i88_47 : xI 88 47 = some (.iconst (-1)) := by decide +kernel
theorem i88_48 : xI 88 48 = some (.invokevirtual 177) := by decide +kernel
theorem i88_51 : xI 88 51 = some (.aload_n 0) := by decide +kernel
theorem i88_52 : xI 88 52 = some (.ldc 100) := by decide +kernel
theorem i88_54 : xI 88 54 = some (.invokevirtual 102) := by decide +kernel
theorem i88_57 : xI 88 57 = some (.ifCond .eq 53) := by decide +kernel
theorem i88_60 : xI 88 60 = some (.aload_n 0) := by decide +kernel
theorem i88_61 : xI 88 61 = some (.getfield 55) := by decide +kernel
theorem i88_64 : xI 88 64 = some (.iload_n 1) := by decide +kernel
theorem i88_65 : xI 88 65 = some (.iconst 0) := by decide +kernel
theorem i88_66 : xI 88 66 = some (.iastore) := by decide +kernel
theorem i88_67 : xI 88 67 = some (.aload_n 0) := by decide +kernel
theorem i88_68 : xI 88 68 = some (.invokevirtual 156) := by decide +kernel
theorem i88_71 : xI 88 71 = some (.aload_n 0) := by decide +kernel
theorem i88_72 : xI 88 72 = some (.getfield 55) := by decide +kernel
theorem i88_75 : xI 88 75 = some (.iload_n 1) := by decide +kernel
theorem i88_76 : xI 88 76 = some (.dup2) := by decide +kernel
theorem i88_77 : xI 88 77 = some (.iaload) := by decide +kernel
theorem i88_78 : xI 88 78 = some (.iconst 1) := by decide +kernel
theorem i88_79 : xI 88 79 = some (.iadd) := by decide +kernel
theorem i88_80 : xI 88 80 = some (.iastore) := by decide +kernel
theorem i88_81 : xI 88 81 = some (.aload_n 0) := by decide +kernel
theorem i88_82 : xI 88 82 = some (.invokevirtual 181) := by decide +kernel
theorem i88_85 : xI 88 85 = some (.ifCond .ne 5) := by decide +kernel
theorem i88_88 : xI 88 88 = some (.iconst 0) := by decide +kernel
theorem i88_89 : xI 88 89 = some (.ireturn) := by decide +kernel
theorem i88_90 : xI 88 90 = some (.aload_n 0) := by decide +kernel
theorem i88_91 : xI 88 91 = some (.ldc 110) := by decide +kernel
theorem i88_93 : xI 88 93 = some (.invokevirtual 102) := by decide +kernel
theorem i88_96 : xI 88 96 = some (.ifCond .ne (-29)) := by decide +kernel
theorem i88_99 : xI 88 99 = some (.aload_n 0) := by decide +kernel
theorem i88_100 : xI 88 100 = some (.ldc 106) := by decide +kernel
theorem i88_102 : xI 88 102 = some (.invokevirtual 184) := by decide +kernel
theorem i88_105 : xI 88 105 = some (.ifCond .ne 5) := by decide +kernel
theorem i88_108 : xI 88 108 = some (.iconst 0) := by decide +kernel
theorem i88_109 : xI 88 109 = some (.ireturn) := by decide +kernel
theorem i88_110 : xI 88 110 = some (.aload_n 0) := by decide +kernel
theorem i88_111 : xI 88 111 = some (.getfield 159) := by decide +kernel
theorem i88_114 : xI 88 114 = some (.istore_n 2) := by decide +kernel
theorem i88_115 : xI 88 115 = some (.aload_n 0) := by decide +kernel
theorem i88_116 : xI 88 116 = some (.iconst 0) := by decide +kernel
theorem i88_117 : xI 88 117 = some (.invokevirtual 177) := by decide +kernel
theorem i88_120 : xI 88 120 = some (.iconst 1) := by decide +kernel
theorem i88_121 : xI 88 121 = some (.istore_n 3) := by decide +kernel
theorem i88_122 : xI 88 122 = some (.iload_n 3) := by decide +kernel
theorem i88_123 : xI 88 123 = some (.ifCond .eq 72) := by decide +kernel
theorem i88_126 : xI 88 126 = some (.aload_n 0) := by decide +kernel
theorem i88_127 : xI 88 127 = some (.getfield 55) := by decide +kernel
theorem i88_130 : xI 88 130 = some (.iload_n 2) := by decide +kernel
theorem i88_131 : xI 88 131 = some (.iaload) := by decide +kernel
theorem i88_132 : xI 88 132 = some (.bipush 8) := by decide +kernel
theorem i88_134 : xI 88 134 = some (.if_icmp .ne 8) := by decide +kernel
theorem i88_137 : xI 88 137 = some (.aload_n 0) := by decide +kernel
theorem i88_138 : xI 88 138 = some (.invokevirtual 152) := by decide +kernel
theorem i88_141 : xI 88 141 = some (.ireturn) := by decide +kernel
theorem i88_142 : xI 88 142 = some (.aload_n 0) := by decide +kernel
theorem i88_143 : xI 88 143 = some (.getfield 55) := by decide +kernel
theorem i88_146 : xI 88 146 = some (.iload_n 2) := by decide +kernel
theorem i88_147 : xI 88 147 = some (.dup2) := by decide +kernel
theorem i88_148 : xI 88 148 = some (.iaload) := by decide +kernel
theorem i88_149 : xI 88 149 = some (.iconst 1) := by decide +kernel
theorem i88_150 : xI 88 150 = some (.iadd) := by decide +kernel
theorem i88_151 : xI 88 151 = some (.iastore) := by decide +kernel
theorem i88_152 : xI 88 152 = some (.aload_n 0) := by decide +kernel
theorem i88_153 : xI 88 153 = some (.invokevirtual 187) := by decide +kernel
theorem i88_156 : xI 88 156 = some (.ifCond .eq 19) := by decide +kernel
theorem i88_159 : xI 88 159 = some (.aload_n 0) := by decide +kernel
theorem i88_160 : xI 88 160 = some (.ldc 190) := by decide +kernel
theorem i88_162 : xI 88 162 = some (.invokevirtual 184) := by decide +kernel
theorem i88_165 : xI 88 165 = some (.ifCond .eq 10) := by decide +kernel
theorem i88_168 : xI 88 168 = some (.aload_n 0) := by decide +kernel
theorem i88_169 : xI 88 169 = some (.invokevirtual 192) := by decide +kernel
theorem i88_172 : xI 88 172 = some (.ifCond .ne 5) := by decide +kernel
theorem i88_175 : xI 88 175 = some (.iconst 0) := by decide +kernel
theorem i88_176 : xI 88 176 = some (.ireturn) := by decide +kernel
theorem i88_177 : xI 88 177 = some (.aload_n 0) := by decide +kernel
theorem i88_178 : xI 88 178 = some (.ldc 195) := by decide +kernel
theorem i88_180 : xI 88 180 = some (.invokevirtual 102) := by decide +kernel
theorem i88_183 : xI 88 183 = some (.istore_n 3) := by decide +kernel
theorem i88_184 : xI 88 184 = some (.iload_n 3) := by decide +kernel
theorem i88_185 : xI 88 185 = some (.ifCond .eq (-63)) := by decide +kernel
theorem i88_188 : xI 88 188 = some (.aload_n 0) := by decide +kernel
theorem i88_189 : xI 88 189 = some (.invokevirtual 156) := by decide +kernel
theorem i88_192 : xI 88 192 = some (.goto (-70)) := by decide +kernel
theorem i88_195 : xI 88 195 = some (.iconst 1) := by decide +kernel
theorem i88_196 : xI 88 196 = some (.ireturn) := by decide +kernel
-- 89 M_bad
theorem i89_0 : xI 89 0 = some (.aload_n 0) := by decide +kernel
theorem i89_1 : xI 89 1 = some (.getfield 149) := by decide +kernel
theorem i89_4 : xI 89 4 = some (.ifCond .ge 11) := by decide +kernel
theorem i89_7 : xI 89 7 = some (.aload_n 0) := by decide +kernel
theorem i89_8 : xI 89 8 = some (.aload_n 0) := by decide +kernel
theorem i89_9 : xI 89 9 = some (.getfield 87) := by decide +kernel
theorem i89_12 : xI 89 12 = some (.putfield 149) := by decide +kernel
theorem i89_15 : xI 89 15 = some (.iconst 0) := by decide +kernel
theorem i89_16 : xI 89 16 = some (.ireturn) := by decide +kernel
-- 90 M_put
theorem i90_0 : xI 90 0 = some (.aload_n 0) := by decide +kernel
theorem i90_1 : xI 90 1 = some (.getfield 55) := by decide +kernel
theorem i90_4 : xI 90 4 = some (.aload_n 0) := by decide +kernel
theorem i90_5 : xI 90 5 = some (.getfield 159) := by decide +kernel
theorem i90_8 : xI 90 8 = some (.iload_n 1) := by decide +kernel
theorem i90_9 : xI 90 9 = some (.iastore) := by decide +kernel
theorem i90_10 : xI 90 10 = some (.aload_n 0) := by decide +kernel
theorem i90_11 : xI 90 11 = some (.dup) := by decide +kernel
theorem i90_12 : xI 90 12 = some (.getfield 159) := by decide +kernel
theorem i90_15 : xI 90 15 = some (.iconst 1) := by decide +kernel
theorem i90_16 : xI 90 16 = some (.iadd) := by decide +kernel
theorem i90_17 : xI 90 17 = some (.putfield 159) := by decide +kernel
theorem i90_20 : xI 90 20 = some (.return_) := by decide +kernel
-- 91 M_compare
theorem i91_0 : xI 91 0 = some (.aload_n 0) := by decide +kernel
theorem i91_1 : xI 91 1 = some (.getfield 159) := by decide +kernel
theorem i91_4 : xI 91 4 = some (.istore_n 1) := by decide +kernel
theorem i91_5 : xI 91 5 = some (.aload_n 0) := by decide +kernel
theorem i91_6 : xI 91 6 = some (.iconst 0) := by decide +kernel
theorem i91_7 : xI 91 7 = some (.invokevirtual 177) := by decide +kernel
theorem i91_10 : xI 91 10 = some (.aload_n 0) := by decide +kernel
theorem i91_11 : xI 91 11 = some (.invokevirtual 192) := by decide +kernel
theorem i91_14 : xI 91 14 = some (.ifCond .ne 5) := by decide +kernel
theorem i91_17 : xI 91 17 = some (.iconst 0) := by decide +kernel
theorem i91_18 : xI 91 18 = some (.ireturn) := by decide +kernel
theorem i91_19 : xI 91 19 = some (.aload_n 0) := by decide +kernel
theorem i91_20 : xI 91 20 = some (.ldc 199) := by decide +kernel
theorem i91_22 : xI 91 22 = some (.invokevirtual 102) := by decide +kernel
theorem i91_25 : xI 91 25 = some (.ifCond .ne 35) := by decide +kernel
theorem i91_28 : xI 91 28 = some (.aload_n 0) := by decide +kernel
theorem i91_29 : xI 91 29 = some (.ldc 201) := by decide +kernel
theorem i91_31 : xI 91 31 = some (.invokevirtual 102) := by decide +kernel
theorem i91_34 : xI 91 34 = some (.ifCond .ne 26) := by decide +kernel
theorem i91_37 : xI 91 37 = some (.aload_n 0) := by decide +kernel
theorem i91_38 : xI 91 38 = some (.ldc 203) := by decide +kernel
theorem i91_40 : xI 91 40 = some (.invokevirtual 102) := by decide +kernel
theorem i91_43 : xI 91 43 = some (.ifCond .ne 17) := by decide +kernel
theorem i91_46 : xI 91 46 = some (.aload_n 0) := by decide +kernel
theorem i91_47 : xI 91 47 = some (.ldc 205) := by decide +kernel
theorem i91_49 : xI 91 49 = some (.invokevirtual 102) := by decide +kernel
theorem i91_52 : xI 91 52 = some (.ifCond .ne 8) := by decide +kernel
theorem i91_55 : xI 91 55 = some (.aload_n 0) := by decide +kernel
theorem i91_56 : xI 91 56 = some (.invokevirtual 152) := by decide +kernel
theorem i91_59 : xI 91 59 = some (.ireturn) := by decide +kernel
theorem i91_60 : xI 91 60 = some (.aload_n 0) := by decide +kernel
theorem i91_61 : xI 91 61 = some (.getfield 55) := by decide +kernel
theorem i91_64 : xI 91 64 = some (.iload_n 1) := by decide +kernel
theorem i91_65 : xI 91 65 = some (.aload_n 0) := by decide +kernel
theorem i91_66 : xI 91 66 = some (.getfield 9) := by decide +kernel
theorem i91_69 : xI 91 69 = some (.aload_n 0) := by decide +kernel
theorem i91_70 : xI 91 70 = some (.getfield 87) := by decide +kernel
theorem i91_73 : xI 91 73 = some (.baload) := by decide +kernel
theorem i91_74 : xI 91 74 = some (.iastore) := by decide +kernel
theorem i91_75 : xI 91 75 = some (.aload_n 0) := by decide +kernel
theorem i91_76 : xI 91 76 = some (.invokevirtual 156) := by decide +kernel
theorem i91_79 : xI 91 79 = some (.aload_n 0) := by decide +kernel
theorem i91_80 : xI 91 80 = some (.invokevirtual 192) := by decide +kernel
theorem i91_83 : xI 91 83 = some (.ireturn) := by decide +kernel
-- 92 M_whole
theorem i92_0 : xI 92 0 = some (.aload_n 0) := by decide +kernel
theorem i92_1 : xI 92 1 = some (.iconst 0) := by decide +kernel
theorem i92_2 : xI 92 2 = some (.invokevirtual 207) := by decide +kernel
theorem i92_5 : xI 92 5 = some (.ifCond .ne 5) := by decide +kernel
theorem i92_8 : xI 92 8 = some (.iconst 0) := by decide +kernel
theorem i92_9 : xI 92 9 = some (.ireturn) := by decide +kernel
theorem i92_10 : xI 92 10 = some (.aload_n 0) := by decide +kernel
theorem i92_11 : xI 92 11 = some (.bipush 7) := by decide +kernel
theorem i92_13 : xI 92 13 = some (.invokevirtual 177) := by decide +kernel
theorem i92_16 : xI 92 16 = some (.iconst 1) := by decide +kernel
theorem i92_17 : xI 92 17 = some (.ireturn) := by decide +kernel
-- 93 M_sum
theorem i93_0 : xI 93 0 = some (.aload_n 0) := by decide +kernel
theorem i93_1 : xI 93 1 = some (.iload_n 1) := by decide +kernel
theorem i93_2 : xI 93 2 = some (.invokevirtual 210) := by decide +kernel
theorem i93_5 : xI 93 5 = some (.ifCond .ne 5) := by decide +kernel
theorem i93_8 : xI 93 8 = some (.iconst 0) := by decide +kernel
theorem i93_9 : xI 93 9 = some (.ireturn) := by decide +kernel
theorem i93_10 : xI 93 10 = some (.aload_n 0) := by decide +kernel
theorem i93_11 : xI 93 11 = some (.ldc 213) := by decide +kernel
theorem i93_13 : xI 93 13 = some (.invokevirtual 102) := by decide +kernel
theorem i93_16 : xI 93 16 = some (.ifCond .ne 12) := by decide +kernel
theorem i93_19 : xI 93 19 = some (.aload_n 0) := by decide +kernel
theorem i93_20 : xI 93 20 = some (.ldc 215) := by decide +kernel
theorem i93_22 : xI 93 22 = some (.invokevirtual 102) := by decide +kernel
theorem i93_25 : xI 93 25 = some (.ifCond .eq 40) := by decide +kernel
theorem i93_28 : xI 93 28 = some (.aload_n 0) := by decide +kernel
theorem i93_29 : xI 93 29 = some (.ldc 213) := by decide +kernel
theorem i93_31 : xI 93 31 = some (.invokevirtual 102) := by decide +kernel
theorem i93_34 : xI 93 34 = some (.ifCond .eq 7) := by decide +kernel
theorem i93_37 : xI 93 37 = some (.iconst 4) := by decide +kernel
theorem i93_38 : xI 93 38 = some (.goto 4) := by decide +kernel
theorem i93_41 : xI 93 41 = some (.iconst 5) := by decide +kernel
theorem i93_42 : xI 93 42 = some (.istore_n 2) := by decide +kernel
theorem i93_43 : xI 93 43 = some (.aload_n 0) := by decide +kernel
theorem i93_44 : xI 93 44 = some (.invokevirtual 156) := by decide +kernel
theorem i93_47 : xI 93 47 = some (.aload_n 0) := by decide +kernel
theorem i93_48 : xI 93 48 = some (.iload_n 1) := by decide +kernel
theorem i93_49 : xI 93 49 = some (.invokevirtual 210) := by decide +kernel
theorem i93_52 : xI 93 52 = some (.ifCond .ne 5) := by decide +kernel
theorem i93_55 : xI 93 55 = some (.iconst 0) := by decide +kernel
theorem i93_56 : xI 93 56 = some (.ireturn) := by decide +kernel
theorem i93_57 : xI 93 57 = some (.aload_n 0) := by decide +kernel
theorem i93_58 : xI 93 58 = some (.iload_n 2) := by decide +kernel
theorem i93_59 : xI 93 59 = some (.invokevirtual 177) := by decide +kernel
theorem i93_62 : xI 93 62 = some (.goto (-52)) := by decide +kernel
theorem i93_65 : xI 93 65 = some (.iconst 1) := by decide +kernel
theorem i93_66 : xI 93 66 = some (.ireturn) := by decide +kernel
-- 94 M_term
theorem i94_0 : xI 94 0 = some (.aload_n 0) := by decide +kernel
theorem i94_1 : xI 94 1 = some (.iload_n 1) := by decide +kernel
theorem i94_2 : xI 94 2 = some (.invokevirtual 217) := by decide +kernel
theorem i94_5 : xI 94 5 = some (.ifCond .ne 5) := by decide +kernel
theorem i94_8 : xI 94 8 = some (.iconst 0) := by decide +kernel
theorem i94_9 : xI 94 9 = some (.ireturn) := by decide +kernel
theorem i94_10 : xI 94 10 = some (.aload_n 0) := by decide +kernel
theorem i94_11 : xI 94 11 = some (.ldc 220) := by decide +kernel
theorem i94_13 : xI 94 13 = some (.invokevirtual 102) := by decide +kernel
theorem i94_16 : xI 94 16 = some (.ifCond .eq 26) := by decide +kernel
theorem i94_19 : xI 94 19 = some (.aload_n 0) := by decide +kernel
theorem i94_20 : xI 94 20 = some (.invokevirtual 156) := by decide +kernel
theorem i94_23 : xI 94 23 = some (.aload_n 0) := by decide +kernel
theorem i94_24 : xI 94 24 = some (.iload_n 1) := by decide +kernel
theorem i94_25 : xI 94 25 = some (.invokevirtual 217) := by decide +kernel
theorem i94_28 : xI 94 28 = some (.ifCond .ne 5) := by decide +kernel
theorem i94_31 : xI 94 31 = some (.iconst 0) := by decide +kernel
theorem i94_32 : xI 94 32 = some (.ireturn) := by decide +kernel
theorem i94_33 : xI 94 33 = some (.aload_n 0) := by decide +kernel
theorem i94_34 : xI 94 34 = some (.bipush 6) := by decide +kernel
theorem i94_36 : xI 94 36 = some (.invokevirtual 177) := by decide +kernel
theorem i94_39 : xI 94 39 = some (.goto (-29)) := by decide +kernel
theorem i94_42 : xI 94 42 = some (.iconst 1) := by decide +kernel
theorem i94_43 : xI 94 43 = some (.ireturn) := by decide +kernel
-- 95 M_part
theorem i95_0 : xI 95 0 = some (.aload_n 0) := by decide +kernel
theorem i95_1 : xI 95 1 = some (.ldc 222) := by decide +kernel
theorem i95_3 : xI 95 3 = some (.invokevirtual 102) := by decide +kernel
theorem i95_6 : xI 95 6 = some (.ifCond .eq 43) := by decide +kernel
theorem i95_9 : xI 95 9 = some (.iload_n 1) := by decide +kernel
theorem i95_10 : xI 95 10 = some (.bipush 6) := by decide +kernel
theorem i95_12 : xI 95 12 = some (.if_icmp .ne 8) := by decide +kernel
theorem i95_15 : xI 95 15 = some (.aload_n 0) := by decide +kernel
theorem i95_16 : xI 95 16 = some (.invokevirtual 152) := by decide +kernel
theorem i95_19 : xI 95 19 = some (.ireturn) := by decide +kernel
theorem i95_20 : xI 95 20 = some (.aload_n 0) := by decide +kernel
theorem i95_21 : xI 95 21 = some (.invokevirtual 156) := by decide +kernel
theorem i95_24 : xI 95 24 = some (.aload_n 0) := by decide +kernel
theorem i95_25 : xI 95 25 = some (.iload_n 1) := by decide +kernel
theorem i95_26 : xI 95 26 = some (.iconst 1) := by decide +kernel
theorem i95_27 : xI 95 27 = some (.iadd) := by decide +kernel
theorem i95_28 : xI 95 28 = some (.invokevirtual 207) := by decide +kernel
theorem i95_31 : xI 95 31 = some (.ifCond .eq 16) := by decide +kernel
theorem i95_34 : xI 95 34 = some (.aload_n 0) := by decide +kernel
theorem i95_35 : xI 95 35 = some (.ldc 224) := by decide +kernel
theorem i95_37 : xI 95 37 = some (.invokevirtual 184) := by decide +kernel
theorem i95_40 : xI 95 40 = some (.ifCond .eq 7) := by decide +kernel
theorem i95_43 : xI 95 43 = some (.iconst 1) := by decide +kernel
theorem i95_44 : xI 95 44 = some (.goto 4) := by decide +kernel
theorem i95_47 : xI 95 47 = some (.iconst 0) := by decide +kernel
theorem i95_48 : xI 95 48 = some (.ireturn) := by decide +kernel
theorem i95_49 : xI 95 49 = some (.aload_n 0) := by decide +kernel
theorem i95_50 : xI 95 50 = some (.getfield 90) := by decide +kernel
theorem i95_53 : xI 95 53 = some (.iconst 2) := by decide +kernel
theorem i95_54 : xI 95 54 = some (.if_icmp .eq 30) := by decide +kernel
theorem i95_57 : xI 95 57 = some (.aload_n 0) := by decide +kernel
theorem i95_58 : xI 95 58 = some (.ldc 114) := by decide +kernel
theorem i95_60 : xI 95 60 = some (.invokevirtual 102) := by decide +kernel
theorem i95_63 : xI 95 63 = some (.ifCond .ne 21) := by decide +kernel
theorem i95_66 : xI 95 66 = some (.aload_n 0) := by decide +kernel
theorem i95_67 : xI 95 67 = some (.ldc 112) := by decide +kernel
theorem i95_69 : xI 95 69 = some (.invokevirtual 102) := by decide +kernel
theorem i95_72 : xI 95 72 = some (.ifCond .ne 12) := by decide +kernel
theorem i95_75 : xI 95 75 = some (.aload_n 0) := by decide +kernel
theorem i95_76 : xI 95 76 = some (.ldc 113) := by decide +kernel
theorem i95_78 : xI 95 78 = some (.invokevirtual 102) := by decide +kernel
theorem i95_81 : xI 95 81 = some (.ifCond .eq 12) := by decide +kernel
theorem i95_84 : xI 95 84 = some (.aload_n 0) := by decide +kernel
theorem i95_85 : xI 95 85 = some (.getfield 162) := by decide +kernel
theorem i95_88 : xI 95 88 = some (.bipush 80) := by decide +kernel
theorem i95_90 : xI 95 90 = some (.if_icmp .ne 8) := by decide +kernel
theorem i95_93 : xI 95 93 = some (.aload_n 0) := by decide +kernel
theorem i95_94 : xI 95 94 = some (.invokevirtual 152) := by decide +kernel
theorem i95_97 : xI 95 97 = some (.ireturn) := by decide +kernel
theorem i95_98 : xI 95 98 = some (.aload_n 0) := by decide +kernel
theorem i95_99 : xI 95 99 = some (.dup) := by decide +kernel
theorem i95_100 : xI 95 100 = some (.getfield 162) := by decide +kernel
theorem i95_103 : xI 95 103 = some (.iconst 1) := by decide +kernel
theorem i95_104 : xI 95 104 = some (.iadd) := by decide +kernel
theorem i95_105 : xI 95 105 = some (.putfield 162) := by decide +kernel
theorem i95_108 : xI 95 108 = some (.aload_n 0) := by decide +kernel
theorem i95_109 : xI 95 109 = some (.ldc 114) := by decide +kernel
theorem i95_111 : xI 95 111 = some (.invokevirtual 102) := by decide +kernel
theorem i95_114 : xI 95 114 = some (.ifCond .eq 13) := by decide +kernel
theorem i95_117 : xI 95 117 = some (.aload_n 0) := by decide +kernel
theorem i95_118 : xI 95 118 = some (.iconst 1) := by decide +kernel
theorem i95_119 : xI 95 119 = some (.invokevirtual 177) := by decide +kernel
theorem i95_122 : xI 95 122 = some (.aload_n 0) := by decide +kernel
theorem i95_123 : xI 95 123 = some (.invokevirtual 187) := by decide +kernel
theorem i95_126 : xI 95 126 = some (.ireturn) := by decide +kernel
theorem i95_127 : xI 95 127 = some (.aload_n 0) := by decide +kernel
theorem i95_128 : xI 95 128 = some (.getfield 90) := by decide +kernel
theorem i95_131 : xI 95 131 = some (.iconst 2) := by decide +kernel
theorem i95_132 : xI 95 132 = some (.if_icmp .ne 20) := by decide +kernel
theorem i95_135 : xI 95 135 = some (.aload_n 0) := by decide +kernel
theorem i95_136 : xI 95 136 = some (.iconst 0) := by decide +kernel
theorem i95_137 : xI 95 137 = some (.invokevirtual 177) := by decide +kernel
theorem i95_140 : xI 95 140 = some (.aload_n 0) := by decide +kernel
theorem i95_141 : xI 95 141 = some (.aload_n 0) := by decide +kernel
theorem i95_142 : xI 95 142 = some (.getfield 119) := by decide +kernel
theorem i95_145 : xI 95 145 = some (.l2i) := by decide +kernel
theorem i95_146 : xI 95 146 = some (.invokevirtual 177) := by decide +kernel
theorem i95_149 : xI 95 149 = some (.goto 21) := by decide +kernel
theorem i95_152 : xI 95 152 = some (.aload_n 0) := by decide +kernel
theorem i95_153 : xI 95 153 = some (.aload_n 0) := by decide +kernel
theorem i95_154 : xI 95 154 = some (.ldc 112) := by decide +kernel
theorem i95_156 : xI 95 156 = some (.invokevirtual 102) := by decide +kernel
theorem i95_159 : xI 95 159 = some (.ifCond .eq 7) := by decide +kernel
theorem i95_162 : xI 95 162 = some (.iconst 2) := by decide +kernel
theorem i95_163 : xI 95 163 = some (.goto 4) := by decide +kernel
theorem i95_166 : xI 95 166 = some (.iconst 3) := by decide +kernel
theorem i95_167 : xI 95 167 = some (.invokevirtual 177) := by decide +kernel
theorem i95_170 : xI 95 170 = some (.aload_n 0) := by decide +kernel
theorem i95_171 : xI 95 171 = some (.invokevirtual 156) := by decide +kernel
theorem i95_174 : xI 95 174 = some (.iconst 1) := by decide +kernel
theorem i95_175 : xI 95 175 = some (.ireturn) := by decide +kernel
-- 96 M_take
theorem i96_0 : xI 96 0 = some (.aload_n 0) := by decide +kernel
theorem i96_1 : xI 96 1 = some (.aload_n 1) := by decide +kernel
theorem i96_2 : xI 96 2 = some (.invokevirtual 102) := by decide +kernel
theorem i96_5 : xI 96 5 = some (.ifCond .ne 8) := by decide +kernel
theorem i96_8 : xI 96 8 = some (.aload_n 0) := by decide +kernel
theorem i96_9 : xI 96 9 = some (.invokevirtual 152) := by decide +kernel
theorem i96_12 : xI 96 12 = some (.ireturn) := by decide +kernel
theorem i96_13 : xI 96 13 = some (.aload_n 0) := by decide +kernel
theorem i96_14 : xI 96 14 = some (.invokevirtual 156) := by decide +kernel
theorem i96_17 : xI 96 17 = some (.iconst 1) := by decide +kernel
theorem i96_18 : xI 96 18 = some (.ireturn) := by decide +kernel
-- 97 M_cell0
theorem i97_0 : xI 97 0 = some (.aload_n 0) := by decide +kernel
theorem i97_1 : xI 97 1 = some (.ldc 114) := by decide +kernel
theorem i97_3 : xI 97 3 = some (.invokevirtual 184) := by decide +kernel
theorem i97_6 : xI 97 6 = some (.ifCond .ne 5) := by decide +kernel
theorem i97_9 : xI 97 9 = some (.iconst 0) := by decide +kernel
theorem i97_10 : xI 97 10 = some (.ireturn) := by decide +kernel
theorem i97_11 : xI 97 11 = some (.aload_n 0) := by decide +kernel
theorem i97_12 : xI 97 12 = some (.getfield 90) := by decide +kernel
theorem i97_15 : xI 97 15 = some (.iconst 2) := by decide +kernel
theorem i97_16 : xI 97 16 = some (.if_icmp .ne 14) := by decide +kernel
theorem i97_19 : xI 97 19 = some (.aload_n 0) := by decide +kernel
theorem i97_20 : xI 97 20 = some (.getfield 119) := by decide +kernel
theorem i97_23 : xI 97 23 = some (.ldc2_w 197) := by decide +kernel
theorem i97_26 : xI 97 26 = some (.lcmp) := by decide +kernel
theorem i97_27 : xI 97 27 = some (.ifCond .lt 8) := by decide +kernel
theorem i97_30 : xI 97 30 = some (.aload_n 0) := by decide +kernel
theorem i97_31 : xI 97 31 = some (.invokevirtual 152) := by decide +kernel
theorem i97_34 : xI 97 34 = some (.ireturn) := by decide +kernel
theorem i97_35 : xI 97 35 = some (.aload_n 0) := by decide +kernel
theorem i97_36 : xI 97 36 = some (.aload_n 0) := by decide +kernel
theorem i97_37 : xI 97 37 = some (.getfield 119) := by decide +kernel
theorem i97_40 : xI 97 40 = some (.l2i) := by decide +kernel
theorem i97_41 : xI 97 41 = some (.invokevirtual 177) := by decide +kernel
theorem i97_44 : xI 97 44 = some (.aload_n 0) := by decide +kernel
theorem i97_45 : xI 97 45 = some (.invokevirtual 156) := by decide +kernel
theorem i97_48 : xI 97 48 = some (.iconst 1) := by decide +kernel
theorem i97_49 : xI 97 49 = some (.ireturn) := by decide +kernel
-- 98 M_write
theorem i98_0 : xI 98 0 = some (.iload_n 1) := by decide +kernel
theorem i98_1 : xI 98 1 = some (.i2l) := by decide +kernel
theorem i98_2 : xI 98 2 = some (.lconst 0) := by decide +kernel
theorem i98_3 : xI 98 3 = some (.ldc2_w 266) := by decide +kernel
theorem i98_6 : xI 98 6 = some (.invokestatic 77) := by decide +kernel
theorem i98_9 : xI 98 9 = some (.ifCond .eq 27) := by decide +kernel
theorem i98_12 : xI 98 12 = some (.iload_n 2) := by decide +kernel
theorem i98_13 : xI 98 13 = some (.i2l) := by decide +kernel
theorem i98_14 : xI 98 14 = some (.lconst 0) := by decide +kernel
theorem i98_15 : xI 98 15 = some (.ldc2_w 268) := by decide +kernel
theorem i98_18 : xI 98 18 = some (.invokestatic 77) := by decide +kernel
theorem i98_21 : xI 98 21 = some (.ifCond .eq 15) := by decide +kernel
theorem i98_24 : xI 98 24 = some (.iload_n 3) := by decide +kernel
theorem i98_25 : xI 98 25 = some (.i2l) := by decide +kernel
theorem i98_26 : xI 98 26 = some (.lconst 0) := by decide +kernel
theorem i98_27 : xI 98 27 = some (.ldc2_w 270) := by decide +kernel
theorem i98_30 : xI 98 30 = some (.invokestatic 77) := by decide +kernel
theorem i98_33 : xI 98 33 = some (.ifCond .ne 5) := by decide +kernel
theorem i98_36 : xI 98 36 = some (.iconst (-1)) := by decide +kernel
theorem i98_37 : xI 98 37 = some (.ireturn) := by decide +kernel
theorem i98_38 : xI 98 38 = some (.aload_n 0) := by decide +kernel
theorem i98_39 : xI 98 39 = some (.getfield 174) := by decide +kernel
theorem i98_42 : xI 98 42 = some (.ifnonnull 6) := by decide +kernel
theorem i98_45 : xI 98 45 = some (.bipush (-2)) := by decide +kernel
theorem i98_47 : xI 98 47 = some (.ireturn) := by decide +kernel
theorem i98_48 : xI 98 48 = some (.aload_n 0) := by decide +kernel
theorem i98_49 : xI 98 49 = some (.getfield 239) := by decide +kernel
theorem i98_52 : xI 98 52 = some (.sipush 500) := by decide +kernel
theorem i98_55 : xI 98 55 = some (.if_icmp .ne 6) := by decide +kernel
theorem i98_58 : xI 98 58 = some (.bipush (-3)) := by decide +kernel
theorem i98_60 : xI 98 60 = some (.ireturn) := by decide +kernel
theorem i98_61 : xI 98 61 = some (.aload_n 0) := by decide +kernel
theorem i98_62 : xI 98 62 = some (.getfield 45) := by decide +kernel
theorem i98_65 : xI 98 65 = some (.iload_n 2) := by decide +kernel
theorem i98_66 : xI 98 66 = some (.iaload) := by decide +kernel
theorem i98_67 : xI 98 67 = some (.iconst 4) := by decide +kernel
theorem i98_68 : xI 98 68 = some (.iand) := by decide +kernel
theorem i98_69 : xI 98 69 = some (.ifCond .eq 17) := by decide +kernel
theorem i98_72 : xI 98 72 = some (.aload_n 0) := by decide +kernel
theorem i98_73 : xI 98 73 = some (.iload_n 1) := by decide +kernel
theorem i98_74 : xI 98 74 = some (.aload_n 0) := by decide +kernel
theorem i98_75 : xI 98 75 = some (.getfield 49) := by decide +kernel
theorem i98_78 : xI 98 78 = some (.iload_n 2) := by decide +kernel
theorem i98_79 : xI 98 79 = some (.aaload) := by decide +kernel
theorem i98_80 : xI 98 80 = some (.invokevirtual 272) := by decide +kernel
theorem i98_83 : xI 98 83 = some (.ifCond .eq 29) := by decide +kernel
theorem i98_86 : xI 98 86 = some (.aload_n 0) := by decide +kernel
theorem i98_87 : xI 98 87 = some (.getfield 45) := by decide +kernel
theorem i98_90 : xI 98 90 = some (.iload_n 2) := by decide +kernel
theorem i98_91 : xI 98 91 = some (.iaload) := by decide +kernel
theorem i98_92 : xI 98 92 = some (.bipush 8) := by decide +kernel
theorem i98_94 : xI 98 94 = some (.iand) := by decide +kernel
theorem i98_95 : xI 98 95 = some (.ifCond .eq 20) := by decide +kernel
theorem i98_98 : xI 98 98 = some (.aload_n 0) := by decide +kernel
theorem i98_99 : xI 98 99 = some (.iload_n 1) := by decide +kernel
theorem i98_100 : xI 98 100 = some (.aload_n 0) := by decide +kernel
theorem i98_101 : xI 98 101 = some (.getfield 52) := by decide +kernel
theorem i98_104 : xI 98 104 = some (.iload_n 2) := by decide +kernel
theorem i98_105 : xI 98 105 = some (.aaload) := by decide +kernel
theorem i98_106 : xI 98 106 = some (.invokevirtual 272) := by decide +kernel
theorem i98_109 : xI 98 109 = some (.ifCond .ne 6) := by decide +kernel
theorem i98_112 : xI 98 112 = some (.bipush (-4)) := by decide +kernel
theorem i98_114 : xI 98 114 = some (.ireturn) := by decide +kernel
theorem i98_115 : xI 98 115 = some (.aload_n 0) := by decide +kernel
theorem i98_116 : xI 98 116 = some (.getfield 36) := by decide +kernel
theorem i98_119 : xI 98 119 = some (.iload_n 1) := by decide +kernel
theorem i98_120 : xI 98 120 = some (.aload_n 0) := by decide +kernel
theorem i98_121 : xI 98 121 = some (.getfield 36) := by decide +kernel
theorem i98_124 : xI 98 124 = some (.iload_n 1) := by decide +kernel
theorem i98_125 : xI 98 125 = some (.iaload) := by decide +kernel
theorem i98_126 : xI 98 126 = some (.iconst 1) := by decide +kernel
theorem i98_127 : xI 98 127 = some (.iadd) := by decide +kernel
theorem i98_128 : xI 98 128 = some (.iload_n 3) := by decide +kernel
theorem i98_129 : xI 98 129 = some (.invokestatic 259) := by decide +kernel
theorem i98_132 : xI 98 132 = some (.iastore) := by decide +kernel
theorem i98_133 : xI 98 133 = some (.aload_n 0) := by decide +kernel
theorem i98_134 : xI 98 134 = some (.getfield 13) := by decide +kernel
theorem i98_137 : xI 98 137 = some (.aload_n 0) := by decide +kernel
theorem i98_138 : xI 98 138 = some (.getfield 239) := by decide +kernel
theorem i98_141 : xI 98 141 = some (.iload_n 1) := by decide +kernel
theorem i98_142 : xI 98 142 = some (.iastore) := by decide +kernel
theorem i98_143 : xI 98 143 = some (.aload_n 0) := by decide +kernel
theorem i98_144 : xI 98 144 = some (.getfield 17) := by decide +kernel
theorem i98_147 : xI 98 147 = some (.aload_n 0) := by decide +kernel
theorem i98_148 : xI 98 148 = some (.getfield 239) := by decide +kernel
theorem i98_151 : xI 98 151 = some (.aload_n 0) := by decide +kernel
theorem i98_152 : xI 98 152 = some (.getfield 36) := by decide +kernel
theorem i98_155 : xI 98 155 = some (.iload_n 1) := by decide +kernel
theorem i98_156 : xI 98 156 = some (.iaload) := by decide +kernel
theorem i98_157 : xI 98 157 = some (.iastore) := by decide +kernel
theorem i98_158 : xI 98 158 = some (.aload_n 0) := by decide +kernel
theorem i98_159 : xI 98 159 = some (.getfield 27) := by decide +kernel
theorem i98_162 : xI 98 162 = some (.aload_n 0) := by decide +kernel
theorem i98_163 : xI 98 163 = some (.getfield 239) := by decide +kernel
theorem i98_166 : xI 98 166 = some (.aload_n 0) := by decide +kernel
theorem i98_167 : xI 98 167 = some (.getfield 174) := by decide +kernel
theorem i98_170 : xI 98 170 = some (.aastore) := by decide +kernel
theorem i98_171 : xI 98 171 = some (.aload_n 0) := by decide +kernel
theorem i98_172 : xI 98 172 = some (.getfield 20) := by decide +kernel
theorem i98_175 : xI 98 175 = some (.aload_n 0) := by decide +kernel
theorem i98_176 : xI 98 176 = some (.getfield 239) := by decide +kernel
theorem i98_179 : xI 98 179 = some (.iconst 0) := by decide +kernel
theorem i98_180 : xI 98 180 = some (.iastore) := by decide +kernel
theorem i98_181 : xI 98 181 = some (.aload_n 0) := by decide +kernel
theorem i98_182 : xI 98 182 = some (.getfield 33) := by decide +kernel
theorem i98_185 : xI 98 185 = some (.iload_n 1) := by decide +kernel
theorem i98_186 : xI 98 186 = some (.aaload) := by decide +kernel
theorem i98_187 : xI 98 187 = some (.aload_n 0) := by decide +kernel
theorem i98_188 : xI 98 188 = some (.getfield 239) := by decide +kernel
theorem i98_191 : xI 98 191 = some (.iconst 1) := by decide +kernel
theorem i98_192 : xI 98 192 = some (.bastore) := by decide +kernel
theorem i98_193 : xI 98 193 = some (.aload_n 0) := by decide +kernel
theorem i98_194 : xI 98 194 = some (.getfield 52) := by decide +kernel
theorem i98_197 : xI 98 197 = some (.iload_n 2) := by decide +kernel
theorem i98_198 : xI 98 198 = some (.aaload) := by decide +kernel
theorem i98_199 : xI 98 199 = some (.iload_n 1) := by decide +kernel
theorem i98_200 : xI 98 200 = some (.aload_n 0) := by decide +kernel
theorem i98_201 : xI 98 201 = some (.getfield 36) := by decide +kernel
theorem i98_204 : xI 98 204 = some (.iload_n 1) := by decide +kernel
theorem i98_205 : xI 98 205 = some (.iaload) := by decide +kernel
theorem i98_206 : xI 98 206 = some (.iastore) := by decide +kernel
theorem i98_207 : xI 98 207 = some (.aload_n 0) := by decide +kernel
theorem i98_208 : xI 98 208 = some (.dup) := by decide +kernel
theorem i98_209 : xI 98 209 = some (.getfield 239) := by decide +kernel
theorem i98_212 : xI 98 212 = some (.iconst 1) := by decide +kernel
theorem i98_213 : xI 98 213 = some (.iadd) := by decide +kernel
theorem i98_214 : xI 98 214 = some (.putfield 239) := by decide +kernel
theorem i98_217 : xI 98 217 = some (.aload_n 0) := by decide +kernel
theorem i98_218 : xI 98 218 = some (.getfield 239) := by decide +kernel
theorem i98_221 : xI 98 221 = some (.iconst 1) := by decide +kernel
theorem i98_222 : xI 98 222 = some (.isub) := by decide +kernel
theorem i98_223 : xI 98 223 = some (.ireturn) := by decide +kernel
-- 99 M_isAtLeast
theorem i99_0 : xI 99 0 = some (.iconst 0) := by decide +kernel
theorem i99_1 : xI 99 1 = some (.istore_n 3) := by decide +kernel
theorem i99_2 : xI 99 2 = some (.iload_n 3) := by decide +kernel
theorem i99_3 : xI 99 3 = some (.iconst 5) := by decide +kernel
theorem i99_4 : xI 99 4 = some (.if_icmp .ge 23) := by decide +kernel
theorem i99_7 : xI 99 7 = some (.aload_n 0) := by decide +kernel
theorem i99_8 : xI 99 8 = some (.iload_n 1) := by decide +kernel
theorem i99_9 : xI 99 9 = some (.iload_n 3) := by decide +kernel
theorem i99_10 : xI 99 10 = some (.invokevirtual 263) := by decide +kernel
theorem i99_13 : xI 99 13 = some (.aload_n 2) := by decide +kernel
theorem i99_14 : xI 99 14 = some (.iload_n 3) := by decide +kernel
theorem i99_15 : xI 99 15 = some (.iaload) := by decide +kernel
theorem i99_16 : xI 99 16 = some (.if_icmp .ge 5) := by decide +kernel
theorem i99_19 : xI 99 19 = some (.iconst 0) := by decide +kernel
theorem i99_20 : xI 99 20 = some (.ireturn) := by decide +kernel
theorem i99_21 : xI 99 21 = some (.iinc 3 1) := by decide +kernel
theorem i99_24 : xI 99 24 = some (.goto (-22)) := by decide +kernel
theorem i99_27 : xI 99 27 = some (.iconst 1) := by decide +kernel
theorem i99_28 : xI 99 28 = some (.ireturn) := by decide +kernel
-- 100 M_vector
theorem i100_0 : xI 100 0 = some (.iconst 0) := by decide +kernel
theorem i100_1 : xI 100 1 = some (.istore_n 3) := by decide +kernel
theorem i100_2 : xI 100 2 = some (.iconst 0) := by decide +kernel
theorem i100_3 : xI 100 3 = some (.istore 4) := by decide +kernel
theorem i100_5 : xI 100 5 = some (.iload 4) := by decide +kernel
theorem i100_7 : xI 100 7 = some (.aload_n 0) := by decide +kernel
theorem i100_8 : xI 100 8 = some (.getfield 239) := by decide +kernel
theorem i100_11 : xI 100 11 = some (.if_icmp .ge 44) := by decide +kernel
theorem i100_14 : xI 100 14 = some (.aload_n 0) := by decide +kernel
theorem i100_15 : xI 100 15 = some (.getfield 33) := by decide +kernel
theorem i100_18 : xI 100 18 = some (.iload_n 1) := by decide +kernel
theorem i100_19 : xI 100 19 = some (.aaload) := by decide +kernel
theorem i100_20 : xI 100 20 = some (.iload 4) := by decide +kernel
theorem i100_22 : xI 100 22 = some (.baload) := by decide +kernel
theorem i100_23 : xI 100 23 = some (.ifCond .eq 26) := by decide +kernel
theorem i100_26 : xI 100 26 = some (.aload_n 0) := by decide +kernel
theorem i100_27 : xI 100 27 = some (.getfield 13) := by decide +kernel
theorem i100_30 : xI 100 30 = some (.iload 4) := by decide +kernel
theorem i100_32 : xI 100 32 = some (.iaload) := by decide +kernel
theorem i100_33 : xI 100 33 = some (.iload_n 2) := by decide +kernel
theorem i100_34 : xI 100 34 = some (.if_icmp .ne 15) := by decide +kernel
theorem i100_37 : xI 100 37 = some (.iload_n 3) := by decide +kernel
theorem i100_38 : xI 100 38 = some (.aload_n 0) := by decide +kernel
theorem i100_39 : xI 100 39 = some (.getfield 17) := by decide +kernel
theorem i100_42 : xI 100 42 = some (.iload 4) := by decide +kernel
theorem i100_44 : xI 100 44 = some (.iaload) := by decide +kernel
theorem i100_45 : xI 100 45 = some (.invokestatic 259) := by decide +kernel
theorem i100_48 : xI 100 48 = some (.istore_n 3) := by decide +kernel
theorem i100_49 : xI 100 49 = some (.iinc 4 1) := by decide +kernel
theorem i100_52 : xI 100 52 = some (.goto (-47)) := by decide +kernel
theorem i100_55 : xI 100 55 = some (.iload_n 3) := by decide +kernel
theorem i100_56 : xI 100 56 = some (.ireturn) := by decide +kernel
-- 101 M_read
theorem i101_0 : xI 101 0 = some (.iload_n 1) := by decide +kernel
theorem i101_1 : xI 101 1 = some (.i2l) := by decide +kernel
theorem i101_2 : xI 101 2 = some (.lconst 0) := by decide +kernel
theorem i101_3 : xI 101 3 = some (.ldc2_w 266) := by decide +kernel
theorem i101_6 : xI 101 6 = some (.invokestatic 77) := by decide +kernel
theorem i101_9 : xI 101 9 = some (.ifCond .eq 27) := by decide +kernel
theorem i101_12 : xI 101 12 = some (.iload_n 2) := by decide +kernel
theorem i101_13 : xI 101 13 = some (.i2l) := by decide +kernel
theorem i101_14 : xI 101 14 = some (.lconst 0) := by decide +kernel
theorem i101_15 : xI 101 15 = some (.ldc2_w 268) := by decide +kernel
theorem i101_18 : xI 101 18 = some (.invokestatic 77) := by decide +kernel
theorem i101_21 : xI 101 21 = some (.ifCond .eq 15) := by decide +kernel
theorem i101_24 : xI 101 24 = some (.iload_n 3) := by decide +kernel
theorem i101_25 : xI 101 25 = some (.i2l) := by decide +kernel
theorem i101_26 : xI 101 26 = some (.lconst 0) := by decide +kernel
theorem i101_27 : xI 101 27 = some (.ldc2_w 276) := by decide +kernel
theorem i101_30 : xI 101 30 = some (.invokestatic 77) := by decide +kernel
theorem i101_33 : xI 101 33 = some (.ifCond .ne 7) := by decide +kernel
theorem i101_36 : xI 101 36 = some (.ldc2_w 123) := by decide +kernel
theorem i101_39 : xI 101 39 = some (.lreturn) := by decide +kernel
theorem i101_40 : xI 101 40 = some (.aload_n 0) := by decide +kernel
theorem i101_41 : xI 101 41 = some (.getfield 45) := by decide +kernel
theorem i101_44 : xI 101 44 = some (.iload_n 2) := by decide +kernel
theorem i101_45 : xI 101 45 = some (.iaload) := by decide +kernel
theorem i101_46 : xI 101 46 = some (.iconst 1) := by decide +kernel
theorem i101_47 : xI 101 47 = some (.iand) := by decide +kernel
theorem i101_48 : xI 101 48 = some (.ifCond .eq 17) := by decide +kernel
theorem i101_51 : xI 101 51 = some (.aload_n 0) := by decide +kernel
theorem i101_52 : xI 101 52 = some (.iload_n 1) := by decide +kernel
theorem i101_53 : xI 101 53 = some (.aload_n 0) := by decide +kernel
theorem i101_54 : xI 101 54 = some (.getfield 52) := by decide +kernel
theorem i101_57 : xI 101 57 = some (.iload_n 2) := by decide +kernel
theorem i101_58 : xI 101 58 = some (.aaload) := by decide +kernel
theorem i101_59 : xI 101 59 = some (.invokevirtual 272) := by decide +kernel
theorem i101_62 : xI 101 62 = some (.ifCond .eq 28) := by decide +kernel
theorem i101_65 : xI 101 65 = some (.aload_n 0) := by decide +kernel
theorem i101_66 : xI 101 66 = some (.getfield 45) := by decide +kernel
theorem i101_69 : xI 101 69 = some (.iload_n 2) := by decide +kernel
theorem i101_70 : xI 101 70 = some (.iaload) := by decide +kernel
theorem i101_71 : xI 101 71 = some (.iconst 2) := by decide +kernel
theorem i101_72 : xI 101 72 = some (.iand) := by decide +kernel
theorem i101_73 : xI 101 73 = some (.ifCond .eq 21) := by decide +kernel
theorem i101_76 : xI 101 76 = some (.aload_n 0) := by decide +kernel
theorem i101_77 : xI 101 77 = some (.iload_n 1) := by decide +kernel
theorem i101_78 : xI 101 78 = some (.aload_n 0) := by decide +kernel
theorem i101_79 : xI 101 79 = some (.getfield 49) := by decide +kernel
theorem i101_82 : xI 101 82 = some (.iload_n 2) := by decide +kernel
theorem i101_83 : xI 101 83 = some (.aaload) := by decide +kernel
theorem i101_84 : xI 101 84 = some (.invokevirtual 272) := by decide +kernel
theorem i101_87 : xI 101 87 = some (.ifCond .ne 7) := by decide +kernel
theorem i101_90 : xI 101 90 = some (.ldc2_w 278) := by decide +kernel
theorem i101_93 : xI 101 93 = some (.lreturn) := by decide +kernel
theorem i101_94 : xI 101 94 = some (.iconst 0) := by decide +kernel
theorem i101_95 : xI 101 95 = some (.istore 5) := by decide +kernel
theorem i101_97 : xI 101 97 = some (.iload 5) := by decide +kernel
theorem i101_99 : xI 101 99 = some (.iconst 5) := by decide +kernel
theorem i101_100 : xI 101 100 = some (.if_icmp .ge 37) := by decide +kernel
theorem i101_103 : xI 101 103 = some (.aload_n 0) := by decide +kernel
theorem i101_104 : xI 101 104 = some (.getfield 49) := by decide +kernel
theorem i101_107 : xI 101 107 = some (.iload_n 2) := by decide +kernel
theorem i101_108 : xI 101 108 = some (.aaload) := by decide +kernel
theorem i101_109 : xI 101 109 = some (.iload 5) := by decide +kernel
theorem i101_111 : xI 101 111 = some (.aload_n 0) := by decide +kernel
theorem i101_112 : xI 101 112 = some (.getfield 49) := by decide +kernel
theorem i101_115 : xI 101 115 = some (.iload_n 2) := by decide +kernel
theorem i101_116 : xI 101 116 = some (.aaload) := by decide +kernel
theorem i101_117 : xI 101 117 = some (.iload 5) := by decide +kernel
theorem i101_119 : xI 101 119 = some (.iaload) := by decide +kernel
theorem i101_120 : xI 101 120 = some (.aload_n 0) := by decide +kernel
theorem i101_121 : xI 101 121 = some (.iload_n 1) := by decide +kernel
theorem i101_122 : xI 101 122 = some (.iload 5) := by decide +kernel
theorem i101_124 : xI 101 124 = some (.invokevirtual 263) := by decide +kernel
theorem i101_127 : xI 101 127 = some (.invokestatic 259) := by decide +kernel
theorem i101_130 : xI 101 130 = some (.iastore) := by decide +kernel
theorem i101_131 : xI 101 131 = some (.iinc 5 1) := by decide +kernel
theorem i101_134 : xI 101 134 = some (.goto (-37)) := by decide +kernel
theorem i101_137 : xI 101 137 = some (.aload_n 0) := by decide +kernel
theorem i101_138 : xI 101 138 = some (.iload_n 1) := by decide +kernel
theorem i101_139 : xI 101 139 = some (.iload_n 3) := by decide +kernel
theorem i101_140 : xI 101 140 = some (.iload 4) := by decide +kernel
theorem i101_142 : xI 101 142 = some (.invokevirtual 280) := by decide +kernel
theorem i101_145 : xI 101 145 = some (.lreturn) := by decide +kernel
-- 102 M_cell1
theorem i102_0 : xI 102 0 = some (.iload_n 1) := by decide +kernel
theorem i102_1 : xI 102 1 = some (.i2l) := by decide +kernel
theorem i102_2 : xI 102 2 = some (.lconst 0) := by decide +kernel
theorem i102_3 : xI 102 3 = some (.ldc2_w 266) := by decide +kernel
theorem i102_6 : xI 102 6 = some (.invokestatic 77) := by decide +kernel
theorem i102_9 : xI 102 9 = some (.ifCond .eq 15) := by decide +kernel
theorem i102_12 : xI 102 12 = some (.iload_n 2) := by decide +kernel
theorem i102_13 : xI 102 13 = some (.i2l) := by decide +kernel
theorem i102_14 : xI 102 14 = some (.lconst 0) := by decide +kernel
theorem i102_15 : xI 102 15 = some (.ldc2_w 276) := by decide +kernel
theorem i102_18 : xI 102 18 = some (.invokestatic 77) := by decide +kernel
theorem i102_21 : xI 102 21 = some (.ifCond .ne 7) := by decide +kernel
theorem i102_24 : xI 102 24 = some (.ldc2_w 123) := by decide +kernel
theorem i102_27 : xI 102 27 = some (.lreturn) := by decide +kernel
theorem i102_28 : xI 102 28 = some (.aload_n 0) := by decide +kernel
theorem i102_29 : xI 102 29 = some (.iload_n 1) := by decide +kernel
theorem i102_30 : xI 102 30 = some (.iload_n 3) := by decide +kernel
theorem i102_31 : xI 102 31 = some (.invokevirtual 292) := by decide +kernel
theorem i102_34 : xI 102 34 = some (.aload_n 0) := by decide +kernel
theorem i102_35 : xI 102 35 = some (.getfield 58) := by decide +kernel
theorem i102_38 : xI 102 38 = some (.iload_n 2) := by decide +kernel
theorem i102_39 : xI 102 39 = some (.iaload) := by decide +kernel
theorem i102_40 : xI 102 40 = some (.i2l) := by decide +kernel
theorem i102_41 : xI 102 41 = some (.lreturn) := by decide +kernel
-- 103 M_run
theorem i103_0 : xI 103 0 = some (.aload_n 0) := by decide +kernel
theorem i103_1 : xI 103 1 = some (.iload_n 1) := by decide +kernel
theorem i103_2 : xI 103 2 = some (.invokevirtual 249) := by decide +kernel
theorem i103_5 : xI 103 5 = some (.aload_n 0) := by decide +kernel
theorem i103_6 : xI 103 6 = some (.getfield 58) := by decide +kernel
theorem i103_9 : xI 103 9 = some (.iconst 0) := by decide +kernel
theorem i103_10 : xI 103 10 = some (.invokestatic 252) := by decide +kernel
theorem i103_13 : xI 103 13 = some (.iload_n 2) := by decide +kernel
theorem i103_14 : xI 103 14 = some (.ifCond .eq 12) := by decide +kernel
theorem i103_17 : xI 103 17 = some (.aload_n 0) := by decide +kernel
theorem i103_18 : xI 103 18 = some (.getfield 39) := by decide +kernel
theorem i103_21 : xI 103 21 = some (.iload_n 1) := by decide +kernel
theorem i103_22 : xI 103 22 = some (.iaload) := by decide +kernel
theorem i103_23 : xI 103 23 = some (.goto 7) := by decide +kernel
theorem i103_26 : xI 103 26 = some (.aload_n 0) := by decide +kernel
theorem i103_27 : xI 103 27 = some (.getfield 236) := by decide +kernel
theorem i103_30 : xI 103 30 = some (.istore_n 3) := by decide +kernel
theorem i103_31 : xI 103 31 = some (.iconst 0) := by decide +kernel
