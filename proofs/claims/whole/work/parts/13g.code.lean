/-! blocks of the code, by program (g) -/
set_option maxRecDepth 100000 in
theorem bk_w_law_0 : chk 147 7 0 [(.new 7, 3, 9, 0, 0, 0, []), (.dup, 1, 0, 0, 0, 0, []), (.invokespecial 9, 3, 57, 1, 10, 0, [])] = true := by decide +kernel
set_option maxRecDepth 100000 in
theorem bk_w_law_7 : chk 147 15 7 [(.astore_n 1, 1, 1, 0, 0, 0, []), (.new 10, 3, 10, 0, 0, 0, []), (.dup, 1, 0, 0, 0, 0, []), (.invokespecial 12, 3, 89, 1, 11, 0, [])] = true := by decide +kernel
set_option maxRecDepth 100000 in
theorem bk_w_law_15 : chk 147 18 15 [(.astore_n 2, 1, 2, 0, 0, 0, []), (.iconst 0, 1, 0, 0, 0, 0, []), (.istore_n 3, 1, 3, 0, 0, 0, [])] = true := by decide +kernel
set_option maxRecDepth 100000 in
theorem bk_w_law_18 : chk 147 152 18 [(.iload_n 3, 1, 3, 0, 0, 0, []), (.aload_n 0, 1, 0, 0, 0, 0, []), (.arraylength, 1, 1, 0, 0, 0, []), (.iconst 5, 1, 0, 0, 0, 5, []), (.isub, 1, 0, 0, 0, 0, []), (.if_icmp .gt 754, 3, 777, 0, 0, 0, []), (.aload_n 0, 1, 0, 0, 0, 0, []), (.iload_n 3, 1, 3, 0, 0, 0, []), (.iaload, 1, 0, 1, 0, 0, []), (.bipush 31, 2, 0, 0, 0, 31, []), (.iand, 1, 0, 0, 0, 0, []), (.tableswitch 739 0 25 #[120, 143, 156, 169, 202, 235, 258, 281, 304, 327, 350, 363, 396, 419, 442, 495, 518, 541, 574, 597, 610, 623, 656, 679, 702, 725], 120, 771, 0, 0, 0, [(0, 152), (1, 175), (2, 188), (3, 201), (4, 234), (5, 267), (6, 290), (7, 313), (8, 336), (9, 359), (10, 382), (11, 395), (12, 428), (13, 451), (14, 474), (15, 527), (16, 550), (17, 573), (18, 606), (19, 629), (20, 642), (21, 655), (22, 688), (23, 711), (24, 734), (25, 757)])] = true := by decide +kernel
set_option maxRecDepth 100000 in
theorem bk_w_law_152 : chk 147 161 152 [(.aload_n 1, 1, 1, 0, 0, 0, []), (.aload_n 0, 1, 0, 0, 0, 0, []), (.iload_n 3, 1, 3, 0, 0, 0, []), (.iconst 1, 1, 0, 0, 0, 1, []), (.iadd, 1, 0, 0, 0, 0, []), (.iaload, 1, 0, 1, 0, 0, []), (.invokevirtual 13, 3, 58, 2, 9, 0, [])] = true := by decide +kernel
set_option maxRecDepth 100000 in
theorem bk_w_law_161 : chk 147 170 161 [(.aload_n 2, 1, 2, 0, 0, 0, []), (.aload_n 0, 1, 0, 0, 0, 0, []), (.iload_n 3, 1, 3, 0, 0, 0, []), (.iconst 1, 1, 0, 0, 0, 1, []), (.iadd, 1, 0, 0, 0, 0, []), (.iaload, 1, 0, 1, 0, 0, []), (.invokevirtual 17, 3, 94, 2, 10, 0, [])] = true := by decide +kernel
set_option maxRecDepth 100000 in
theorem bk_w_law_170 : chk 147 175 170 [(.if_icmp .eq 601, 3, 771, 0, 0, 0, []), (.iconst 0, 1, 0, 0, 0, 0, []), (.ireturn, 1, 0, 1, 0, 0, [])] = true := by decide +kernel
set_option maxRecDepth 100000 in
theorem bk_w_law_175 : chk 147 179 175 [(.aload_n 1, 1, 1, 0, 0, 0, []), (.invokevirtual 18, 3, 59, 1, 9, 0, [])] = true := by decide +kernel
set_option maxRecDepth 100000 in
theorem bk_w_law_179 : chk 147 183 179 [(.aload_n 2, 1, 2, 0, 0, 0, []), (.invokevirtual 22, 3, 95, 1, 10, 0, [])] = true := by decide +kernel
set_option maxRecDepth 100000 in
theorem bk_w_law_183 : chk 147 188 183 [(.if_icmp .eq 588, 3, 771, 0, 0, 0, []), (.iconst 0, 1, 0, 0, 0, 0, []), (.ireturn, 1, 0, 1, 0, 0, [])] = true := by decide +kernel
set_option maxRecDepth 100000 in
theorem bk_w_law_188 : chk 147 192 188 [(.aload_n 1, 1, 1, 0, 0, 0, []), (.invokevirtual 23, 3, 60, 1, 9, 0, [])] = true := by decide +kernel
set_option maxRecDepth 100000 in
theorem bk_w_law_192 : chk 147 196 192 [(.aload_n 2, 1, 2, 0, 0, 0, []), (.invokevirtual 26, 3, 105, 1, 10, 0, [])] = true := by decide +kernel
set_option maxRecDepth 100000 in
theorem bk_w_law_196 : chk 147 201 196 [(.if_icmp .eq 575, 3, 771, 0, 0, 0, []), (.iconst 0, 1, 0, 0, 0, 0, []), (.ireturn, 1, 0, 1, 0, 0, [])] = true := by decide +kernel
set_option maxRecDepth 100000 in
theorem bk_w_law_201 : chk 147 215 201 [(.aload_n 1, 1, 1, 0, 0, 0, []), (.aload_n 0, 1, 0, 0, 0, 0, []), (.iload_n 3, 1, 3, 0, 0, 0, []), (.iconst 1, 1, 0, 0, 0, 1, []), (.iadd, 1, 0, 0, 0, 0, []), (.iaload, 1, 0, 1, 0, 0, []), (.aload_n 0, 1, 0, 0, 0, 0, []), (.iload_n 3, 1, 3, 0, 0, 0, []), (.iconst 2, 1, 0, 0, 0, 2, []), (.iadd, 1, 0, 0, 0, 0, []), (.iaload, 1, 0, 1, 0, 0, []), (.invokevirtual 27, 3, 61, 3, 9, 0, [])] = true := by decide +kernel
set_option maxRecDepth 100000 in
theorem bk_w_law_215 : chk 147 229 215 [(.aload_n 2, 1, 2, 0, 0, 0, []), (.aload_n 0, 1, 0, 0, 0, 0, []), (.iload_n 3, 1, 3, 0, 0, 0, []), (.iconst 1, 1, 0, 0, 0, 1, []), (.iadd, 1, 0, 0, 0, 0, []), (.iaload, 1, 0, 1, 0, 0, []), (.aload_n 0, 1, 0, 0, 0, 0, []), (.iload_n 3, 1, 3, 0, 0, 0, []), (.iconst 2, 1, 0, 0, 0, 2, []), (.iadd, 1, 0, 0, 0, 0, []), (.iaload, 1, 0, 1, 0, 0, []), (.invokevirtual 31, 3, 106, 3, 10, 0, [])] = true := by decide +kernel
set_option maxRecDepth 100000 in
theorem bk_w_law_229 : chk 147 234 229 [(.if_icmp .eq 542, 3, 771, 0, 0, 0, []), (.iconst 0, 1, 0, 0, 0, 0, []), (.ireturn, 1, 0, 1, 0, 0, [])] = true := by decide +kernel
set_option maxRecDepth 100000 in
theorem bk_w_law_234 : chk 147 248 234 [(.aload_n 1, 1, 1, 0, 0, 0, []), (.aload_n 0, 1, 0, 0, 0, 0, []), (.iload_n 3, 1, 3, 0, 0, 0, []), (.iconst 1, 1, 0, 0, 0, 1, []), (.iadd, 1, 0, 0, 0, 0, []), (.iaload, 1, 0, 1, 0, 0, []), (.aload_n 0, 1, 0, 0, 0, 0, []), (.iload_n 3, 1, 3, 0, 0, 0, []), (.iconst 2, 1, 0, 0, 0, 2, []), (.iadd, 1, 0, 0, 0, 0, []), (.iaload, 1, 0, 1, 0, 0, []), (.invokevirtual 32, 3, 62, 3, 9, 0, [])] = true := by decide +kernel
set_option maxRecDepth 100000 in
theorem bk_w_law_248 : chk 147 262 248 [(.aload_n 2, 1, 2, 0, 0, 0, []), (.aload_n 0, 1, 0, 0, 0, 0, []), (.iload_n 3, 1, 3, 0, 0, 0, []), (.iconst 1, 1, 0, 0, 0, 1, []), (.iadd, 1, 0, 0, 0, 0, []), (.iaload, 1, 0, 1, 0, 0, []), (.aload_n 0, 1, 0, 0, 0, 0, []), (.iload_n 3, 1, 3, 0, 0, 0, []), (.iconst 2, 1, 0, 0, 0, 2, []), (.iadd, 1, 0, 0, 0, 0, []), (.iaload, 1, 0, 1, 0, 0, []), (.invokevirtual 35, 3, 107, 3, 10, 0, [])] = true := by decide +kernel
set_option maxRecDepth 100000 in
theorem bk_w_law_262 : chk 147 267 262 [(.if_icmp .eq 509, 3, 771, 0, 0, 0, []), (.iconst 0, 1, 0, 0, 0, 0, []), (.ireturn, 1, 0, 1, 0, 0, [])] = true := by decide +kernel
set_option maxRecDepth 100000 in
theorem bk_w_law_267 : chk 147 276 267 [(.aload_n 1, 1, 1, 0, 0, 0, []), (.aload_n 0, 1, 0, 0, 0, 0, []), (.iload_n 3, 1, 3, 0, 0, 0, []), (.iconst 1, 1, 0, 0, 0, 1, []), (.iadd, 1, 0, 0, 0, 0, []), (.iaload, 1, 0, 1, 0, 0, []), (.invokevirtual 36, 3, 63, 2, 9, 0, [])] = true := by decide +kernel
set_option maxRecDepth 100000 in
theorem bk_w_law_276 : chk 147 285 276 [(.aload_n 2, 1, 2, 0, 0, 0, []), (.aload_n 0, 1, 0, 0, 0, 0, []), (.iload_n 3, 1, 3, 0, 0, 0, []), (.iconst 1, 1, 0, 0, 0, 1, []), (.iadd, 1, 0, 0, 0, 0, []), (.iaload, 1, 0, 1, 0, 0, []), (.invokevirtual 39, 3, 124, 2, 10, 0, [])] = true := by decide +kernel
set_option maxRecDepth 100000 in
theorem bk_w_law_285 : chk 147 290 285 [(.if_icmp .eq 486, 3, 771, 0, 0, 0, []), (.iconst 0, 1, 0, 0, 0, 0, []), (.ireturn, 1, 0, 1, 0, 0, [])] = true := by decide +kernel
set_option maxRecDepth 100000 in
theorem bk_w_law_290 : chk 147 299 290 [(.aload_n 1, 1, 1, 0, 0, 0, []), (.aload_n 0, 1, 0, 0, 0, 0, []), (.iload_n 3, 1, 3, 0, 0, 0, []), (.iconst 1, 1, 0, 0, 0, 1, []), (.iadd, 1, 0, 0, 0, 0, []), (.iaload, 1, 0, 1, 0, 0, []), (.invokevirtual 40, 3, 64, 2, 9, 0, [])] = true := by decide +kernel
set_option maxRecDepth 100000 in
theorem bk_w_law_299 : chk 147 308 299 [(.aload_n 2, 1, 2, 0, 0, 0, []), (.aload_n 0, 1, 0, 0, 0, 0, []), (.iload_n 3, 1, 3, 0, 0, 0, []), (.iconst 1, 1, 0, 0, 0, 1, []), (.iadd, 1, 0, 0, 0, 0, []), (.iaload, 1, 0, 1, 0, 0, []), (.invokevirtual 43, 3, 109, 2, 10, 0, [])] = true := by decide +kernel
set_option maxRecDepth 100000 in
theorem bk_w_law_308 : chk 147 313 308 [(.if_icmp .eq 463, 3, 771, 0, 0, 0, []), (.iconst 0, 1, 0, 0, 0, 0, []), (.ireturn, 1, 0, 1, 0, 0, [])] = true := by decide +kernel
set_option maxRecDepth 100000 in
theorem bk_w_law_313 : chk 147 322 313 [(.aload_n 1, 1, 1, 0, 0, 0, []), (.aload_n 0, 1, 0, 0, 0, 0, []), (.iload_n 3, 1, 3, 0, 0, 0, []), (.iconst 1, 1, 0, 0, 0, 1, []), (.iadd, 1, 0, 0, 0, 0, []), (.iaload, 1, 0, 1, 0, 0, []), (.invokevirtual 44, 3, 65, 2, 9, 0, [])] = true := by decide +kernel
set_option maxRecDepth 100000 in
theorem bk_w_law_322 : chk 147 331 322 [(.aload_n 2, 1, 2, 0, 0, 0, []), (.aload_n 0, 1, 0, 0, 0, 0, []), (.iload_n 3, 1, 3, 0, 0, 0, []), (.iconst 1, 1, 0, 0, 0, 1, []), (.iadd, 1, 0, 0, 0, 0, []), (.iaload, 1, 0, 1, 0, 0, []), (.invokevirtual 47, 3, 110, 2, 10, 0, [])] = true := by decide +kernel
set_option maxRecDepth 100000 in
theorem bk_w_law_331 : chk 147 336 331 [(.if_icmp .eq 440, 3, 771, 0, 0, 0, []), (.iconst 0, 1, 0, 0, 0, 0, []), (.ireturn, 1, 0, 1, 0, 0, [])] = true := by decide +kernel
set_option maxRecDepth 100000 in
theorem bk_w_law_336 : chk 147 345 336 [(.aload_n 1, 1, 1, 0, 0, 0, []), (.aload_n 0, 1, 0, 0, 0, 0, []), (.iload_n 3, 1, 3, 0, 0, 0, []), (.iconst 1, 1, 0, 0, 0, 1, []), (.iadd, 1, 0, 0, 0, 0, []), (.iaload, 1, 0, 1, 0, 0, []), (.invokevirtual 48, 3, 66, 2, 9, 0, [])] = true := by decide +kernel
set_option maxRecDepth 100000 in
theorem bk_w_law_345 : chk 147 354 345 [(.aload_n 2, 1, 2, 0, 0, 0, []), (.aload_n 0, 1, 0, 0, 0, 0, []), (.iload_n 3, 1, 3, 0, 0, 0, []), (.iconst 1, 1, 0, 0, 0, 1, []), (.iadd, 1, 0, 0, 0, 0, []), (.iaload, 1, 0, 1, 0, 0, []), (.invokevirtual 51, 3, 111, 2, 10, 0, [])] = true := by decide +kernel
set_option maxRecDepth 100000 in
theorem bk_w_law_354 : chk 147 359 354 [(.if_icmp .eq 417, 3, 771, 0, 0, 0, []), (.iconst 0, 1, 0, 0, 0, 0, []), (.ireturn, 1, 0, 1, 0, 0, [])] = true := by decide +kernel
set_option maxRecDepth 100000 in
theorem bk_w_law_359 : chk 147 368 359 [(.aload_n 1, 1, 1, 0, 0, 0, []), (.aload_n 0, 1, 0, 0, 0, 0, []), (.iload_n 3, 1, 3, 0, 0, 0, []), (.iconst 1, 1, 0, 0, 0, 1, []), (.iadd, 1, 0, 0, 0, 0, []), (.iaload, 1, 0, 1, 0, 0, []), (.invokevirtual 52, 3, 67, 2, 9, 0, [])] = true := by decide +kernel
set_option maxRecDepth 100000 in
theorem bk_w_law_368 : chk 147 377 368 [(.aload_n 2, 1, 2, 0, 0, 0, []), (.aload_n 0, 1, 0, 0, 0, 0, []), (.iload_n 3, 1, 3, 0, 0, 0, []), (.iconst 1, 1, 0, 0, 0, 1, []), (.iadd, 1, 0, 0, 0, 0, []), (.iaload, 1, 0, 1, 0, 0, []), (.invokevirtual 55, 3, 113, 2, 10, 0, [])] = true := by decide +kernel
set_option maxRecDepth 100000 in
theorem bk_w_law_377 : chk 147 382 377 [(.if_icmp .eq 394, 3, 771, 0, 0, 0, []), (.iconst 0, 1, 0, 0, 0, 0, []), (.ireturn, 1, 0, 1, 0, 0, [])] = true := by decide +kernel
set_option maxRecDepth 100000 in
theorem bk_w_law_382 : chk 147 386 382 [(.aload_n 1, 1, 1, 0, 0, 0, []), (.invokevirtual 56, 3, 68, 1, 9, 0, [])] = true := by decide +kernel
set_option maxRecDepth 100000 in
theorem bk_w_law_386 : chk 147 390 386 [(.aload_n 2, 1, 2, 0, 0, 0, []), (.invokevirtual 59, 3, 114, 1, 10, 0, [])] = true := by decide +kernel
set_option maxRecDepth 100000 in
theorem bk_w_law_390 : chk 147 395 390 [(.if_icmp .eq 381, 3, 771, 0, 0, 0, []), (.iconst 0, 1, 0, 0, 0, 0, []), (.ireturn, 1, 0, 1, 0, 0, [])] = true := by decide +kernel
set_option maxRecDepth 100000 in
theorem bk_w_law_395 : chk 147 409 395 [(.aload_n 1, 1, 1, 0, 0, 0, []), (.aload_n 0, 1, 0, 0, 0, 0, []), (.iload_n 3, 1, 3, 0, 0, 0, []), (.iconst 1, 1, 0, 0, 0, 1, []), (.iadd, 1, 0, 0, 0, 0, []), (.iaload, 1, 0, 1, 0, 0, []), (.aload_n 0, 1, 0, 0, 0, 0, []), (.iload_n 3, 1, 3, 0, 0, 0, []), (.iconst 2, 1, 0, 0, 0, 2, []), (.iadd, 1, 0, 0, 0, 0, []), (.iaload, 1, 0, 1, 0, 0, []), (.invokevirtual 60, 3, 69, 3, 9, 0, [])] = true := by decide +kernel
set_option maxRecDepth 100000 in
theorem bk_w_law_409 : chk 147 423 409 [(.aload_n 2, 1, 2, 0, 0, 0, []), (.aload_n 0, 1, 0, 0, 0, 0, []), (.iload_n 3, 1, 3, 0, 0, 0, []), (.iconst 1, 1, 0, 0, 0, 1, []), (.iadd, 1, 0, 0, 0, 0, []), (.iaload, 1, 0, 1, 0, 0, []), (.aload_n 0, 1, 0, 0, 0, 0, []), (.iload_n 3, 1, 3, 0, 0, 0, []), (.iconst 2, 1, 0, 0, 0, 2, []), (.iadd, 1, 0, 0, 0, 0, []), (.iaload, 1, 0, 1, 0, 0, []), (.invokevirtual 63, 3, 120, 3, 10, 0, [])] = true := by decide +kernel
set_option maxRecDepth 100000 in
theorem bk_w_law_423 : chk 147 428 423 [(.if_icmp .eq 348, 3, 771, 0, 0, 0, []), (.iconst 0, 1, 0, 0, 0, 0, []), (.ireturn, 1, 0, 1, 0, 0, [])] = true := by decide +kernel
set_option maxRecDepth 100000 in
theorem bk_w_law_428 : chk 147 437 428 [(.aload_n 1, 1, 1, 0, 0, 0, []), (.aload_n 0, 1, 0, 0, 0, 0, []), (.iload_n 3, 1, 3, 0, 0, 0, []), (.iconst 1, 1, 0, 0, 0, 1, []), (.iadd, 1, 0, 0, 0, 0, []), (.iaload, 1, 0, 1, 0, 0, []), (.invokevirtual 64, 3, 70, 2, 9, 0, [])] = true := by decide +kernel
set_option maxRecDepth 100000 in
theorem bk_w_law_437 : chk 147 446 437 [(.aload_n 2, 1, 2, 0, 0, 0, []), (.aload_n 0, 1, 0, 0, 0, 0, []), (.iload_n 3, 1, 3, 0, 0, 0, []), (.iconst 1, 1, 0, 0, 0, 1, []), (.iadd, 1, 0, 0, 0, 0, []), (.iaload, 1, 0, 1, 0, 0, []), (.invokevirtual 67, 3, 122, 2, 10, 0, [])] = true := by decide +kernel
set_option maxRecDepth 100000 in
theorem bk_w_law_446 : chk 147 451 446 [(.if_icmp .eq 325, 3, 771, 0, 0, 0, []), (.iconst 0, 1, 0, 0, 0, 0, []), (.ireturn, 1, 0, 1, 0, 0, [])] = true := by decide +kernel
set_option maxRecDepth 100000 in
theorem bk_w_law_451 : chk 147 460 451 [(.aload_n 1, 1, 1, 0, 0, 0, []), (.aload_n 0, 1, 0, 0, 0, 0, []), (.iload_n 3, 1, 3, 0, 0, 0, []), (.iconst 1, 1, 0, 0, 0, 1, []), (.iadd, 1, 0, 0, 0, 0, []), (.iaload, 1, 0, 1, 0, 0, []), (.invokevirtual 68, 3, 71, 2, 9, 0, [])] = true := by decide +kernel
set_option maxRecDepth 100000 in
theorem bk_w_law_460 : chk 147 469 460 [(.aload_n 2, 1, 2, 0, 0, 0, []), (.aload_n 0, 1, 0, 0, 0, 0, []), (.iload_n 3, 1, 3, 0, 0, 0, []), (.iconst 1, 1, 0, 0, 0, 1, []), (.iadd, 1, 0, 0, 0, 0, []), (.iaload, 1, 0, 1, 0, 0, []), (.invokevirtual 71, 3, 126, 2, 10, 0, [])] = true := by decide +kernel
set_option maxRecDepth 100000 in
theorem bk_w_law_469 : chk 147 474 469 [(.if_icmp .eq 302, 3, 771, 0, 0, 0, []), (.iconst 0, 1, 0, 0, 0, 0, []), (.ireturn, 1, 0, 1, 0, 0, [])] = true := by decide +kernel
set_option maxRecDepth 100000 in
theorem bk_w_law_474 : chk 147 498 474 [(.aload_n 1, 1, 1, 0, 0, 0, []), (.aload_n 0, 1, 0, 0, 0, 0, []), (.iload_n 3, 1, 3, 0, 0, 0, []), (.iconst 1, 1, 0, 0, 0, 1, []), (.iadd, 1, 0, 0, 0, 0, []), (.iaload, 1, 0, 1, 0, 0, []), (.aload_n 0, 1, 0, 0, 0, 0, []), (.iload_n 3, 1, 3, 0, 0, 0, []), (.iconst 2, 1, 0, 0, 0, 2, []), (.iadd, 1, 0, 0, 0, 0, []), (.iaload, 1, 0, 1, 0, 0, []), (.aload_n 0, 1, 0, 0, 0, 0, []), (.iload_n 3, 1, 3, 0, 0, 0, []), (.iconst 3, 1, 0, 0, 0, 3, []), (.iadd, 1, 0, 0, 0, 0, []), (.iaload, 1, 0, 1, 0, 0, []), (.aload_n 0, 1, 0, 0, 0, 0, []), (.iload_n 3, 1, 3, 0, 0, 0, []), (.iconst 4, 1, 0, 0, 0, 4, []), (.iadd, 1, 0, 0, 0, 0, []), (.iaload, 1, 0, 1, 0, 0, []), (.invokevirtual 72, 3, 72, 5, 9, 0, [])] = true := by decide +kernel
set_option maxRecDepth 100000 in
theorem bk_w_law_498 : chk 147 522 498 [(.aload_n 2, 1, 2, 0, 0, 0, []), (.aload_n 0, 1, 0, 0, 0, 0, []), (.iload_n 3, 1, 3, 0, 0, 0, []), (.iconst 1, 1, 0, 0, 0, 1, []), (.iadd, 1, 0, 0, 0, 0, []), (.iaload, 1, 0, 1, 0, 0, []), (.aload_n 0, 1, 0, 0, 0, 0, []), (.iload_n 3, 1, 3, 0, 0, 0, []), (.iconst 2, 1, 0, 0, 0, 2, []), (.iadd, 1, 0, 0, 0, 0, []), (.iaload, 1, 0, 1, 0, 0, []), (.aload_n 0, 1, 0, 0, 0, 0, []), (.iload_n 3, 1, 3, 0, 0, 0, []), (.iconst 3, 1, 0, 0, 0, 3, []), (.iadd, 1, 0, 0, 0, 0, []), (.iaload, 1, 0, 1, 0, 0, []), (.aload_n 0, 1, 0, 0, 0, 0, []), (.iload_n 3, 1, 3, 0, 0, 0, []), (.iconst 4, 1, 0, 0, 0, 4, []), (.iadd, 1, 0, 0, 0, 0, []), (.iaload, 1, 0, 1, 0, 0, []), (.invokevirtual 76, 3, 127, 5, 10, 0, [])] = true := by decide +kernel
set_option maxRecDepth 100000 in
theorem bk_w_law_522 : chk 147 527 522 [(.if_icmp .eq 249, 3, 771, 0, 0, 0, []), (.iconst 0, 1, 0, 0, 0, 0, []), (.ireturn, 1, 0, 1, 0, 0, [])] = true := by decide +kernel
set_option maxRecDepth 100000 in
theorem bk_w_law_527 : chk 147 536 527 [(.aload_n 1, 1, 1, 0, 0, 0, []), (.aload_n 0, 1, 0, 0, 0, 0, []), (.iload_n 3, 1, 3, 0, 0, 0, []), (.iconst 1, 1, 0, 0, 0, 1, []), (.iadd, 1, 0, 0, 0, 0, []), (.iaload, 1, 0, 1, 0, 0, []), (.invokevirtual 77, 3, 73, 2, 9, 0, [])] = true := by decide +kernel
set_option maxRecDepth 100000 in
theorem bk_w_law_536 : chk 147 545 536 [(.aload_n 2, 1, 2, 0, 0, 0, []), (.aload_n 0, 1, 0, 0, 0, 0, []), (.iload_n 3, 1, 3, 0, 0, 0, []), (.iconst 1, 1, 0, 0, 0, 1, []), (.iadd, 1, 0, 0, 0, 0, []), (.iaload, 1, 0, 1, 0, 0, []), (.invokevirtual 80, 3, 128, 2, 10, 0, [])] = true := by decide +kernel
set_option maxRecDepth 100000 in
theorem bk_w_law_545 : chk 147 550 545 [(.if_icmp .eq 226, 3, 771, 0, 0, 0, []), (.iconst 0, 1, 0, 0, 0, 0, []), (.ireturn, 1, 0, 1, 0, 0, [])] = true := by decide +kernel
set_option maxRecDepth 100000 in
theorem bk_w_law_550 : chk 147 559 550 [(.aload_n 1, 1, 1, 0, 0, 0, []), (.aload_n 0, 1, 0, 0, 0, 0, []), (.iload_n 3, 1, 3, 0, 0, 0, []), (.iconst 1, 1, 0, 0, 0, 1, []), (.iadd, 1, 0, 0, 0, 0, []), (.iaload, 1, 0, 1, 0, 0, []), (.invokevirtual 81, 3, 74, 2, 9, 0, [])] = true := by decide +kernel
set_option maxRecDepth 100000 in
theorem bk_w_law_559 : chk 147 568 559 [(.aload_n 2, 1, 2, 0, 0, 0, []), (.aload_n 0, 1, 0, 0, 0, 0, []), (.iload_n 3, 1, 3, 0, 0, 0, []), (.iconst 1, 1, 0, 0, 0, 1, []), (.iadd, 1, 0, 0, 0, 0, []), (.iaload, 1, 0, 1, 0, 0, []), (.invokevirtual 84, 3, 131, 2, 10, 0, [])] = true := by decide +kernel
set_option maxRecDepth 100000 in
theorem bk_w_law_568 : chk 147 573 568 [(.if_icmp .eq 203, 3, 771, 0, 0, 0, []), (.iconst 0, 1, 0, 0, 0, 0, []), (.ireturn, 1, 0, 1, 0, 0, [])] = true := by decide +kernel
set_option maxRecDepth 100000 in
theorem bk_w_law_573 : chk 147 587 573 [(.aload_n 1, 1, 1, 0, 0, 0, []), (.aload_n 0, 1, 0, 0, 0, 0, []), (.iload_n 3, 1, 3, 0, 0, 0, []), (.iconst 1, 1, 0, 0, 0, 1, []), (.iadd, 1, 0, 0, 0, 0, []), (.iaload, 1, 0, 1, 0, 0, []), (.aload_n 0, 1, 0, 0, 0, 0, []), (.iload_n 3, 1, 3, 0, 0, 0, []), (.iconst 2, 1, 0, 0, 0, 2, []), (.iadd, 1, 0, 0, 0, 0, []), (.iaload, 1, 0, 1, 0, 0, []), (.invokevirtual 85, 3, 75, 3, 9, 0, [])] = true := by decide +kernel
set_option maxRecDepth 100000 in
theorem bk_w_law_587 : chk 147 601 587 [(.aload_n 2, 1, 2, 0, 0, 0, []), (.aload_n 0, 1, 0, 0, 0, 0, []), (.iload_n 3, 1, 3, 0, 0, 0, []), (.iconst 1, 1, 0, 0, 0, 1, []), (.iadd, 1, 0, 0, 0, 0, []), (.iaload, 1, 0, 1, 0, 0, []), (.aload_n 0, 1, 0, 0, 0, 0, []), (.iload_n 3, 1, 3, 0, 0, 0, []), (.iconst 2, 1, 0, 0, 0, 2, []), (.iadd, 1, 0, 0, 0, 0, []), (.iaload, 1, 0, 1, 0, 0, []), (.invokevirtual 88, 3, 132, 3, 10, 0, [])] = true := by decide +kernel
set_option maxRecDepth 100000 in
theorem bk_w_law_601 : chk 147 606 601 [(.if_icmp .eq 170, 3, 771, 0, 0, 0, []), (.iconst 0, 1, 0, 0, 0, 0, []), (.ireturn, 1, 0, 1, 0, 0, [])] = true := by decide +kernel
set_option maxRecDepth 100000 in
theorem bk_w_law_606 : chk 147 615 606 [(.aload_n 1, 1, 1, 0, 0, 0, []), (.aload_n 0, 1, 0, 0, 0, 0, []), (.iload_n 3, 1, 3, 0, 0, 0, []), (.iconst 1, 1, 0, 0, 0, 1, []), (.iadd, 1, 0, 0, 0, 0, []), (.iaload, 1, 0, 1, 0, 0, []), (.invokevirtual 89, 3, 76, 2, 9, 0, [])] = true := by decide +kernel
set_option maxRecDepth 100000 in
theorem bk_w_law_615 : chk 147 624 615 [(.aload_n 2, 1, 2, 0, 0, 0, []), (.aload_n 0, 1, 0, 0, 0, 0, []), (.iload_n 3, 1, 3, 0, 0, 0, []), (.iconst 1, 1, 0, 0, 0, 1, []), (.iadd, 1, 0, 0, 0, 0, []), (.iaload, 1, 0, 1, 0, 0, []), (.invokevirtual 92, 3, 135, 2, 10, 0, [])] = true := by decide +kernel
set_option maxRecDepth 100000 in
theorem bk_w_law_624 : chk 147 629 624 [(.if_icmp .eq 147, 3, 771, 0, 0, 0, []), (.iconst 0, 1, 0, 0, 0, 0, []), (.ireturn, 1, 0, 1, 0, 0, [])] = true := by decide +kernel
set_option maxRecDepth 100000 in
theorem bk_w_law_629 : chk 147 633 629 [(.aload_n 1, 1, 1, 0, 0, 0, []), (.invokevirtual 93, 3, 77, 1, 9, 0, [])] = true := by decide +kernel
set_option maxRecDepth 100000 in
theorem bk_w_law_633 : chk 147 637 633 [(.aload_n 2, 1, 2, 0, 0, 0, []), (.invokevirtual 96, 3, 136, 1, 10, 0, [])] = true := by decide +kernel
set_option maxRecDepth 100000 in
theorem bk_w_law_637 : chk 147 642 637 [(.if_icmp .eq 134, 3, 771, 0, 0, 0, []), (.iconst 0, 1, 0, 0, 0, 0, []), (.ireturn, 1, 0, 1, 0, 0, [])] = true := by decide +kernel
set_option maxRecDepth 100000 in
theorem bk_w_law_642 : chk 147 646 642 [(.aload_n 1, 1, 1, 0, 0, 0, []), (.invokevirtual 97, 3, 78, 1, 9, 0, [])] = true := by decide +kernel
set_option maxRecDepth 100000 in
theorem bk_w_law_646 : chk 147 650 646 [(.aload_n 2, 1, 2, 0, 0, 0, []), (.invokevirtual 100, 3, 137, 1, 10, 0, [])] = true := by decide +kernel
set_option maxRecDepth 100000 in
theorem bk_w_law_650 : chk 147 655 650 [(.if_icmp .eq 121, 3, 771, 0, 0, 0, []), (.iconst 0, 1, 0, 0, 0, 0, []), (.ireturn, 1, 0, 1, 0, 0, [])] = true := by decide +kernel
set_option maxRecDepth 100000 in
theorem bk_w_law_655 : chk 147 669 655 [(.aload_n 1, 1, 1, 0, 0, 0, []), (.aload_n 0, 1, 0, 0, 0, 0, []), (.iload_n 3, 1, 3, 0, 0, 0, []), (.iconst 1, 1, 0, 0, 0, 1, []), (.iadd, 1, 0, 0, 0, 0, []), (.iaload, 1, 0, 1, 0, 0, []), (.aload_n 0, 1, 0, 0, 0, 0, []), (.iload_n 3, 1, 3, 0, 0, 0, []), (.iconst 2, 1, 0, 0, 0, 2, []), (.iadd, 1, 0, 0, 0, 0, []), (.iaload, 1, 0, 1, 0, 0, []), (.invokevirtual 101, 3, 79, 3, 9, 0, [])] = true := by decide +kernel
set_option maxRecDepth 100000 in
theorem bk_w_law_669 : chk 147 683 669 [(.aload_n 2, 1, 2, 0, 0, 0, []), (.aload_n 0, 1, 0, 0, 0, 0, []), (.iload_n 3, 1, 3, 0, 0, 0, []), (.iconst 1, 1, 0, 0, 0, 1, []), (.iadd, 1, 0, 0, 0, 0, []), (.iaload, 1, 0, 1, 0, 0, []), (.aload_n 0, 1, 0, 0, 0, 0, []), (.iload_n 3, 1, 3, 0, 0, 0, []), (.iconst 2, 1, 0, 0, 0, 2, []), (.iadd, 1, 0, 0, 0, 0, []), (.iaload, 1, 0, 1, 0, 0, []), (.invokevirtual 104, 3, 138, 3, 10, 0, [])] = true := by decide +kernel
set_option maxRecDepth 100000 in
theorem bk_w_law_683 : chk 147 688 683 [(.if_icmp .eq 88, 3, 771, 0, 0, 0, []), (.iconst 0, 1, 0, 0, 0, 0, []), (.ireturn, 1, 0, 1, 0, 0, [])] = true := by decide +kernel
set_option maxRecDepth 100000 in
theorem bk_w_law_688 : chk 147 697 688 [(.aload_n 1, 1, 1, 0, 0, 0, []), (.aload_n 0, 1, 0, 0, 0, 0, []), (.iload_n 3, 1, 3, 0, 0, 0, []), (.iconst 1, 1, 0, 0, 0, 1, []), (.iadd, 1, 0, 0, 0, 0, []), (.iaload, 1, 0, 1, 0, 0, []), (.invokevirtual 105, 3, 80, 2, 9, 0, [])] = true := by decide +kernel
set_option maxRecDepth 100000 in
theorem bk_w_law_697 : chk 147 706 697 [(.aload_n 2, 1, 2, 0, 0, 0, []), (.aload_n 0, 1, 0, 0, 0, 0, []), (.iload_n 3, 1, 3, 0, 0, 0, []), (.iconst 1, 1, 0, 0, 0, 1, []), (.iadd, 1, 0, 0, 0, 0, []), (.iaload, 1, 0, 1, 0, 0, []), (.invokevirtual 108, 3, 139, 2, 10, 0, [])] = true := by decide +kernel
set_option maxRecDepth 100000 in
theorem bk_w_law_706 : chk 147 711 706 [(.if_icmp .eq 65, 3, 771, 0, 0, 0, []), (.iconst 0, 1, 0, 0, 0, 0, []), (.ireturn, 1, 0, 1, 0, 0, [])] = true := by decide +kernel
set_option maxRecDepth 100000 in
theorem bk_w_law_711 : chk 147 720 711 [(.aload_n 1, 1, 1, 0, 0, 0, []), (.aload_n 0, 1, 0, 0, 0, 0, []), (.iload_n 3, 1, 3, 0, 0, 0, []), (.iconst 1, 1, 0, 0, 0, 1, []), (.iadd, 1, 0, 0, 0, 0, []), (.iaload, 1, 0, 1, 0, 0, []), (.invokevirtual 109, 3, 81, 2, 9, 0, [])] = true := by decide +kernel
set_option maxRecDepth 100000 in
theorem bk_w_law_720 : chk 147 729 720 [(.aload_n 2, 1, 2, 0, 0, 0, []), (.aload_n 0, 1, 0, 0, 0, 0, []), (.iload_n 3, 1, 3, 0, 0, 0, []), (.iconst 1, 1, 0, 0, 0, 1, []), (.iadd, 1, 0, 0, 0, 0, []), (.iaload, 1, 0, 1, 0, 0, []), (.invokevirtual 112, 3, 140, 2, 10, 0, [])] = true := by decide +kernel
set_option maxRecDepth 100000 in
theorem bk_w_law_729 : chk 147 734 729 [(.if_icmp .eq 42, 3, 771, 0, 0, 0, []), (.iconst 0, 1, 0, 0, 0, 0, []), (.ireturn, 1, 0, 1, 0, 0, [])] = true := by decide +kernel
set_option maxRecDepth 100000 in
theorem bk_w_law_734 : chk 147 743 734 [(.aload_n 1, 1, 1, 0, 0, 0, []), (.aload_n 0, 1, 0, 0, 0, 0, []), (.iload_n 3, 1, 3, 0, 0, 0, []), (.iconst 1, 1, 0, 0, 0, 1, []), (.iadd, 1, 0, 0, 0, 0, []), (.iaload, 1, 0, 1, 0, 0, []), (.invokevirtual 113, 3, 82, 2, 9, 0, [])] = true := by decide +kernel
set_option maxRecDepth 100000 in
theorem bk_w_law_743 : chk 147 752 743 [(.aload_n 2, 1, 2, 0, 0, 0, []), (.aload_n 0, 1, 0, 0, 0, 0, []), (.iload_n 3, 1, 3, 0, 0, 0, []), (.iconst 1, 1, 0, 0, 0, 1, []), (.iadd, 1, 0, 0, 0, 0, []), (.iaload, 1, 0, 1, 0, 0, []), (.invokevirtual 116, 3, 141, 2, 10, 0, [])] = true := by decide +kernel
set_option maxRecDepth 100000 in
theorem bk_w_law_752 : chk 147 757 752 [(.if_icmp .eq 19, 3, 771, 0, 0, 0, []), (.iconst 0, 1, 0, 0, 0, 0, []), (.ireturn, 1, 0, 1, 0, 0, [])] = true := by decide +kernel
set_option maxRecDepth 100000 in
theorem bk_w_law_757 : chk 147 761 757 [(.aload_n 1, 1, 1, 0, 0, 0, []), (.invokevirtual 117, 3, 83, 1, 9, 0, [])] = true := by decide +kernel
set_option maxRecDepth 100000 in
theorem bk_w_law_761 : chk 147 765 761 [(.aload_n 2, 1, 2, 0, 0, 0, []), (.invokevirtual 121, 3, 142, 1, 10, 0, [])] = true := by decide +kernel
set_option maxRecDepth 100000 in
theorem bk_w_law_765 : chk 147 771 765 [(.lcmp, 1, 0, 0, 0, 0, []), (.ifCond .eq 5, 3, 771, 0, 0, 0, []), (.iconst 0, 1, 0, 0, 0, 0, []), (.ireturn, 1, 0, 1, 0, 0, [])] = true := by decide +kernel
set_option maxRecDepth 100000 in
theorem bk_w_law_771 : chk 147 777 771 [(.iinc 3 5, 3, 3, 0, 0, 5, []), (.goto (-756), 3, 18, 0, 0, 0, [])] = true := by decide +kernel
set_option maxRecDepth 100000 in
theorem bk_w_law_777 : chk 147 779 777 [(.iconst 1, 1, 0, 0, 0, 1, []), (.ireturn, 1, 0, 1, 0, 0, [])] = true := by decide +kernel
