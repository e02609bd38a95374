/-! blocks of the code, by program (f) -/
set_option maxRecDepth 100000 in
theorem bk_j_bitCount_0 : chk 143 10 0 [(.iload_n 0, 1, 0, 0, 0, 0, []), (.iload_n 0, 1, 0, 0, 0, 0, []), (.iconst 1, 1, 0, 0, 0, 1, []), (.iushr, 1, 0, 0, 0, 0, []), (.ldc_w 265, 3, 0, 0, 0, 1431655765, []), (.iand, 1, 0, 0, 0, 0, []), (.isub, 1, 0, 0, 0, 0, []), (.istore_n 0, 1, 0, 0, 0, 0, [])] = true := by decide +kernel
set_option maxRecDepth 100000 in
theorem bk_j_bitCount_10 : chk 143 24 10 [(.iload_n 0, 1, 0, 0, 0, 0, []), (.ldc_w 266, 3, 0, 0, 0, 858993459, []), (.iand, 1, 0, 0, 0, 0, []), (.iload_n 0, 1, 0, 0, 0, 0, []), (.iconst 2, 1, 0, 0, 0, 2, []), (.iushr, 1, 0, 0, 0, 0, []), (.ldc_w 266, 3, 0, 0, 0, 858993459, []), (.iand, 1, 0, 0, 0, 0, []), (.iadd, 1, 0, 0, 0, 0, []), (.istore_n 0, 1, 0, 0, 0, 0, [])] = true := by decide +kernel
set_option maxRecDepth 100000 in
theorem bk_j_bitCount_24 : chk 143 34 24 [(.iload_n 0, 1, 0, 0, 0, 0, []), (.iload_n 0, 1, 0, 0, 0, 0, []), (.iconst 4, 1, 0, 0, 0, 4, []), (.iushr, 1, 0, 0, 0, 0, []), (.iadd, 1, 0, 0, 0, 0, []), (.ldc_w 267, 3, 0, 0, 0, 252645135, []), (.iand, 1, 0, 0, 0, 0, []), (.istore_n 0, 1, 0, 0, 0, 0, [])] = true := by decide +kernel
set_option maxRecDepth 100000 in
theorem bk_j_bitCount_34 : chk 143 41 34 [(.iload_n 0, 1, 0, 0, 0, 0, []), (.iload_n 0, 1, 0, 0, 0, 0, []), (.bipush 8, 2, 0, 0, 0, 8, []), (.iushr, 1, 0, 0, 0, 0, []), (.iadd, 1, 0, 0, 0, 0, []), (.istore_n 0, 1, 0, 0, 0, 0, [])] = true := by decide +kernel
set_option maxRecDepth 100000 in
theorem bk_j_bitCount_41 : chk 143 48 41 [(.iload_n 0, 1, 0, 0, 0, 0, []), (.iload_n 0, 1, 0, 0, 0, 0, []), (.bipush 16, 2, 0, 0, 0, 16, []), (.iushr, 1, 0, 0, 0, 0, []), (.iadd, 1, 0, 0, 0, 0, []), (.istore_n 0, 1, 0, 0, 0, 0, [])] = true := by decide +kernel
set_option maxRecDepth 100000 in
theorem bk_j_bitCount_48 : chk 143 53 48 [(.iload_n 0, 1, 0, 0, 0, 0, []), (.bipush 63, 2, 0, 0, 0, 63, []), (.iand, 1, 0, 0, 0, 0, []), (.ireturn, 1, 0, 0, 0, 0, [])] = true := by decide +kernel
set_option maxRecDepth 100000 in
theorem bk_j_floorMod_0 : chk 144 25 0 [(.lload_n 0, 1, 0, 0, 0, 0, []), (.lload_n 2, 1, 2, 0, 0, 0, []), (.lrem, 1, 0, 0, 0, 0, []), (.lstore 4, 2, 4, 0, 0, 0, []), (.lload_n 0, 1, 0, 0, 0, 0, []), (.lload_n 2, 1, 2, 0, 0, 0, []), (.lxor, 1, 0, 0, 0, 0, []), (.lconst 0, 1, 0, 0, 0, 0, []), (.lcmp, 1, 0, 0, 0, 0, []), (.ifCond .ge 15, 3, 25, 0, 0, 0, []), (.lload 4, 2, 4, 0, 0, 0, []), (.lconst 0, 1, 0, 0, 0, 0, []), (.lcmp, 1, 0, 0, 0, 0, []), (.ifCond .eq 8, 3, 25, 0, 0, 0, []), (.lload 4, 2, 4, 0, 0, 0, []), (.lload_n 2, 1, 2, 0, 0, 0, []), (.ladd, 1, 0, 0, 0, 0, []), (.lreturn, 1, 0, 0, 0, 0, [])] = true := by decide +kernel
set_option maxRecDepth 100000 in
theorem bk_j_floorMod_25 : chk 144 28 25 [(.lload 4, 2, 4, 0, 0, 0, []), (.lreturn, 1, 0, 0, 0, 0, [])] = true := by decide +kernel
set_option maxRecDepth 100000 in
theorem bk_j_max_0 : chk 145 9 0 [(.iload_n 0, 1, 0, 0, 0, 0, []), (.iload_n 1, 1, 1, 0, 0, 0, []), (.if_icmp .lt 7, 3, 9, 0, 0, 0, []), (.iload_n 0, 1, 0, 0, 0, 0, []), (.goto 4, 3, 10, 0, 0, 0, [])] = true := by decide +kernel
set_option maxRecDepth 100000 in
theorem bk_j_max_9 : chk 145 10 9 [(.iload_n 1, 1, 1, 0, 0, 0, [])] = true := by decide +kernel
set_option maxRecDepth 100000 in
theorem bk_j_max_10 : chk 145 11 10 [(.ireturn, 1, 0, 0, 0, 0, [])] = true := by decide +kernel
set_option maxRecDepth 100000 in
theorem bk_j_min_0 : chk 146 9 0 [(.iload_n 0, 1, 0, 0, 0, 0, []), (.iload_n 1, 1, 1, 0, 0, 0, []), (.if_icmp .gt 7, 3, 9, 0, 0, 0, []), (.iload_n 0, 1, 0, 0, 0, 0, []), (.goto 4, 3, 10, 0, 0, 0, [])] = true := by decide +kernel
set_option maxRecDepth 100000 in
theorem bk_j_min_9 : chk 146 10 9 [(.iload_n 1, 1, 1, 0, 0, 0, [])] = true := by decide +kernel
set_option maxRecDepth 100000 in
theorem bk_j_min_10 : chk 146 11 10 [(.ireturn, 1, 0, 0, 0, 0, [])] = true := by decide +kernel
