/-! blocks of the code, by program (a) -/
set_option maxRecDepth 100000 in
theorem bk_r_init_0 : chk 0 29 0 [(.aload_n 0, 1, 0, 0, 0, 0, []), (.invokespecial 3, 3, 0, 0, 0, 0, []), (.aload_n 0, 1, 0, 0, 0, 0, []), (.bipush 6, 2, 0, 0, 0, 6, []), (.newarray .int, 2, 0, 0, 0, 0, []), (.putfield 9, 3, 0, 0, 2, 0, []), (.aload_n 0, 1, 0, 0, 0, 0, []), (.bipush 6, 2, 0, 0, 0, 6, []), (.newarray .int, 2, 0, 0, 0, 0, []), (.putfield 15, 3, 0, 1, 2, 0, []), (.aload_n 0, 1, 0, 0, 0, 0, []), (.bipush 6, 2, 0, 0, 0, 6, []), (.newarray .int, 2, 0, 0, 0, 0, []), (.putfield 18, 3, 0, 2, 2, 0, []), (.return_, 1, 0, 0, 0, 0, [])] = true := by decide +kernel
set_option maxRecDepth 100000 in
theorem bk_r_add_0 : chk 1 15 0 [(.aload_n 0, 1, 0, 0, 0, 0, []), (.getfield 21, 3, 0, 3, 0, 0, []), (.aload_n 0, 1, 0, 0, 0, 0, []), (.getfield 9, 3, 0, 0, 2, 0, []), (.arraylength, 1, 0, 6, 0, 0, []), (.if_icmp .lt 6, 3, 15, 0, 0, 0, []), (.bipush (-3), 2, 0, 0, 0, -3, []), (.ireturn, 1, 0, 0, 0, 0, [])] = true := by decide +kernel
set_option maxRecDepth 100000 in
theorem bk_r_add_15 : chk 1 50 15 [(.aload_n 0, 1, 0, 0, 0, 0, []), (.getfield 9, 3, 0, 0, 2, 0, []), (.aload_n 0, 1, 0, 0, 0, 0, []), (.getfield 21, 3, 0, 3, 0, 0, []), (.iload_n 1, 1, 1, 0, 0, 0, []), (.iastore, 1, 0, 0, 0, 0, []), (.aload_n 0, 1, 0, 0, 0, 0, []), (.getfield 15, 3, 0, 1, 2, 0, []), (.aload_n 0, 1, 0, 0, 0, 0, []), (.getfield 21, 3, 0, 3, 0, 0, []), (.iload_n 2, 1, 2, 0, 0, 0, []), (.iastore, 1, 0, 0, 0, 0, []), (.aload_n 0, 1, 0, 0, 0, 0, []), (.dup, 1, 0, 0, 0, 0, []), (.getfield 21, 3, 0, 3, 0, 0, []), (.iconst 1, 1, 0, 0, 0, 1, []), (.iadd, 1, 0, 0, 0, 0, []), (.putfield 21, 3, 0, 3, 0, 0, []), (.aload_n 0, 1, 0, 0, 0, 0, []), (.getfield 21, 3, 0, 3, 0, 0, []), (.ireturn, 1, 0, 0, 0, 0, [])] = true := by decide +kernel
set_option maxRecDepth 100000 in
theorem bk_r_weigh_0 : chk 2 24 0 [(.aload_n 0, 1, 0, 0, 0, 0, []), (.iconst 0, 1, 0, 0, 0, 0, []), (.putfield 25, 3, 0, 4, 0, 0, []), (.aload_n 0, 1, 0, 0, 0, 0, []), (.iconst 1, 1, 0, 0, 0, 1, []), (.aload_n 1, 1, 1, 0, 0, 0, []), (.getfield 28, 3, 8, 0, 0, 0, []), (.ishl, 1, 0, 0, 0, 0, []), (.iconst 1, 1, 0, 0, 0, 1, []), (.isub, 1, 0, 0, 0, 0, []), (.putfield 33, 3, 0, 5, 0, 0, []), (.aload_n 0, 1, 0, 0, 0, 0, []), (.iconst 0, 1, 0, 0, 0, 0, []), (.putfield 36, 3, 0, 6, 0, 0, []), (.iconst 0, 1, 0, 0, 0, 0, []), (.istore_n 2, 1, 2, 0, 0, 0, [])] = true := by decide +kernel
set_option maxRecDepth 100000 in
theorem bk_r_weigh_24 : chk 2 45 24 [(.iload_n 2, 1, 2, 0, 0, 0, []), (.aload_n 1, 1, 1, 0, 0, 0, []), (.getfield 28, 3, 8, 0, 0, 0, []), (.if_icmp .ge 16, 3, 45, 0, 0, 0, []), (.aload_n 0, 1, 0, 0, 0, 0, []), (.getfield 18, 3, 0, 2, 2, 0, []), (.iload_n 2, 1, 2, 0, 0, 0, []), (.iconst 0, 1, 0, 0, 0, 0, []), (.iastore, 1, 0, 0, 0, 0, []), (.iinc 2 1, 3, 2, 0, 0, 1, []), (.goto (-18), 3, 24, 0, 0, 0, [])] = true := by decide +kernel
set_option maxRecDepth 100000 in
theorem bk_r_weigh_45 : chk 2 47 45 [(.iconst 0, 1, 0, 0, 0, 0, []), (.istore_n 2, 1, 2, 0, 0, 0, [])] = true := by decide +kernel
set_option maxRecDepth 100000 in
theorem bk_r_weigh_47 : chk 2 61 47 [(.iload_n 2, 1, 2, 0, 0, 0, []), (.iconst 1, 1, 0, 0, 0, 1, []), (.aload_n 1, 1, 1, 0, 0, 0, []), (.getfield 28, 3, 8, 0, 0, 0, []), (.ishl, 1, 0, 0, 0, 0, []), (.if_icmp .ge 64, 3, 118, 0, 0, 0, []), (.iload_n 2, 1, 2, 0, 0, 0, []), (.invokestatic 39, 3, 143, 1, 0, 0, [])] = true := by decide +kernel
set_option maxRecDepth 100000 in
theorem bk_r_weigh_61 : chk 2 73 61 [(.aload_n 1, 1, 1, 0, 0, 0, []), (.getfield 45, 3, 8, 9, 0, 0, []), (.if_icmp .gt 47, 3, 112, 0, 0, 0, []), (.aload_n 0, 1, 0, 0, 0, 0, []), (.iload_n 2, 1, 2, 0, 0, 0, []), (.invokevirtual 48, 3, 4, 2, 0, 0, [])] = true := by decide +kernel
set_option maxRecDepth 100000 in
theorem bk_r_weigh_73 : chk 2 112 73 [(.ifCond .eq 39, 3, 112, 0, 0, 0, []), (.aload_n 0, 1, 0, 0, 0, 0, []), (.dup, 1, 0, 0, 0, 0, []), (.getfield 25, 3, 0, 4, 0, 0, []), (.iconst 1, 1, 0, 0, 0, 1, []), (.iadd, 1, 0, 0, 0, 0, []), (.putfield 25, 3, 0, 4, 0, 0, []), (.aload_n 0, 1, 0, 0, 0, 0, []), (.dup, 1, 0, 0, 0, 0, []), (.getfield 33, 3, 0, 5, 0, 0, []), (.iload_n 2, 1, 2, 0, 0, 0, []), (.iand, 1, 0, 0, 0, 0, []), (.putfield 33, 3, 0, 5, 0, 0, []), (.aload_n 0, 1, 0, 0, 0, 0, []), (.dup, 1, 0, 0, 0, 0, []), (.getfield 36, 3, 0, 6, 0, 0, []), (.iload_n 2, 1, 2, 0, 0, 0, []), (.ior, 1, 0, 0, 0, 0, []), (.putfield 36, 3, 0, 6, 0, 0, []), (.aload_n 0, 1, 0, 0, 0, 0, []), (.aload_n 1, 1, 1, 0, 0, 0, []), (.iload_n 2, 1, 2, 0, 0, 0, []), (.invokevirtual 52, 3, 5, 3, 0, 0, [])] = true := by decide +kernel
set_option maxRecDepth 100000 in
theorem bk_r_weigh_112 : chk 2 118 112 [(.iinc 2 1, 3, 2, 0, 0, 1, []), (.goto (-68), 3, 47, 0, 0, 0, [])] = true := by decide +kernel
set_option maxRecDepth 100000 in
theorem bk_r_weigh_118 : chk 2 119 118 [(.return_, 1, 0, 0, 0, 0, [])] = true := by decide +kernel
set_option maxRecDepth 100000 in
theorem bk_r_nextToAsk_0 : chk 3 9 0 [(.bipush (-9), 2, 0, 0, 0, -9, []), (.istore_n 2, 1, 2, 0, 0, 0, []), (.ldc 56, 2, 0, 0, 0, 2147483647, []), (.istore_n 3, 1, 3, 0, 0, 0, []), (.iconst 0, 1, 0, 0, 0, 0, []), (.istore 4, 2, 4, 0, 0, 0, [])] = true := by decide +kernel
set_option maxRecDepth 100000 in
theorem bk_r_nextToAsk_9 : chk 3 48 9 [(.iload 4, 2, 4, 0, 0, 0, []), (.aload_n 1, 1, 1, 0, 0, 0, []), (.getfield 28, 3, 8, 0, 0, 0, []), (.if_icmp .ge 53, 3, 68, 0, 0, 0, []), (.aload_n 0, 1, 0, 0, 0, 0, []), (.getfield 25, 3, 0, 4, 0, 0, []), (.iconst 1, 1, 0, 0, 0, 1, []), (.if_icmp .le 45, 3, 68, 0, 0, 0, []), (.aload_n 0, 1, 0, 0, 0, 0, []), (.getfield 18, 3, 0, 2, 2, 0, []), (.iload 4, 2, 4, 0, 0, 0, []), (.iaload, 1, 0, 0, 0, 0, []), (.aload_n 0, 1, 0, 0, 0, 0, []), (.getfield 25, 3, 0, 4, 0, 0, []), (.aload_n 0, 1, 0, 0, 0, 0, []), (.getfield 18, 3, 0, 2, 2, 0, []), (.iload 4, 2, 4, 0, 0, 0, []), (.iaload, 1, 0, 0, 0, 0, []), (.isub, 1, 0, 0, 0, 0, []), (.invokestatic 57, 3, 145, 2, 0, 0, [])] = true := by decide +kernel
set_option maxRecDepth 100000 in
theorem bk_r_nextToAsk_48 : chk 3 62 48 [(.istore 5, 2, 5, 0, 0, 0, []), (.iload 5, 2, 5, 0, 0, 0, []), (.iload_n 3, 1, 3, 0, 0, 0, []), (.if_icmp .ge 9, 3, 62, 0, 0, 0, []), (.iload 5, 2, 5, 0, 0, 0, []), (.istore_n 3, 1, 3, 0, 0, 0, []), (.iload 4, 2, 4, 0, 0, 0, []), (.istore_n 2, 1, 2, 0, 0, 0, [])] = true := by decide +kernel
set_option maxRecDepth 100000 in
theorem bk_r_nextToAsk_62 : chk 3 68 62 [(.iinc 4 1, 3, 4, 0, 0, 1, []), (.goto (-56), 3, 9, 0, 0, 0, [])] = true := by decide +kernel
set_option maxRecDepth 100000 in
theorem bk_r_nextToAsk_68 : chk 3 70 68 [(.iload_n 2, 1, 2, 0, 0, 0, []), (.ireturn, 1, 0, 0, 0, 0, [])] = true := by decide +kernel
set_option maxRecDepth 100000 in
theorem bk_r_agrees_0 : chk 4 2 0 [(.iconst 0, 1, 0, 0, 0, 0, []), (.istore_n 2, 1, 2, 0, 0, 0, [])] = true := by decide +kernel
set_option maxRecDepth 100000 in
theorem bk_r_agrees_2 : chk 4 21 2 [(.iload_n 2, 1, 2, 0, 0, 0, []), (.aload_n 0, 1, 0, 0, 0, 0, []), (.getfield 21, 3, 0, 3, 0, 0, []), (.if_icmp .ge 31, 3, 38, 0, 0, 0, []), (.iload_n 1, 1, 1, 0, 0, 0, []), (.aload_n 0, 1, 0, 0, 0, 0, []), (.getfield 9, 3, 0, 0, 2, 0, []), (.iload_n 2, 1, 2, 0, 0, 0, []), (.iaload, 1, 0, 0, 0, 0, []), (.iand, 1, 0, 0, 0, 0, []), (.invokestatic 39, 3, 143, 1, 0, 0, [])] = true := by decide +kernel
set_option maxRecDepth 100000 in
theorem bk_r_agrees_21 : chk 4 32 21 [(.aload_n 0, 1, 0, 0, 0, 0, []), (.getfield 15, 3, 0, 1, 2, 0, []), (.iload_n 2, 1, 2, 0, 0, 0, []), (.iaload, 1, 0, 0, 0, 0, []), (.if_icmp .eq 5, 3, 32, 0, 0, 0, []), (.iconst 0, 1, 0, 0, 0, 0, []), (.ireturn, 1, 0, 1, 0, 0, [])] = true := by decide +kernel
set_option maxRecDepth 100000 in
theorem bk_r_agrees_32 : chk 4 38 32 [(.iinc 2 1, 3, 2, 0, 0, 1, []), (.goto (-33), 3, 2, 0, 0, 0, [])] = true := by decide +kernel
set_option maxRecDepth 100000 in
theorem bk_r_agrees_38 : chk 4 40 38 [(.iconst 1, 1, 0, 0, 0, 1, []), (.ireturn, 1, 0, 1, 0, 0, [])] = true := by decide +kernel
set_option maxRecDepth 100000 in
theorem bk_r_countNamesOf_0 : chk 5 2 0 [(.iconst 0, 1, 0, 0, 0, 0, []), (.istore_n 3, 1, 3, 0, 0, 0, [])] = true := by decide +kernel
set_option maxRecDepth 100000 in
theorem bk_r_countNamesOf_2 : chk 5 30 2 [(.iload_n 3, 1, 3, 0, 0, 0, []), (.aload_n 1, 1, 1, 0, 0, 0, []), (.getfield 28, 3, 8, 0, 0, 0, []), (.if_icmp .ge 23, 3, 30, 0, 0, 0, []), (.aload_n 0, 1, 0, 0, 0, 0, []), (.getfield 18, 3, 0, 2, 2, 0, []), (.iload_n 3, 1, 3, 0, 0, 0, []), (.dup2, 1, 0, 0, 0, 0, []), (.iaload, 1, 0, 0, 0, 0, []), (.iload_n 2, 1, 2, 0, 0, 0, []), (.iload_n 3, 1, 3, 0, 0, 0, []), (.ishr, 1, 0, 0, 0, 0, []), (.iconst 1, 1, 0, 0, 0, 1, []), (.iand, 1, 0, 0, 0, 0, []), (.iadd, 1, 0, 0, 0, 0, []), (.iastore, 1, 0, 0, 0, 0, []), (.iinc 3 1, 3, 3, 0, 0, 1, []), (.goto (-25), 3, 2, 0, 0, 0, [])] = true := by decide +kernel
set_option maxRecDepth 100000 in
theorem bk_r_countNamesOf_30 : chk 5 31 30 [(.return_, 1, 0, 0, 0, 0, [])] = true := by decide +kernel
set_option maxRecDepth 100000 in
theorem bk_h_init_0 : chk 6 15 0 [(.aload_n 0, 1, 0, 0, 0, 0, []), (.invokespecial 3, 3, 0, 0, 0, 0, []), (.aload_n 0, 1, 0, 0, 0, 0, []), (.bipush 10, 2, 0, 0, 0, 10, []), (.anewarray 9, 3, 0, 0, 0, 0, []), (.putfield 11, 3, 1, 0, 2, 0, []), (.iconst 0, 1, 0, 0, 0, 0, []), (.istore_n 1, 1, 1, 0, 0, 0, [])] = true := by decide +kernel
set_option maxRecDepth 100000 in
theorem bk_h_init_15 : chk 6 36 15 [(.iload_n 1, 1, 1, 0, 0, 0, []), (.aload_n 0, 1, 0, 0, 0, 0, []), (.getfield 11, 3, 1, 0, 2, 0, []), (.arraylength, 1, 0, 10, 4, 0, []), (.if_icmp .ge 22, 3, 43, 0, 0, 0, []), (.aload_n 0, 1, 0, 0, 0, 0, []), (.getfield 11, 3, 1, 0, 2, 0, []), (.iload_n 1, 1, 1, 0, 0, 0, []), (.new 9, 3, 4, 0, 0, 0, []), (.dup, 1, 0, 0, 0, 0, []), (.invokespecial 17, 3, 18, 1, 5, 0, [])] = true := by decide +kernel
set_option maxRecDepth 100000 in
theorem bk_h_init_36 : chk 6 43 36 [(.aastore, 1, 0, 0, 0, 0, []), (.iinc 1 1, 3, 1, 0, 0, 1, []), (.goto (-25), 3, 15, 0, 0, 0, [])] = true := by decide +kernel
set_option maxRecDepth 100000 in
theorem bk_h_init_43 : chk 6 44 43 [(.return_, 1, 0, 0, 0, 0, [])] = true := by decide +kernel
set_option maxRecDepth 100000 in
theorem bk_h_remember_0 : chk 7 13 0 [(.aload_n 0, 1, 0, 0, 0, 0, []), (.getfield 11, 3, 1, 0, 2, 0, []), (.aload_n 0, 1, 0, 0, 0, 0, []), (.getfield 18, 3, 1, 1, 0, 0, []), (.aaload, 1, 0, 0, 4, 0, []), (.aload_n 1, 1, 1, 0, 0, 0, []), (.invokevirtual 22, 3, 20, 2, 4, 0, [])] = true := by decide +kernel
set_option maxRecDepth 100000 in
theorem bk_h_remember_13 : chk 7 38 13 [(.aload_n 0, 1, 0, 0, 0, 0, []), (.aload_n 0, 1, 0, 0, 0, 0, []), (.getfield 18, 3, 1, 1, 0, 0, []), (.iconst 1, 1, 0, 0, 0, 1, []), (.iadd, 1, 0, 0, 0, 0, []), (.bipush 10, 2, 0, 0, 0, 10, []), (.irem, 1, 0, 0, 0, 0, []), (.putfield 18, 3, 1, 1, 0, 0, []), (.aload_n 0, 1, 0, 0, 0, 0, []), (.aload_n 0, 1, 0, 0, 0, 0, []), (.getfield 26, 3, 1, 2, 0, 0, []), (.iconst 1, 1, 0, 0, 0, 1, []), (.iadd, 1, 0, 0, 0, 0, []), (.bipush 10, 2, 0, 0, 0, 10, []), (.invokestatic 29, 3, 146, 2, 0, 0, [])] = true := by decide +kernel
set_option maxRecDepth 100000 in
theorem bk_h_remember_38 : chk 7 42 38 [(.putfield 26, 3, 1, 2, 0, 0, []), (.return_, 1, 0, 0, 0, 0, [])] = true := by decide +kernel
set_option maxRecDepth 100000 in
theorem bk_h_takeBack_0 : chk 8 29 0 [(.aload_n 0, 1, 0, 0, 0, 0, []), (.aload_n 0, 1, 0, 0, 0, 0, []), (.getfield 18, 3, 1, 1, 0, 0, []), (.bipush 10, 2, 0, 0, 0, 10, []), (.iadd, 1, 0, 0, 0, 0, []), (.iconst 1, 1, 0, 0, 0, 1, []), (.isub, 1, 0, 0, 0, 0, []), (.bipush 10, 2, 0, 0, 0, 10, []), (.irem, 1, 0, 0, 0, 0, []), (.putfield 18, 3, 1, 1, 0, 0, []), (.aload_n 1, 1, 1, 0, 0, 0, []), (.aload_n 0, 1, 0, 0, 0, 0, []), (.getfield 11, 3, 1, 0, 2, 0, []), (.aload_n 0, 1, 0, 0, 0, 0, []), (.getfield 18, 3, 1, 1, 0, 0, []), (.aaload, 1, 0, 0, 4, 0, []), (.invokevirtual 22, 3, 20, 2, 4, 0, [])] = true := by decide +kernel
set_option maxRecDepth 100000 in
theorem bk_h_takeBack_29 : chk 8 40 29 [(.aload_n 0, 1, 0, 0, 0, 0, []), (.dup, 1, 0, 0, 0, 0, []), (.getfield 26, 3, 1, 2, 0, 0, []), (.iconst 1, 1, 0, 0, 0, 1, []), (.isub, 1, 0, 0, 0, 0, []), (.putfield 26, 3, 1, 2, 0, 0, []), (.return_, 1, 0, 0, 0, 0, [])] = true := by decide +kernel
set_option maxRecDepth 100000 in
theorem bk_h_forgetAll_0 : chk 9 6 0 [(.aload_n 0, 1, 0, 0, 0, 0, []), (.iconst 0, 1, 0, 0, 0, 0, []), (.putfield 26, 3, 1, 2, 0, 0, []), (.return_, 1, 0, 0, 0, 0, [])] = true := by decide +kernel
set_option maxRecDepth 100000 in
theorem bk_k_init_0 : chk 10 5 0 [(.aload_n 0, 1, 0, 0, 0, 0, []), (.invokespecial 3, 3, 0, 0, 0, 0, []), (.return_, 1, 0, 0, 0, 0, [])] = true := by decide +kernel
set_option maxRecDepth 100000 in
theorem bk_k_worth_0 : chk 11 12 0 [(.iload_n 1, 1, 1, 0, 0, 0, []), (.ifCond .lt 11, 3, 12, 0, 0, 0, []), (.iload_n 1, 1, 1, 0, 0, 0, []), (.getstatic 9, 3, 0, 0, 0, 0, []), (.arraylength, 1, 1, 0, 0, 0, []), (.if_icmp .lt 8, 3, 17, 0, 0, 0, [])] = true := by decide +kernel
set_option maxRecDepth 100000 in
theorem bk_k_worth_12 : chk 11 17 12 [(.ldc 15, 2, 0, 0, 0, -1000000, []), (.goto 12, 3, 26, 0, 0, 0, [])] = true := by decide +kernel
set_option maxRecDepth 100000 in
theorem bk_k_worth_17 : chk 11 26 17 [(.aload_n 0, 1, 0, 0, 0, 0, []), (.iload_n 1, 1, 1, 0, 0, 0, []), (.iload_n 2, 1, 2, 0, 0, 0, []), (.aload_n 3, 1, 3, 0, 0, 0, []), (.aload 4, 2, 4, 0, 0, 0, []), (.invokevirtual 16, 3, 12, 5, 2, 0, [])] = true := by decide +kernel
set_option maxRecDepth 100000 in
theorem bk_k_worth_26 : chk 11 27 26 [(.ireturn, 1, 0, 0, 0, 0, [])] = true := by decide +kernel
set_option maxRecDepth 100000 in
theorem bk_k_askBody_0 : chk 12 26 0 [(.aload_n 0, 1, 0, 0, 0, 0, []), (.dup, 1, 0, 0, 0, 0, []), (.getfield 20, 3, 2, 0, 1, 0, []), (.getstatic 9, 3, 0, 0, 0, 0, []), (.iload_n 1, 1, 1, 0, 0, 0, []), (.iaload, 1, 0, 1, 0, 0, []), (.i2l, 1, 0, 0, 0, 0, []), (.ladd, 1, 0, 0, 0, 0, []), (.putfield 20, 3, 2, 0, 1, 0, []), (.iload_n 1, 1, 1, 0, 0, 0, []), (.ifCond .ne 10, 3, 26, 0, 0, 0, []), (.aload_n 3, 1, 3, 0, 0, 0, []), (.getfield 24, 3, 8, 1, 2, 0, []), (.iload_n 2, 1, 2, 0, 0, 0, []), (.iaload, 1, 0, 0, 0, 0, []), (.ireturn, 1, 0, 0, 0, 0, [])] = true := by decide +kernel
set_option maxRecDepth 100000 in
theorem bk_k_askBody_26 : chk 12 39 26 [(.aload_n 0, 1, 0, 0, 0, 0, []), (.getstatic 29, 3, 1, 0, 0, 0, []), (.iload_n 1, 1, 1, 0, 0, 0, []), (.iaload, 1, 0, 1, 0, 0, []), (.iload_n 2, 1, 2, 0, 0, 0, []), (.aload_n 3, 1, 3, 0, 0, 0, []), (.aload 4, 2, 4, 0, 0, 0, []), (.invokevirtual 16, 3, 12, 5, 2, 0, [])] = true := by decide +kernel
set_option maxRecDepth 100000 in
theorem bk_k_askBody_39 : chk 12 72 39 [(.istore 5, 2, 5, 0, 0, 0, []), (.iload_n 1, 1, 1, 0, 0, 0, []), (.tableswitch 64 1 4 #[30, 41, 54, 59], 30, 106, 0, 0, 0, [(1, 72), (2, 83), (3, 96), (4, 101)])] = true := by decide +kernel
set_option maxRecDepth 100000 in
theorem bk_k_askBody_72 : chk 12 83 72 [(.iload 5, 2, 5, 0, 0, 0, []), (.aload 4, 2, 4, 0, 0, 0, []), (.getfield 32, 3, 4, 5, 2, 0, []), (.iload_n 2, 1, 2, 0, 0, 0, []), (.iaload, 1, 0, 0, 0, 0, []), (.iadd, 1, 0, 0, 0, 0, []), (.ireturn, 1, 0, 0, 0, 0, [])] = true := by decide +kernel
set_option maxRecDepth 100000 in
theorem bk_k_askBody_83 : chk 12 94 83 [(.iload 5, 2, 5, 0, 0, 0, []), (.aload_n 3, 1, 3, 0, 0, 0, []), (.getfield 37, 3, 8, 3, 2, 0, []), (.iload_n 2, 1, 2, 0, 0, 0, []), (.iaload, 1, 0, 0, 0, 0, []), (.invokestatic 40, 3, 143, 1, 0, 0, [])] = true := by decide +kernel
set_option maxRecDepth 100000 in
theorem bk_k_askBody_94 : chk 12 96 94 [(.isub, 1, 0, 0, 0, 0, []), (.ireturn, 1, 0, 0, 0, 0, [])] = true := by decide +kernel
set_option maxRecDepth 100000 in
theorem bk_k_askBody_96 : chk 12 101 96 [(.iconst 2, 1, 0, 0, 0, 2, []), (.iload 5, 2, 5, 0, 0, 0, []), (.imul, 1, 0, 0, 0, 0, []), (.ireturn, 1, 0, 0, 0, 0, [])] = true := by decide +kernel
set_option maxRecDepth 100000 in
theorem bk_k_askBody_101 : chk 12 106 101 [(.iload 5, 2, 5, 0, 0, 0, []), (.iload_n 2, 1, 2, 0, 0, 0, []), (.iadd, 1, 0, 0, 0, 0, []), (.ireturn, 1, 0, 0, 0, 0, [])] = true := by decide +kernel
set_option maxRecDepth 100000 in
theorem bk_k_askBody_106 : chk 12 115 106 [(.iload 5, 2, 5, 0, 0, 0, []), (.aload 4, 2, 4, 0, 0, 0, []), (.getfield 46, 3, 4, 4, 0, 0, []), (.iadd, 1, 0, 0, 0, 0, []), (.ireturn, 1, 0, 0, 0, 0, [])] = true := by decide +kernel
set_option maxRecDepth 100000 in
theorem bk_l_init_0 : chk 13 12 0 [(.aload_n 0, 1, 0, 0, 0, 0, []), (.invokespecial 3, 3, 0, 0, 0, 0, []), (.aload_n 0, 1, 0, 0, 0, 0, []), (.new 9, 3, 4, 0, 0, 0, []), (.dup, 1, 0, 0, 0, 0, []), (.invokespecial 11, 3, 18, 1, 5, 0, [])] = true := by decide +kernel
set_option maxRecDepth 100000 in
theorem bk_l_init_12 : chk 13 16 12 [(.putfield 12, 3, 3, 0, 2, 0, []), (.return_, 1, 0, 0, 0, 0, [])] = true := by decide +kernel
set_option maxRecDepth 100000 in
theorem bk_l_harm_0 : chk 14 8 0 [(.aload_n 0, 1, 0, 0, 0, 0, []), (.getfield 12, 3, 3, 0, 2, 0, []), (.aload_n 2, 1, 2, 0, 0, 0, []), (.invokevirtual 18, 3, 20, 2, 4, 0, [])] = true := by decide +kernel
set_option maxRecDepth 100000 in
theorem bk_l_harm_8 : chk 14 17 8 [(.iconst 0, 1, 0, 0, 0, 0, []), (.istore 4, 2, 4, 0, 0, 0, []), (.aload_n 2, 1, 2, 0, 0, 0, []), (.getfield 22, 3, 4, 0, 0, 0, []), (.istore 5, 2, 5, 0, 0, 0, [])] = true := by decide +kernel
set_option maxRecDepth 100000 in
theorem bk_l_harm_17 : chk 14 30 17 [(.iload 5, 2, 5, 0, 0, 0, []), (.bipush 12, 2, 0, 0, 0, 12, []), (.if_icmp .ge 68, 3, 89, 0, 0, 0, []), (.aload_n 0, 1, 0, 0, 0, 0, []), (.aload_n 1, 1, 1, 0, 0, 0, []), (.iload_n 3, 1, 3, 0, 0, 0, []), (.invokevirtual 26, 3, 16, 3, 3, 0, [])] = true := by decide +kernel
set_option maxRecDepth 100000 in
theorem bk_l_harm_30 : chk 14 35 30 [(.istore 6, 2, 6, 0, 0, 0, []), (.iconst 0, 1, 0, 0, 0, 0, []), (.istore 7, 2, 7, 0, 0, 0, [])] = true := by decide +kernel
set_option maxRecDepth 100000 in
theorem bk_l_harm_35 : chk 14 70 35 [(.iload 7, 2, 7, 0, 0, 0, []), (.aload_n 1, 1, 1, 0, 0, 0, []), (.getfield 30, 3, 8, 0, 0, 0, []), (.if_icmp .ge 42, 3, 83, 0, 0, 0, []), (.iload 4, 2, 4, 0, 0, 0, []), (.aload_n 0, 1, 0, 0, 0, 0, []), (.getfield 12, 3, 3, 0, 2, 0, []), (.aload_n 1, 1, 1, 0, 0, 0, []), (.iload 7, 2, 7, 0, 0, 0, []), (.iload 5, 2, 5, 0, 0, 0, []), (.iload 6, 2, 6, 0, 0, 0, []), (.iload 7, 2, 7, 0, 0, 0, []), (.ishr, 1, 0, 0, 0, 0, []), (.iconst 1, 1, 0, 0, 0, 1, []), (.iand, 1, 0, 0, 0, 0, []), (.iconst 1, 1, 0, 0, 0, 1, []), (.if_icmp .ne 7, 3, 70, 0, 0, 0, []), (.iconst 1, 1, 0, 0, 0, 1, []), (.goto 4, 3, 71, 0, 0, 0, [])] = true := by decide +kernel
set_option maxRecDepth 100000 in
theorem bk_l_harm_70 : chk 14 71 70 [(.iconst 0, 1, 0, 0, 0, 0, [])] = true := by decide +kernel
set_option maxRecDepth 100000 in
theorem bk_l_harm_71 : chk 14 74 71 [(.invokevirtual 35, 3, 28, 5, 4, 0, [])] = true := by decide +kernel
set_option maxRecDepth 100000 in
theorem bk_l_harm_74 : chk 14 83 74 [(.iadd, 1, 0, 0, 0, 0, []), (.istore 4, 2, 4, 0, 0, 0, []), (.iinc 7 1, 3, 7, 0, 0, 1, []), (.goto (-45), 3, 35, 0, 0, 0, [])] = true := by decide +kernel
set_option maxRecDepth 100000 in
theorem bk_l_harm_83 : chk 14 89 83 [(.iinc 5 1, 3, 5, 0, 0, 1, []), (.goto (-69), 3, 17, 0, 0, 0, [])] = true := by decide +kernel
set_option maxRecDepth 100000 in
theorem bk_l_harm_89 : chk 14 92 89 [(.iload 4, 2, 4, 0, 0, 0, []), (.ireturn, 1, 0, 0, 0, 0, [])] = true := by decide +kernel
set_option maxRecDepth 100000 in
theorem bk_l_best_0 : chk 15 9 0 [(.iconst 0, 1, 0, 0, 0, 0, []), (.istore_n 3, 1, 3, 0, 0, 0, []), (.ldc 41, 2, 0, 0, 0, 2147483647, []), (.istore 4, 2, 4, 0, 0, 0, []), (.iconst 0, 1, 0, 0, 0, 0, []), (.istore 5, 2, 5, 0, 0, 0, [])] = true := by decide +kernel
set_option maxRecDepth 100000 in
theorem bk_l_best_9 : chk 15 24 9 [(.iload 5, 2, 5, 0, 0, 0, []), (.bipush 30, 2, 0, 0, 0, 30, []), (.if_icmp .gt 33, 3, 46, 0, 0, 0, []), (.aload_n 0, 1, 0, 0, 0, 0, []), (.aload_n 1, 1, 1, 0, 0, 0, []), (.aload_n 2, 1, 2, 0, 0, 0, []), (.iload 5, 2, 5, 0, 0, 0, []), (.invokevirtual 42, 3, 14, 4, 3, 0, [])] = true := by decide +kernel
set_option maxRecDepth 100000 in
theorem bk_l_best_24 : chk 15 40 24 [(.istore 6, 2, 6, 0, 0, 0, []), (.iload 6, 2, 6, 0, 0, 0, []), (.iload 4, 2, 4, 0, 0, 0, []), (.if_icmp .ge 10, 3, 40, 0, 0, 0, []), (.iload 6, 2, 6, 0, 0, 0, []), (.istore 4, 2, 4, 0, 0, 0, []), (.iload 5, 2, 5, 0, 0, 0, []), (.istore_n 3, 1, 3, 0, 0, 0, [])] = true := by decide +kernel
set_option maxRecDepth 100000 in
theorem bk_l_best_40 : chk 15 46 40 [(.iinc 5 1, 3, 5, 0, 0, 1, []), (.goto (-34), 3, 9, 0, 0, 0, [])] = true := by decide +kernel
set_option maxRecDepth 100000 in
theorem bk_l_best_46 : chk 15 48 46 [(.iload_n 3, 1, 3, 0, 0, 0, []), (.ireturn, 1, 0, 0, 0, 0, [])] = true := by decide +kernel
set_option maxRecDepth 100000 in
theorem bk_l_grazers_0 : chk 16 5 0 [(.iconst 0, 1, 0, 0, 0, 0, []), (.istore_n 3, 1, 3, 0, 0, 0, []), (.iconst 0, 1, 0, 0, 0, 0, []), (.istore 4, 2, 4, 0, 0, 0, [])] = true := by decide +kernel
set_option maxRecDepth 100000 in
theorem bk_l_grazers_5 : chk 16 21 5 [(.iload 4, 2, 4, 0, 0, 0, []), (.aload_n 1, 1, 1, 0, 0, 0, []), (.getfield 46, 3, 8, 9, 0, 0, []), (.if_icmp .ge 32, 3, 43, 0, 0, 0, []), (.aload_n 0, 1, 0, 0, 0, 0, []), (.aload_n 1, 1, 1, 0, 0, 0, []), (.iload_n 2, 1, 2, 0, 0, 0, []), (.iload_n 3, 1, 3, 0, 0, 0, []), (.invokevirtual 49, 3, 17, 4, 3, 0, [])] = true := by decide +kernel
set_option maxRecDepth 100000 in
theorem bk_l_grazers_21 : chk 16 37 21 [(.istore 5, 2, 5, 0, 0, 0, []), (.iload 5, 2, 5, 0, 0, 0, []), (.bipush (-9), 2, 0, 0, 0, -9, []), (.if_icmp .eq 10, 3, 37, 0, 0, 0, []), (.iload_n 3, 1, 3, 0, 0, 0, []), (.iconst 1, 1, 0, 0, 0, 1, []), (.iload 5, 2, 5, 0, 0, 0, []), (.ishl, 1, 0, 0, 0, 0, []), (.ior, 1, 0, 0, 0, 0, []), (.istore_n 3, 1, 3, 0, 0, 0, [])] = true := by decide +kernel
set_option maxRecDepth 100000 in
theorem bk_l_grazers_37 : chk 16 43 37 [(.iinc 4 1, 3, 4, 0, 0, 1, []), (.goto (-35), 3, 5, 0, 0, 0, [])] = true := by decide +kernel
set_option maxRecDepth 100000 in
theorem bk_l_grazers_43 : chk 16 45 43 [(.iload_n 3, 1, 3, 0, 0, 0, []), (.ireturn, 1, 0, 0, 0, 0, [])] = true := by decide +kernel
set_option maxRecDepth 100000 in
theorem bk_l_mostTired_0 : chk 17 12 0 [(.iload_n 2, 1, 2, 0, 0, 0, []), (.iconst 1, 1, 0, 0, 0, 1, []), (.isub, 1, 0, 0, 0, 0, []), (.istore 4, 2, 4, 0, 0, 0, []), (.bipush (-9), 2, 0, 0, 0, -9, []), (.istore 5, 2, 5, 0, 0, 0, []), (.iconst 0, 1, 0, 0, 0, 0, []), (.istore 6, 2, 6, 0, 0, 0, [])] = true := by decide +kernel
set_option maxRecDepth 100000 in
theorem bk_l_mostTired_12 : chk 17 39 12 [(.iload 6, 2, 6, 0, 0, 0, []), (.aload_n 1, 1, 1, 0, 0, 0, []), (.getfield 30, 3, 8, 0, 0, 0, []), (.if_icmp .ge 61, 3, 79, 0, 0, 0, []), (.iload_n 3, 1, 3, 0, 0, 0, []), (.iload 6, 2, 6, 0, 0, 0, []), (.ishr, 1, 0, 0, 0, 0, []), (.iconst 1, 1, 0, 0, 0, 1, []), (.iand, 1, 0, 0, 0, 0, []), (.ifCond .ne 46, 3, 73, 0, 0, 0, []), (.aload_n 0, 1, 0, 0, 0, 0, []), (.getfield 12, 3, 3, 0, 2, 0, []), (.iload 6, 2, 6, 0, 0, 0, []), (.invokevirtual 53, 3, 22, 2, 4, 0, [])] = true := by decide +kernel
set_option maxRecDepth 100000 in
theorem bk_l_mostTired_39 : chk 17 73 39 [(.ifCond .ne 34, 3, 73, 0, 0, 0, []), (.aload_n 0, 1, 0, 0, 0, 0, []), (.getfield 12, 3, 3, 0, 2, 0, []), (.getfield 57, 3, 4, 5, 2, 0, []), (.iload 6, 2, 6, 0, 0, 0, []), (.iaload, 1, 0, 0, 0, 0, []), (.iload 4, 2, 4, 0, 0, 0, []), (.if_icmp .le 19, 3, 73, 0, 0, 0, []), (.aload_n 0, 1, 0, 0, 0, 0, []), (.getfield 12, 3, 3, 0, 2, 0, []), (.getfield 57, 3, 4, 5, 2, 0, []), (.iload 6, 2, 6, 0, 0, 0, []), (.iaload, 1, 0, 0, 0, 0, []), (.istore 4, 2, 4, 0, 0, 0, []), (.iload 6, 2, 6, 0, 0, 0, []), (.istore 5, 2, 5, 0, 0, 0, [])] = true := by decide +kernel
set_option maxRecDepth 100000 in
theorem bk_l_mostTired_73 : chk 17 79 73 [(.iinc 6 1, 3, 6, 0, 0, 1, []), (.goto (-64), 3, 12, 0, 0, 0, [])] = true := by decide +kernel
set_option maxRecDepth 100000 in
theorem bk_l_mostTired_79 : chk 17 82 79 [(.iload 5, 2, 5, 0, 0, 0, []), (.ireturn, 1, 0, 0, 0, 0, [])] = true := by decide +kernel
set_option maxRecDepth 100000 in
theorem bk_n_init_0 : chk 18 13 0 [(.aload_n 0, 1, 0, 0, 0, 0, []), (.invokespecial 3, 3, 0, 0, 0, 0, []), (.aload_n 0, 1, 0, 0, 0, 0, []), (.bipush 6, 2, 0, 0, 0, 6, []), (.newarray .int, 2, 0, 0, 0, 0, []), (.putfield 9, 3, 4, 5, 2, 0, []), (.return_, 1, 0, 0, 0, 0, [])] = true := by decide +kernel
set_option maxRecDepth 100000 in
theorem bk_n_begin_0 : chk 19 41 0 [(.aload_n 0, 1, 0, 0, 0, 0, []), (.iconst 0, 1, 0, 0, 0, 0, []), (.putfield 15, 3, 4, 0, 0, 0, []), (.aload_n 0, 1, 0, 0, 0, 0, []), (.iconst 0, 1, 0, 0, 0, 0, []), (.putfield 19, 3, 4, 1, 0, 0, []), (.aload_n 0, 1, 0, 0, 0, 0, []), (.iconst 0, 1, 0, 0, 0, 0, []), (.putfield 22, 3, 4, 2, 0, 0, []), (.aload_n 0, 1, 0, 0, 0, 0, []), (.iconst 0, 1, 0, 0, 0, 0, []), (.putfield 25, 3, 4, 3, 0, 0, []), (.aload_n 0, 1, 0, 0, 0, 0, []), (.iconst 0, 1, 0, 0, 0, 0, []), (.putfield 28, 3, 4, 4, 0, 0, []), (.aload_n 1, 1, 1, 0, 0, 0, []), (.getfield 31, 3, 8, 2, 2, 0, []), (.iconst 0, 1, 0, 0, 0, 0, []), (.aload_n 0, 1, 0, 0, 0, 0, []), (.getfield 9, 3, 4, 5, 2, 0, []), (.iconst 0, 1, 0, 0, 0, 0, []), (.bipush 6, 2, 0, 0, 0, 6, []), (.invokestatic 36, 3, 0, 0, 1, 0, []), (.return_, 1, 0, 0, 0, 0, [])] = true := by decide +kernel
set_option maxRecDepth 100000 in
theorem bk_n_become_0 : chk 20 56 0 [(.aload_n 0, 1, 0, 0, 0, 0, []), (.aload_n 1, 1, 1, 0, 0, 0, []), (.getfield 15, 3, 4, 0, 0, 0, []), (.putfield 15, 3, 4, 0, 0, 0, []), (.aload_n 0, 1, 0, 0, 0, 0, []), (.aload_n 1, 1, 1, 0, 0, 0, []), (.getfield 19, 3, 4, 1, 0, 0, []), (.putfield 19, 3, 4, 1, 0, 0, []), (.aload_n 0, 1, 0, 0, 0, 0, []), (.aload_n 1, 1, 1, 0, 0, 0, []), (.getfield 22, 3, 4, 2, 0, 0, []), (.putfield 22, 3, 4, 2, 0, 0, []), (.aload_n 0, 1, 0, 0, 0, 0, []), (.aload_n 1, 1, 1, 0, 0, 0, []), (.getfield 25, 3, 4, 3, 0, 0, []), (.putfield 25, 3, 4, 3, 0, 0, []), (.aload_n 0, 1, 0, 0, 0, 0, []), (.aload_n 1, 1, 1, 0, 0, 0, []), (.getfield 28, 3, 4, 4, 0, 0, []), (.putfield 28, 3, 4, 4, 0, 0, []), (.aload_n 1, 1, 1, 0, 0, 0, []), (.getfield 9, 3, 4, 5, 2, 0, []), (.iconst 0, 1, 0, 0, 0, 0, []), (.aload_n 0, 1, 0, 0, 0, 0, []), (.getfield 9, 3, 4, 5, 2, 0, []), (.iconst 0, 1, 0, 0, 0, 0, []), (.bipush 6, 2, 0, 0, 0, 6, []), (.invokestatic 36, 3, 0, 0, 1, 0, []), (.return_, 1, 0, 0, 0, 0, [])] = true := by decide +kernel
set_option maxRecDepth 100000 in
theorem bk_n_grazes_0 : chk 21 16 0 [(.aload_n 0, 1, 0, 0, 0, 0, []), (.getfield 19, 3, 4, 1, 0, 0, []), (.iload_n 1, 1, 1, 0, 0, 0, []), (.ishr, 1, 0, 0, 0, 0, []), (.iconst 1, 1, 0, 0, 0, 1, []), (.iand, 1, 0, 0, 0, 0, []), (.iconst 1, 1, 0, 0, 0, 1, []), (.if_icmp .ne 7, 3, 16, 0, 0, 0, []), (.iconst 1, 1, 0, 0, 0, 1, []), (.goto 4, 3, 17, 0, 0, 0, [])] = true := by decide +kernel
set_option maxRecDepth 100000 in
theorem bk_n_grazes_16 : chk 21 17 16 [(.iconst 0, 1, 0, 0, 0, 0, [])] = true := by decide +kernel
set_option maxRecDepth 100000 in
theorem bk_n_grazes_17 : chk 21 18 17 [(.ireturn, 1, 0, 1, 0, 0, [])] = true := by decide +kernel
set_option maxRecDepth 100000 in
theorem bk_n_isLost_0 : chk 22 16 0 [(.aload_n 0, 1, 0, 0, 0, 0, []), (.getfield 22, 3, 4, 2, 0, 0, []), (.iload_n 1, 1, 1, 0, 0, 0, []), (.ishr, 1, 0, 0, 0, 0, []), (.iconst 1, 1, 0, 0, 0, 1, []), (.iand, 1, 0, 0, 0, 0, []), (.iconst 1, 1, 0, 0, 0, 1, []), (.if_icmp .ne 7, 3, 16, 0, 0, 0, []), (.iconst 1, 1, 0, 0, 0, 1, []), (.goto 4, 3, 17, 0, 0, 0, [])] = true := by decide +kernel
set_option maxRecDepth 100000 in
theorem bk_n_isLost_16 : chk 22 17 16 [(.iconst 0, 1, 0, 0, 0, 0, [])] = true := by decide +kernel
set_option maxRecDepth 100000 in
theorem bk_n_isLost_17 : chk 22 18 17 [(.ireturn, 1, 0, 1, 0, 0, [])] = true := by decide +kernel
set_option maxRecDepth 100000 in
theorem bk_n_isMet_0 : chk 23 16 0 [(.aload_n 0, 1, 0, 0, 0, 0, []), (.getfield 25, 3, 4, 3, 0, 0, []), (.iload_n 1, 1, 1, 0, 0, 0, []), (.ishr, 1, 0, 0, 0, 0, []), (.iconst 1, 1, 0, 0, 0, 1, []), (.iand, 1, 0, 0, 0, 0, []), (.iconst 1, 1, 0, 0, 0, 1, []), (.if_icmp .ne 7, 3, 16, 0, 0, 0, []), (.iconst 1, 1, 0, 0, 0, 1, []), (.goto 4, 3, 17, 0, 0, 0, [])] = true := by decide +kernel
set_option maxRecDepth 100000 in
theorem bk_n_isMet_16 : chk 23 17 16 [(.iconst 0, 1, 0, 0, 0, 0, [])] = true := by decide +kernel
set_option maxRecDepth 100000 in
theorem bk_n_isMet_17 : chk 23 18 17 [(.ireturn, 1, 0, 1, 0, 0, [])] = true := by decide +kernel
set_option maxRecDepth 100000 in
theorem bk_n_bears_0 : chk 24 26 0 [(.aload_n 0, 1, 0, 0, 0, 0, []), (.getfield 9, 3, 4, 5, 2, 0, []), (.iload_n 2, 1, 2, 0, 0, 0, []), (.iaload, 1, 0, 0, 0, 0, []), (.aload_n 1, 1, 1, 0, 0, 0, []), (.getfield 42, 3, 8, 7, 2, 0, []), (.iload_n 3, 1, 3, 0, 0, 0, []), (.iaload, 1, 0, 0, 0, 0, []), (.iadd, 1, 0, 0, 0, 0, []), (.aload_n 1, 1, 1, 0, 0, 0, []), (.getfield 45, 3, 8, 1, 2, 0, []), (.iload_n 2, 1, 2, 0, 0, 0, []), (.iaload, 1, 0, 0, 0, 0, []), (.if_icmp .gt 7, 3, 26, 0, 0, 0, []), (.iconst 1, 1, 0, 0, 0, 1, []), (.goto 4, 3, 27, 0, 0, 0, [])] = true := by decide +kernel
set_option maxRecDepth 100000 in
theorem bk_n_bears_26 : chk 24 27 26 [(.iconst 0, 1, 0, 0, 0, 0, [])] = true := by decide +kernel
set_option maxRecDepth 100000 in
theorem bk_n_bears_27 : chk 24 28 27 [(.ireturn, 1, 0, 1, 0, 0, [])] = true := by decide +kernel
set_option maxRecDepth 100000 in
theorem bk_n_rest_0 : chk 25 20 0 [(.aload_n 0, 1, 0, 0, 0, 0, []), (.getfield 9, 3, 4, 5, 2, 0, []), (.iload_n 2, 1, 2, 0, 0, 0, []), (.iconst 0, 1, 0, 0, 0, 0, []), (.aload_n 0, 1, 0, 0, 0, 0, []), (.getfield 9, 3, 4, 5, 2, 0, []), (.iload_n 2, 1, 2, 0, 0, 0, []), (.iaload, 1, 0, 0, 0, 0, []), (.aload_n 1, 1, 1, 0, 0, 0, []), (.getfield 48, 3, 8, 10, 0, 0, []), (.isub, 1, 0, 0, 0, 0, []), (.invokestatic 51, 3, 145, 2, 0, 0, [])] = true := by decide +kernel
set_option maxRecDepth 100000 in
theorem bk_n_rest_20 : chk 25 22 20 [(.iastore, 1, 0, 0, 0, 0, []), (.return_, 1, 0, 0, 0, 0, [])] = true := by decide +kernel
set_option maxRecDepth 100000 in
theorem bk_n_goBy_0 : chk 26 2 0 [(.iconst 0, 1, 0, 0, 0, 0, []), (.istore_n 3, 1, 3, 0, 0, 0, [])] = true := by decide +kernel
set_option maxRecDepth 100000 in
theorem bk_n_goBy_2 : chk 26 28 2 [(.iload_n 3, 1, 3, 0, 0, 0, []), (.aload_n 1, 1, 1, 0, 0, 0, []), (.getfield 57, 3, 8, 4, 0, 0, []), (.if_icmp .ge 45, 3, 52, 0, 0, 0, []), (.aload_n 1, 1, 1, 0, 0, 0, []), (.getfield 60, 3, 8, 5, 2, 0, []), (.iload_n 3, 1, 3, 0, 0, 0, []), (.iaload, 1, 0, 0, 0, 0, []), (.aload_n 0, 1, 0, 0, 0, 0, []), (.getfield 15, 3, 4, 0, 0, 0, []), (.if_icmp .ne 26, 3, 46, 0, 0, 0, []), (.aload_n 0, 1, 0, 0, 0, 0, []), (.iload_n 3, 1, 3, 0, 0, 0, []), (.invokevirtual 63, 3, 23, 2, 4, 0, [])] = true := by decide +kernel
set_option maxRecDepth 100000 in
theorem bk_n_goBy_28 : chk 26 46 28 [(.ifCond .ne 18, 3, 46, 0, 0, 0, []), (.aload_n 0, 1, 0, 0, 0, 0, []), (.dup, 1, 0, 0, 0, 0, []), (.getfield 28, 3, 4, 4, 0, 0, []), (.aload_n 1, 1, 1, 0, 0, 0, []), (.getfield 67, 3, 8, 8, 2, 0, []), (.iload_n 3, 1, 3, 0, 0, 0, []), (.iaload, 1, 0, 0, 0, 0, []), (.iadd, 1, 0, 0, 0, 0, []), (.putfield 28, 3, 4, 4, 0, 0, [])] = true := by decide +kernel
set_option maxRecDepth 100000 in
theorem bk_n_goBy_46 : chk 26 52 46 [(.iinc 3 1, 3, 3, 0, 0, 1, []), (.goto (-47), 3, 2, 0, 0, 0, [])] = true := by decide +kernel
set_option maxRecDepth 100000 in
theorem bk_n_goBy_52 : chk 26 57 52 [(.iconst 0, 1, 0, 0, 0, 0, []), (.istore_n 3, 1, 3, 0, 0, 0, []), (.iconst 0, 1, 0, 0, 0, 0, []), (.istore 4, 2, 4, 0, 0, 0, [])] = true := by decide +kernel
set_option maxRecDepth 100000 in
theorem bk_n_goBy_57 : chk 26 72 57 [(.iload 4, 2, 4, 0, 0, 0, []), (.aload_n 1, 1, 1, 0, 0, 0, []), (.getfield 69, 3, 8, 0, 0, 0, []), (.if_icmp .ge 70, 3, 133, 0, 0, 0, []), (.aload_n 0, 1, 0, 0, 0, 0, []), (.iload 4, 2, 4, 0, 0, 0, []), (.invokevirtual 72, 3, 21, 2, 4, 0, [])] = true := by decide +kernel
set_option maxRecDepth 100000 in
theorem bk_n_goBy_72 : chk 26 82 72 [(.ifCond .eq 55, 3, 127, 0, 0, 0, []), (.aload_n 0, 1, 0, 0, 0, 0, []), (.aload_n 1, 1, 1, 0, 0, 0, []), (.iload 4, 2, 4, 0, 0, 0, []), (.invokevirtual 75, 3, 25, 3, 4, 0, [])] = true := by decide +kernel
set_option maxRecDepth 100000 in
theorem bk_n_goBy_82 : chk 26 89 82 [(.aload_n 0, 1, 0, 0, 0, 0, []), (.iload_n 2, 1, 2, 0, 0, 0, []), (.iload 4, 2, 4, 0, 0, 0, []), (.invokevirtual 78, 3, 27, 3, 4, 0, [])] = true := by decide +kernel
set_option maxRecDepth 100000 in
theorem bk_n_goBy_89 : chk 26 127 89 [(.aload_n 1, 1, 1, 0, 0, 0, []), (.getfield 81, 3, 8, 11, 0, 0, []), (.if_icmp .ge 34, 3, 127, 0, 0, 0, []), (.aload_n 0, 1, 0, 0, 0, 0, []), (.dup, 1, 0, 0, 0, 0, []), (.getfield 19, 3, 4, 1, 0, 0, []), (.iconst 1, 1, 0, 0, 0, 1, []), (.iload 4, 2, 4, 0, 0, 0, []), (.ishl, 1, 0, 0, 0, 0, []), (.iconst (-1), 1, 0, 0, 0, -1, []), (.ixor, 1, 0, 0, 0, 0, []), (.iand, 1, 0, 0, 0, 0, []), (.putfield 19, 3, 4, 1, 0, 0, []), (.aload_n 0, 1, 0, 0, 0, 0, []), (.dup, 1, 0, 0, 0, 0, []), (.getfield 22, 3, 4, 2, 0, 0, []), (.iconst 1, 1, 0, 0, 0, 1, []), (.iload 4, 2, 4, 0, 0, 0, []), (.ishl, 1, 0, 0, 0, 0, []), (.ior, 1, 0, 0, 0, 0, []), (.putfield 22, 3, 4, 2, 0, 0, []), (.iinc 3 1, 3, 3, 0, 0, 1, [])] = true := by decide +kernel
set_option maxRecDepth 100000 in
theorem bk_n_goBy_127 : chk 26 133 127 [(.iinc 4 1, 3, 4, 0, 0, 1, []), (.goto (-73), 3, 57, 0, 0, 0, [])] = true := by decide +kernel
set_option maxRecDepth 100000 in
theorem bk_n_goBy_133 : chk 26 145 133 [(.aload_n 0, 1, 0, 0, 0, 0, []), (.dup, 1, 0, 0, 0, 0, []), (.getfield 15, 3, 4, 0, 0, 0, []), (.iconst 1, 1, 0, 0, 0, 1, []), (.iadd, 1, 0, 0, 0, 0, []), (.putfield 15, 3, 4, 0, 0, 0, []), (.iload_n 3, 1, 3, 0, 0, 0, []), (.ireturn, 1, 0, 0, 0, 0, [])] = true := by decide +kernel
set_option maxRecDepth 100000 in
theorem bk_n_draw_0 : chk 27 43 0 [(.ldc2_w 84, 3, 0, 0, 0, 7919, []), (.iload_n 1, 1, 1, 0, 0, 0, []), (.i2l, 1, 0, 0, 0, 0, []), (.lmul, 1, 0, 0, 0, 0, []), (.ldc2_w 86, 3, 0, 0, 0, 6151, []), (.iload_n 2, 1, 2, 0, 0, 0, []), (.i2l, 1, 0, 0, 0, 0, []), (.lmul, 1, 0, 0, 0, 0, []), (.ladd, 1, 0, 0, 0, 0, []), (.ldc2_w 88, 3, 0, 0, 0, 12289, []), (.aload_n 0, 1, 0, 0, 0, 0, []), (.getfield 15, 3, 4, 0, 0, 0, []), (.i2l, 1, 0, 0, 0, 0, []), (.lmul, 1, 0, 0, 0, 0, []), (.ladd, 1, 0, 0, 0, 0, []), (.lconst 1, 1, 0, 0, 0, 1, []), (.ladd, 1, 0, 0, 0, 0, []), (.lstore_n 3, 1, 3, 0, 0, 0, []), (.lload_n 3, 1, 3, 0, 0, 0, []), (.lload_n 3, 1, 3, 0, 0, 0, []), (.lmul, 1, 0, 0, 0, 0, []), (.ldc2_w 90, 3, 0, 0, 0, 65521, []), (.lrem, 1, 0, 0, 0, 0, []), (.ldc2_w 92, 3, 0, 0, 0, 8, []), (.ldiv, 1, 0, 0, 0, 0, []), (.ldc2_w 94, 3, 0, 0, 0, 10, []), (.lrem, 1, 0, 0, 0, 0, []), (.l2i, 1, 0, 0, 0, 0, []), (.ireturn, 1, 0, 0, 0, 0, [])] = true := by decide +kernel
set_option maxRecDepth 100000 in
theorem bk_n_live_0 : chk 28 10 0 [(.iload 4, 2, 4, 0, 0, 0, []), (.ifCond .ne 11, 3, 13, 0, 0, 0, []), (.aload_n 0, 1, 0, 0, 0, 0, []), (.iload_n 2, 1, 2, 0, 0, 0, []), (.invokevirtual 96, 3, 22, 2, 4, 0, [])] = true := by decide +kernel
set_option maxRecDepth 100000 in
theorem bk_n_live_10 : chk 28 13 10 [(.ifCond .eq 7, 3, 17, 0, 0, 0, [])] = true := by decide +kernel
set_option maxRecDepth 100000 in
theorem bk_n_live_13 : chk 28 17 13 [(.iconst 1, 1, 0, 0, 0, 1, []), (.goto 4, 3, 18, 0, 0, 0, [])] = true := by decide +kernel
set_option maxRecDepth 100000 in
theorem bk_n_live_17 : chk 28 18 17 [(.iconst 0, 1, 0, 0, 0, 0, [])] = true := by decide +kernel
set_option maxRecDepth 100000 in
theorem bk_n_live_18 : chk 28 26 18 [(.istore 5, 2, 5, 0, 0, 0, []), (.iconst 0, 1, 0, 0, 0, 0, []), (.istore 6, 2, 6, 0, 0, 0, []), (.iconst 0, 1, 0, 0, 0, 0, []), (.istore 7, 2, 7, 0, 0, 0, [])] = true := by decide +kernel
set_option maxRecDepth 100000 in
theorem bk_n_live_26 : chk 28 63 26 [(.iload 7, 2, 7, 0, 0, 0, []), (.aload_n 1, 1, 1, 0, 0, 0, []), (.getfield 57, 3, 8, 4, 0, 0, []), (.if_icmp .ge 87, 3, 119, 0, 0, 0, []), (.aload_n 1, 1, 1, 0, 0, 0, []), (.getfield 99, 3, 8, 6, 2, 0, []), (.iload 7, 2, 7, 0, 0, 0, []), (.iaload, 1, 0, 0, 0, 0, []), (.iload_n 2, 1, 2, 0, 0, 0, []), (.if_icmp .ne 70, 3, 113, 0, 0, 0, []), (.aload_n 1, 1, 1, 0, 0, 0, []), (.getfield 60, 3, 8, 5, 2, 0, []), (.iload 7, 2, 7, 0, 0, 0, []), (.iaload, 1, 0, 0, 0, 0, []), (.iload_n 3, 1, 3, 0, 0, 0, []), (.if_icmp .ne 59, 3, 113, 0, 0, 0, []), (.aload_n 0, 1, 0, 0, 0, 0, []), (.iload 7, 2, 7, 0, 0, 0, []), (.invokevirtual 63, 3, 23, 2, 4, 0, [])] = true := by decide +kernel
set_option maxRecDepth 100000 in
theorem bk_n_live_63 : chk 28 79 63 [(.ifCond .ne 50, 3, 113, 0, 0, 0, []), (.iload 5, 2, 5, 0, 0, 0, []), (.ifCond .ne 33, 3, 101, 0, 0, 0, []), (.aload_n 0, 1, 0, 0, 0, 0, []), (.aload_n 1, 1, 1, 0, 0, 0, []), (.iload_n 2, 1, 2, 0, 0, 0, []), (.iload 7, 2, 7, 0, 0, 0, []), (.invokevirtual 102, 3, 24, 4, 4, 0, [])] = true := by decide +kernel
set_option maxRecDepth 100000 in
theorem bk_n_live_79 : chk 28 101 79 [(.ifCond .eq 22, 3, 101, 0, 0, 0, []), (.aload_n 0, 1, 0, 0, 0, 0, []), (.getfield 9, 3, 4, 5, 2, 0, []), (.iload_n 2, 1, 2, 0, 0, 0, []), (.dup2, 1, 0, 0, 0, 0, []), (.iaload, 1, 0, 0, 0, 0, []), (.aload_n 1, 1, 1, 0, 0, 0, []), (.getfield 42, 3, 8, 7, 2, 0, []), (.iload 7, 2, 7, 0, 0, 0, []), (.iaload, 1, 0, 0, 0, 0, []), (.iadd, 1, 0, 0, 0, 0, []), (.iastore, 1, 0, 0, 0, 0, []), (.goto 15, 3, 113, 0, 0, 0, [])] = true := by decide +kernel
set_option maxRecDepth 100000 in
theorem bk_n_live_101 : chk 28 113 101 [(.iload 6, 2, 6, 0, 0, 0, []), (.aload_n 1, 1, 1, 0, 0, 0, []), (.getfield 67, 3, 8, 8, 2, 0, []), (.iload 7, 2, 7, 0, 0, 0, []), (.iaload, 1, 0, 0, 0, 0, []), (.iadd, 1, 0, 0, 0, 0, []), (.istore 6, 2, 6, 0, 0, 0, [])] = true := by decide +kernel
set_option maxRecDepth 100000 in
theorem bk_n_live_113 : chk 28 119 113 [(.iinc 7 1, 3, 7, 0, 0, 1, []), (.goto (-90), 3, 26, 0, 0, 0, [])] = true := by decide +kernel
set_option maxRecDepth 100000 in
theorem bk_n_live_119 : chk 28 130 119 [(.iload 4, 2, 4, 0, 0, 0, []), (.ifCond .eq 9, 3, 130, 0, 0, 0, []), (.aload_n 0, 1, 0, 0, 0, 0, []), (.aload_n 1, 1, 1, 0, 0, 0, []), (.iload_n 2, 1, 2, 0, 0, 0, []), (.invokevirtual 75, 3, 25, 3, 4, 0, [])] = true := by decide +kernel
set_option maxRecDepth 100000 in
theorem bk_n_live_130 : chk 28 133 130 [(.iload 6, 2, 6, 0, 0, 0, []), (.ireturn, 1, 0, 0, 0, 0, [])] = true := by decide +kernel
set_option maxRecDepth 100000 in
theorem bk_p_init_0 : chk 29 12 0 [(.aload_n 0, 1, 0, 0, 0, 0, []), (.invokespecial 3, 3, 0, 0, 0, 0, []), (.aload_n 0, 1, 0, 0, 0, 0, []), (.new 9, 3, 4, 0, 0, 0, []), (.dup, 1, 0, 0, 0, 0, []), (.invokespecial 11, 3, 18, 1, 5, 0, [])] = true := by decide +kernel
set_option maxRecDepth 100000 in
theorem bk_p_init_12 : chk 29 28 12 [(.putfield 12, 3, 5, 0, 2, 0, []), (.aload_n 0, 1, 0, 0, 0, 0, []), (.bipush 32, 2, 0, 0, 0, 32, []), (.newarray .int, 2, 0, 0, 0, 0, []), (.putfield 18, 3, 5, 1, 2, 0, []), (.aload_n 0, 1, 0, 0, 0, 0, []), (.bipush 6, 2, 0, 0, 0, 6, []), (.bipush 32, 2, 0, 0, 0, 32, [])] = true := by decide +kernel
set_option maxRecDepth 100000 in
theorem bk_p_init_32 : chk 29 40 32 [(.putfield 24, 3, 5, 2, 2, 0, []), (.aload_n 0, 1, 0, 0, 0, 0, []), (.bipush 6, 2, 0, 0, 0, 6, []), (.bipush 32, 2, 0, 0, 0, 32, [])] = true := by decide +kernel
set_option maxRecDepth 100000 in
theorem bk_p_init_44 : chk 29 89 44 [(.putfield 27, 3, 5, 3, 2, 0, []), (.aload_n 0, 1, 0, 0, 0, 0, []), (.bipush 6, 2, 0, 0, 0, 6, []), (.newarray .int, 2, 0, 0, 0, 0, []), (.putfield 30, 3, 5, 4, 2, 0, []), (.aload_n 0, 1, 0, 0, 0, 0, []), (.bipush 7, 2, 0, 0, 0, 7, []), (.newarray .int, 2, 0, 0, 0, 0, []), (.putfield 33, 3, 5, 5, 2, 0, []), (.aload_n 0, 1, 0, 0, 0, 0, []), (.bipush 6, 2, 0, 0, 0, 6, []), (.newarray .int, 2, 0, 0, 0, 0, []), (.putfield 36, 3, 5, 6, 2, 0, []), (.aload_n 0, 1, 0, 0, 0, 0, []), (.sipush 1021, 3, 0, 0, 0, 1021, []), (.newarray .long, 2, 0, 0, 1, 0, []), (.putfield 39, 3, 5, 7, 2, 0, []), (.aload_n 0, 1, 0, 0, 0, 0, []), (.bipush 6, 2, 0, 0, 0, 6, []), (.newarray .int, 2, 0, 0, 0, 0, []), (.putfield 43, 3, 5, 11, 2, 0, []), (.return_, 1, 0, 0, 0, 0, [])] = true := by decide +kernel
set_option maxRecDepth 100000 in
theorem bk_p_make_0 : chk 30 16 0 [(.aload_n 0, 1, 0, 0, 0, 0, []), (.aload_n 1, 1, 1, 0, 0, 0, []), (.getfield 46, 3, 8, 0, 0, 0, []), (.putfield 52, 3, 5, 9, 0, 0, []), (.aload_n 0, 1, 0, 0, 0, 0, []), (.getfield 12, 3, 5, 0, 2, 0, []), (.aload_n 2, 1, 2, 0, 0, 0, []), (.invokevirtual 53, 3, 20, 2, 4, 0, [])] = true := by decide +kernel
set_option maxRecDepth 100000 in
theorem bk_p_make_16 : chk 30 34 16 [(.aload_n 0, 1, 0, 0, 0, 0, []), (.getfield 33, 3, 5, 5, 2, 0, []), (.aload_n 0, 1, 0, 0, 0, 0, []), (.getfield 52, 3, 5, 9, 0, 0, []), (.iconst 0, 1, 0, 0, 0, 0, []), (.iastore, 1, 0, 0, 0, 0, []), (.aload_n 0, 1, 0, 0, 0, 0, []), (.getfield 52, 3, 5, 9, 0, 0, []), (.iconst 1, 1, 0, 0, 0, 1, []), (.isub, 1, 0, 0, 0, 0, []), (.istore 4, 2, 4, 0, 0, 0, [])] = true := by decide +kernel
set_option maxRecDepth 100000 in
theorem bk_p_make_34 : chk 30 63 34 [(.iload 4, 2, 4, 0, 0, 0, []), (.ifCond .lt 35, 3, 71, 0, 0, 0, []), (.aload_n 0, 1, 0, 0, 0, 0, []), (.getfield 33, 3, 5, 5, 2, 0, []), (.iload 4, 2, 4, 0, 0, 0, []), (.aload_n 0, 1, 0, 0, 0, 0, []), (.getfield 33, 3, 5, 5, 2, 0, []), (.iload 4, 2, 4, 0, 0, 0, []), (.iconst 1, 1, 0, 0, 0, 1, []), (.iadd, 1, 0, 0, 0, 0, []), (.iaload, 1, 0, 0, 0, 0, []), (.aload_n 0, 1, 0, 0, 0, 0, []), (.aload_n 1, 1, 1, 0, 0, 0, []), (.aload_n 2, 1, 2, 0, 0, 0, []), (.iload 4, 2, 4, 0, 0, 0, []), (.iload_n 3, 1, 3, 0, 0, 0, []), (.invokevirtual 57, 3, 31, 5, 5, 0, [])] = true := by decide +kernel
set_option maxRecDepth 100000 in
theorem bk_p_make_63 : chk 30 71 63 [(.iadd, 1, 0, 0, 0, 0, []), (.iastore, 1, 0, 0, 0, 0, []), (.iinc 4 (-1), 3, 4, 0, 0, -1, []), (.goto (-34), 3, 34, 0, 0, 0, [])] = true := by decide +kernel
set_option maxRecDepth 100000 in
theorem bk_p_make_71 : chk 30 103 71 [(.aload_n 0, 1, 0, 0, 0, 0, []), (.ldc 63, 2, 0, 0, 0, 2147483647, []), (.putfield 64, 3, 5, 10, 0, 0, []), (.aload_n 0, 1, 0, 0, 0, 0, []), (.dup, 1, 0, 0, 0, 0, []), (.getfield 67, 3, 5, 8, 1, 0, []), (.lconst 1, 1, 0, 0, 0, 1, []), (.ladd, 1, 0, 0, 0, 0, []), (.putfield 67, 3, 5, 8, 1, 0, []), (.aload_n 0, 1, 0, 0, 0, 0, []), (.iconst 0, 1, 0, 0, 0, 0, []), (.bipush 7, 2, 0, 0, 0, 7, []), (.aload_n 1, 1, 1, 0, 0, 0, []), (.getfield 71, 3, 8, 9, 0, 0, []), (.isub, 1, 0, 0, 0, 0, []), (.ldc 74, 2, 0, 0, 0, 69905, []), (.imul, 1, 0, 0, 0, 0, []), (.iconst 0, 1, 0, 0, 0, 0, []), (.invokevirtual 75, 3, 34, 4, 5, 0, [])] = true := by decide +kernel
set_option maxRecDepth 100000 in
theorem bk_p_make_103 : chk 30 104 103 [(.return_, 1, 0, 0, 0, 0, [])] = true := by decide +kernel
set_option maxRecDepth 100000 in
theorem bk_p_weigh_0 : chk 31 5 0 [(.aload_n 2, 1, 2, 0, 0, 0, []), (.iload_n 3, 1, 3, 0, 0, 0, []), (.invokevirtual 79, 3, 22, 2, 4, 0, [])] = true := by decide +kernel
set_option maxRecDepth 100000 in
theorem bk_p_weigh_5 : chk 31 12 5 [(.ifCond .eq 7, 3, 12, 0, 0, 0, []), (.iconst 1, 1, 0, 0, 0, 1, []), (.goto 7, 3, 16, 0, 0, 0, [])] = true := by decide +kernel
set_option maxRecDepth 100000 in
theorem bk_p_weigh_12 : chk 31 16 12 [(.iconst 1, 1, 0, 0, 0, 1, []), (.iload 4, 2, 4, 0, 0, 0, []), (.ishl, 1, 0, 0, 0, 0, [])] = true := by decide +kernel
set_option maxRecDepth 100000 in
theorem bk_p_weigh_16 : chk 31 24 16 [(.istore 5, 2, 5, 0, 0, 0, []), (.iconst 0, 1, 0, 0, 0, 0, []), (.istore 6, 2, 6, 0, 0, 0, []), (.iconst 0, 1, 0, 0, 0, 0, []), (.istore 7, 2, 7, 0, 0, 0, [])] = true := by decide +kernel
set_option maxRecDepth 100000 in
theorem bk_p_weigh_24 : chk 31 37 24 [(.iload 7, 2, 7, 0, 0, 0, []), (.iload 5, 2, 5, 0, 0, 0, []), (.if_icmp .ge 76, 3, 104, 0, 0, 0, []), (.aload_n 0, 1, 0, 0, 0, 0, []), (.iload 7, 2, 7, 0, 0, 0, []), (.invokevirtual 83, 3, 32, 2, 5, 0, [])] = true := by decide +kernel
set_option maxRecDepth 100000 in
theorem bk_p_weigh_37 : chk 31 50 37 [(.istore 8, 2, 8, 0, 0, 0, []), (.aload_n 0, 1, 0, 0, 0, 0, []), (.aload_n 1, 1, 1, 0, 0, 0, []), (.aload_n 2, 1, 2, 0, 0, 0, []), (.iload_n 3, 1, 3, 0, 0, 0, []), (.iload 7, 2, 7, 0, 0, 0, []), (.iload 4, 2, 4, 0, 0, 0, []), (.invokevirtual 87, 3, 33, 6, 5, 0, [])] = true := by decide +kernel
set_option maxRecDepth 100000 in
theorem bk_p_weigh_50 : chk 31 65 50 [(.istore 9, 2, 9, 0, 0, 0, []), (.aload_n 0, 1, 0, 0, 0, 0, []), (.getfield 18, 3, 5, 1, 2, 0, []), (.iload 7, 2, 7, 0, 0, 0, []), (.iload 8, 2, 8, 0, 0, 0, []), (.iload 9, 2, 9, 0, 0, 0, []), (.invokestatic 91, 3, 146, 2, 0, 0, [])] = true := by decide +kernel
set_option maxRecDepth 100000 in
theorem bk_p_weigh_65 : chk 31 98 65 [(.iastore, 1, 0, 0, 0, 0, []), (.iload 9, 2, 9, 0, 0, 0, []), (.iload 8, 2, 8, 0, 0, 0, []), (.if_icmp .ge 28, 3, 98, 0, 0, 0, []), (.aload_n 0, 1, 0, 0, 0, 0, []), (.getfield 24, 3, 5, 2, 2, 0, []), (.iload_n 3, 1, 3, 0, 0, 0, []), (.aaload, 1, 0, 0, 5, 0, []), (.iload 6, 2, 6, 0, 0, 0, []), (.iload 7, 2, 7, 0, 0, 0, []), (.iastore, 1, 0, 0, 0, 0, []), (.aload_n 0, 1, 0, 0, 0, 0, []), (.getfield 27, 3, 5, 3, 2, 0, []), (.iload_n 3, 1, 3, 0, 0, 0, []), (.aaload, 1, 0, 0, 5, 0, []), (.iload 6, 2, 6, 0, 0, 0, []), (.iload 9, 2, 9, 0, 0, 0, []), (.iastore, 1, 0, 0, 0, 0, []), (.iinc 6 1, 3, 6, 0, 0, 1, [])] = true := by decide +kernel
set_option maxRecDepth 100000 in
theorem bk_p_weigh_98 : chk 31 104 98 [(.iinc 7 1, 3, 7, 0, 0, 1, []), (.goto (-77), 3, 24, 0, 0, 0, [])] = true := by decide +kernel
set_option maxRecDepth 100000 in
theorem bk_p_weigh_104 : chk 31 122 104 [(.aload_n 0, 1, 0, 0, 0, 0, []), (.getfield 30, 3, 5, 4, 2, 0, []), (.iload_n 3, 1, 3, 0, 0, 0, []), (.iload 6, 2, 6, 0, 0, 0, []), (.iastore, 1, 0, 0, 0, 0, []), (.aload_n 0, 1, 0, 0, 0, 0, []), (.getfield 18, 3, 5, 1, 2, 0, []), (.iload 5, 2, 5, 0, 0, 0, []), (.iconst 1, 1, 0, 0, 0, 1, []), (.isub, 1, 0, 0, 0, 0, []), (.iaload, 1, 0, 0, 0, 0, []), (.ireturn, 1, 0, 0, 0, 0, [])] = true := by decide +kernel
set_option maxRecDepth 100000 in
theorem bk_p_leastOfSmaller_0 : chk 32 5 0 [(.ldc 63, 2, 0, 0, 0, 2147483647, []), (.istore_n 2, 1, 2, 0, 0, 0, []), (.iconst 0, 1, 0, 0, 0, 0, []), (.istore_n 3, 1, 3, 0, 0, 0, [])] = true := by decide +kernel
set_option maxRecDepth 100000 in
theorem bk_p_leastOfSmaller_5 : chk 32 35 5 [(.iload_n 3, 1, 3, 0, 0, 0, []), (.iconst 5, 1, 0, 0, 0, 5, []), (.if_icmp .ge 35, 3, 42, 0, 0, 0, []), (.iload_n 1, 1, 1, 0, 0, 0, []), (.iload_n 3, 1, 3, 0, 0, 0, []), (.ishr, 1, 0, 0, 0, 0, []), (.iconst 1, 1, 0, 0, 0, 1, []), (.iand, 1, 0, 0, 0, 0, []), (.iconst 1, 1, 0, 0, 0, 1, []), (.if_icmp .ne 20, 3, 36, 0, 0, 0, []), (.iload_n 2, 1, 2, 0, 0, 0, []), (.aload_n 0, 1, 0, 0, 0, 0, []), (.getfield 18, 3, 5, 1, 2, 0, []), (.iload_n 1, 1, 1, 0, 0, 0, []), (.iconst 1, 1, 0, 0, 0, 1, []), (.iload_n 3, 1, 3, 0, 0, 0, []), (.ishl, 1, 0, 0, 0, 0, []), (.iconst (-1), 1, 0, 0, 0, -1, []), (.ixor, 1, 0, 0, 0, 0, []), (.iand, 1, 0, 0, 0, 0, []), (.iaload, 1, 0, 0, 0, 0, []), (.invokestatic 91, 3, 146, 2, 0, 0, [])] = true := by decide +kernel
set_option maxRecDepth 100000 in
theorem bk_p_leastOfSmaller_35 : chk 32 36 35 [(.istore_n 2, 1, 2, 0, 0, 0, [])] = true := by decide +kernel
set_option maxRecDepth 100000 in
theorem bk_p_leastOfSmaller_36 : chk 32 42 36 [(.iinc 3 1, 3, 3, 0, 0, 1, []), (.goto (-34), 3, 5, 0, 0, 0, [])] = true := by decide +kernel
set_option maxRecDepth 100000 in
theorem bk_p_leastOfSmaller_42 : chk 32 44 42 [(.iload_n 2, 1, 2, 0, 0, 0, []), (.ireturn, 1, 0, 0, 0, 0, [])] = true := by decide +kernel
set_option maxRecDepth 100000 in
theorem bk_p_harmOf_0 : chk 33 21 0 [(.aload_n 0, 1, 0, 0, 0, 0, []), (.getfield 12, 3, 5, 0, 2, 0, []), (.getfield 97, 3, 4, 5, 2, 0, []), (.iload_n 3, 1, 3, 0, 0, 0, []), (.aload_n 2, 1, 2, 0, 0, 0, []), (.getfield 97, 3, 4, 5, 2, 0, []), (.iload_n 3, 1, 3, 0, 0, 0, []), (.iaload, 1, 0, 0, 0, 0, []), (.iastore, 1, 0, 0, 0, 0, []), (.iconst 0, 1, 0, 0, 0, 0, []), (.istore 6, 2, 6, 0, 0, 0, []), (.iconst 0, 1, 0, 0, 0, 0, []), (.istore 7, 2, 7, 0, 0, 0, [])] = true := by decide +kernel
set_option maxRecDepth 100000 in
theorem bk_p_harmOf_21 : chk 33 58 21 [(.iload 7, 2, 7, 0, 0, 0, []), (.iload 5, 2, 5, 0, 0, 0, []), (.if_icmp .ge 46, 3, 71, 0, 0, 0, []), (.iload 6, 2, 6, 0, 0, 0, []), (.aload_n 0, 1, 0, 0, 0, 0, []), (.getfield 12, 3, 5, 0, 2, 0, []), (.aload_n 1, 1, 1, 0, 0, 0, []), (.iload_n 3, 1, 3, 0, 0, 0, []), (.aload_n 2, 1, 2, 0, 0, 0, []), (.getfield 100, 3, 4, 0, 0, 0, []), (.iload 7, 2, 7, 0, 0, 0, []), (.iadd, 1, 0, 0, 0, 0, []), (.iload 4, 2, 4, 0, 0, 0, []), (.iload 7, 2, 7, 0, 0, 0, []), (.ishr, 1, 0, 0, 0, 0, []), (.iconst 1, 1, 0, 0, 0, 1, []), (.iand, 1, 0, 0, 0, 0, []), (.iconst 1, 1, 0, 0, 0, 1, []), (.if_icmp .ne 7, 3, 58, 0, 0, 0, []), (.iconst 1, 1, 0, 0, 0, 1, []), (.goto 4, 3, 59, 0, 0, 0, [])] = true := by decide +kernel
set_option maxRecDepth 100000 in
theorem bk_p_harmOf_58 : chk 33 59 58 [(.iconst 0, 1, 0, 0, 0, 0, [])] = true := by decide +kernel
set_option maxRecDepth 100000 in
theorem bk_p_harmOf_59 : chk 33 62 59 [(.invokevirtual 103, 3, 28, 5, 4, 0, [])] = true := by decide +kernel
set_option maxRecDepth 100000 in
theorem bk_p_harmOf_62 : chk 33 71 62 [(.iadd, 1, 0, 0, 0, 0, []), (.istore 6, 2, 6, 0, 0, 0, []), (.iinc 7 1, 3, 7, 0, 0, 1, []), (.goto (-47), 3, 21, 0, 0, 0, [])] = true := by decide +kernel
set_option maxRecDepth 100000 in
theorem bk_p_harmOf_71 : chk 33 74 71 [(.iload 6, 2, 6, 0, 0, 0, []), (.ireturn, 1, 0, 0, 0, 0, [])] = true := by decide +kernel
set_option maxRecDepth 100000 in
theorem bk_p_choose_0 : chk 34 23 0 [(.iload_n 1, 1, 1, 0, 0, 0, []), (.aload_n 0, 1, 0, 0, 0, 0, []), (.getfield 52, 3, 5, 9, 0, 0, []), (.if_icmp .gt 18, 3, 23, 0, 0, 0, []), (.iload_n 3, 1, 3, 0, 0, 0, []), (.aload_n 0, 1, 0, 0, 0, 0, []), (.getfield 33, 3, 5, 5, 2, 0, []), (.iload_n 1, 1, 1, 0, 0, 0, []), (.iaload, 1, 0, 0, 0, 0, []), (.iadd, 1, 0, 0, 0, 0, []), (.aload_n 0, 1, 0, 0, 0, 0, []), (.getfield 64, 3, 5, 10, 0, 0, []), (.if_icmp .lt 4, 3, 24, 0, 0, 0, [])] = true := by decide +kernel
set_option maxRecDepth 100000 in
theorem bk_p_choose_23 : chk 34 24 23 [(.return_, 1, 0, 0, 0, 0, [])] = true := by decide +kernel
set_option maxRecDepth 100000 in
theorem bk_p_choose_24 : chk 34 55 24 [(.iload_n 1, 1, 1, 0, 0, 0, []), (.aload_n 0, 1, 0, 0, 0, 0, []), (.getfield 52, 3, 5, 9, 0, 0, []), (.if_icmp .ne 26, 3, 55, 0, 0, 0, []), (.aload_n 0, 1, 0, 0, 0, 0, []), (.iload_n 3, 1, 3, 0, 0, 0, []), (.putfield 64, 3, 5, 10, 0, 0, []), (.aload_n 0, 1, 0, 0, 0, 0, []), (.getfield 36, 3, 5, 6, 2, 0, []), (.iconst 0, 1, 0, 0, 0, 0, []), (.aload_n 0, 1, 0, 0, 0, 0, []), (.getfield 43, 3, 5, 11, 2, 0, []), (.iconst 0, 1, 0, 0, 0, 0, []), (.aload_n 0, 1, 0, 0, 0, 0, []), (.getfield 52, 3, 5, 9, 0, 0, []), (.invokestatic 107, 3, 0, 0, 1, 0, []), (.return_, 1, 0, 0, 0, 0, [])] = true := by decide +kernel
set_option maxRecDepth 100000 in
theorem bk_p_choose_55 : chk 34 62 55 [(.aload_n 0, 1, 0, 0, 0, 0, []), (.iload_n 1, 1, 1, 0, 0, 0, []), (.iload_n 2, 1, 2, 0, 0, 0, []), (.iload_n 3, 1, 3, 0, 0, 0, []), (.invokevirtual 113, 3, 35, 4, 5, 0, [])] = true := by decide +kernel
set_option maxRecDepth 100000 in
theorem bk_p_choose_62 : chk 34 66 62 [(.ifCond .eq 4, 3, 66, 0, 0, 0, []), (.return_, 1, 0, 0, 0, 0, [])] = true := by decide +kernel
set_option maxRecDepth 100000 in
theorem bk_p_choose_66 : chk 34 69 66 [(.iconst 0, 1, 0, 0, 0, 0, []), (.istore 4, 2, 4, 0, 0, 0, [])] = true := by decide +kernel
set_option maxRecDepth 100000 in
theorem bk_p_choose_69 : chk 34 93 69 [(.iload 4, 2, 4, 0, 0, 0, []), (.aload_n 0, 1, 0, 0, 0, 0, []), (.getfield 30, 3, 5, 4, 2, 0, []), (.iload_n 1, 1, 1, 0, 0, 0, []), (.iaload, 1, 0, 0, 0, 0, []), (.if_icmp .ge 68, 3, 145, 0, 0, 0, []), (.iload_n 2, 1, 2, 0, 0, 0, []), (.aload_n 0, 1, 0, 0, 0, 0, []), (.getfield 24, 3, 5, 2, 2, 0, []), (.iload_n 1, 1, 1, 0, 0, 0, []), (.aaload, 1, 0, 0, 5, 0, []), (.iload 4, 2, 4, 0, 0, 0, []), (.iaload, 1, 0, 0, 0, 0, []), (.invokestatic 117, 3, 36, 1, 0, 0, [])] = true := by decide +kernel
set_option maxRecDepth 100000 in
theorem bk_p_choose_93 : chk 34 139 93 [(.iadd, 1, 0, 0, 0, 0, []), (.istore 5, 2, 5, 0, 0, 0, []), (.iload 5, 2, 5, 0, 0, 0, []), (.ldc 120, 2, 0, 0, 0, 559240, []), (.iand, 1, 0, 0, 0, 0, []), (.ifCond .ne 38, 3, 139, 0, 0, 0, []), (.aload_n 0, 1, 0, 0, 0, 0, []), (.getfield 36, 3, 5, 6, 2, 0, []), (.iload_n 1, 1, 1, 0, 0, 0, []), (.aload_n 0, 1, 0, 0, 0, 0, []), (.getfield 24, 3, 5, 2, 2, 0, []), (.iload_n 1, 1, 1, 0, 0, 0, []), (.aaload, 1, 0, 0, 5, 0, []), (.iload 4, 2, 4, 0, 0, 0, []), (.iaload, 1, 0, 0, 0, 0, []), (.iastore, 1, 0, 0, 0, 0, []), (.aload_n 0, 1, 0, 0, 0, 0, []), (.iload_n 1, 1, 1, 0, 0, 0, []), (.iconst 1, 1, 0, 0, 0, 1, []), (.iadd, 1, 0, 0, 0, 0, []), (.iload 5, 2, 5, 0, 0, 0, []), (.iload_n 3, 1, 3, 0, 0, 0, []), (.aload_n 0, 1, 0, 0, 0, 0, []), (.getfield 27, 3, 5, 3, 2, 0, []), (.iload_n 1, 1, 1, 0, 0, 0, []), (.aaload, 1, 0, 0, 5, 0, []), (.iload 4, 2, 4, 0, 0, 0, []), (.iaload, 1, 0, 0, 0, 0, []), (.iadd, 1, 0, 0, 0, 0, []), (.invokevirtual 75, 3, 34, 4, 5, 0, [])] = true := by decide +kernel
set_option maxRecDepth 100000 in
theorem bk_p_choose_139 : chk 34 145 139 [(.iinc 4 1, 3, 4, 0, 0, 1, []), (.goto (-73), 3, 69, 0, 0, 0, [])] = true := by decide +kernel
set_option maxRecDepth 100000 in
theorem bk_p_choose_145 : chk 34 146 145 [(.return_, 1, 0, 0, 0, 0, [])] = true := by decide +kernel
set_option maxRecDepth 100000 in
theorem bk_p_wasReached_0 : chk 35 25 0 [(.aload_n 0, 1, 0, 0, 0, 0, []), (.getfield 67, 3, 5, 8, 1, 0, []), (.iconst 3, 1, 0, 0, 0, 3, []), (.lshl, 1, 0, 0, 0, 0, []), (.iload_n 1, 1, 1, 0, 0, 0, []), (.i2l, 1, 0, 0, 0, 0, []), (.lor, 1, 0, 0, 0, 0, []), (.bipush 20, 2, 0, 0, 0, 20, []), (.lshl, 1, 0, 0, 0, 0, []), (.iload_n 2, 1, 2, 0, 0, 0, []), (.i2l, 1, 0, 0, 0, 0, []), (.lor, 1, 0, 0, 0, 0, []), (.lstore 4, 2, 4, 0, 0, 0, []), (.lload 4, 2, 4, 0, 0, 0, []), (.ldc2_w 121, 3, 0, 0, 0, 1021, []), (.invokestatic 123, 3, 144, 2, 0, 0, [])] = true := by decide +kernel
set_option maxRecDepth 100000 in
theorem bk_p_wasReached_25 : chk 35 63 25 [(.l2i, 1, 0, 0, 0, 0, []), (.istore 6, 2, 6, 0, 0, 0, []), (.aload_n 0, 1, 0, 0, 0, 0, []), (.getfield 39, 3, 5, 7, 2, 0, []), (.iload 6, 2, 6, 0, 0, 0, []), (.laload, 1, 0, 0, 0, 0, []), (.bipush 7, 2, 0, 0, 0, 7, []), (.lshr, 1, 0, 0, 0, 0, []), (.lload 4, 2, 4, 0, 0, 0, []), (.lcmp, 1, 0, 0, 0, 0, []), (.ifCond .ne 22, 3, 63, 0, 0, 0, []), (.aload_n 0, 1, 0, 0, 0, 0, []), (.getfield 39, 3, 5, 7, 2, 0, []), (.iload 6, 2, 6, 0, 0, 0, []), (.laload, 1, 0, 0, 0, 0, []), (.ldc2_w 127, 3, 0, 0, 0, 127, []), (.land, 1, 0, 0, 0, 0, []), (.iload_n 3, 1, 3, 0, 0, 0, []), (.i2l, 1, 0, 0, 0, 0, []), (.lcmp, 1, 0, 0, 0, 0, []), (.ifCond .gt 5, 3, 63, 0, 0, 0, []), (.iconst 1, 1, 0, 0, 0, 1, []), (.ireturn, 1, 0, 1, 0, 0, [])] = true := by decide +kernel
set_option maxRecDepth 100000 in
theorem bk_p_wasReached_63 : chk 35 80 63 [(.aload_n 0, 1, 0, 0, 0, 0, []), (.getfield 39, 3, 5, 7, 2, 0, []), (.iload 6, 2, 6, 0, 0, 0, []), (.lload 4, 2, 4, 0, 0, 0, []), (.bipush 7, 2, 0, 0, 0, 7, []), (.lshl, 1, 0, 0, 0, 0, []), (.iload_n 3, 1, 3, 0, 0, 0, []), (.i2l, 1, 0, 0, 0, 0, []), (.lor, 1, 0, 0, 0, 0, []), (.lastore, 1, 0, 0, 0, 0, []), (.iconst 0, 1, 0, 0, 0, 0, []), (.ireturn, 1, 0, 1, 0, 0, [])] = true := by decide +kernel
set_option maxRecDepth 100000 in
theorem bk_p_inFourBits_0 : chk 36 33 0 [(.iload_n 0, 1, 0, 0, 0, 0, []), (.iconst 1, 1, 0, 0, 0, 1, []), (.iand, 1, 0, 0, 0, 0, []), (.iload_n 0, 1, 0, 0, 0, 0, []), (.iconst 2, 1, 0, 0, 0, 2, []), (.iand, 1, 0, 0, 0, 0, []), (.iconst 3, 1, 0, 0, 0, 3, []), (.ishl, 1, 0, 0, 0, 0, []), (.ior, 1, 0, 0, 0, 0, []), (.iload_n 0, 1, 0, 0, 0, 0, []), (.iconst 4, 1, 0, 0, 0, 4, []), (.iand, 1, 0, 0, 0, 0, []), (.bipush 6, 2, 0, 0, 0, 6, []), (.ishl, 1, 0, 0, 0, 0, []), (.ior, 1, 0, 0, 0, 0, []), (.iload_n 0, 1, 0, 0, 0, 0, []), (.bipush 8, 2, 0, 0, 0, 8, []), (.iand, 1, 0, 0, 0, 0, []), (.bipush 9, 2, 0, 0, 0, 9, []), (.ishl, 1, 0, 0, 0, 0, []), (.ior, 1, 0, 0, 0, 0, []), (.iload_n 0, 1, 0, 0, 0, 0, []), (.bipush 16, 2, 0, 0, 0, 16, []), (.iand, 1, 0, 0, 0, 0, []), (.bipush 12, 2, 0, 0, 0, 12, []), (.ishl, 1, 0, 0, 0, 0, []), (.ior, 1, 0, 0, 0, 0, []), (.ireturn, 1, 0, 0, 0, 0, [])] = true := by decide +kernel
set_option maxRecDepth 100000 in
theorem bk_s_init_0 : chk 37 29 0 [(.aload_n 0, 1, 0, 0, 0, 0, []), (.invokespecial 3, 3, 0, 0, 0, 0, []), (.aload_n 0, 1, 0, 0, 0, 0, []), (.bipush 6, 2, 0, 0, 0, 6, []), (.newarray .int, 2, 0, 0, 0, 0, []), (.putfield 9, 3, 6, 0, 2, 0, []), (.aload_n 0, 1, 0, 0, 0, 0, []), (.bipush 6, 2, 0, 0, 0, 6, []), (.newarray .int, 2, 0, 0, 0, 0, []), (.putfield 15, 3, 6, 1, 2, 0, []), (.aload_n 0, 1, 0, 0, 0, 0, []), (.bipush 6, 2, 0, 0, 0, 6, []), (.newarray .int, 2, 0, 0, 0, 0, []), (.putfield 18, 3, 6, 4, 2, 0, []), (.return_, 1, 0, 0, 0, 0, [])] = true := by decide +kernel
set_option maxRecDepth 100000 in
theorem bk_s_add_0 : chk 38 15 0 [(.aload_n 0, 1, 0, 0, 0, 0, []), (.getfield 21, 3, 6, 2, 0, 0, []), (.aload_n 0, 1, 0, 0, 0, 0, []), (.getfield 9, 3, 6, 0, 2, 0, []), (.arraylength, 1, 0, 6, 0, 0, []), (.if_icmp .lt 6, 3, 15, 0, 0, 0, []), (.bipush (-3), 2, 0, 0, 0, -3, []), (.ireturn, 1, 0, 0, 0, 0, [])] = true := by decide +kernel
set_option maxRecDepth 100000 in
theorem bk_s_add_15 : chk 38 40 15 [(.aload_n 0, 1, 0, 0, 0, 0, []), (.getfield 9, 3, 6, 0, 2, 0, []), (.aload_n 0, 1, 0, 0, 0, 0, []), (.getfield 21, 3, 6, 2, 0, 0, []), (.iload_n 1, 1, 1, 0, 0, 0, []), (.iastore, 1, 0, 0, 0, 0, []), (.aload_n 0, 1, 0, 0, 0, 0, []), (.dup, 1, 0, 0, 0, 0, []), (.getfield 21, 3, 6, 2, 0, 0, []), (.iconst 1, 1, 0, 0, 0, 1, []), (.iadd, 1, 0, 0, 0, 0, []), (.putfield 21, 3, 6, 2, 0, 0, []), (.aload_n 0, 1, 0, 0, 0, 0, []), (.getfield 21, 3, 6, 2, 0, 0, []), (.ireturn, 1, 0, 0, 0, 0, [])] = true := by decide +kernel
set_option maxRecDepth 100000 in
theorem bk_s_weigh_0 : chk 39 7 0 [(.aload_n 0, 1, 0, 0, 0, 0, []), (.iconst 0, 1, 0, 0, 0, 0, []), (.putfield 25, 3, 6, 3, 0, 0, []), (.iconst 0, 1, 0, 0, 0, 0, []), (.istore_n 3, 1, 3, 0, 0, 0, [])] = true := by decide +kernel
set_option maxRecDepth 100000 in
theorem bk_s_weigh_7 : chk 39 28 7 [(.iload_n 3, 1, 3, 0, 0, 0, []), (.aload_n 0, 1, 0, 0, 0, 0, []), (.getfield 21, 3, 6, 2, 0, 0, []), (.if_icmp .ge 16, 3, 28, 0, 0, 0, []), (.aload_n 0, 1, 0, 0, 0, 0, []), (.getfield 18, 3, 6, 4, 2, 0, []), (.iload_n 3, 1, 3, 0, 0, 0, []), (.iconst (-1), 1, 0, 0, 0, -1, []), (.iastore, 1, 0, 0, 0, 0, []), (.iinc 3 1, 3, 3, 0, 0, 1, []), (.goto (-18), 3, 7, 0, 0, 0, [])] = true := by decide +kernel
set_option maxRecDepth 100000 in
theorem bk_s_weigh_28 : chk 39 38 28 [(.aload_n 0, 1, 0, 0, 0, 0, []), (.aload_n 1, 1, 1, 0, 0, 0, []), (.iconst 0, 1, 0, 0, 0, 0, []), (.aload_n 2, 1, 2, 0, 0, 0, []), (.getfield 28, 3, 4, 2, 0, 0, []), (.invokevirtual 33, 3, 40, 4, 6, 0, [])] = true := by decide +kernel
set_option maxRecDepth 100000 in
theorem bk_s_weigh_38 : chk 39 40 38 [(.iconst 0, 1, 0, 0, 0, 0, []), (.istore_n 3, 1, 3, 0, 0, 0, [])] = true := by decide +kernel
set_option maxRecDepth 100000 in
theorem bk_s_weigh_40 : chk 39 66 40 [(.iload_n 3, 1, 3, 0, 0, 0, []), (.aload_n 0, 1, 0, 0, 0, 0, []), (.getfield 21, 3, 6, 2, 0, 0, []), (.if_icmp .ge 27, 3, 72, 0, 0, 0, []), (.aload_n 0, 1, 0, 0, 0, 0, []), (.getfield 18, 3, 6, 4, 2, 0, []), (.iload_n 3, 1, 3, 0, 0, 0, []), (.iaload, 1, 0, 0, 0, 0, []), (.iconst (-1), 1, 0, 0, 0, -1, []), (.if_icmp .ne 11, 3, 66, 0, 0, 0, []), (.aload_n 0, 1, 0, 0, 0, 0, []), (.getfield 18, 3, 6, 4, 2, 0, []), (.iload_n 3, 1, 3, 0, 0, 0, []), (.bipush (-9), 2, 0, 0, 0, -9, []), (.iastore, 1, 0, 0, 0, 0, [])] = true := by decide +kernel
set_option maxRecDepth 100000 in
theorem bk_s_weigh_66 : chk 39 72 66 [(.iinc 3 1, 3, 3, 0, 0, 1, []), (.goto (-29), 3, 40, 0, 0, 0, [])] = true := by decide +kernel
set_option maxRecDepth 100000 in
theorem bk_s_weigh_72 : chk 39 73 72 [(.return_, 1, 0, 0, 0, 0, [])] = true := by decide +kernel
set_option maxRecDepth 100000 in
theorem bk_s_assign_0 : chk 40 22 0 [(.iload_n 2, 1, 2, 0, 0, 0, []), (.aload_n 0, 1, 0, 0, 0, 0, []), (.getfield 21, 3, 6, 2, 0, 0, []), (.if_icmp .lt 18, 3, 23, 0, 0, 0, []), (.aload_n 0, 1, 0, 0, 0, 0, []), (.dup, 1, 0, 0, 0, 0, []), (.getfield 25, 3, 6, 3, 0, 0, []), (.iconst 1, 1, 0, 0, 0, 1, []), (.iadd, 1, 0, 0, 0, 0, []), (.putfield 25, 3, 6, 3, 0, 0, []), (.aload_n 0, 1, 0, 0, 0, 0, []), (.invokevirtual 37, 3, 41, 1, 6, 0, [])] = true := by decide +kernel
set_option maxRecDepth 100000 in
theorem bk_s_assign_22 : chk 40 23 22 [(.return_, 1, 0, 0, 0, 0, [])] = true := by decide +kernel
set_option maxRecDepth 100000 in
theorem bk_s_assign_23 : chk 40 26 23 [(.iconst 0, 1, 0, 0, 0, 0, []), (.istore 4, 2, 4, 0, 0, 0, [])] = true := by decide +kernel
set_option maxRecDepth 100000 in
theorem bk_s_assign_26 : chk 40 48 26 [(.iload 4, 2, 4, 0, 0, 0, []), (.aload_n 1, 1, 1, 0, 0, 0, []), (.getfield 40, 3, 8, 0, 0, 0, []), (.if_icmp .ge 73, 3, 105, 0, 0, 0, []), (.iload_n 3, 1, 3, 0, 0, 0, []), (.iload 4, 2, 4, 0, 0, 0, []), (.ishr, 1, 0, 0, 0, 0, []), (.iconst 1, 1, 0, 0, 0, 1, []), (.iand, 1, 0, 0, 0, 0, []), (.ifCond .ne 7, 3, 48, 0, 0, 0, []), (.iconst 1, 1, 0, 0, 0, 1, []), (.goto 4, 3, 49, 0, 0, 0, [])] = true := by decide +kernel
set_option maxRecDepth 100000 in
theorem bk_s_assign_48 : chk 40 49 48 [(.iconst 0, 1, 0, 0, 0, 0, [])] = true := by decide +kernel
set_option maxRecDepth 100000 in
theorem bk_s_assign_49 : chk 40 73 49 [(.istore 5, 2, 5, 0, 0, 0, []), (.iload 5, 2, 5, 0, 0, 0, []), (.ifCond .eq 46, 3, 99, 0, 0, 0, []), (.aload_n 1, 1, 1, 0, 0, 0, []), (.getfield 45, 3, 8, 3, 2, 0, []), (.iload 4, 2, 4, 0, 0, 0, []), (.iaload, 1, 0, 0, 0, 0, []), (.aload_n 0, 1, 0, 0, 0, 0, []), (.getfield 9, 3, 6, 0, 2, 0, []), (.iload_n 2, 1, 2, 0, 0, 0, []), (.iaload, 1, 0, 0, 0, 0, []), (.ixor, 1, 0, 0, 0, 0, []), (.invokestatic 48, 3, 143, 1, 0, 0, [])] = true := by decide +kernel
set_option maxRecDepth 100000 in
theorem bk_s_assign_73 : chk 40 99 73 [(.iconst 1, 1, 0, 0, 0, 1, []), (.if_icmp .gt 25, 3, 99, 0, 0, 0, []), (.aload_n 0, 1, 0, 0, 0, 0, []), (.getfield 15, 3, 6, 1, 2, 0, []), (.iload_n 2, 1, 2, 0, 0, 0, []), (.iload 4, 2, 4, 0, 0, 0, []), (.iastore, 1, 0, 0, 0, 0, []), (.aload_n 0, 1, 0, 0, 0, 0, []), (.aload_n 1, 1, 1, 0, 0, 0, []), (.iload_n 2, 1, 2, 0, 0, 0, []), (.iconst 1, 1, 0, 0, 0, 1, []), (.iadd, 1, 0, 0, 0, 0, []), (.iload_n 3, 1, 3, 0, 0, 0, []), (.iconst 1, 1, 0, 0, 0, 1, []), (.iload 4, 2, 4, 0, 0, 0, []), (.ishl, 1, 0, 0, 0, 0, []), (.ior, 1, 0, 0, 0, 0, []), (.invokevirtual 33, 3, 40, 4, 6, 0, [])] = true := by decide +kernel
set_option maxRecDepth 100000 in
theorem bk_s_assign_99 : chk 40 105 99 [(.iinc 4 1, 3, 4, 0, 0, 1, []), (.goto (-76), 3, 26, 0, 0, 0, [])] = true := by decide +kernel
set_option maxRecDepth 100000 in
theorem bk_s_assign_105 : chk 40 106 105 [(.return_, 1, 0, 0, 0, 0, [])] = true := by decide +kernel
set_option maxRecDepth 100000 in
theorem bk_s_noteWay_0 : chk 41 2 0 [(.iconst 0, 1, 0, 0, 0, 0, []), (.istore_n 1, 1, 1, 0, 0, 0, [])] = true := by decide +kernel
set_option maxRecDepth 100000 in
theorem bk_s_noteWay_2 : chk 41 35 2 [(.iload_n 1, 1, 1, 0, 0, 0, []), (.aload_n 0, 1, 0, 0, 0, 0, []), (.getfield 21, 3, 6, 2, 0, 0, []), (.if_icmp .ge 57, 3, 64, 0, 0, 0, []), (.aload_n 0, 1, 0, 0, 0, 0, []), (.getfield 18, 3, 6, 4, 2, 0, []), (.iload_n 1, 1, 1, 0, 0, 0, []), (.iaload, 1, 0, 0, 0, 0, []), (.iconst (-1), 1, 0, 0, 0, -1, []), (.if_icmp .ne 18, 3, 35, 0, 0, 0, []), (.aload_n 0, 1, 0, 0, 0, 0, []), (.getfield 18, 3, 6, 4, 2, 0, []), (.iload_n 1, 1, 1, 0, 0, 0, []), (.aload_n 0, 1, 0, 0, 0, 0, []), (.getfield 15, 3, 6, 1, 2, 0, []), (.iload_n 1, 1, 1, 0, 0, 0, []), (.iaload, 1, 0, 0, 0, 0, []), (.iastore, 1, 0, 0, 0, 0, []), (.goto 26, 3, 58, 0, 0, 0, [])] = true := by decide +kernel
set_option maxRecDepth 100000 in
theorem bk_s_noteWay_35 : chk 41 58 35 [(.aload_n 0, 1, 0, 0, 0, 0, []), (.getfield 18, 3, 6, 4, 2, 0, []), (.iload_n 1, 1, 1, 0, 0, 0, []), (.iaload, 1, 0, 0, 0, 0, []), (.aload_n 0, 1, 0, 0, 0, 0, []), (.getfield 15, 3, 6, 1, 2, 0, []), (.iload_n 1, 1, 1, 0, 0, 0, []), (.iaload, 1, 0, 0, 0, 0, []), (.if_icmp .eq 11, 3, 58, 0, 0, 0, []), (.aload_n 0, 1, 0, 0, 0, 0, []), (.getfield 18, 3, 6, 4, 2, 0, []), (.iload_n 1, 1, 1, 0, 0, 0, []), (.bipush (-9), 2, 0, 0, 0, -9, []), (.iastore, 1, 0, 0, 0, 0, [])] = true := by decide +kernel
set_option maxRecDepth 100000 in
theorem bk_s_noteWay_58 : chk 41 64 58 [(.iinc 1 1, 3, 1, 0, 0, 1, []), (.goto (-59), 3, 2, 0, 0, 0, [])] = true := by decide +kernel
set_option maxRecDepth 100000 in
theorem bk_s_noteWay_64 : chk 41 65 64 [(.return_, 1, 0, 0, 0, 0, [])] = true := by decide +kernel
set_option maxRecDepth 100000 in
theorem bk_x_init_0 : chk 42 21 0 [(.aload_n 0, 1, 0, 0, 0, 0, []), (.invokespecial 3, 3, 0, 0, 0, 0, []), (.aload_n 0, 1, 0, 0, 0, 0, []), (.sipush 180, 3, 0, 0, 0, 180, []), (.newarray .char, 2, 0, 0, 2, 0, []), (.putfield 9, 3, 7, 0, 2, 0, []), (.aload_n 0, 1, 0, 0, 0, 0, []), (.new 15, 3, 8, 0, 0, 0, []), (.dup, 1, 0, 0, 0, 0, []), (.invokespecial 17, 3, 55, 1, 9, 0, [])] = true := by decide +kernel
set_option maxRecDepth 100000 in
theorem bk_x_init_21 : chk 42 25 21 [(.putfield 18, 3, 7, 2, 2, 0, []), (.return_, 1, 0, 0, 0, 0, [])] = true := by decide +kernel
