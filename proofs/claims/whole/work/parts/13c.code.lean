/-! blocks of the code, by program (c) -/
set_option maxRecDepth 100000 in
theorem bk_g_init_0 : chk 57 12 0 [(.aload_n 0, 1, 0, 0, 0, 0, []), (.invokespecial 1, 3, 0, 0, 0, 0, []), (.aload_n 0, 1, 0, 0, 0, 0, []), (.new 7, 3, 7, 0, 0, 0, []), (.dup, 1, 0, 0, 0, 0, []), (.invokespecial 9, 3, 42, 1, 8, 0, [])] = true := by decide +kernel
set_option maxRecDepth 100000 in
theorem bk_g_init_12 : chk 57 23 12 [(.putfield 10, 3, 9, 0, 2, 0, []), (.aload_n 0, 1, 0, 0, 0, 0, []), (.new 16, 3, 8, 0, 0, 0, []), (.dup, 1, 0, 0, 0, 0, []), (.invokespecial 18, 3, 55, 1, 9, 0, [])] = true := by decide +kernel
set_option maxRecDepth 100000 in
theorem bk_g_init_23 : chk 57 34 23 [(.putfield 19, 3, 9, 1, 2, 0, []), (.aload_n 0, 1, 0, 0, 0, 0, []), (.new 23, 3, 4, 0, 0, 0, []), (.dup, 1, 0, 0, 0, 0, []), (.invokespecial 25, 3, 18, 1, 5, 0, [])] = true := by decide +kernel
set_option maxRecDepth 100000 in
theorem bk_g_init_34 : chk 57 45 34 [(.putfield 26, 3, 9, 2, 2, 0, []), (.aload_n 0, 1, 0, 0, 0, 0, []), (.new 30, 3, 1, 0, 0, 0, []), (.dup, 1, 0, 0, 0, 0, []), (.invokespecial 32, 3, 6, 1, 2, 0, [])] = true := by decide +kernel
set_option maxRecDepth 100000 in
theorem bk_g_init_45 : chk 57 64 45 [(.putfield 33, 3, 9, 3, 2, 0, []), (.aload_n 0, 1, 0, 0, 0, 0, []), (.iconst 2, 1, 0, 0, 0, 2, []), (.anewarray 23, 3, 0, 0, 0, 0, []), (.putfield 37, 3, 9, 4, 2, 0, []), (.aload_n 0, 1, 0, 0, 0, 0, []), (.new 41, 3, 3, 0, 0, 0, []), (.dup, 1, 0, 0, 0, 0, []), (.invokespecial 43, 3, 13, 1, 4, 0, [])] = true := by decide +kernel
set_option maxRecDepth 100000 in
theorem bk_g_init_64 : chk 57 75 64 [(.putfield 44, 3, 9, 6, 2, 0, []), (.aload_n 0, 1, 0, 0, 0, 0, []), (.new 48, 3, 5, 0, 0, 0, []), (.dup, 1, 0, 0, 0, 0, []), (.invokespecial 50, 3, 29, 1, 6, 0, [])] = true := by decide +kernel
set_option maxRecDepth 100000 in
theorem bk_g_init_75 : chk 57 86 75 [(.putfield 51, 3, 9, 7, 2, 0, []), (.aload_n 0, 1, 0, 0, 0, 0, []), (.new 55, 3, 6, 0, 0, 0, []), (.dup, 1, 0, 0, 0, 0, []), (.invokespecial 57, 3, 37, 1, 7, 0, [])] = true := by decide +kernel
set_option maxRecDepth 100000 in
theorem bk_g_init_86 : chk 57 97 86 [(.putfield 58, 3, 9, 8, 2, 0, []), (.aload_n 0, 1, 0, 0, 0, 0, []), (.new 62, 3, 0, 0, 0, 0, []), (.dup, 1, 0, 0, 0, 0, []), (.invokespecial 64, 3, 0, 1, 1, 0, [])] = true := by decide +kernel
set_option maxRecDepth 100000 in
theorem bk_g_init_97 : chk 57 108 97 [(.putfield 65, 3, 9, 9, 2, 0, []), (.aload_n 0, 1, 0, 0, 0, 0, []), (.new 69, 3, 2, 0, 0, 0, []), (.dup, 1, 0, 0, 0, 0, []), (.invokespecial 71, 3, 10, 1, 3, 0, [])] = true := by decide +kernel
set_option maxRecDepth 100000 in
theorem bk_g_init_108 : chk 57 113 108 [(.putfield 72, 3, 9, 10, 2, 0, []), (.iconst 0, 1, 0, 0, 0, 0, []), (.istore_n 1, 1, 1, 0, 0, 0, [])] = true := by decide +kernel
set_option maxRecDepth 100000 in
theorem bk_g_init_113 : chk 57 134 113 [(.iload_n 1, 1, 1, 0, 0, 0, []), (.aload_n 0, 1, 0, 0, 0, 0, []), (.getfield 37, 3, 9, 4, 2, 0, []), (.arraylength, 1, 0, 2, 4, 0, []), (.if_icmp .ge 22, 3, 141, 0, 0, 0, []), (.aload_n 0, 1, 0, 0, 0, 0, []), (.getfield 37, 3, 9, 4, 2, 0, []), (.iload_n 1, 1, 1, 0, 0, 0, []), (.new 23, 3, 4, 0, 0, 0, []), (.dup, 1, 0, 0, 0, 0, []), (.invokespecial 25, 3, 18, 1, 5, 0, [])] = true := by decide +kernel
set_option maxRecDepth 100000 in
theorem bk_g_init_134 : chk 57 141 134 [(.aastore, 1, 0, 0, 0, 0, []), (.iinc 1 1, 3, 1, 0, 0, 1, []), (.goto (-25), 3, 113, 0, 0, 0, [])] = true := by decide +kernel
set_option maxRecDepth 100000 in
theorem bk_g_init_141 : chk 57 142 141 [(.return_, 1, 0, 0, 0, 0, [])] = true := by decide +kernel
set_option maxRecDepth 100000 in
theorem bk_g_type_0 : chk 58 11 0 [(.iload_n 1, 1, 1, 0, 0, 0, []), (.ifCond .lt 10, 3, 11, 0, 0, 0, []), (.iload_n 1, 1, 1, 0, 0, 0, []), (.sipush 255, 3, 0, 0, 0, 255, []), (.if_icmp .le 5, 3, 13, 0, 0, 0, [])] = true := by decide +kernel
set_option maxRecDepth 100000 in
theorem bk_g_type_11 : chk 58 13 11 [(.iconst (-1), 1, 0, 0, 0, -1, []), (.ireturn, 1, 0, 0, 0, 0, [])] = true := by decide +kernel
set_option maxRecDepth 100000 in
theorem bk_g_type_13 : chk 58 22 13 [(.aload_n 0, 1, 0, 0, 0, 0, []), (.getfield 10, 3, 9, 0, 2, 0, []), (.iload_n 1, 1, 1, 0, 0, 0, []), (.i2c, 1, 0, 0, 0, 0, []), (.invokevirtual 76, 3, 43, 2, 7, 0, [])] = true := by decide +kernel
set_option maxRecDepth 100000 in
theorem bk_g_type_22 : chk 58 23 22 [(.ireturn, 1, 0, 0, 0, 0, [])] = true := by decide +kernel
set_option maxRecDepth 100000 in
theorem bk_g_clear_0 : chk 59 18 0 [(.aload_n 0, 1, 0, 0, 0, 0, []), (.getfield 10, 3, 9, 0, 2, 0, []), (.getfield 80, 3, 7, 1, 0, 0, []), (.istore_n 1, 1, 1, 0, 0, 0, []), (.aload_n 0, 1, 0, 0, 0, 0, []), (.getfield 10, 3, 9, 0, 2, 0, []), (.iconst 0, 1, 0, 0, 0, 0, []), (.putfield 80, 3, 7, 1, 0, 0, []), (.iload_n 1, 1, 1, 0, 0, 0, []), (.ireturn, 1, 0, 0, 0, 0, [])] = true := by decide +kernel
set_option maxRecDepth 100000 in
theorem bk_g_meadow_0 : chk 60 7 0 [(.aload_n 0, 1, 0, 0, 0, 0, []), (.getfield 10, 3, 9, 0, 2, 0, []), (.invokevirtual 84, 3, 44, 1, 7, 0, [])] = true := by decide +kernel
set_option maxRecDepth 100000 in
theorem bk_g_meadow_7 : chk 60 14 7 [(.istore_n 1, 1, 1, 0, 0, 0, []), (.iload_n 1, 1, 1, 0, 0, 0, []), (.ifCond .ge 5, 3, 14, 0, 0, 0, []), (.iload_n 1, 1, 1, 0, 0, 0, []), (.ireturn, 1, 0, 0, 0, 0, [])] = true := by decide +kernel
set_option maxRecDepth 100000 in
theorem bk_g_meadow_14 : chk 60 57 14 [(.aload_n 0, 1, 0, 0, 0, 0, []), (.getfield 19, 3, 9, 1, 2, 0, []), (.astore_n 2, 1, 2, 0, 0, 0, []), (.aload_n 0, 1, 0, 0, 0, 0, []), (.aload_n 0, 1, 0, 0, 0, 0, []), (.getfield 10, 3, 9, 0, 2, 0, []), (.getfield 88, 3, 7, 2, 2, 0, []), (.putfield 19, 3, 9, 1, 2, 0, []), (.aload_n 0, 1, 0, 0, 0, 0, []), (.getfield 10, 3, 9, 0, 2, 0, []), (.aload_n 2, 1, 2, 0, 0, 0, []), (.putfield 88, 3, 7, 2, 2, 0, []), (.aload_n 0, 1, 0, 0, 0, 0, []), (.getfield 10, 3, 9, 0, 2, 0, []), (.iconst 0, 1, 0, 0, 0, 0, []), (.putfield 80, 3, 7, 1, 0, 0, []), (.aload_n 0, 1, 0, 0, 0, 0, []), (.getfield 26, 3, 9, 2, 2, 0, []), (.aload_n 0, 1, 0, 0, 0, 0, []), (.getfield 19, 3, 9, 1, 2, 0, []), (.invokevirtual 91, 3, 19, 2, 4, 0, [])] = true := by decide +kernel
set_option maxRecDepth 100000 in
theorem bk_g_meadow_57 : chk 60 64 57 [(.aload_n 0, 1, 0, 0, 0, 0, []), (.getfield 33, 3, 9, 3, 2, 0, []), (.invokevirtual 95, 3, 9, 1, 1, 0, [])] = true := by decide +kernel
set_option maxRecDepth 100000 in
theorem bk_g_meadow_64 : chk 60 87 64 [(.aload_n 0, 1, 0, 0, 0, 0, []), (.iconst 0, 1, 0, 0, 0, 0, []), (.putfield 98, 3, 9, 5, 0, 0, []), (.aload_n 0, 1, 0, 0, 0, 0, []), (.getfield 58, 3, 9, 8, 2, 0, []), (.iconst 0, 1, 0, 0, 0, 0, []), (.putfield 101, 3, 6, 2, 0, 0, []), (.aload_n 0, 1, 0, 0, 0, 0, []), (.getfield 65, 3, 9, 9, 2, 0, []), (.iconst 0, 1, 0, 0, 0, 0, []), (.putfield 104, 3, 0, 3, 0, 0, []), (.iload_n 1, 1, 1, 0, 0, 0, []), (.ireturn, 1, 0, 0, 0, 0, [])] = true := by decide +kernel
set_option maxRecDepth 100000 in
theorem bk_g_name_0 : chk 61 5 0 [(.aload_n 0, 1, 0, 0, 0, 0, []), (.iload_n 1, 1, 1, 0, 0, 0, []), (.invokevirtual 105, 3, 84, 2, 9, 0, [])] = true := by decide +kernel
set_option maxRecDepth 100000 in
theorem bk_g_name_5 : chk 61 10 5 [(.ifCond .ne 5, 3, 10, 0, 0, 0, []), (.iconst (-1), 1, 0, 0, 0, -1, []), (.ireturn, 1, 0, 0, 0, 0, [])] = true := by decide +kernel
set_option maxRecDepth 100000 in
theorem bk_g_name_10 : chk 61 44 10 [(.iload_n 2, 1, 2, 0, 0, 0, []), (.tableswitch 87 0 4 #[33, 43, 53, 63, 75], 33, 98, 0, 0, 0, [(0, 44), (1, 54), (2, 64), (3, 74), (4, 86)])] = true := by decide +kernel
set_option maxRecDepth 100000 in
theorem bk_g_name_44 : chk 61 54 44 [(.aload_n 0, 1, 0, 0, 0, 0, []), (.getfield 19, 3, 9, 1, 2, 0, []), (.getfield 109, 3, 8, 1, 2, 0, []), (.iload_n 1, 1, 1, 0, 0, 0, []), (.iaload, 1, 0, 0, 0, 0, []), (.ireturn, 1, 0, 0, 0, 0, [])] = true := by decide +kernel
set_option maxRecDepth 100000 in
theorem bk_g_name_54 : chk 61 64 54 [(.aload_n 0, 1, 0, 0, 0, 0, []), (.getfield 26, 3, 9, 2, 2, 0, []), (.getfield 113, 3, 4, 5, 2, 0, []), (.iload_n 1, 1, 1, 0, 0, 0, []), (.iaload, 1, 0, 0, 0, 0, []), (.ireturn, 1, 0, 0, 0, 0, [])] = true := by decide +kernel
set_option maxRecDepth 100000 in
theorem bk_g_name_64 : chk 61 74 64 [(.aload_n 0, 1, 0, 0, 0, 0, []), (.getfield 19, 3, 9, 1, 2, 0, []), (.getfield 116, 3, 8, 3, 2, 0, []), (.iload_n 1, 1, 1, 0, 0, 0, []), (.iaload, 1, 0, 0, 0, 0, []), (.ireturn, 1, 0, 0, 0, 0, [])] = true := by decide +kernel
set_option maxRecDepth 100000 in
theorem bk_g_name_74 : chk 61 86 74 [(.aload_n 0, 1, 0, 0, 0, 0, []), (.getfield 26, 3, 9, 2, 2, 0, []), (.getfield 119, 3, 4, 1, 0, 0, []), (.iload_n 1, 1, 1, 0, 0, 0, []), (.ishr, 1, 0, 0, 0, 0, []), (.iconst 1, 1, 0, 0, 0, 1, []), (.iand, 1, 0, 0, 0, 0, []), (.ireturn, 1, 0, 0, 0, 0, [])] = true := by decide +kernel
set_option maxRecDepth 100000 in
theorem bk_g_name_86 : chk 61 98 86 [(.aload_n 0, 1, 0, 0, 0, 0, []), (.getfield 26, 3, 9, 2, 2, 0, []), (.getfield 122, 3, 4, 2, 0, 0, []), (.iload_n 1, 1, 1, 0, 0, 0, []), (.ishr, 1, 0, 0, 0, 0, []), (.iconst 1, 1, 0, 0, 0, 1, []), (.iand, 1, 0, 0, 0, 0, []), (.ireturn, 1, 0, 0, 0, 0, [])] = true := by decide +kernel
set_option maxRecDepth 100000 in
theorem bk_g_name_98 : chk 61 100 98 [(.iconst (-1), 1, 0, 0, 0, -1, []), (.ireturn, 1, 0, 0, 0, 0, [])] = true := by decide +kernel
set_option maxRecDepth 100000 in
theorem bk_g_act_0 : chk 62 5 0 [(.aload_n 0, 1, 0, 0, 0, 0, []), (.iload_n 1, 1, 1, 0, 0, 0, []), (.invokevirtual 125, 3, 85, 2, 9, 0, [])] = true := by decide +kernel
set_option maxRecDepth 100000 in
theorem bk_g_act_5 : chk 62 10 5 [(.ifCond .ne 5, 3, 10, 0, 0, 0, []), (.iconst (-1), 1, 0, 0, 0, -1, []), (.ireturn, 1, 0, 0, 0, 0, [])] = true := by decide +kernel
set_option maxRecDepth 100000 in
theorem bk_g_act_10 : chk 62 44 10 [(.iload_n 2, 1, 2, 0, 0, 0, []), (.tableswitch 85 0 4 #[33, 43, 53, 63, 73], 33, 96, 0, 0, 0, [(0, 44), (1, 54), (2, 64), (3, 74), (4, 84)])] = true := by decide +kernel
set_option maxRecDepth 100000 in
theorem bk_g_act_44 : chk 62 54 44 [(.aload_n 0, 1, 0, 0, 0, 0, []), (.getfield 19, 3, 9, 1, 2, 0, []), (.getfield 128, 3, 8, 5, 2, 0, []), (.iload_n 1, 1, 1, 0, 0, 0, []), (.iaload, 1, 0, 0, 0, 0, []), (.ireturn, 1, 0, 0, 0, 0, [])] = true := by decide +kernel
set_option maxRecDepth 100000 in
theorem bk_g_act_54 : chk 62 64 54 [(.aload_n 0, 1, 0, 0, 0, 0, []), (.getfield 19, 3, 9, 1, 2, 0, []), (.getfield 131, 3, 8, 6, 2, 0, []), (.iload_n 1, 1, 1, 0, 0, 0, []), (.iaload, 1, 0, 0, 0, 0, []), (.ireturn, 1, 0, 0, 0, 0, [])] = true := by decide +kernel
set_option maxRecDepth 100000 in
theorem bk_g_act_64 : chk 62 74 64 [(.aload_n 0, 1, 0, 0, 0, 0, []), (.getfield 19, 3, 9, 1, 2, 0, []), (.getfield 134, 3, 8, 7, 2, 0, []), (.iload_n 1, 1, 1, 0, 0, 0, []), (.iaload, 1, 0, 0, 0, 0, []), (.ireturn, 1, 0, 0, 0, 0, [])] = true := by decide +kernel
set_option maxRecDepth 100000 in
theorem bk_g_act_74 : chk 62 84 74 [(.aload_n 0, 1, 0, 0, 0, 0, []), (.getfield 19, 3, 9, 1, 2, 0, []), (.getfield 137, 3, 8, 8, 2, 0, []), (.iload_n 1, 1, 1, 0, 0, 0, []), (.iaload, 1, 0, 0, 0, 0, []), (.ireturn, 1, 0, 0, 0, 0, [])] = true := by decide +kernel
set_option maxRecDepth 100000 in
theorem bk_g_act_84 : chk 62 96 84 [(.aload_n 0, 1, 0, 0, 0, 0, []), (.getfield 26, 3, 9, 2, 2, 0, []), (.getfield 140, 3, 4, 3, 0, 0, []), (.iload_n 1, 1, 1, 0, 0, 0, []), (.ishr, 1, 0, 0, 0, 0, []), (.iconst 1, 1, 0, 0, 0, 1, []), (.iand, 1, 0, 0, 0, 0, []), (.ireturn, 1, 0, 0, 0, 0, [])] = true := by decide +kernel
set_option maxRecDepth 100000 in
theorem bk_g_act_96 : chk 62 98 96 [(.iconst (-1), 1, 0, 0, 0, -1, []), (.ireturn, 1, 0, 0, 0, 0, [])] = true := by decide +kernel
set_option maxRecDepth 100000 in
theorem bk_g_now_0 : chk 63 44 0 [(.iload_n 1, 1, 1, 0, 0, 0, []), (.tableswitch 107 0 6 #[43, 51, 59, 67, 75, 83, 99], 43, 108, 0, 0, 0, [(0, 44), (1, 52), (2, 60), (3, 68), (4, 76), (5, 84), (6, 100)])] = true := by decide +kernel
set_option maxRecDepth 100000 in
theorem bk_g_now_44 : chk 63 52 44 [(.aload_n 0, 1, 0, 0, 0, 0, []), (.getfield 26, 3, 9, 2, 2, 0, []), (.getfield 143, 3, 4, 0, 0, 0, []), (.ireturn, 1, 0, 0, 0, 0, [])] = true := by decide +kernel
set_option maxRecDepth 100000 in
theorem bk_g_now_52 : chk 63 60 52 [(.aload_n 0, 1, 0, 0, 0, 0, []), (.getfield 26, 3, 9, 2, 2, 0, []), (.getfield 119, 3, 4, 1, 0, 0, []), (.ireturn, 1, 0, 0, 0, 0, [])] = true := by decide +kernel
set_option maxRecDepth 100000 in
theorem bk_g_now_60 : chk 63 68 60 [(.aload_n 0, 1, 0, 0, 0, 0, []), (.getfield 26, 3, 9, 2, 2, 0, []), (.getfield 122, 3, 4, 2, 0, 0, []), (.ireturn, 1, 0, 0, 0, 0, [])] = true := by decide +kernel
set_option maxRecDepth 100000 in
theorem bk_g_now_68 : chk 63 76 68 [(.aload_n 0, 1, 0, 0, 0, 0, []), (.getfield 26, 3, 9, 2, 2, 0, []), (.getfield 140, 3, 4, 3, 0, 0, []), (.ireturn, 1, 0, 0, 0, 0, [])] = true := by decide +kernel
set_option maxRecDepth 100000 in
theorem bk_g_now_76 : chk 63 84 76 [(.aload_n 0, 1, 0, 0, 0, 0, []), (.getfield 26, 3, 9, 2, 2, 0, []), (.getfield 146, 3, 4, 4, 0, 0, []), (.ireturn, 1, 0, 0, 0, 0, [])] = true := by decide +kernel
set_option maxRecDepth 100000 in
theorem bk_g_now_84 : chk 63 99 84 [(.aload_n 0, 1, 0, 0, 0, 0, []), (.getfield 44, 3, 9, 6, 2, 0, []), (.aload_n 0, 1, 0, 0, 0, 0, []), (.getfield 19, 3, 9, 1, 2, 0, []), (.aload_n 0, 1, 0, 0, 0, 0, []), (.getfield 26, 3, 9, 2, 2, 0, []), (.invokevirtual 148, 3, 15, 3, 3, 0, [])] = true := by decide +kernel
set_option maxRecDepth 100000 in
theorem bk_g_now_99 : chk 63 100 99 [(.ireturn, 1, 0, 0, 0, 0, [])] = true := by decide +kernel
set_option maxRecDepth 100000 in
theorem bk_g_now_100 : chk 63 108 100 [(.aload_n 0, 1, 0, 0, 0, 0, []), (.getfield 33, 3, 9, 3, 2, 0, []), (.getfield 152, 3, 1, 2, 0, 0, []), (.ireturn, 1, 0, 0, 0, 0, [])] = true := by decide +kernel
set_option maxRecDepth 100000 in
theorem bk_g_now_108 : chk 63 110 108 [(.iconst (-1), 1, 0, 0, 0, -1, []), (.ireturn, 1, 0, 0, 0, 0, [])] = true := by decide +kernel
set_option maxRecDepth 100000 in
theorem bk_g_sends_0 : chk 64 5 0 [(.aload_n 0, 1, 0, 0, 0, 0, []), (.iload_n 1, 1, 1, 0, 0, 0, []), (.invokevirtual 105, 3, 84, 2, 9, 0, [])] = true := by decide +kernel
set_option maxRecDepth 100000 in
theorem bk_g_sends_5 : chk 64 10 5 [(.ifCond .ne 5, 3, 10, 0, 0, 0, []), (.iconst (-1), 1, 0, 0, 0, -1, []), (.ireturn, 1, 0, 0, 0, 0, [])] = true := by decide +kernel
set_option maxRecDepth 100000 in
theorem bk_g_sends_10 : chk 64 18 10 [(.aload_n 0, 1, 0, 0, 0, 0, []), (.getfield 26, 3, 9, 2, 2, 0, []), (.iload_n 1, 1, 1, 0, 0, 0, []), (.invokevirtual 153, 3, 21, 2, 4, 0, [])] = true := by decide +kernel
set_option maxRecDepth 100000 in
theorem bk_g_sends_18 : chk 64 29 18 [(.ifCond .ne 34, 3, 52, 0, 0, 0, []), (.aload_n 0, 1, 0, 0, 0, 0, []), (.getfield 26, 3, 9, 2, 2, 0, []), (.iload_n 1, 1, 1, 0, 0, 0, []), (.invokevirtual 156, 3, 22, 2, 4, 0, [])] = true := by decide +kernel
set_option maxRecDepth 100000 in
theorem bk_g_sends_29 : chk 64 42 29 [(.ifCond .ne 23, 3, 52, 0, 0, 0, []), (.aload_n 0, 1, 0, 0, 0, 0, []), (.getfield 26, 3, 9, 2, 2, 0, []), (.getfield 119, 3, 4, 1, 0, 0, []), (.invokestatic 159, 3, 143, 1, 0, 0, [])] = true := by decide +kernel
set_option maxRecDepth 100000 in
theorem bk_g_sends_42 : chk 64 52 42 [(.aload_n 0, 1, 0, 0, 0, 0, []), (.getfield 19, 3, 9, 1, 2, 0, []), (.getfield 165, 3, 8, 9, 0, 0, []), (.if_icmp .lt 6, 3, 55, 0, 0, 0, [])] = true := by decide +kernel
set_option maxRecDepth 100000 in
theorem bk_g_sends_52 : chk 64 55 52 [(.bipush (-2), 2, 0, 0, 0, -2, []), (.ireturn, 1, 0, 0, 0, 0, [])] = true := by decide +kernel
set_option maxRecDepth 100000 in
theorem bk_g_sends_55 : chk 64 66 55 [(.aload_n 0, 1, 0, 0, 0, 0, []), (.getfield 33, 3, 9, 3, 2, 0, []), (.aload_n 0, 1, 0, 0, 0, 0, []), (.getfield 26, 3, 9, 2, 2, 0, []), (.invokevirtual 168, 3, 7, 2, 1, 0, [])] = true := by decide +kernel
set_option maxRecDepth 100000 in
theorem bk_g_sends_66 : chk 64 91 66 [(.aload_n 0, 1, 0, 0, 0, 0, []), (.getfield 26, 3, 9, 2, 2, 0, []), (.dup, 1, 0, 0, 0, 0, []), (.getfield 119, 3, 4, 1, 0, 0, []), (.iconst 1, 1, 0, 0, 0, 1, []), (.iload_n 1, 1, 1, 0, 0, 0, []), (.ishl, 1, 0, 0, 0, 0, []), (.ior, 1, 0, 0, 0, 0, []), (.putfield 119, 3, 4, 1, 0, 0, []), (.aload_n 0, 1, 0, 0, 0, 0, []), (.getfield 26, 3, 9, 2, 2, 0, []), (.getfield 119, 3, 4, 1, 0, 0, []), (.invokestatic 159, 3, 143, 1, 0, 0, [])] = true := by decide +kernel
set_option maxRecDepth 100000 in
theorem bk_g_sends_91 : chk 64 92 91 [(.ireturn, 1, 0, 0, 0, 0, [])] = true := by decide +kernel
set_option maxRecDepth 100000 in
theorem bk_g_calls_0 : chk 65 5 0 [(.aload_n 0, 1, 0, 0, 0, 0, []), (.iload_n 1, 1, 1, 0, 0, 0, []), (.invokevirtual 105, 3, 84, 2, 9, 0, [])] = true := by decide +kernel
set_option maxRecDepth 100000 in
theorem bk_g_calls_5 : chk 65 10 5 [(.ifCond .ne 5, 3, 10, 0, 0, 0, []), (.iconst (-1), 1, 0, 0, 0, -1, []), (.ireturn, 1, 0, 0, 0, 0, [])] = true := by decide +kernel
set_option maxRecDepth 100000 in
theorem bk_g_calls_10 : chk 65 18 10 [(.aload_n 0, 1, 0, 0, 0, 0, []), (.getfield 26, 3, 9, 2, 2, 0, []), (.iload_n 1, 1, 1, 0, 0, 0, []), (.invokevirtual 153, 3, 21, 2, 4, 0, [])] = true := by decide +kernel
set_option maxRecDepth 100000 in
theorem bk_g_calls_18 : chk 65 24 18 [(.ifCond .ne 6, 3, 24, 0, 0, 0, []), (.bipush (-2), 2, 0, 0, 0, -2, []), (.ireturn, 1, 0, 0, 0, 0, [])] = true := by decide +kernel
set_option maxRecDepth 100000 in
theorem bk_g_calls_24 : chk 65 35 24 [(.aload_n 0, 1, 0, 0, 0, 0, []), (.getfield 33, 3, 9, 3, 2, 0, []), (.aload_n 0, 1, 0, 0, 0, 0, []), (.getfield 26, 3, 9, 2, 2, 0, []), (.invokevirtual 168, 3, 7, 2, 1, 0, [])] = true := by decide +kernel
set_option maxRecDepth 100000 in
theorem bk_g_calls_35 : chk 65 62 35 [(.aload_n 0, 1, 0, 0, 0, 0, []), (.getfield 26, 3, 9, 2, 2, 0, []), (.dup, 1, 0, 0, 0, 0, []), (.getfield 119, 3, 4, 1, 0, 0, []), (.iconst 1, 1, 0, 0, 0, 1, []), (.iload_n 1, 1, 1, 0, 0, 0, []), (.ishl, 1, 0, 0, 0, 0, []), (.iconst (-1), 1, 0, 0, 0, -1, []), (.ixor, 1, 0, 0, 0, 0, []), (.iand, 1, 0, 0, 0, 0, []), (.putfield 119, 3, 4, 1, 0, 0, []), (.aload_n 0, 1, 0, 0, 0, 0, []), (.getfield 26, 3, 9, 2, 2, 0, []), (.getfield 119, 3, 4, 1, 0, 0, []), (.invokestatic 159, 3, 143, 1, 0, 0, [])] = true := by decide +kernel
set_option maxRecDepth 100000 in
theorem bk_g_calls_62 : chk 65 63 62 [(.ireturn, 1, 0, 0, 0, 0, [])] = true := by decide +kernel
set_option maxRecDepth 100000 in
theorem bk_g_acts_0 : chk 66 5 0 [(.aload_n 0, 1, 0, 0, 0, 0, []), (.iload_n 1, 1, 1, 0, 0, 0, []), (.invokevirtual 125, 3, 85, 2, 9, 0, [])] = true := by decide +kernel
set_option maxRecDepth 100000 in
theorem bk_g_acts_5 : chk 66 10 5 [(.ifCond .ne 5, 3, 10, 0, 0, 0, []), (.iconst (-1), 1, 0, 0, 0, -1, []), (.ireturn, 1, 0, 0, 0, 0, [])] = true := by decide +kernel
set_option maxRecDepth 100000 in
theorem bk_g_acts_10 : chk 66 25 10 [(.aload_n 0, 1, 0, 0, 0, 0, []), (.getfield 19, 3, 9, 1, 2, 0, []), (.getfield 131, 3, 8, 6, 2, 0, []), (.iload_n 1, 1, 1, 0, 0, 0, []), (.iaload, 1, 0, 0, 0, 0, []), (.istore_n 2, 1, 2, 0, 0, 0, []), (.aload_n 0, 1, 0, 0, 0, 0, []), (.iload_n 2, 1, 2, 0, 0, 0, []), (.invokevirtual 105, 3, 84, 2, 9, 0, [])] = true := by decide +kernel
set_option maxRecDepth 100000 in
theorem bk_g_acts_25 : chk 66 55 25 [(.ifCond .eq 33, 3, 58, 0, 0, 0, []), (.aload_n 0, 1, 0, 0, 0, 0, []), (.getfield 19, 3, 9, 1, 2, 0, []), (.getfield 128, 3, 8, 5, 2, 0, []), (.iload_n 1, 1, 1, 0, 0, 0, []), (.iaload, 1, 0, 0, 0, 0, []), (.aload_n 0, 1, 0, 0, 0, 0, []), (.getfield 26, 3, 9, 2, 2, 0, []), (.getfield 143, 3, 4, 0, 0, 0, []), (.if_icmp .ne 14, 3, 58, 0, 0, 0, []), (.aload_n 0, 1, 0, 0, 0, 0, []), (.getfield 26, 3, 9, 2, 2, 0, []), (.iload_n 1, 1, 1, 0, 0, 0, []), (.invokevirtual 172, 3, 23, 2, 4, 0, [])] = true := by decide +kernel
set_option maxRecDepth 100000 in
theorem bk_g_acts_55 : chk 66 58 55 [(.ifCond .eq 6, 3, 61, 0, 0, 0, [])] = true := by decide +kernel
set_option maxRecDepth 100000 in
theorem bk_g_acts_58 : chk 66 61 58 [(.bipush (-2), 2, 0, 0, 0, -2, []), (.ireturn, 1, 0, 0, 0, 0, [])] = true := by decide +kernel
set_option maxRecDepth 100000 in
theorem bk_g_acts_61 : chk 66 69 61 [(.aload_n 0, 1, 0, 0, 0, 0, []), (.getfield 26, 3, 9, 2, 2, 0, []), (.iload_n 2, 1, 2, 0, 0, 0, []), (.invokevirtual 156, 3, 22, 2, 4, 0, [])] = true := by decide +kernel
set_option maxRecDepth 100000 in
theorem bk_g_acts_69 : chk 66 80 69 [(.ifCond .ne 30, 3, 99, 0, 0, 0, []), (.aload_n 0, 1, 0, 0, 0, 0, []), (.getfield 26, 3, 9, 2, 2, 0, []), (.iload_n 2, 1, 2, 0, 0, 0, []), (.invokevirtual 153, 3, 21, 2, 4, 0, [])] = true := by decide +kernel
set_option maxRecDepth 100000 in
theorem bk_g_acts_80 : chk 66 96 80 [(.ifCond .ne 19, 3, 99, 0, 0, 0, []), (.aload_n 0, 1, 0, 0, 0, 0, []), (.getfield 26, 3, 9, 2, 2, 0, []), (.aload_n 0, 1, 0, 0, 0, 0, []), (.getfield 19, 3, 9, 1, 2, 0, []), (.iload_n 2, 1, 2, 0, 0, 0, []), (.iload_n 1, 1, 1, 0, 0, 0, []), (.invokevirtual 175, 3, 24, 4, 4, 0, [])] = true := by decide +kernel
set_option maxRecDepth 100000 in
theorem bk_g_acts_96 : chk 66 99 96 [(.ifCond .ne 6, 3, 102, 0, 0, 0, [])] = true := by decide +kernel
set_option maxRecDepth 100000 in
theorem bk_g_acts_99 : chk 66 102 99 [(.bipush (-2), 2, 0, 0, 0, -2, []), (.ireturn, 1, 0, 0, 0, 0, [])] = true := by decide +kernel
set_option maxRecDepth 100000 in
theorem bk_g_acts_102 : chk 66 113 102 [(.aload_n 0, 1, 0, 0, 0, 0, []), (.getfield 33, 3, 9, 3, 2, 0, []), (.aload_n 0, 1, 0, 0, 0, 0, []), (.getfield 26, 3, 9, 2, 2, 0, []), (.invokevirtual 168, 3, 7, 2, 1, 0, [])] = true := by decide +kernel
set_option maxRecDepth 100000 in
theorem bk_g_acts_113 : chk 66 159 113 [(.aload_n 0, 1, 0, 0, 0, 0, []), (.getfield 26, 3, 9, 2, 2, 0, []), (.dup, 1, 0, 0, 0, 0, []), (.getfield 140, 3, 4, 3, 0, 0, []), (.iconst 1, 1, 0, 0, 0, 1, []), (.iload_n 1, 1, 1, 0, 0, 0, []), (.ishl, 1, 0, 0, 0, 0, []), (.ior, 1, 0, 0, 0, 0, []), (.putfield 140, 3, 4, 3, 0, 0, []), (.aload_n 0, 1, 0, 0, 0, 0, []), (.getfield 26, 3, 9, 2, 2, 0, []), (.getfield 113, 3, 4, 5, 2, 0, []), (.iload_n 2, 1, 2, 0, 0, 0, []), (.dup2, 1, 0, 0, 0, 0, []), (.iaload, 1, 0, 0, 0, 0, []), (.aload_n 0, 1, 0, 0, 0, 0, []), (.getfield 19, 3, 9, 1, 2, 0, []), (.getfield 134, 3, 8, 7, 2, 0, []), (.iload_n 1, 1, 1, 0, 0, 0, []), (.iaload, 1, 0, 0, 0, 0, []), (.iadd, 1, 0, 0, 0, 0, []), (.iastore, 1, 0, 0, 0, 0, []), (.aload_n 0, 1, 0, 0, 0, 0, []), (.getfield 26, 3, 9, 2, 2, 0, []), (.getfield 113, 3, 4, 5, 2, 0, []), (.iload_n 2, 1, 2, 0, 0, 0, []), (.iaload, 1, 0, 0, 0, 0, []), (.ireturn, 1, 0, 0, 0, 0, [])] = true := by decide +kernel
set_option maxRecDepth 100000 in
theorem bk_g_month_0 : chk 67 11 0 [(.iload_n 1, 1, 1, 0, 0, 0, []), (.ifCond .lt 10, 3, 11, 0, 0, 0, []), (.iload_n 1, 1, 1, 0, 0, 0, []), (.sipush 9999, 3, 0, 0, 0, 9999, []), (.if_icmp .le 5, 3, 13, 0, 0, 0, [])] = true := by decide +kernel
set_option maxRecDepth 100000 in
theorem bk_g_month_11 : chk 67 13 11 [(.iconst (-1), 1, 0, 0, 0, -1, []), (.ireturn, 1, 0, 0, 0, 0, [])] = true := by decide +kernel
set_option maxRecDepth 100000 in
theorem bk_g_month_13 : chk 67 28 13 [(.aload_n 0, 1, 0, 0, 0, 0, []), (.getfield 26, 3, 9, 2, 2, 0, []), (.getfield 143, 3, 4, 0, 0, 0, []), (.bipush 12, 2, 0, 0, 0, 12, []), (.if_icmp .lt 6, 3, 28, 0, 0, 0, []), (.bipush (-2), 2, 0, 0, 0, -2, []), (.ireturn, 1, 0, 0, 0, 0, [])] = true := by decide +kernel
set_option maxRecDepth 100000 in
theorem bk_g_month_28 : chk 67 39 28 [(.aload_n 0, 1, 0, 0, 0, 0, []), (.getfield 33, 3, 9, 3, 2, 0, []), (.aload_n 0, 1, 0, 0, 0, 0, []), (.getfield 26, 3, 9, 2, 2, 0, []), (.invokevirtual 168, 3, 7, 2, 1, 0, [])] = true := by decide +kernel
set_option maxRecDepth 100000 in
theorem bk_g_month_39 : chk 67 51 39 [(.aload_n 0, 1, 0, 0, 0, 0, []), (.getfield 26, 3, 9, 2, 2, 0, []), (.aload_n 0, 1, 0, 0, 0, 0, []), (.getfield 19, 3, 9, 1, 2, 0, []), (.iload_n 1, 1, 1, 0, 0, 0, []), (.invokevirtual 179, 3, 26, 3, 4, 0, [])] = true := by decide +kernel
set_option maxRecDepth 100000 in
theorem bk_g_month_51 : chk 67 52 51 [(.ireturn, 1, 0, 0, 0, 0, [])] = true := by decide +kernel
set_option maxRecDepth 100000 in
theorem bk_g_undo_0 : chk 68 13 0 [(.aload_n 0, 1, 0, 0, 0, 0, []), (.getfield 33, 3, 9, 3, 2, 0, []), (.getfield 152, 3, 1, 2, 0, 0, []), (.ifCond .ne 6, 3, 13, 0, 0, 0, []), (.bipush (-2), 2, 0, 0, 0, -2, []), (.ireturn, 1, 0, 0, 0, 0, [])] = true := by decide +kernel
set_option maxRecDepth 100000 in
theorem bk_g_undo_13 : chk 68 24 13 [(.aload_n 0, 1, 0, 0, 0, 0, []), (.getfield 33, 3, 9, 3, 2, 0, []), (.aload_n 0, 1, 0, 0, 0, 0, []), (.getfield 26, 3, 9, 2, 2, 0, []), (.invokevirtual 183, 3, 8, 2, 1, 0, [])] = true := by decide +kernel
set_option maxRecDepth 100000 in
theorem bk_g_undo_24 : chk 68 32 24 [(.aload_n 0, 1, 0, 0, 0, 0, []), (.getfield 33, 3, 9, 3, 2, 0, []), (.getfield 152, 3, 1, 2, 0, 0, []), (.ireturn, 1, 0, 0, 0, 0, [])] = true := by decide +kernel
set_option maxRecDepth 100000 in
theorem bk_g_plan_0 : chk 69 20 0 [(.iload_n 1, 1, 1, 0, 0, 0, []), (.iconst 1, 1, 0, 0, 0, 1, []), (.if_icmp .lt 21, 3, 23, 0, 0, 0, []), (.iload_n 1, 1, 1, 0, 0, 0, []), (.iconst 5, 1, 0, 0, 0, 5, []), (.if_icmp .gt 16, 3, 23, 0, 0, 0, []), (.iload_n 2, 1, 2, 0, 0, 0, []), (.iconst (-1), 1, 0, 0, 0, -1, []), (.if_icmp .eq 13, 3, 25, 0, 0, 0, []), (.aload_n 0, 1, 0, 0, 0, 0, []), (.iload_n 2, 1, 2, 0, 0, 0, []), (.invokevirtual 105, 3, 84, 2, 9, 0, [])] = true := by decide +kernel
set_option maxRecDepth 100000 in
theorem bk_g_plan_20 : chk 69 23 20 [(.ifCond .ne 5, 3, 25, 0, 0, 0, [])] = true := by decide +kernel
set_option maxRecDepth 100000 in
theorem bk_g_plan_23 : chk 69 25 23 [(.iconst (-1), 1, 0, 0, 0, -1, []), (.ireturn, 1, 0, 0, 0, 0, [])] = true := by decide +kernel
set_option maxRecDepth 100000 in
theorem bk_g_plan_25 : chk 69 42 25 [(.aload_n 0, 1, 0, 0, 0, 0, []), (.getfield 26, 3, 9, 2, 2, 0, []), (.getfield 143, 3, 4, 0, 0, 0, []), (.iload_n 1, 1, 1, 0, 0, 0, []), (.iadd, 1, 0, 0, 0, 0, []), (.bipush 12, 2, 0, 0, 0, 12, []), (.if_icmp .le 6, 3, 42, 0, 0, 0, []), (.bipush (-2), 2, 0, 0, 0, -2, []), (.ireturn, 1, 0, 0, 0, 0, [])] = true := by decide +kernel
set_option maxRecDepth 100000 in
theorem bk_g_plan_42 : chk 69 58 42 [(.aload_n 0, 1, 0, 0, 0, 0, []), (.getfield 51, 3, 9, 7, 2, 0, []), (.aload_n 0, 1, 0, 0, 0, 0, []), (.getfield 19, 3, 9, 1, 2, 0, []), (.aload_n 0, 1, 0, 0, 0, 0, []), (.getfield 26, 3, 9, 2, 2, 0, []), (.iload_n 1, 1, 1, 0, 0, 0, []), (.invokevirtual 186, 3, 30, 4, 5, 0, [])] = true := by decide +kernel
set_option maxRecDepth 100000 in
theorem bk_g_plan_58 : chk 69 73 58 [(.iload_n 2, 1, 2, 0, 0, 0, []), (.iconst (-1), 1, 0, 0, 0, -1, []), (.if_icmp .ne 13, 3, 73, 0, 0, 0, []), (.aload_n 0, 1, 0, 0, 0, 0, []), (.getfield 51, 3, 9, 7, 2, 0, []), (.getfield 190, 3, 5, 10, 0, 0, []), (.goto 12, 3, 82, 0, 0, 0, [])] = true := by decide +kernel
set_option maxRecDepth 100000 in
theorem bk_g_plan_73 : chk 69 82 73 [(.aload_n 0, 1, 0, 0, 0, 0, []), (.getfield 51, 3, 9, 7, 2, 0, []), (.getfield 193, 3, 5, 11, 2, 0, []), (.iload_n 2, 1, 2, 0, 0, 0, []), (.iaload, 1, 0, 0, 0, 0, [])] = true := by decide +kernel
set_option maxRecDepth 100000 in
theorem bk_g_plan_82 : chk 69 83 82 [(.ireturn, 1, 0, 0, 0, 0, [])] = true := by decide +kernel
set_option maxRecDepth 100000 in
theorem bk_g_law_0 : chk 70 10 0 [(.iload_n 1, 1, 1, 0, 0, 0, []), (.ifCond .lt 9, 3, 10, 0, 0, 0, []), (.iload_n 1, 1, 1, 0, 0, 0, []), (.bipush 30, 2, 0, 0, 0, 30, []), (.if_icmp .le 5, 3, 12, 0, 0, 0, [])] = true := by decide +kernel
set_option maxRecDepth 100000 in
theorem bk_g_law_10 : chk 70 12 10 [(.iconst (-1), 1, 0, 0, 0, -1, []), (.ireturn, 1, 0, 0, 0, 0, [])] = true := by decide +kernel
set_option maxRecDepth 100000 in
theorem bk_g_law_12 : chk 70 28 12 [(.aload_n 0, 1, 0, 0, 0, 0, []), (.getfield 44, 3, 9, 6, 2, 0, []), (.aload_n 0, 1, 0, 0, 0, 0, []), (.getfield 19, 3, 9, 1, 2, 0, []), (.aload_n 0, 1, 0, 0, 0, 0, []), (.getfield 26, 3, 9, 2, 2, 0, []), (.iload_n 1, 1, 1, 0, 0, 0, []), (.invokevirtual 195, 3, 14, 4, 3, 0, [])] = true := by decide +kernel
set_option maxRecDepth 100000 in
theorem bk_g_law_28 : chk 70 29 28 [(.ireturn, 1, 0, 0, 0, 0, [])] = true := by decide +kernel
set_option maxRecDepth 100000 in
theorem bk_g_mean_0 : chk 71 11 0 [(.iload_n 1, 1, 1, 0, 0, 0, []), (.ifCond .eq 10, 3, 11, 0, 0, 0, []), (.iload_n 1, 1, 1, 0, 0, 0, []), (.iconst 1, 1, 0, 0, 0, 1, []), (.if_icmp .eq 5, 3, 11, 0, 0, 0, []), (.iconst (-1), 1, 0, 0, 0, -1, []), (.ireturn, 1, 0, 0, 0, 0, [])] = true := by decide +kernel
set_option maxRecDepth 100000 in
theorem bk_g_mean_11 : chk 71 15 11 [(.iconst 0, 1, 0, 0, 0, 0, []), (.istore_n 2, 1, 2, 0, 0, 0, []), (.iconst 0, 1, 0, 0, 0, 0, []), (.istore_n 3, 1, 3, 0, 0, 0, [])] = true := by decide +kernel
set_option maxRecDepth 100000 in
theorem bk_g_mean_15 : chk 71 61 15 [(.iload_n 3, 1, 3, 0, 0, 0, []), (.aload_n 0, 1, 0, 0, 0, 0, []), (.getfield 19, 3, 9, 1, 2, 0, []), (.getfield 198, 3, 8, 4, 0, 0, []), (.if_icmp .ge 59, 3, 82, 0, 0, 0, []), (.aload_n 0, 1, 0, 0, 0, 0, []), (.getfield 19, 3, 9, 1, 2, 0, []), (.getfield 128, 3, 8, 5, 2, 0, []), (.iload_n 3, 1, 3, 0, 0, 0, []), (.iaload, 1, 0, 0, 0, 0, []), (.aload_n 0, 1, 0, 0, 0, 0, []), (.getfield 26, 3, 9, 2, 2, 0, []), (.getfield 143, 3, 4, 0, 0, 0, []), (.if_icmp .le 34, 3, 76, 0, 0, 0, []), (.aload_n 0, 1, 0, 0, 0, 0, []), (.getfield 26, 3, 9, 2, 2, 0, []), (.aload_n 0, 1, 0, 0, 0, 0, []), (.getfield 19, 3, 9, 1, 2, 0, []), (.getfield 131, 3, 8, 6, 2, 0, []), (.iload_n 3, 1, 3, 0, 0, 0, []), (.iaload, 1, 0, 0, 0, 0, []), (.invokevirtual 153, 3, 21, 2, 4, 0, [])] = true := by decide +kernel
set_option maxRecDepth 100000 in
theorem bk_g_mean_61 : chk 71 76 61 [(.ifCond .eq 15, 3, 76, 0, 0, 0, []), (.iload_n 2, 1, 2, 0, 0, 0, []), (.aload_n 0, 1, 0, 0, 0, 0, []), (.getfield 19, 3, 9, 1, 2, 0, []), (.getfield 137, 3, 8, 8, 2, 0, []), (.iload_n 3, 1, 3, 0, 0, 0, []), (.iaload, 1, 0, 0, 0, 0, []), (.iadd, 1, 0, 0, 0, 0, []), (.istore_n 2, 1, 2, 0, 0, 0, [])] = true := by decide +kernel
set_option maxRecDepth 100000 in
theorem bk_g_mean_76 : chk 71 82 76 [(.iinc 3 1, 3, 3, 0, 0, 1, []), (.goto (-64), 3, 15, 0, 0, 0, [])] = true := by decide +kernel
set_option maxRecDepth 100000 in
theorem bk_g_mean_82 : chk 71 97 82 [(.aload_n 0, 1, 0, 0, 0, 0, []), (.getfield 19, 3, 9, 1, 2, 0, []), (.getfield 201, 3, 8, 11, 0, 0, []), (.iload_n 2, 1, 2, 0, 0, 0, []), (.imul, 1, 0, 0, 0, 0, []), (.bipush 10, 2, 0, 0, 0, 10, []), (.iload_n 1, 1, 1, 0, 0, 0, []), (.invokestatic 204, 3, 86, 3, 0, 0, [])] = true := by decide +kernel
set_option maxRecDepth 100000 in
theorem bk_g_mean_97 : chk 71 98 97 [(.ireturn, 1, 0, 0, 0, 0, [])] = true := by decide +kernel
set_option maxRecDepth 100000 in
theorem bk_g_home_0 : chk 72 38 0 [(.iload_n 1, 1, 1, 0, 0, 0, []), (.ifCond .lt 37, 3, 38, 0, 0, 0, []), (.iload_n 1, 1, 1, 0, 0, 0, []), (.iconst 3, 1, 0, 0, 0, 3, []), (.if_icmp .gt 32, 3, 38, 0, 0, 0, []), (.iload_n 2, 1, 2, 0, 0, 0, []), (.ifCond .lt 28, 3, 38, 0, 0, 0, []), (.iload_n 2, 1, 2, 0, 0, 0, []), (.iconst 3, 1, 0, 0, 0, 3, []), (.if_icmp .gt 23, 3, 38, 0, 0, 0, []), (.iload_n 3, 1, 3, 0, 0, 0, []), (.ifCond .lt 19, 3, 38, 0, 0, 0, []), (.iload_n 3, 1, 3, 0, 0, 0, []), (.iconst 2, 1, 0, 0, 0, 2, []), (.if_icmp .gt 14, 3, 38, 0, 0, 0, []), (.iload 4, 2, 4, 0, 0, 0, []), (.ifCond .eq 11, 3, 40, 0, 0, 0, []), (.iload 4, 2, 4, 0, 0, 0, []), (.iconst 1, 1, 0, 0, 0, 1, []), (.if_icmp .eq 5, 3, 40, 0, 0, 0, [])] = true := by decide +kernel
set_option maxRecDepth 100000 in
theorem bk_g_home_38 : chk 72 40 38 [(.iconst (-1), 1, 0, 0, 0, -1, []), (.ireturn, 1, 0, 0, 0, 0, [])] = true := by decide +kernel
set_option maxRecDepth 100000 in
theorem bk_g_home_40 : chk 72 54 40 [(.bipush 10, 2, 0, 0, 0, 10, []), (.aload_n 0, 1, 0, 0, 0, 0, []), (.getfield 19, 3, 9, 1, 2, 0, []), (.getfield 201, 3, 8, 11, 0, 0, []), (.isub, 1, 0, 0, 0, 0, []), (.iload_n 3, 1, 3, 0, 0, 0, []), (.invokestatic 208, 3, 88, 2, 0, 0, [])] = true := by decide +kernel
set_option maxRecDepth 100000 in
theorem bk_g_home_54 : chk 72 62 54 [(.istore 5, 2, 5, 0, 0, 0, []), (.bipush 10, 2, 0, 0, 0, 10, []), (.iload_n 3, 1, 3, 0, 0, 0, []), (.invokestatic 208, 3, 88, 2, 0, 0, [])] = true := by decide +kernel
set_option maxRecDepth 100000 in
theorem bk_g_home_62 : chk 72 73 62 [(.istore 6, 2, 6, 0, 0, 0, []), (.iconst 0, 1, 0, 0, 0, 0, []), (.istore 7, 2, 7, 0, 0, 0, []), (.iconst 1, 1, 0, 0, 0, 1, []), (.istore 8, 2, 8, 0, 0, 0, []), (.iconst 0, 1, 0, 0, 0, 0, []), (.istore 9, 2, 9, 0, 0, 0, [])] = true := by decide +kernel
set_option maxRecDepth 100000 in
theorem bk_g_home_73 : chk 72 96 73 [(.iload 9, 2, 9, 0, 0, 0, []), (.iload_n 2, 1, 2, 0, 0, 0, []), (.if_icmp .gt 57, 3, 133, 0, 0, 0, []), (.iload 9, 2, 9, 0, 0, 0, []), (.iload_n 1, 1, 1, 0, 0, 0, []), (.if_icmp .lt 31, 3, 113, 0, 0, 0, []), (.iload 7, 2, 7, 0, 0, 0, []), (.iload 8, 2, 8, 0, 0, 0, []), (.iload 5, 2, 5, 0, 0, 0, []), (.iload 9, 2, 9, 0, 0, 0, []), (.invokestatic 208, 3, 88, 2, 0, 0, [])] = true := by decide +kernel
set_option maxRecDepth 100000 in
theorem bk_g_home_96 : chk 72 109 96 [(.imul, 1, 0, 0, 0, 0, []), (.iload 6, 2, 6, 0, 0, 0, []), (.iload 5, 2, 5, 0, 0, 0, []), (.isub, 1, 0, 0, 0, 0, []), (.iload_n 2, 1, 2, 0, 0, 0, []), (.iload 9, 2, 9, 0, 0, 0, []), (.isub, 1, 0, 0, 0, 0, []), (.invokestatic 208, 3, 88, 2, 0, 0, [])] = true := by decide +kernel
set_option maxRecDepth 100000 in
theorem bk_g_home_109 : chk 72 113 109 [(.imul, 1, 0, 0, 0, 0, []), (.iadd, 1, 0, 0, 0, 0, []), (.istore 7, 2, 7, 0, 0, 0, [])] = true := by decide +kernel
set_option maxRecDepth 100000 in
theorem bk_g_home_113 : chk 72 133 113 [(.iload 8, 2, 8, 0, 0, 0, []), (.iload_n 2, 1, 2, 0, 0, 0, []), (.iload 9, 2, 9, 0, 0, 0, []), (.isub, 1, 0, 0, 0, 0, []), (.imul, 1, 0, 0, 0, 0, []), (.iload 9, 2, 9, 0, 0, 0, []), (.iconst 1, 1, 0, 0, 0, 1, []), (.iadd, 1, 0, 0, 0, 0, []), (.idiv, 1, 0, 0, 0, 0, []), (.istore 8, 2, 8, 0, 0, 0, []), (.iinc 9 1, 3, 9, 0, 0, 1, []), (.goto (-57), 3, 73, 0, 0, 0, [])] = true := by decide +kernel
set_option maxRecDepth 100000 in
theorem bk_g_home_133 : chk 72 141 133 [(.iload 7, 2, 7, 0, 0, 0, []), (.iload 6, 2, 6, 0, 0, 0, []), (.iload_n 2, 1, 2, 0, 0, 0, []), (.invokestatic 208, 3, 88, 2, 0, 0, [])] = true := by decide +kernel
set_option maxRecDepth 100000 in
theorem bk_g_home_141 : chk 72 146 141 [(.iload 4, 2, 4, 0, 0, 0, []), (.invokestatic 204, 3, 86, 3, 0, 0, [])] = true := by decide +kernel
set_option maxRecDepth 100000 in
theorem bk_g_home_146 : chk 72 147 146 [(.ireturn, 1, 0, 0, 0, 0, [])] = true := by decide +kernel
set_option maxRecDepth 100000 in
theorem bk_g_saw_0 : chk 73 10 0 [(.iload_n 1, 1, 1, 0, 0, 0, []), (.ifCond .lt 9, 3, 10, 0, 0, 0, []), (.iload_n 1, 1, 1, 0, 0, 0, []), (.bipush 31, 2, 0, 0, 0, 31, []), (.if_icmp .le 5, 3, 12, 0, 0, 0, [])] = true := by decide +kernel
set_option maxRecDepth 100000 in
theorem bk_g_saw_10 : chk 73 12 10 [(.iconst (-1), 1, 0, 0, 0, -1, []), (.ireturn, 1, 0, 0, 0, 0, [])] = true := by decide +kernel
set_option maxRecDepth 100000 in
theorem bk_g_saw_12 : chk 73 20 12 [(.aload_n 0, 1, 0, 0, 0, 0, []), (.getfield 58, 3, 9, 8, 2, 0, []), (.iload_n 1, 1, 1, 0, 0, 0, []), (.invokevirtual 212, 3, 38, 2, 6, 0, [])] = true := by decide +kernel
set_option maxRecDepth 100000 in
theorem bk_g_saw_20 : chk 73 21 20 [(.ireturn, 1, 0, 0, 0, 0, [])] = true := by decide +kernel
set_option maxRecDepth 100000 in
theorem bk_g_stray_0 : chk 74 16 0 [(.iload_n 1, 1, 1, 0, 0, 0, []), (.iconst (-1), 1, 0, 0, 0, -1, []), (.if_icmp .lt 14, 3, 16, 0, 0, 0, []), (.iload_n 1, 1, 1, 0, 0, 0, []), (.aload_n 0, 1, 0, 0, 0, 0, []), (.getfield 58, 3, 9, 8, 2, 0, []), (.getfield 101, 3, 6, 2, 0, 0, []), (.if_icmp .lt 5, 3, 18, 0, 0, 0, [])] = true := by decide +kernel
set_option maxRecDepth 100000 in
theorem bk_g_stray_16 : chk 74 18 16 [(.iconst (-1), 1, 0, 0, 0, -1, []), (.ireturn, 1, 0, 0, 0, 0, [])] = true := by decide +kernel
set_option maxRecDepth 100000 in
theorem bk_g_stray_18 : chk 74 33 18 [(.aload_n 0, 1, 0, 0, 0, 0, []), (.getfield 58, 3, 9, 8, 2, 0, []), (.aload_n 0, 1, 0, 0, 0, 0, []), (.getfield 19, 3, 9, 1, 2, 0, []), (.aload_n 0, 1, 0, 0, 0, 0, []), (.getfield 26, 3, 9, 2, 2, 0, []), (.invokevirtual 214, 3, 39, 3, 6, 0, [])] = true := by decide +kernel
set_option maxRecDepth 100000 in
theorem bk_g_stray_33 : chk 74 48 33 [(.iload_n 1, 1, 1, 0, 0, 0, []), (.iconst (-1), 1, 0, 0, 0, -1, []), (.if_icmp .ne 13, 3, 48, 0, 0, 0, []), (.aload_n 0, 1, 0, 0, 0, 0, []), (.getfield 58, 3, 9, 8, 2, 0, []), (.getfield 218, 3, 6, 3, 0, 0, []), (.goto 12, 3, 57, 0, 0, 0, [])] = true := by decide +kernel
set_option maxRecDepth 100000 in
theorem bk_g_stray_48 : chk 74 57 48 [(.aload_n 0, 1, 0, 0, 0, 0, []), (.getfield 58, 3, 9, 8, 2, 0, []), (.getfield 221, 3, 6, 4, 2, 0, []), (.iload_n 1, 1, 1, 0, 0, 0, []), (.iaload, 1, 0, 0, 0, 0, [])] = true := by decide +kernel
set_option maxRecDepth 100000 in
theorem bk_g_stray_57 : chk 74 58 57 [(.ireturn, 1, 0, 0, 0, 0, [])] = true := by decide +kernel
set_option maxRecDepth 100000 in
theorem bk_g_found_0 : chk 75 27 0 [(.iload_n 1, 1, 1, 0, 0, 0, []), (.iconst 1, 1, 0, 0, 0, 1, []), (.if_icmp .lt 25, 3, 27, 0, 0, 0, []), (.iload_n 1, 1, 1, 0, 0, 0, []), (.iconst 1, 1, 0, 0, 0, 1, []), (.aload_n 0, 1, 0, 0, 0, 0, []), (.getfield 19, 3, 9, 1, 2, 0, []), (.getfield 224, 3, 8, 0, 0, 0, []), (.ishl, 1, 0, 0, 0, 0, []), (.if_icmp .ge 12, 3, 27, 0, 0, 0, []), (.iload_n 2, 1, 2, 0, 0, 0, []), (.ifCond .lt 8, 3, 27, 0, 0, 0, []), (.iload_n 2, 1, 2, 0, 0, 0, []), (.iconst 4, 1, 0, 0, 0, 4, []), (.if_icmp .le 5, 3, 29, 0, 0, 0, [])] = true := by decide +kernel
set_option maxRecDepth 100000 in
theorem bk_g_found_27 : chk 75 29 27 [(.iconst (-1), 1, 0, 0, 0, -1, []), (.ireturn, 1, 0, 0, 0, 0, [])] = true := by decide +kernel
set_option maxRecDepth 100000 in
theorem bk_g_found_29 : chk 75 38 29 [(.aload_n 0, 1, 0, 0, 0, 0, []), (.getfield 65, 3, 9, 9, 2, 0, []), (.iload_n 1, 1, 1, 0, 0, 0, []), (.iload_n 2, 1, 2, 0, 0, 0, []), (.invokevirtual 227, 3, 1, 3, 0, 0, [])] = true := by decide +kernel
set_option maxRecDepth 100000 in
theorem bk_g_found_38 : chk 75 39 38 [(.ireturn, 1, 0, 0, 0, 0, [])] = true := by decide +kernel
set_option maxRecDepth 100000 in
theorem bk_g_can_0 : chk 76 11 0 [(.aload_n 0, 1, 0, 0, 0, 0, []), (.getfield 65, 3, 9, 9, 2, 0, []), (.aload_n 0, 1, 0, 0, 0, 0, []), (.getfield 19, 3, 9, 1, 2, 0, []), (.invokevirtual 229, 3, 2, 2, 0, 0, [])] = true := by decide +kernel
set_option maxRecDepth 100000 in
theorem bk_g_can_11 : chk 76 40 11 [(.iload_n 1, 1, 1, 0, 0, 0, []), (.tableswitch 67 0 2 #[28, 36, 59], 28, 79, 0, 0, 0, [(0, 40), (1, 48), (2, 71)])] = true := by decide +kernel
set_option maxRecDepth 100000 in
theorem bk_g_can_40 : chk 76 48 40 [(.aload_n 0, 1, 0, 0, 0, 0, []), (.getfield 65, 3, 9, 9, 2, 0, []), (.getfield 231, 3, 0, 4, 0, 0, []), (.ireturn, 1, 0, 0, 0, 0, [])] = true := by decide +kernel
set_option maxRecDepth 100000 in
theorem bk_g_can_48 : chk 76 63 48 [(.aload_n 0, 1, 0, 0, 0, 0, []), (.getfield 65, 3, 9, 9, 2, 0, []), (.getfield 231, 3, 0, 4, 0, 0, []), (.ifCond .ne 8, 3, 63, 0, 0, 0, []), (.bipush (-9), 2, 0, 0, 0, -9, []), (.goto 10, 3, 70, 0, 0, 0, [])] = true := by decide +kernel
set_option maxRecDepth 100000 in
theorem bk_g_can_63 : chk 76 70 63 [(.aload_n 0, 1, 0, 0, 0, 0, []), (.getfield 65, 3, 9, 9, 2, 0, []), (.getfield 234, 3, 0, 5, 0, 0, [])] = true := by decide +kernel
set_option maxRecDepth 100000 in
theorem bk_g_can_70 : chk 76 71 70 [(.ireturn, 1, 0, 0, 0, 0, [])] = true := by decide +kernel
set_option maxRecDepth 100000 in
theorem bk_g_can_71 : chk 76 79 71 [(.aload_n 0, 1, 0, 0, 0, 0, []), (.getfield 65, 3, 9, 9, 2, 0, []), (.getfield 237, 3, 0, 6, 0, 0, []), (.ireturn, 1, 0, 0, 0, 0, [])] = true := by decide +kernel
set_option maxRecDepth 100000 in
theorem bk_g_can_79 : chk 76 81 79 [(.iconst (-1), 1, 0, 0, 0, -1, []), (.ireturn, 1, 0, 0, 0, 0, [])] = true := by decide +kernel
set_option maxRecDepth 100000 in
theorem bk_g_ask_0 : chk 77 11 0 [(.aload_n 0, 1, 0, 0, 0, 0, []), (.getfield 65, 3, 9, 9, 2, 0, []), (.aload_n 0, 1, 0, 0, 0, 0, []), (.getfield 19, 3, 9, 1, 2, 0, []), (.invokevirtual 229, 3, 2, 2, 0, 0, [])] = true := by decide +kernel
set_option maxRecDepth 100000 in
theorem bk_g_ask_11 : chk 77 22 11 [(.aload_n 0, 1, 0, 0, 0, 0, []), (.getfield 65, 3, 9, 9, 2, 0, []), (.aload_n 0, 1, 0, 0, 0, 0, []), (.getfield 19, 3, 9, 1, 2, 0, []), (.invokevirtual 240, 3, 3, 2, 0, 0, [])] = true := by decide +kernel
set_option maxRecDepth 100000 in
theorem bk_g_ask_22 : chk 77 23 22 [(.ireturn, 1, 0, 0, 0, 0, [])] = true := by decide +kernel
set_option maxRecDepth 100000 in
theorem bk_g_forget_0 : chk 78 34 0 [(.aload_n 0, 1, 0, 0, 0, 0, []), (.getfield 58, 3, 9, 8, 2, 0, []), (.getfield 101, 3, 6, 2, 0, 0, []), (.aload_n 0, 1, 0, 0, 0, 0, []), (.getfield 65, 3, 9, 9, 2, 0, []), (.getfield 104, 3, 0, 3, 0, 0, []), (.iadd, 1, 0, 0, 0, 0, []), (.istore_n 1, 1, 1, 0, 0, 0, []), (.aload_n 0, 1, 0, 0, 0, 0, []), (.getfield 58, 3, 9, 8, 2, 0, []), (.iconst 0, 1, 0, 0, 0, 0, []), (.putfield 101, 3, 6, 2, 0, 0, []), (.aload_n 0, 1, 0, 0, 0, 0, []), (.getfield 65, 3, 9, 9, 2, 0, []), (.iconst 0, 1, 0, 0, 0, 0, []), (.putfield 104, 3, 0, 3, 0, 0, []), (.iload_n 1, 1, 1, 0, 0, 0, []), (.ireturn, 1, 0, 0, 0, 0, [])] = true := by decide +kernel
set_option maxRecDepth 100000 in
theorem bk_g_rate_0 : chk 79 14 0 [(.iload_n 1, 1, 1, 0, 0, 0, []), (.ifCond .lt 16, 3, 17, 0, 0, 0, []), (.iload_n 1, 1, 1, 0, 0, 0, []), (.iconst 5, 1, 0, 0, 0, 5, []), (.if_icmp .gt 11, 3, 17, 0, 0, 0, []), (.aload_n 0, 1, 0, 0, 0, 0, []), (.iload_n 2, 1, 2, 0, 0, 0, []), (.invokevirtual 105, 3, 84, 2, 9, 0, [])] = true := by decide +kernel
set_option maxRecDepth 100000 in
theorem bk_g_rate_14 : chk 79 17 14 [(.ifCond .ne 6, 3, 20, 0, 0, 0, [])] = true := by decide +kernel
set_option maxRecDepth 100000 in
theorem bk_g_rate_17 : chk 79 20 17 [(.ldc 244, 2, 0, 0, 0, -1000000, []), (.ireturn, 1, 0, 0, 0, 0, [])] = true := by decide +kernel
set_option maxRecDepth 100000 in
theorem bk_g_rate_20 : chk 79 37 20 [(.aload_n 0, 1, 0, 0, 0, 0, []), (.getfield 72, 3, 9, 10, 2, 0, []), (.iload_n 1, 1, 1, 0, 0, 0, []), (.iload_n 2, 1, 2, 0, 0, 0, []), (.aload_n 0, 1, 0, 0, 0, 0, []), (.getfield 19, 3, 9, 1, 2, 0, []), (.aload_n 0, 1, 0, 0, 0, 0, []), (.getfield 26, 3, 9, 2, 2, 0, []), (.invokevirtual 245, 3, 11, 5, 2, 0, [])] = true := by decide +kernel
set_option maxRecDepth 100000 in
theorem bk_g_rate_37 : chk 79 38 37 [(.ireturn, 1, 0, 0, 0, 0, [])] = true := by decide +kernel
set_option maxRecDepth 100000 in
theorem bk_g_keep_0 : chk 80 13 0 [(.iload_n 1, 1, 1, 0, 0, 0, []), (.ifCond .lt 12, 3, 13, 0, 0, 0, []), (.iload_n 1, 1, 1, 0, 0, 0, []), (.aload_n 0, 1, 0, 0, 0, 0, []), (.getfield 37, 3, 9, 4, 2, 0, []), (.arraylength, 1, 0, 2, 4, 0, []), (.if_icmp .lt 5, 3, 15, 0, 0, 0, [])] = true := by decide +kernel
set_option maxRecDepth 100000 in
theorem bk_g_keep_13 : chk 80 15 13 [(.iconst (-1), 1, 0, 0, 0, -1, []), (.ireturn, 1, 0, 0, 0, 0, [])] = true := by decide +kernel
set_option maxRecDepth 100000 in
theorem bk_g_keep_15 : chk 80 28 15 [(.aload_n 0, 1, 0, 0, 0, 0, []), (.getfield 37, 3, 9, 4, 2, 0, []), (.iload_n 1, 1, 1, 0, 0, 0, []), (.aaload, 1, 0, 0, 4, 0, []), (.aload_n 0, 1, 0, 0, 0, 0, []), (.getfield 26, 3, 9, 2, 2, 0, []), (.invokevirtual 249, 3, 20, 2, 4, 0, [])] = true := by decide +kernel
set_option maxRecDepth 100000 in
theorem bk_g_keep_28 : chk 80 48 28 [(.aload_n 0, 1, 0, 0, 0, 0, []), (.dup, 1, 0, 0, 0, 0, []), (.getfield 98, 3, 9, 5, 0, 0, []), (.iconst 1, 1, 0, 0, 0, 1, []), (.iload_n 1, 1, 1, 0, 0, 0, []), (.ishl, 1, 0, 0, 0, 0, []), (.ior, 1, 0, 0, 0, 0, []), (.putfield 98, 3, 9, 5, 0, 0, []), (.aload_n 0, 1, 0, 0, 0, 0, []), (.getfield 26, 3, 9, 2, 2, 0, []), (.getfield 143, 3, 4, 0, 0, 0, []), (.ireturn, 1, 0, 0, 0, 0, [])] = true := by decide +kernel
set_option maxRecDepth 100000 in
theorem bk_g_back_0 : chk 81 13 0 [(.iload_n 1, 1, 1, 0, 0, 0, []), (.ifCond .lt 12, 3, 13, 0, 0, 0, []), (.iload_n 1, 1, 1, 0, 0, 0, []), (.aload_n 0, 1, 0, 0, 0, 0, []), (.getfield 37, 3, 9, 4, 2, 0, []), (.arraylength, 1, 0, 2, 4, 0, []), (.if_icmp .lt 5, 3, 15, 0, 0, 0, [])] = true := by decide +kernel
set_option maxRecDepth 100000 in
theorem bk_g_back_13 : chk 81 15 13 [(.iconst (-1), 1, 0, 0, 0, -1, []), (.ireturn, 1, 0, 0, 0, 0, [])] = true := by decide +kernel
set_option maxRecDepth 100000 in
theorem bk_g_back_15 : chk 81 29 15 [(.aload_n 0, 1, 0, 0, 0, 0, []), (.getfield 98, 3, 9, 5, 0, 0, []), (.iload_n 1, 1, 1, 0, 0, 0, []), (.ishr, 1, 0, 0, 0, 0, []), (.iconst 1, 1, 0, 0, 0, 1, []), (.iand, 1, 0, 0, 0, 0, []), (.ifCond .ne 6, 3, 29, 0, 0, 0, []), (.bipush (-2), 2, 0, 0, 0, -2, []), (.ireturn, 1, 0, 0, 0, 0, [])] = true := by decide +kernel
set_option maxRecDepth 100000 in
theorem bk_g_back_29 : chk 81 42 29 [(.aload_n 0, 1, 0, 0, 0, 0, []), (.getfield 26, 3, 9, 2, 2, 0, []), (.aload_n 0, 1, 0, 0, 0, 0, []), (.getfield 37, 3, 9, 4, 2, 0, []), (.iload_n 1, 1, 1, 0, 0, 0, []), (.aaload, 1, 0, 0, 4, 0, []), (.invokevirtual 249, 3, 20, 2, 4, 0, [])] = true := by decide +kernel
set_option maxRecDepth 100000 in
theorem bk_g_back_42 : chk 81 49 42 [(.aload_n 0, 1, 0, 0, 0, 0, []), (.getfield 33, 3, 9, 3, 2, 0, []), (.invokevirtual 95, 3, 9, 1, 1, 0, [])] = true := by decide +kernel
set_option maxRecDepth 100000 in
theorem bk_g_back_49 : chk 81 57 49 [(.aload_n 0, 1, 0, 0, 0, 0, []), (.getfield 26, 3, 9, 2, 2, 0, []), (.getfield 143, 3, 4, 0, 0, 0, []), (.ireturn, 1, 0, 0, 0, 0, [])] = true := by decide +kernel
set_option maxRecDepth 100000 in
theorem bk_g_count_0 : chk 82 48 0 [(.iload_n 1, 1, 1, 0, 0, 0, []), (.tableswitch 111 0 7 #[47, 55, 63, 71, 79, 87, 95, 103], 47, 112, 0, 0, 0, [(0, 48), (1, 56), (2, 64), (3, 72), (4, 80), (5, 88), (6, 96), (7, 104)])] = true := by decide +kernel
set_option maxRecDepth 100000 in
theorem bk_g_count_48 : chk 82 56 48 [(.aload_n 0, 1, 0, 0, 0, 0, []), (.getfield 19, 3, 9, 1, 2, 0, []), (.getfield 224, 3, 8, 0, 0, 0, []), (.ireturn, 1, 0, 0, 0, 0, [])] = true := by decide +kernel
set_option maxRecDepth 100000 in
theorem bk_g_count_56 : chk 82 64 56 [(.aload_n 0, 1, 0, 0, 0, 0, []), (.getfield 19, 3, 9, 1, 2, 0, []), (.getfield 198, 3, 8, 4, 0, 0, []), (.ireturn, 1, 0, 0, 0, 0, [])] = true := by decide +kernel
set_option maxRecDepth 100000 in
theorem bk_g_count_64 : chk 82 72 64 [(.aload_n 0, 1, 0, 0, 0, 0, []), (.getfield 19, 3, 9, 1, 2, 0, []), (.getfield 165, 3, 8, 9, 0, 0, []), (.ireturn, 1, 0, 0, 0, 0, [])] = true := by decide +kernel
set_option maxRecDepth 100000 in
theorem bk_g_count_72 : chk 82 80 72 [(.aload_n 0, 1, 0, 0, 0, 0, []), (.getfield 19, 3, 9, 1, 2, 0, []), (.getfield 252, 3, 8, 10, 0, 0, []), (.ireturn, 1, 0, 0, 0, 0, [])] = true := by decide +kernel
set_option maxRecDepth 100000 in
theorem bk_g_count_80 : chk 82 88 80 [(.aload_n 0, 1, 0, 0, 0, 0, []), (.getfield 19, 3, 9, 1, 2, 0, []), (.getfield 201, 3, 8, 11, 0, 0, []), (.ireturn, 1, 0, 0, 0, 0, [])] = true := by decide +kernel
set_option maxRecDepth 100000 in
theorem bk_g_count_88 : chk 82 96 88 [(.aload_n 0, 1, 0, 0, 0, 0, []), (.getfield 58, 3, 9, 8, 2, 0, []), (.getfield 101, 3, 6, 2, 0, 0, []), (.ireturn, 1, 0, 0, 0, 0, [])] = true := by decide +kernel
set_option maxRecDepth 100000 in
theorem bk_g_count_96 : chk 82 104 96 [(.aload_n 0, 1, 0, 0, 0, 0, []), (.getfield 65, 3, 9, 9, 2, 0, []), (.getfield 104, 3, 0, 3, 0, 0, []), (.ireturn, 1, 0, 0, 0, 0, [])] = true := by decide +kernel
set_option maxRecDepth 100000 in
theorem bk_g_count_104 : chk 82 112 104 [(.aload_n 0, 1, 0, 0, 0, 0, []), (.getfield 10, 3, 9, 0, 2, 0, []), (.getfield 80, 3, 7, 1, 0, 0, []), (.ireturn, 1, 0, 0, 0, 0, [])] = true := by decide +kernel
set_option maxRecDepth 100000 in
theorem bk_g_count_112 : chk 82 114 112 [(.iconst (-1), 1, 0, 0, 0, -1, []), (.ireturn, 1, 0, 0, 0, 0, [])] = true := by decide +kernel
set_option maxRecDepth 100000 in
theorem bk_g_trace_0 : chk 83 8 0 [(.aload_n 0, 1, 0, 0, 0, 0, []), (.getfield 72, 3, 9, 10, 2, 0, []), (.getfield 255, 3, 2, 0, 1, 0, []), (.lreturn, 1, 0, 0, 0, 0, [])] = true := by decide +kernel
set_option maxRecDepth 100000 in
theorem bk_g_isName_0 : chk 84 19 0 [(.iload_n 1, 1, 1, 0, 0, 0, []), (.ifCond .lt 18, 3, 19, 0, 0, 0, []), (.iload_n 1, 1, 1, 0, 0, 0, []), (.aload_n 0, 1, 0, 0, 0, 0, []), (.getfield 19, 3, 9, 1, 2, 0, []), (.getfield 224, 3, 8, 0, 0, 0, []), (.if_icmp .ge 7, 3, 19, 0, 0, 0, []), (.iconst 1, 1, 0, 0, 0, 1, []), (.goto 4, 3, 20, 0, 0, 0, [])] = true := by decide +kernel
set_option maxRecDepth 100000 in
theorem bk_g_isName_19 : chk 84 20 19 [(.iconst 0, 1, 0, 0, 0, 0, [])] = true := by decide +kernel
set_option maxRecDepth 100000 in
theorem bk_g_isName_20 : chk 84 21 20 [(.ireturn, 1, 0, 1, 0, 0, [])] = true := by decide +kernel
set_option maxRecDepth 100000 in
theorem bk_g_isAct_0 : chk 85 19 0 [(.iload_n 1, 1, 1, 0, 0, 0, []), (.ifCond .lt 18, 3, 19, 0, 0, 0, []), (.iload_n 1, 1, 1, 0, 0, 0, []), (.aload_n 0, 1, 0, 0, 0, 0, []), (.getfield 19, 3, 9, 1, 2, 0, []), (.getfield 198, 3, 8, 4, 0, 0, []), (.if_icmp .ge 7, 3, 19, 0, 0, 0, []), (.iconst 1, 1, 0, 0, 0, 1, []), (.goto 4, 3, 20, 0, 0, 0, [])] = true := by decide +kernel
set_option maxRecDepth 100000 in
theorem bk_g_isAct_19 : chk 85 20 19 [(.iconst 0, 1, 0, 0, 0, 0, [])] = true := by decide +kernel
set_option maxRecDepth 100000 in
theorem bk_g_isAct_20 : chk 85 21 20 [(.ireturn, 1, 0, 1, 0, 0, [])] = true := by decide +kernel
set_option maxRecDepth 100000 in
theorem bk_g_partInLeastTerms_0 : chk 86 5 0 [(.iload_n 0, 1, 0, 0, 0, 0, []), (.iload_n 1, 1, 1, 0, 0, 0, []), (.invokestatic 259, 3, 87, 2, 0, 0, [])] = true := by decide +kernel
set_option maxRecDepth 100000 in
theorem bk_g_partInLeastTerms_5 : chk 86 14 5 [(.istore_n 3, 1, 3, 0, 0, 0, []), (.iload_n 2, 1, 2, 0, 0, 0, []), (.ifCond .ne 7, 3, 14, 0, 0, 0, []), (.iload_n 0, 1, 0, 0, 0, 0, []), (.goto 4, 3, 15, 0, 0, 0, [])] = true := by decide +kernel
set_option maxRecDepth 100000 in
theorem bk_g_partInLeastTerms_14 : chk 86 15 14 [(.iload_n 1, 1, 1, 0, 0, 0, [])] = true := by decide +kernel
set_option maxRecDepth 100000 in
theorem bk_g_partInLeastTerms_15 : chk 86 26 15 [(.istore 4, 2, 4, 0, 0, 0, []), (.iload_n 3, 1, 3, 0, 0, 0, []), (.ifCond .ne 8, 3, 26, 0, 0, 0, []), (.iload 4, 2, 4, 0, 0, 0, []), (.goto 7, 3, 30, 0, 0, 0, [])] = true := by decide +kernel
set_option maxRecDepth 100000 in
theorem bk_g_partInLeastTerms_26 : chk 86 30 26 [(.iload 4, 2, 4, 0, 0, 0, []), (.iload_n 3, 1, 3, 0, 0, 0, []), (.idiv, 1, 0, 0, 0, 0, [])] = true := by decide +kernel
set_option maxRecDepth 100000 in
theorem bk_g_partInLeastTerms_30 : chk 86 31 30 [(.ireturn, 1, 0, 0, 0, 0, [])] = true := by decide +kernel
set_option maxRecDepth 100000 in
theorem bk_g_commonDivisor_0 : chk 87 7 0 [(.iload_n 0, 1, 0, 0, 0, 0, []), (.istore_n 2, 1, 2, 0, 0, 0, []), (.iload_n 1, 1, 1, 0, 0, 0, []), (.istore_n 3, 1, 3, 0, 0, 0, []), (.iconst 0, 1, 0, 0, 0, 0, []), (.istore 4, 2, 4, 0, 0, 0, [])] = true := by decide +kernel
set_option maxRecDepth 100000 in
theorem bk_g_commonDivisor_7 : chk 87 34 7 [(.iload 4, 2, 4, 0, 0, 0, []), (.bipush 50, 2, 0, 0, 0, 50, []), (.if_icmp .ge 23, 3, 34, 0, 0, 0, []), (.iload_n 3, 1, 3, 0, 0, 0, []), (.ifCond .eq 19, 3, 34, 0, 0, 0, []), (.iload_n 2, 1, 2, 0, 0, 0, []), (.iload_n 3, 1, 3, 0, 0, 0, []), (.irem, 1, 0, 0, 0, 0, []), (.istore 5, 2, 5, 0, 0, 0, []), (.iload_n 3, 1, 3, 0, 0, 0, []), (.istore_n 2, 1, 2, 0, 0, 0, []), (.iload 5, 2, 5, 0, 0, 0, []), (.istore_n 3, 1, 3, 0, 0, 0, []), (.iinc 4 1, 3, 4, 0, 0, 1, []), (.goto (-24), 3, 7, 0, 0, 0, [])] = true := by decide +kernel
set_option maxRecDepth 100000 in
theorem bk_g_commonDivisor_34 : chk 87 36 34 [(.iload_n 2, 1, 2, 0, 0, 0, []), (.ireturn, 1, 0, 0, 0, 0, [])] = true := by decide +kernel
set_option maxRecDepth 100000 in
theorem bk_g_power_0 : chk 88 4 0 [(.iconst 1, 1, 0, 0, 0, 1, []), (.istore_n 2, 1, 2, 0, 0, 0, []), (.iconst 0, 1, 0, 0, 0, 0, []), (.istore_n 3, 1, 3, 0, 0, 0, [])] = true := by decide +kernel
set_option maxRecDepth 100000 in
theorem bk_g_power_4 : chk 88 19 4 [(.iload_n 3, 1, 3, 0, 0, 0, []), (.iload_n 1, 1, 1, 0, 0, 0, []), (.if_icmp .ge 13, 3, 19, 0, 0, 0, []), (.iload_n 2, 1, 2, 0, 0, 0, []), (.iload_n 0, 1, 0, 0, 0, 0, []), (.imul, 1, 0, 0, 0, 0, []), (.istore_n 2, 1, 2, 0, 0, 0, []), (.iinc 3 1, 3, 3, 0, 0, 1, []), (.goto (-12), 3, 4, 0, 0, 0, [])] = true := by decide +kernel
set_option maxRecDepth 100000 in
theorem bk_g_power_19 : chk 88 21 19 [(.iload_n 2, 1, 2, 0, 0, 0, []), (.ireturn, 1, 0, 0, 0, 0, [])] = true := by decide +kernel
