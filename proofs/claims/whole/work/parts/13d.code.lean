/-! blocks of the code, by program (d) -/
set_option maxRecDepth 100000 in
theorem bk_m_init_0 : chk 89 129 0 [(.aload_n 0, 1, 0, 0, 0, 0, []), (.invokespecial 1, 3, 0, 0, 0, 0, []), (.aload_n 0, 1, 0, 0, 0, 0, []), (.sipush 180, 3, 0, 0, 0, 180, []), (.newarray .int, 2, 0, 0, 0, 0, []), (.putfield 7, 3, 10, 1, 2, 0, []), (.aload_n 0, 1, 0, 0, 0, 0, []), (.bipush 65, 2, 0, 0, 0, 65, []), (.newarray .int, 2, 0, 0, 0, 0, []), (.putfield 13, 3, 10, 3, 2, 0, []), (.aload_n 0, 1, 0, 0, 0, 0, []), (.bipush 65, 2, 0, 0, 0, 65, []), (.newarray .int, 2, 0, 0, 0, 0, []), (.putfield 16, 3, 10, 4, 2, 0, []), (.aload_n 0, 1, 0, 0, 0, 0, []), (.bipush 11, 2, 0, 0, 0, 11, []), (.newarray .int, 2, 0, 0, 0, 0, []), (.putfield 19, 3, 10, 5, 2, 0, []), (.aload_n 0, 1, 0, 0, 0, 0, []), (.bipush 110, 2, 0, 0, 0, 110, []), (.newarray .int, 2, 0, 0, 0, 0, []), (.putfield 22, 3, 10, 6, 2, 0, []), (.aload_n 0, 1, 0, 0, 0, 0, []), (.bipush 22, 2, 0, 0, 0, 22, []), (.newarray .int, 2, 0, 0, 0, 0, []), (.putfield 25, 3, 10, 8, 2, 0, []), (.aload_n 0, 1, 0, 0, 0, 0, []), (.iconst 2, 1, 0, 0, 0, 2, []), (.newarray .boolean, 2, 0, 0, 3, 0, []), (.putfield 28, 3, 10, 9, 2, 0, []), (.aload_n 0, 1, 0, 0, 0, 0, []), (.bipush 6, 2, 0, 0, 0, 6, []), (.newarray .int, 2, 0, 0, 0, 0, []), (.putfield 32, 3, 10, 10, 2, 0, []), (.aload_n 0, 1, 0, 0, 0, 0, []), (.bipush 12, 2, 0, 0, 0, 12, []), (.newarray .int, 2, 0, 0, 0, 0, []), (.putfield 35, 3, 10, 12, 2, 0, []), (.aload_n 0, 1, 0, 0, 0, 0, []), (.bipush 6, 2, 0, 0, 0, 6, []), (.newarray .int, 2, 0, 0, 0, 0, []), (.putfield 38, 3, 10, 18, 2, 0, []), (.aload_n 0, 1, 0, 0, 0, 0, []), (.sipush 192, 3, 0, 0, 0, 192, []), (.newarray .int, 2, 0, 0, 0, 0, []), (.putfield 41, 3, 10, 20, 2, 0, []), (.aload_n 0, 1, 0, 0, 0, 0, []), (.bipush 6, 2, 0, 0, 0, 6, []), (.newarray .int, 2, 0, 0, 0, 0, []), (.putfield 44, 3, 10, 21, 2, 0, []), (.aload_n 0, 1, 0, 0, 0, 0, []), (.bipush 6, 2, 0, 0, 0, 6, []), (.newarray .int, 2, 0, 0, 0, 0, []), (.putfield 47, 3, 10, 22, 2, 0, []), (.aload_n 0, 1, 0, 0, 0, 0, []), (.bipush 7, 2, 0, 0, 0, 7, []), (.newarray .int, 2, 0, 0, 0, 0, []), (.putfield 50, 3, 10, 23, 2, 0, []), (.aload_n 0, 1, 0, 0, 0, 0, []), (.bipush 64, 2, 0, 0, 0, 64, []), (.newarray .int, 2, 0, 0, 0, 0, []), (.putfield 53, 3, 10, 24, 2, 0, []), (.aload_n 0, 1, 0, 0, 0, 0, []), (.invokevirtual 56, 3, 103, 1, 10, 0, [])] = true := by decide +kernel
set_option maxRecDepth 100000 in
theorem bk_m_init_129 : chk 89 134 129 [(.pop, 1, 0, 0, 0, 0, []), (.aload_n 0, 1, 0, 0, 0, 0, []), (.invokevirtual 60, 3, 104, 1, 10, 0, [])] = true := by decide +kernel
set_option maxRecDepth 100000 in
theorem bk_m_init_134 : chk 89 135 134 [(.return_, 1, 0, 0, 0, 0, [])] = true := by decide +kernel
set_option maxRecDepth 100000 in
theorem bk_m_in_0 : chk 90 14 0 [(.iload_n 0, 1, 0, 0, 0, 0, []), (.iload_n 1, 1, 1, 0, 0, 0, []), (.if_icmp .lt 12, 3, 14, 0, 0, 0, []), (.iload_n 0, 1, 0, 0, 0, 0, []), (.iload_n 2, 1, 2, 0, 0, 0, []), (.if_icmp .gt 7, 3, 14, 0, 0, 0, []), (.iconst 1, 1, 0, 0, 0, 1, []), (.goto 4, 3, 15, 0, 0, 0, [])] = true := by decide +kernel
set_option maxRecDepth 100000 in
theorem bk_m_in_14 : chk 90 15 14 [(.iconst 0, 1, 0, 0, 0, 0, [])] = true := by decide +kernel
set_option maxRecDepth 100000 in
theorem bk_m_in_15 : chk 90 16 15 [(.ireturn, 1, 0, 1, 0, 0, [])] = true := by decide +kernel
set_option maxRecDepth 100000 in
theorem bk_m_has_0 : chk 91 13 0 [(.iload_n 0, 1, 0, 0, 0, 0, []), (.iload_n 1, 1, 1, 0, 0, 0, []), (.ishr, 1, 0, 0, 0, 0, []), (.iconst 1, 1, 0, 0, 0, 1, []), (.iand, 1, 0, 0, 0, 0, []), (.iconst 1, 1, 0, 0, 0, 1, []), (.if_icmp .ne 7, 3, 13, 0, 0, 0, []), (.iconst 1, 1, 0, 0, 0, 1, []), (.goto 4, 3, 14, 0, 0, 0, [])] = true := by decide +kernel
set_option maxRecDepth 100000 in
theorem bk_m_has_13 : chk 91 14 13 [(.iconst 0, 1, 0, 0, 0, 0, [])] = true := by decide +kernel
set_option maxRecDepth 100000 in
theorem bk_m_has_14 : chk 91 15 14 [(.ireturn, 1, 0, 1, 0, 0, [])] = true := by decide +kernel
set_option maxRecDepth 100000 in
theorem bk_m_isName_0 : chk 92 13 0 [(.iload_n 1, 1, 1, 0, 0, 0, []), (.iconst 0, 1, 0, 0, 0, 0, []), (.aload_n 0, 1, 0, 0, 0, 0, []), (.getfield 13, 3, 10, 3, 2, 0, []), (.iconst 0, 1, 0, 0, 0, 0, []), (.iaload, 1, 0, 0, 0, 0, []), (.iconst 1, 1, 0, 0, 0, 1, []), (.isub, 1, 0, 0, 0, 0, []), (.invokestatic 63, 3, 90, 3, 0, 0, [])] = true := by decide +kernel
set_option maxRecDepth 100000 in
theorem bk_m_isName_13 : chk 92 14 13 [(.ireturn, 1, 0, 1, 0, 0, [])] = true := by decide +kernel
set_option maxRecDepth 100000 in
theorem bk_m_ones_0 : chk 93 4 0 [(.iconst 0, 1, 0, 0, 0, 0, []), (.istore_n 1, 1, 1, 0, 0, 0, []), (.iconst 0, 1, 0, 0, 0, 0, []), (.istore_n 2, 1, 2, 0, 0, 0, [])] = true := by decide +kernel
set_option maxRecDepth 100000 in
theorem bk_m_ones_4 : chk 93 24 4 [(.iload_n 2, 1, 2, 0, 0, 0, []), (.bipush 10, 2, 0, 0, 0, 10, []), (.if_icmp .ge 17, 3, 24, 0, 0, 0, []), (.iload_n 1, 1, 1, 0, 0, 0, []), (.iload_n 0, 1, 0, 0, 0, 0, []), (.iload_n 2, 1, 2, 0, 0, 0, []), (.ishr, 1, 0, 0, 0, 0, []), (.iconst 1, 1, 0, 0, 0, 1, []), (.iand, 1, 0, 0, 0, 0, []), (.iadd, 1, 0, 0, 0, 0, []), (.istore_n 1, 1, 1, 0, 0, 0, []), (.iinc 2 1, 3, 2, 0, 0, 1, []), (.goto (-17), 3, 4, 0, 0, 0, [])] = true := by decide +kernel
set_option maxRecDepth 100000 in
theorem bk_m_ones_24 : chk 93 26 24 [(.iload_n 1, 1, 1, 0, 0, 0, []), (.ireturn, 1, 0, 0, 0, 0, [])] = true := by decide +kernel
set_option maxRecDepth 100000 in
theorem bk_m_type_0 : chk 94 8 0 [(.iload_n 1, 1, 1, 0, 0, 0, []), (.iconst 0, 1, 0, 0, 0, 0, []), (.sipush 255, 3, 0, 0, 0, 255, []), (.invokestatic 63, 3, 90, 3, 0, 0, [])] = true := by decide +kernel
set_option maxRecDepth 100000 in
theorem bk_m_type_8 : chk 94 13 8 [(.ifCond .ne 5, 3, 13, 0, 0, 0, []), (.iconst (-1), 1, 0, 0, 0, -1, []), (.ireturn, 1, 0, 0, 0, 0, [])] = true := by decide +kernel
set_option maxRecDepth 100000 in
theorem bk_m_type_13 : chk 94 26 13 [(.aload_n 0, 1, 0, 0, 0, 0, []), (.getfield 67, 3, 10, 2, 0, 0, []), (.sipush 180, 3, 0, 0, 0, 180, []), (.if_icmp .ne 6, 3, 26, 0, 0, 0, []), (.bipush (-3), 2, 0, 0, 0, -3, []), (.ireturn, 1, 0, 0, 0, 0, [])] = true := by decide +kernel
set_option maxRecDepth 100000 in
theorem bk_m_type_26 : chk 94 51 26 [(.aload_n 0, 1, 0, 0, 0, 0, []), (.getfield 7, 3, 10, 1, 2, 0, []), (.aload_n 0, 1, 0, 0, 0, 0, []), (.getfield 67, 3, 10, 2, 0, 0, []), (.iload_n 1, 1, 1, 0, 0, 0, []), (.iastore, 1, 0, 0, 0, 0, []), (.aload_n 0, 1, 0, 0, 0, 0, []), (.dup, 1, 0, 0, 0, 0, []), (.getfield 67, 3, 10, 2, 0, 0, []), (.iconst 1, 1, 0, 0, 0, 1, []), (.iadd, 1, 0, 0, 0, 0, []), (.putfield 67, 3, 10, 2, 0, 0, []), (.aload_n 0, 1, 0, 0, 0, 0, []), (.getfield 67, 3, 10, 2, 0, 0, []), (.ireturn, 1, 0, 0, 0, 0, [])] = true := by decide +kernel
set_option maxRecDepth 100000 in
theorem bk_m_clear_0 : chk 95 12 0 [(.aload_n 0, 1, 0, 0, 0, 0, []), (.getfield 67, 3, 10, 2, 0, 0, []), (.istore_n 1, 1, 1, 0, 0, 0, []), (.aload_n 0, 1, 0, 0, 0, 0, []), (.iconst 0, 1, 0, 0, 0, 0, []), (.putfield 67, 3, 10, 2, 0, 0, []), (.iload_n 1, 1, 1, 0, 0, 0, []), (.ireturn, 1, 0, 0, 0, 0, [])] = true := by decide +kernel
set_option maxRecDepth 100000 in
theorem bk_m_letterAt_0 : chk 96 17 0 [(.iload_n 1, 1, 1, 0, 0, 0, []), (.aload_n 0, 1, 0, 0, 0, 0, []), (.getfield 67, 3, 10, 2, 0, 0, []), (.if_icmp .ge 12, 3, 17, 0, 0, 0, []), (.aload_n 0, 1, 0, 0, 0, 0, []), (.getfield 7, 3, 10, 1, 2, 0, []), (.iload_n 1, 1, 1, 0, 0, 0, []), (.iaload, 1, 0, 0, 0, 0, []), (.goto 4, 3, 18, 0, 0, 0, [])] = true := by decide +kernel
set_option maxRecDepth 100000 in
theorem bk_m_letterAt_17 : chk 96 18 17 [(.iconst (-1), 1, 0, 0, 0, -1, [])] = true := by decide +kernel
set_option maxRecDepth 100000 in
theorem bk_m_letterAt_18 : chk 96 19 18 [(.ireturn, 1, 0, 0, 0, 0, [])] = true := by decide +kernel
set_option maxRecDepth 100000 in
theorem bk_m_isDigit_0 : chk 97 8 0 [(.iload_n 0, 1, 0, 0, 0, 0, []), (.bipush 48, 2, 0, 0, 0, 48, []), (.bipush 57, 2, 0, 0, 0, 57, []), (.invokestatic 63, 3, 90, 3, 0, 0, [])] = true := by decide +kernel
set_option maxRecDepth 100000 in
theorem bk_m_isDigit_8 : chk 97 9 8 [(.ireturn, 1, 0, 1, 0, 0, [])] = true := by decide +kernel
set_option maxRecDepth 100000 in
theorem bk_m_isWord_0 : chk 98 30 0 [(.iload_n 0, 1, 0, 0, 0, 0, []), (.bipush 110, 2, 0, 0, 0, 110, []), (.if_icmp .eq 27, 3, 30, 0, 0, 0, []), (.iload_n 0, 1, 0, 0, 0, 0, []), (.bipush 97, 2, 0, 0, 0, 97, []), (.if_icmp .eq 21, 3, 30, 0, 0, 0, []), (.iload_n 0, 1, 0, 0, 0, 0, []), (.bipush 109, 2, 0, 0, 0, 109, []), (.if_icmp .eq 15, 3, 30, 0, 0, 0, []), (.iload_n 0, 1, 0, 0, 0, 0, []), (.bipush 114, 2, 0, 0, 0, 114, []), (.if_icmp .eq 9, 3, 30, 0, 0, 0, []), (.iload_n 0, 1, 0, 0, 0, 0, []), (.bipush 119, 2, 0, 0, 0, 119, []), (.if_icmp .ne 7, 3, 34, 0, 0, 0, [])] = true := by decide +kernel
set_option maxRecDepth 100000 in
theorem bk_m_isWord_30 : chk 98 34 30 [(.iconst 1, 1, 0, 0, 0, 1, []), (.goto 4, 3, 35, 0, 0, 0, [])] = true := by decide +kernel
set_option maxRecDepth 100000 in
theorem bk_m_isWord_34 : chk 98 35 34 [(.iconst 0, 1, 0, 0, 0, 0, [])] = true := by decide +kernel
set_option maxRecDepth 100000 in
theorem bk_m_isWord_35 : chk 98 36 35 [(.ireturn, 1, 0, 1, 0, 0, [])] = true := by decide +kernel
set_option maxRecDepth 100000 in
theorem bk_m_token_0 : chk 99 8 0 [(.aload_n 0, 1, 0, 0, 0, 0, []), (.aload_n 0, 1, 0, 0, 0, 0, []), (.getfield 71, 3, 10, 14, 0, 0, []), (.invokevirtual 74, 3, 96, 2, 10, 0, [])] = true := by decide +kernel
set_option maxRecDepth 100000 in
theorem bk_m_token_8 : chk 99 26 8 [(.bipush 32, 2, 0, 0, 0, 32, []), (.if_icmp .ne 16, 3, 26, 0, 0, 0, []), (.aload_n 0, 1, 0, 0, 0, 0, []), (.dup, 1, 0, 0, 0, 0, []), (.getfield 71, 3, 10, 14, 0, 0, []), (.iconst 1, 1, 0, 0, 0, 1, []), (.iadd, 1, 0, 0, 0, 0, []), (.putfield 71, 3, 10, 14, 0, 0, []), (.goto (-23), 3, 0, 0, 0, 0, [])] = true := by decide +kernel
set_option maxRecDepth 100000 in
theorem bk_m_token_26 : chk 99 42 26 [(.aload_n 0, 1, 0, 0, 0, 0, []), (.aload_n 0, 1, 0, 0, 0, 0, []), (.getfield 71, 3, 10, 14, 0, 0, []), (.putfield 78, 3, 10, 16, 0, 0, []), (.aload_n 0, 1, 0, 0, 0, 0, []), (.aload_n 0, 1, 0, 0, 0, 0, []), (.getfield 71, 3, 10, 14, 0, 0, []), (.invokevirtual 74, 3, 96, 2, 10, 0, [])] = true := by decide +kernel
set_option maxRecDepth 100000 in
theorem bk_m_token_42 : chk 99 52 42 [(.istore_n 1, 1, 1, 0, 0, 0, []), (.aload_n 0, 1, 0, 0, 0, 0, []), (.iload_n 1, 1, 1, 0, 0, 0, []), (.ifCond .ge 7, 3, 52, 0, 0, 0, []), (.iconst 0, 1, 0, 0, 0, 0, []), (.goto 36, 3, 85, 0, 0, 0, [])] = true := by decide +kernel
set_option maxRecDepth 100000 in
theorem bk_m_token_52 : chk 99 56 52 [(.iload_n 1, 1, 1, 0, 0, 0, []), (.invokestatic 81, 3, 98, 1, 0, 0, [])] = true := by decide +kernel
set_option maxRecDepth 100000 in
theorem bk_m_token_56 : chk 99 63 56 [(.ifCond .eq 7, 3, 63, 0, 0, 0, []), (.iconst 1, 1, 0, 0, 0, 1, []), (.goto 25, 3, 85, 0, 0, 0, [])] = true := by decide +kernel
set_option maxRecDepth 100000 in
theorem bk_m_token_63 : chk 99 67 63 [(.iload_n 1, 1, 1, 0, 0, 0, []), (.invokestatic 85, 3, 97, 1, 0, 0, [])] = true := by decide +kernel
set_option maxRecDepth 100000 in
theorem bk_m_token_67 : chk 99 74 67 [(.ifCond .eq 7, 3, 74, 0, 0, 0, []), (.iconst 2, 1, 0, 0, 0, 2, []), (.goto 14, 3, 85, 0, 0, 0, [])] = true := by decide +kernel
set_option maxRecDepth 100000 in
theorem bk_m_token_74 : chk 99 84 74 [(.iload_n 1, 1, 1, 0, 0, 0, []), (.bipush 59, 2, 0, 0, 0, 59, []), (.if_icmp .ne 7, 3, 84, 0, 0, 0, []), (.iconst 3, 1, 0, 0, 0, 3, []), (.goto 4, 3, 85, 0, 0, 0, [])] = true := by decide +kernel
set_option maxRecDepth 100000 in
theorem bk_m_token_84 : chk 99 85 84 [(.iconst 4, 1, 0, 0, 0, 4, [])] = true := by decide +kernel
set_option maxRecDepth 100000 in
theorem bk_m_token_85 : chk 99 109 85 [(.putfield 88, 3, 10, 15, 0, 0, []), (.aload_n 0, 1, 0, 0, 0, 0, []), (.iload_n 1, 1, 1, 0, 0, 0, []), (.putfield 91, 3, 10, 17, 0, 0, []), (.aload_n 0, 1, 0, 0, 0, 0, []), (.dup, 1, 0, 0, 0, 0, []), (.getfield 71, 3, 10, 14, 0, 0, []), (.aload_n 0, 1, 0, 0, 0, 0, []), (.getfield 88, 3, 10, 15, 0, 0, []), (.ifCond .ne 7, 3, 109, 0, 0, 0, []), (.iconst 0, 1, 0, 0, 0, 0, []), (.goto 4, 3, 110, 0, 0, 0, [])] = true := by decide +kernel
set_option maxRecDepth 100000 in
theorem bk_m_token_109 : chk 99 110 109 [(.iconst 1, 1, 0, 0, 0, 1, [])] = true := by decide +kernel
set_option maxRecDepth 100000 in
theorem bk_m_token_110 : chk 99 130 110 [(.iadd, 1, 0, 0, 0, 0, []), (.putfield 71, 3, 10, 14, 0, 0, []), (.aload_n 0, 1, 0, 0, 0, 0, []), (.getfield 88, 3, 10, 15, 0, 0, []), (.iconst 2, 1, 0, 0, 0, 2, []), (.if_icmp .ne 83, 3, 202, 0, 0, 0, []), (.aload_n 0, 1, 0, 0, 0, 0, []), (.iload_n 1, 1, 1, 0, 0, 0, []), (.bipush 48, 2, 0, 0, 0, 48, []), (.isub, 1, 0, 0, 0, 0, []), (.putfield 91, 3, 10, 17, 0, 0, [])] = true := by decide +kernel
set_option maxRecDepth 100000 in
theorem bk_m_token_130 : chk 99 138 130 [(.aload_n 0, 1, 0, 0, 0, 0, []), (.aload_n 0, 1, 0, 0, 0, 0, []), (.getfield 71, 3, 10, 14, 0, 0, []), (.invokevirtual 74, 3, 96, 2, 10, 0, [])] = true := by decide +kernel
set_option maxRecDepth 100000 in
theorem bk_m_token_138 : chk 99 141 138 [(.invokestatic 85, 3, 97, 1, 0, 0, [])] = true := by decide +kernel
set_option maxRecDepth 100000 in
theorem bk_m_token_141 : chk 99 160 141 [(.ifCond .eq 61, 3, 202, 0, 0, 0, []), (.aload_n 0, 1, 0, 0, 0, 0, []), (.iload_n 1, 1, 1, 0, 0, 0, []), (.bipush 48, 2, 0, 0, 0, 48, []), (.if_icmp .eq 12, 3, 160, 0, 0, 0, []), (.aload_n 0, 1, 0, 0, 0, 0, []), (.getfield 91, 3, 10, 17, 0, 0, []), (.bipush 99, 2, 0, 0, 0, 99, []), (.if_icmp .le 9, 3, 166, 0, 0, 0, [])] = true := by decide +kernel
set_option maxRecDepth 100000 in
theorem bk_m_token_160 : chk 99 166 160 [(.sipush 1000, 3, 0, 0, 0, 1000, []), (.goto 23, 3, 186, 0, 0, 0, [])] = true := by decide +kernel
set_option maxRecDepth 100000 in
theorem bk_m_token_166 : chk 99 186 166 [(.bipush 10, 2, 0, 0, 0, 10, []), (.aload_n 0, 1, 0, 0, 0, 0, []), (.getfield 91, 3, 10, 17, 0, 0, []), (.imul, 1, 0, 0, 0, 0, []), (.aload_n 0, 1, 0, 0, 0, 0, []), (.getfield 7, 3, 10, 1, 2, 0, []), (.aload_n 0, 1, 0, 0, 0, 0, []), (.getfield 71, 3, 10, 14, 0, 0, []), (.iaload, 1, 0, 0, 0, 0, []), (.iadd, 1, 0, 0, 0, 0, []), (.bipush 48, 2, 0, 0, 0, 48, []), (.isub, 1, 0, 0, 0, 0, [])] = true := by decide +kernel
set_option maxRecDepth 100000 in
theorem bk_m_token_186 : chk 99 202 186 [(.putfield 91, 3, 10, 17, 0, 0, []), (.aload_n 0, 1, 0, 0, 0, 0, []), (.dup, 1, 0, 0, 0, 0, []), (.getfield 71, 3, 10, 14, 0, 0, []), (.iconst 1, 1, 0, 0, 0, 1, []), (.iadd, 1, 0, 0, 0, 0, []), (.putfield 71, 3, 10, 14, 0, 0, []), (.goto (-69), 3, 130, 0, 0, 0, [])] = true := by decide +kernel
set_option maxRecDepth 100000 in
theorem bk_m_token_202 : chk 99 203 202 [(.return_, 1, 0, 0, 0, 0, [])] = true := by decide +kernel
set_option maxRecDepth 100000 in
theorem bk_m_number_0 : chk 100 4 0 [(.aload_n 0, 1, 0, 0, 0, 0, []), (.invokevirtual 94, 3, 99, 1, 10, 0, [])] = true := by decide +kernel
set_option maxRecDepth 100000 in
theorem bk_m_number_4 : chk 100 31 4 [(.aload_n 0, 1, 0, 0, 0, 0, []), (.getfield 16, 3, 10, 4, 2, 0, []), (.iload_n 1, 1, 1, 0, 0, 0, []), (.aload_n 0, 1, 0, 0, 0, 0, []), (.getfield 91, 3, 10, 17, 0, 0, []), (.iastore, 1, 0, 0, 0, 0, []), (.aload_n 0, 1, 0, 0, 0, 0, []), (.getfield 88, 3, 10, 15, 0, 0, []), (.iconst 2, 1, 0, 0, 0, 2, []), (.if_icmp .ne 19, 3, 38, 0, 0, 0, []), (.aload_n 0, 1, 0, 0, 0, 0, []), (.getfield 91, 3, 10, 17, 0, 0, []), (.iload_n 2, 1, 2, 0, 0, 0, []), (.iload_n 3, 1, 3, 0, 0, 0, []), (.invokestatic 63, 3, 90, 3, 0, 0, [])] = true := by decide +kernel
set_option maxRecDepth 100000 in
theorem bk_m_number_31 : chk 100 38 31 [(.ifCond .eq 7, 3, 38, 0, 0, 0, []), (.iconst 1, 1, 0, 0, 0, 1, []), (.goto 4, 3, 39, 0, 0, 0, [])] = true := by decide +kernel
set_option maxRecDepth 100000 in
theorem bk_m_number_38 : chk 100 39 38 [(.iconst 0, 1, 0, 0, 0, 0, [])] = true := by decide +kernel
set_option maxRecDepth 100000 in
theorem bk_m_number_39 : chk 100 40 39 [(.ireturn, 1, 0, 1, 0, 0, [])] = true := by decide +kernel
set_option maxRecDepth 100000 in
theorem bk_m_once_0 : chk 101 14 0 [(.aload_n 0, 1, 0, 0, 0, 0, []), (.getfield 16, 3, 10, 4, 2, 0, []), (.bipush 6, 2, 0, 0, 0, 6, []), (.iaload, 1, 0, 0, 0, 0, []), (.iload_n 1, 1, 1, 0, 0, 0, []), (.iand, 1, 0, 0, 0, 0, []), (.ifCond .eq 5, 3, 14, 0, 0, 0, []), (.iconst 0, 1, 0, 0, 0, 0, []), (.ireturn, 1, 0, 1, 0, 0, [])] = true := by decide +kernel
set_option maxRecDepth 100000 in
theorem bk_m_once_14 : chk 101 33 14 [(.aload_n 0, 1, 0, 0, 0, 0, []), (.getfield 16, 3, 10, 4, 2, 0, []), (.bipush 6, 2, 0, 0, 0, 6, []), (.dup2, 1, 0, 0, 0, 0, []), (.iaload, 1, 0, 0, 0, 0, []), (.iload_n 1, 1, 1, 0, 0, 0, []), (.ior, 1, 0, 0, 0, 0, []), (.iastore, 1, 0, 0, 0, 0, []), (.aload_n 0, 1, 0, 0, 0, 0, []), (.iload_n 2, 1, 2, 0, 0, 0, []), (.iload_n 3, 1, 3, 0, 0, 0, []), (.iload 4, 2, 4, 0, 0, 0, []), (.invokevirtual 97, 3, 100, 4, 10, 0, [])] = true := by decide +kernel
set_option maxRecDepth 100000 in
theorem bk_m_once_33 : chk 101 34 33 [(.ireturn, 1, 0, 1, 0, 0, [])] = true := by decide +kernel
set_option maxRecDepth 100000 in
theorem bk_m_readsItem_0 : chk 102 15 0 [(.aload_n 0, 1, 0, 0, 0, 0, []), (.getfield 88, 3, 10, 15, 0, 0, []), (.iconst 1, 1, 0, 0, 0, 1, []), (.if_icmp .ne 10, 3, 15, 0, 0, 0, []), (.aload_n 0, 1, 0, 0, 0, 0, []), (.getfield 91, 3, 10, 17, 0, 0, []), (.goto 4, 3, 16, 0, 0, 0, [])] = true := by decide +kernel
set_option maxRecDepth 100000 in
theorem bk_m_readsItem_15 : chk 102 16 15 [(.iconst 0, 1, 0, 0, 0, 0, [])] = true := by decide +kernel
set_option maxRecDepth 100000 in
theorem bk_m_readsItem_16 : chk 102 32 16 [(.istore_n 1, 1, 1, 0, 0, 0, []), (.iload_n 1, 1, 1, 0, 0, 0, []), (.bipush 110, 2, 0, 0, 0, 110, []), (.if_icmp .ne 12, 3, 32, 0, 0, 0, []), (.aload_n 0, 1, 0, 0, 0, 0, []), (.getfield 16, 3, 10, 4, 2, 0, []), (.iconst 0, 1, 0, 0, 0, 0, []), (.iaload, 1, 0, 0, 0, 0, []), (.goto 9, 3, 38, 0, 0, 0, [])] = true := by decide +kernel
set_option maxRecDepth 100000 in
theorem bk_m_readsItem_32 : chk 102 38 32 [(.aload_n 0, 1, 0, 0, 0, 0, []), (.getfield 16, 3, 10, 4, 2, 0, []), (.iconst 1, 1, 0, 0, 0, 1, []), (.iaload, 1, 0, 0, 0, 0, [])] = true := by decide +kernel
set_option maxRecDepth 100000 in
theorem bk_m_readsItem_38 : chk 102 92 38 [(.istore_n 2, 1, 2, 0, 0, 0, []), (.iload_n 1, 1, 1, 0, 0, 0, []), (.lookupswitch 232 #[(97, 121), (109, 203), (110, 52), (114, 212), (119, 222)], 52, 272, 0, 0, 0, [(97, 161), (109, 243), (110, 92), (114, 252), (119, 262)])] = true := by decide +kernel
set_option maxRecDepth 100000 in
theorem bk_m_readsItem_92 : chk 102 109 92 [(.iload_n 2, 1, 2, 0, 0, 0, []), (.bipush 6, 2, 0, 0, 0, 6, []), (.if_icmp .eq 52, 3, 147, 0, 0, 0, []), (.aload_n 0, 1, 0, 0, 0, 0, []), (.bipush 7, 2, 0, 0, 0, 7, []), (.iload_n 2, 1, 2, 0, 0, 0, []), (.iadd, 1, 0, 0, 0, 0, []), (.iconst 1, 1, 0, 0, 0, 1, []), (.bipush 30, 2, 0, 0, 0, 30, []), (.invokevirtual 97, 3, 100, 4, 10, 0, [])] = true := by decide +kernel
set_option maxRecDepth 100000 in
theorem bk_m_readsItem_109 : chk 102 130 109 [(.ifCond .eq 38, 3, 147, 0, 0, 0, []), (.aload_n 0, 1, 0, 0, 0, 0, []), (.bipush 13, 2, 0, 0, 0, 13, []), (.iload_n 2, 1, 2, 0, 0, 0, []), (.iadd, 1, 0, 0, 0, 0, []), (.iconst 0, 1, 0, 0, 0, 0, []), (.aload_n 0, 1, 0, 0, 0, 0, []), (.getfield 16, 3, 10, 4, 2, 0, []), (.bipush 7, 2, 0, 0, 0, 7, []), (.iload_n 2, 1, 2, 0, 0, 0, []), (.iadd, 1, 0, 0, 0, 0, []), (.iaload, 1, 0, 0, 0, 0, []), (.invokevirtual 97, 3, 100, 4, 10, 0, [])] = true := by decide +kernel
set_option maxRecDepth 100000 in
theorem bk_m_readsItem_130 : chk 102 144 130 [(.ifCond .eq 17, 3, 147, 0, 0, 0, []), (.aload_n 0, 1, 0, 0, 0, 0, []), (.bipush 19, 2, 0, 0, 0, 19, []), (.iload_n 2, 1, 2, 0, 0, 0, []), (.iadd, 1, 0, 0, 0, 0, []), (.iconst 0, 1, 0, 0, 0, 0, []), (.bipush 31, 2, 0, 0, 0, 31, []), (.invokevirtual 97, 3, 100, 4, 10, 0, [])] = true := by decide +kernel
set_option maxRecDepth 100000 in
theorem bk_m_readsItem_144 : chk 102 147 144 [(.ifCond .ne 5, 3, 149, 0, 0, 0, [])] = true := by decide +kernel
set_option maxRecDepth 100000 in
theorem bk_m_readsItem_147 : chk 102 149 147 [(.iconst 0, 1, 0, 0, 0, 0, []), (.ireturn, 1, 0, 1, 0, 0, [])] = true := by decide +kernel
set_option maxRecDepth 100000 in
theorem bk_m_readsItem_149 : chk 102 161 149 [(.aload_n 0, 1, 0, 0, 0, 0, []), (.getfield 16, 3, 10, 4, 2, 0, []), (.iconst 0, 1, 0, 0, 0, 0, []), (.dup2, 1, 0, 0, 0, 0, []), (.iaload, 1, 0, 0, 0, 0, []), (.iconst 1, 1, 0, 0, 0, 1, []), (.iadd, 1, 0, 0, 0, 0, []), (.iastore, 1, 0, 0, 0, 0, []), (.iconst 1, 1, 0, 0, 0, 1, []), (.ireturn, 1, 0, 1, 0, 0, [])] = true := by decide +kernel
set_option maxRecDepth 100000 in
theorem bk_m_readsItem_161 : chk 102 178 161 [(.iload_n 2, 1, 2, 0, 0, 0, []), (.bipush 10, 2, 0, 0, 0, 10, []), (.if_icmp .eq 65, 3, 229, 0, 0, 0, []), (.aload_n 0, 1, 0, 0, 0, 0, []), (.bipush 25, 2, 0, 0, 0, 25, []), (.iload_n 2, 1, 2, 0, 0, 0, []), (.iadd, 1, 0, 0, 0, 0, []), (.iconst 0, 1, 0, 0, 0, 0, []), (.bipush 11, 2, 0, 0, 0, 11, []), (.invokevirtual 97, 3, 100, 4, 10, 0, [])] = true := by decide +kernel
set_option maxRecDepth 100000 in
theorem bk_m_readsItem_178 : chk 102 198 178 [(.ifCond .eq 51, 3, 229, 0, 0, 0, []), (.aload_n 0, 1, 0, 0, 0, 0, []), (.bipush 35, 2, 0, 0, 0, 35, []), (.iload_n 2, 1, 2, 0, 0, 0, []), (.iadd, 1, 0, 0, 0, 0, []), (.iconst 0, 1, 0, 0, 0, 0, []), (.aload_n 0, 1, 0, 0, 0, 0, []), (.getfield 16, 3, 10, 4, 2, 0, []), (.iconst 0, 1, 0, 0, 0, 0, []), (.iaload, 1, 0, 0, 0, 0, []), (.iconst 1, 1, 0, 0, 0, 1, []), (.isub, 1, 0, 0, 0, 0, []), (.invokevirtual 97, 3, 100, 4, 10, 0, [])] = true := by decide +kernel
set_option maxRecDepth 100000 in
theorem bk_m_readsItem_198 : chk 102 212 198 [(.ifCond .eq 31, 3, 229, 0, 0, 0, []), (.aload_n 0, 1, 0, 0, 0, 0, []), (.bipush 45, 2, 0, 0, 0, 45, []), (.iload_n 2, 1, 2, 0, 0, 0, []), (.iadd, 1, 0, 0, 0, 0, []), (.iconst 1, 1, 0, 0, 0, 1, []), (.bipush 9, 2, 0, 0, 0, 9, []), (.invokevirtual 97, 3, 100, 4, 10, 0, [])] = true := by decide +kernel
set_option maxRecDepth 100000 in
theorem bk_m_readsItem_212 : chk 102 226 212 [(.ifCond .eq 17, 3, 229, 0, 0, 0, []), (.aload_n 0, 1, 0, 0, 0, 0, []), (.bipush 55, 2, 0, 0, 0, 55, []), (.iload_n 2, 1, 2, 0, 0, 0, []), (.iadd, 1, 0, 0, 0, 0, []), (.iconst 1, 1, 0, 0, 0, 1, []), (.bipush 9, 2, 0, 0, 0, 9, []), (.invokevirtual 97, 3, 100, 4, 10, 0, [])] = true := by decide +kernel
set_option maxRecDepth 100000 in
theorem bk_m_readsItem_226 : chk 102 229 226 [(.ifCond .ne 5, 3, 231, 0, 0, 0, [])] = true := by decide +kernel
set_option maxRecDepth 100000 in
theorem bk_m_readsItem_229 : chk 102 231 229 [(.iconst 0, 1, 0, 0, 0, 0, []), (.ireturn, 1, 0, 1, 0, 0, [])] = true := by decide +kernel
set_option maxRecDepth 100000 in
theorem bk_m_readsItem_231 : chk 102 243 231 [(.aload_n 0, 1, 0, 0, 0, 0, []), (.getfield 16, 3, 10, 4, 2, 0, []), (.iconst 1, 1, 0, 0, 0, 1, []), (.dup2, 1, 0, 0, 0, 0, []), (.iaload, 1, 0, 0, 0, 0, []), (.iconst 1, 1, 0, 0, 0, 1, []), (.iadd, 1, 0, 0, 0, 0, []), (.iastore, 1, 0, 0, 0, 0, []), (.iconst 1, 1, 0, 0, 0, 1, []), (.ireturn, 1, 0, 1, 0, 0, [])] = true := by decide +kernel
set_option maxRecDepth 100000 in
theorem bk_m_readsItem_243 : chk 102 251 243 [(.aload_n 0, 1, 0, 0, 0, 0, []), (.iconst 1, 1, 0, 0, 0, 1, []), (.iconst 2, 1, 0, 0, 0, 2, []), (.iconst 1, 1, 0, 0, 0, 1, []), (.iconst 4, 1, 0, 0, 0, 4, []), (.invokevirtual 100, 3, 101, 5, 10, 0, [])] = true := by decide +kernel
set_option maxRecDepth 100000 in
theorem bk_m_readsItem_251 : chk 102 252 251 [(.ireturn, 1, 0, 1, 0, 0, [])] = true := by decide +kernel
set_option maxRecDepth 100000 in
theorem bk_m_readsItem_252 : chk 102 261 252 [(.aload_n 0, 1, 0, 0, 0, 0, []), (.iconst 2, 1, 0, 0, 0, 2, []), (.iconst 3, 1, 0, 0, 0, 3, []), (.iconst 1, 1, 0, 0, 0, 1, []), (.bipush 9, 2, 0, 0, 0, 9, []), (.invokevirtual 100, 3, 101, 5, 10, 0, [])] = true := by decide +kernel
set_option maxRecDepth 100000 in
theorem bk_m_readsItem_261 : chk 102 262 261 [(.ireturn, 1, 0, 1, 0, 0, [])] = true := by decide +kernel
set_option maxRecDepth 100000 in
theorem bk_m_readsItem_262 : chk 102 271 262 [(.aload_n 0, 1, 0, 0, 0, 0, []), (.iconst 4, 1, 0, 0, 0, 4, []), (.iconst 4, 1, 0, 0, 0, 4, []), (.iconst 0, 1, 0, 0, 0, 0, []), (.bipush 10, 2, 0, 0, 0, 10, []), (.invokevirtual 100, 3, 101, 5, 10, 0, [])] = true := by decide +kernel
set_option maxRecDepth 100000 in
theorem bk_m_readsItem_271 : chk 102 272 271 [(.ireturn, 1, 0, 1, 0, 0, [])] = true := by decide +kernel
set_option maxRecDepth 100000 in
theorem bk_m_readsItem_272 : chk 102 274 272 [(.iconst 0, 1, 0, 0, 0, 0, []), (.ireturn, 1, 0, 1, 0, 0, [])] = true := by decide +kernel
set_option maxRecDepth 100000 in
theorem bk_m_reads_0 : chk 103 2 0 [(.iconst 0, 1, 0, 0, 0, 0, []), (.istore_n 1, 1, 1, 0, 0, 0, [])] = true := by decide +kernel
set_option maxRecDepth 100000 in
theorem bk_m_reads_2 : chk 103 21 2 [(.iload_n 1, 1, 1, 0, 0, 0, []), (.bipush 65, 2, 0, 0, 0, 65, []), (.if_icmp .ge 16, 3, 21, 0, 0, 0, []), (.aload_n 0, 1, 0, 0, 0, 0, []), (.getfield 16, 3, 10, 4, 2, 0, []), (.iload_n 1, 1, 1, 0, 0, 0, []), (.iconst 0, 1, 0, 0, 0, 0, []), (.iastore, 1, 0, 0, 0, 0, []), (.iinc 1 1, 3, 1, 0, 0, 1, []), (.goto (-16), 3, 2, 0, 0, 0, [])] = true := by decide +kernel
set_option maxRecDepth 100000 in
theorem bk_m_reads_21 : chk 103 51 21 [(.aload_n 0, 1, 0, 0, 0, 0, []), (.getfield 16, 3, 10, 4, 2, 0, []), (.iconst 2, 1, 0, 0, 0, 2, []), (.iconst 2, 1, 0, 0, 0, 2, []), (.iastore, 1, 0, 0, 0, 0, []), (.aload_n 0, 1, 0, 0, 0, 0, []), (.getfield 16, 3, 10, 4, 2, 0, []), (.iconst 3, 1, 0, 0, 0, 3, []), (.iconst 5, 1, 0, 0, 0, 5, []), (.iastore, 1, 0, 0, 0, 0, []), (.aload_n 0, 1, 0, 0, 0, 0, []), (.getfield 16, 3, 10, 4, 2, 0, []), (.iconst 4, 1, 0, 0, 0, 4, []), (.iconst 1, 1, 0, 0, 0, 1, []), (.iastore, 1, 0, 0, 0, 0, []), (.aload_n 0, 1, 0, 0, 0, 0, []), (.iconst 0, 1, 0, 0, 0, 0, []), (.putfield 71, 3, 10, 14, 0, 0, []), (.aload_n 0, 1, 0, 0, 0, 0, []), (.invokevirtual 94, 3, 99, 1, 10, 0, [])] = true := by decide +kernel
set_option maxRecDepth 100000 in
theorem bk_m_reads_51 : chk 103 62 51 [(.aload_n 0, 1, 0, 0, 0, 0, []), (.getfield 88, 3, 10, 15, 0, 0, []), (.ifCond .eq 43, 3, 98, 0, 0, 0, []), (.aload_n 0, 1, 0, 0, 0, 0, []), (.invokevirtual 104, 3, 102, 1, 10, 0, [])] = true := by decide +kernel
set_option maxRecDepth 100000 in
theorem bk_m_reads_62 : chk 103 67 62 [(.ifCond .ne 5, 3, 67, 0, 0, 0, []), (.iconst 0, 1, 0, 0, 0, 0, []), (.ireturn, 1, 0, 1, 0, 0, [])] = true := by decide +kernel
set_option maxRecDepth 100000 in
theorem bk_m_reads_67 : chk 103 71 67 [(.aload_n 0, 1, 0, 0, 0, 0, []), (.invokevirtual 94, 3, 99, 1, 10, 0, [])] = true := by decide +kernel
set_option maxRecDepth 100000 in
theorem bk_m_reads_71 : chk 103 81 71 [(.aload_n 0, 1, 0, 0, 0, 0, []), (.getfield 88, 3, 10, 15, 0, 0, []), (.iconst 3, 1, 0, 0, 0, 3, []), (.if_icmp .eq 5, 3, 81, 0, 0, 0, []), (.iconst 0, 1, 0, 0, 0, 0, []), (.ireturn, 1, 0, 1, 0, 0, [])] = true := by decide +kernel
set_option maxRecDepth 100000 in
theorem bk_m_reads_81 : chk 103 95 81 [(.aload_n 0, 1, 0, 0, 0, 0, []), (.getfield 16, 3, 10, 4, 2, 0, []), (.iconst 5, 1, 0, 0, 0, 5, []), (.dup2, 1, 0, 0, 0, 0, []), (.iaload, 1, 0, 0, 0, 0, []), (.iconst 1, 1, 0, 0, 0, 1, []), (.iadd, 1, 0, 0, 0, 0, []), (.iastore, 1, 0, 0, 0, 0, []), (.aload_n 0, 1, 0, 0, 0, 0, []), (.invokevirtual 94, 3, 99, 1, 10, 0, [])] = true := by decide +kernel
set_option maxRecDepth 100000 in
theorem bk_m_reads_95 : chk 103 98 95 [(.goto (-44), 3, 51, 0, 0, 0, [])] = true := by decide +kernel
set_option maxRecDepth 100000 in
theorem bk_m_reads_98 : chk 103 100 98 [(.iconst 1, 1, 0, 0, 0, 1, []), (.ireturn, 1, 0, 1, 0, 0, [])] = true := by decide +kernel
set_option maxRecDepth 100000 in
theorem bk_m_begins_0 : chk 104 2 0 [(.iconst 0, 1, 0, 0, 0, 0, []), (.istore_n 1, 1, 1, 0, 0, 0, [])] = true := by decide +kernel
set_option maxRecDepth 100000 in
theorem bk_m_begins_2 : chk 104 26 2 [(.iload_n 1, 1, 1, 0, 0, 0, []), (.bipush 65, 2, 0, 0, 0, 65, []), (.if_icmp .ge 21, 3, 26, 0, 0, 0, []), (.aload_n 0, 1, 0, 0, 0, 0, []), (.getfield 13, 3, 10, 3, 2, 0, []), (.iload_n 1, 1, 1, 0, 0, 0, []), (.aload_n 0, 1, 0, 0, 0, 0, []), (.getfield 16, 3, 10, 4, 2, 0, []), (.iload_n 1, 1, 1, 0, 0, 0, []), (.iaload, 1, 0, 0, 0, 0, []), (.iastore, 1, 0, 0, 0, 0, []), (.iinc 1 1, 3, 1, 0, 0, 1, []), (.goto (-21), 3, 2, 0, 0, 0, [])] = true := by decide +kernel
set_option maxRecDepth 100000 in
theorem bk_m_begins_26 : chk 104 28 26 [(.iconst 0, 1, 0, 0, 0, 0, []), (.istore_n 1, 1, 1, 0, 0, 0, [])] = true := by decide +kernel
set_option maxRecDepth 100000 in
theorem bk_m_begins_28 : chk 104 46 28 [(.iload_n 1, 1, 1, 0, 0, 0, []), (.bipush 11, 2, 0, 0, 0, 11, []), (.if_icmp .ge 40, 3, 71, 0, 0, 0, []), (.aload_n 0, 1, 0, 0, 0, 0, []), (.getfield 19, 3, 10, 5, 2, 0, []), (.iload_n 1, 1, 1, 0, 0, 0, []), (.iload_n 1, 1, 1, 0, 0, 0, []), (.iconst 1, 1, 0, 0, 0, 1, []), (.bipush 6, 2, 0, 0, 0, 6, []), (.invokestatic 63, 3, 90, 3, 0, 0, [])] = true := by decide +kernel
set_option maxRecDepth 100000 in
theorem bk_m_begins_46 : chk 104 63 46 [(.ifCond .eq 17, 3, 63, 0, 0, 0, []), (.aload_n 0, 1, 0, 0, 0, 0, []), (.getfield 13, 3, 10, 3, 2, 0, []), (.bipush 13, 2, 0, 0, 0, 13, []), (.iload_n 1, 1, 1, 0, 0, 0, []), (.iadd, 1, 0, 0, 0, 0, []), (.iconst 1, 1, 0, 0, 0, 1, []), (.isub, 1, 0, 0, 0, 0, []), (.iaload, 1, 0, 0, 0, 0, []), (.goto 4, 3, 64, 0, 0, 0, [])] = true := by decide +kernel
set_option maxRecDepth 100000 in
theorem bk_m_begins_63 : chk 104 64 63 [(.iconst 0, 1, 0, 0, 0, 0, [])] = true := by decide +kernel
set_option maxRecDepth 100000 in
theorem bk_m_begins_64 : chk 104 71 64 [(.iastore, 1, 0, 0, 0, 0, []), (.iinc 1 1, 3, 1, 0, 0, 1, []), (.goto (-40), 3, 28, 0, 0, 0, [])] = true := by decide +kernel
set_option maxRecDepth 100000 in
theorem bk_m_begins_71 : chk 104 101 71 [(.aload_n 0, 1, 0, 0, 0, 0, []), (.iconst 0, 1, 0, 0, 0, 0, []), (.putfield 107, 3, 10, 7, 0, 0, []), (.aload_n 0, 1, 0, 0, 0, 0, []), (.iconst 0, 1, 0, 0, 0, 0, []), (.putfield 110, 3, 10, 11, 0, 0, []), (.aload_n 0, 1, 0, 0, 0, 0, []), (.iconst 0, 1, 0, 0, 0, 0, []), (.putfield 113, 3, 10, 13, 0, 0, []), (.aload_n 0, 1, 0, 0, 0, 0, []), (.getfield 28, 3, 10, 9, 2, 0, []), (.iconst 0, 1, 0, 0, 0, 0, []), (.iconst 0, 1, 0, 0, 0, 0, []), (.bastore, 1, 0, 0, 0, 0, []), (.aload_n 0, 1, 0, 0, 0, 0, []), (.getfield 28, 3, 10, 9, 2, 0, []), (.iconst 1, 1, 0, 0, 0, 1, []), (.iconst 0, 1, 0, 0, 0, 0, []), (.bastore, 1, 0, 0, 0, 0, []), (.return_, 1, 0, 0, 0, 0, [])] = true := by decide +kernel
set_option maxRecDepth 100000 in
theorem bk_m_meadow_0 : chk 105 4 0 [(.aload_n 0, 1, 0, 0, 0, 0, []), (.invokevirtual 56, 3, 103, 1, 10, 0, [])] = true := by decide +kernel
set_option maxRecDepth 100000 in
theorem bk_m_meadow_4 : chk 105 15 4 [(.ifCond .ne 11, 3, 15, 0, 0, 0, []), (.bipush (-10), 2, 0, 0, 0, -10, []), (.aload_n 0, 1, 0, 0, 0, 0, []), (.getfield 78, 3, 10, 16, 0, 0, []), (.isub, 1, 0, 0, 0, 0, []), (.ireturn, 1, 0, 0, 0, 0, [])] = true := by decide +kernel
set_option maxRecDepth 100000 in
theorem bk_m_meadow_15 : chk 105 19 15 [(.aload_n 0, 1, 0, 0, 0, 0, []), (.invokevirtual 60, 3, 104, 1, 10, 0, [])] = true := by decide +kernel
set_option maxRecDepth 100000 in
theorem bk_m_meadow_19 : chk 105 31 19 [(.aload_n 0, 1, 0, 0, 0, 0, []), (.iconst 0, 1, 0, 0, 0, 0, []), (.putfield 67, 3, 10, 2, 0, 0, []), (.aload_n 0, 1, 0, 0, 0, 0, []), (.getfield 13, 3, 10, 3, 2, 0, []), (.iconst 5, 1, 0, 0, 0, 5, []), (.iaload, 1, 0, 0, 0, 0, []), (.ireturn, 1, 0, 0, 0, 0, [])] = true := by decide +kernel
set_option maxRecDepth 100000 in
theorem bk_m_name_0 : chk 106 5 0 [(.aload_n 0, 1, 0, 0, 0, 0, []), (.iload_n 1, 1, 1, 0, 0, 0, []), (.invokevirtual 116, 3, 92, 2, 10, 0, [])] = true := by decide +kernel
set_option maxRecDepth 100000 in
theorem bk_m_name_5 : chk 106 10 5 [(.ifCond .ne 5, 3, 10, 0, 0, 0, []), (.iconst (-1), 1, 0, 0, 0, -1, []), (.ireturn, 1, 0, 0, 0, 0, [])] = true := by decide +kernel
set_option maxRecDepth 100000 in
theorem bk_m_name_10 : chk 106 44 10 [(.iload_n 2, 1, 2, 0, 0, 0, []), (.tableswitch 86 0 4 #[33, 43, 52, 62, 74], 33, 97, 0, 0, 0, [(0, 44), (1, 54), (2, 63), (3, 73), (4, 85)])] = true := by decide +kernel
set_option maxRecDepth 100000 in
theorem bk_m_name_44 : chk 106 54 44 [(.aload_n 0, 1, 0, 0, 0, 0, []), (.getfield 13, 3, 10, 3, 2, 0, []), (.bipush 7, 2, 0, 0, 0, 7, []), (.iload_n 1, 1, 1, 0, 0, 0, []), (.iadd, 1, 0, 0, 0, 0, []), (.iaload, 1, 0, 0, 0, 0, []), (.ireturn, 1, 0, 0, 0, 0, [])] = true := by decide +kernel
set_option maxRecDepth 100000 in
theorem bk_m_name_54 : chk 106 63 54 [(.aload_n 0, 1, 0, 0, 0, 0, []), (.getfield 19, 3, 10, 5, 2, 0, []), (.iconst 1, 1, 0, 0, 0, 1, []), (.iload_n 1, 1, 1, 0, 0, 0, []), (.iadd, 1, 0, 0, 0, 0, []), (.iaload, 1, 0, 0, 0, 0, []), (.ireturn, 1, 0, 0, 0, 0, [])] = true := by decide +kernel
set_option maxRecDepth 100000 in
theorem bk_m_name_63 : chk 106 73 63 [(.aload_n 0, 1, 0, 0, 0, 0, []), (.getfield 13, 3, 10, 3, 2, 0, []), (.bipush 19, 2, 0, 0, 0, 19, []), (.iload_n 1, 1, 1, 0, 0, 0, []), (.iadd, 1, 0, 0, 0, 0, []), (.iaload, 1, 0, 0, 0, 0, []), (.ireturn, 1, 0, 0, 0, 0, [])] = true := by decide +kernel
set_option maxRecDepth 100000 in
theorem bk_m_name_73 : chk 106 85 73 [(.aload_n 0, 1, 0, 0, 0, 0, []), (.getfield 19, 3, 10, 5, 2, 0, []), (.bipush 7, 2, 0, 0, 0, 7, []), (.iaload, 1, 0, 0, 0, 0, []), (.iload_n 1, 1, 1, 0, 0, 0, []), (.ishr, 1, 0, 0, 0, 0, []), (.iconst 1, 1, 0, 0, 0, 1, []), (.iand, 1, 0, 0, 0, 0, []), (.ireturn, 1, 0, 0, 0, 0, [])] = true := by decide +kernel
set_option maxRecDepth 100000 in
theorem bk_m_name_85 : chk 106 97 85 [(.aload_n 0, 1, 0, 0, 0, 0, []), (.getfield 19, 3, 10, 5, 2, 0, []), (.bipush 8, 2, 0, 0, 0, 8, []), (.iaload, 1, 0, 0, 0, 0, []), (.iload_n 1, 1, 1, 0, 0, 0, []), (.ishr, 1, 0, 0, 0, 0, []), (.iconst 1, 1, 0, 0, 0, 1, []), (.iand, 1, 0, 0, 0, 0, []), (.ireturn, 1, 0, 0, 0, 0, [])] = true := by decide +kernel
set_option maxRecDepth 100000 in
theorem bk_m_name_97 : chk 106 99 97 [(.iconst (-1), 1, 0, 0, 0, -1, []), (.ireturn, 1, 0, 0, 0, 0, [])] = true := by decide +kernel
set_option maxRecDepth 100000 in
theorem bk_m_act_0 : chk 107 13 0 [(.iload_n 1, 1, 1, 0, 0, 0, []), (.iconst 0, 1, 0, 0, 0, 0, []), (.aload_n 0, 1, 0, 0, 0, 0, []), (.getfield 13, 3, 10, 3, 2, 0, []), (.iconst 1, 1, 0, 0, 0, 1, []), (.iaload, 1, 0, 0, 0, 0, []), (.iconst 1, 1, 0, 0, 0, 1, []), (.isub, 1, 0, 0, 0, 0, []), (.invokestatic 63, 3, 90, 3, 0, 0, [])] = true := by decide +kernel
set_option maxRecDepth 100000 in
theorem bk_m_act_13 : chk 107 18 13 [(.ifCond .ne 5, 3, 18, 0, 0, 0, []), (.iconst (-1), 1, 0, 0, 0, -1, []), (.ireturn, 1, 0, 0, 0, 0, [])] = true := by decide +kernel
set_option maxRecDepth 100000 in
theorem bk_m_act_18 : chk 107 52 18 [(.iload_n 2, 1, 2, 0, 0, 0, []), (.tableswitch 85 0 4 #[33, 43, 53, 63, 73], 33, 104, 0, 0, 0, [(0, 52), (1, 62), (2, 72), (3, 82), (4, 92)])] = true := by decide +kernel
set_option maxRecDepth 100000 in
theorem bk_m_act_52 : chk 107 62 52 [(.aload_n 0, 1, 0, 0, 0, 0, []), (.getfield 13, 3, 10, 3, 2, 0, []), (.bipush 25, 2, 0, 0, 0, 25, []), (.iload_n 1, 1, 1, 0, 0, 0, []), (.iadd, 1, 0, 0, 0, 0, []), (.iaload, 1, 0, 0, 0, 0, []), (.ireturn, 1, 0, 0, 0, 0, [])] = true := by decide +kernel
set_option maxRecDepth 100000 in
theorem bk_m_act_62 : chk 107 72 62 [(.aload_n 0, 1, 0, 0, 0, 0, []), (.getfield 13, 3, 10, 3, 2, 0, []), (.bipush 35, 2, 0, 0, 0, 35, []), (.iload_n 1, 1, 1, 0, 0, 0, []), (.iadd, 1, 0, 0, 0, 0, []), (.iaload, 1, 0, 0, 0, 0, []), (.ireturn, 1, 0, 0, 0, 0, [])] = true := by decide +kernel
set_option maxRecDepth 100000 in
theorem bk_m_act_72 : chk 107 82 72 [(.aload_n 0, 1, 0, 0, 0, 0, []), (.getfield 13, 3, 10, 3, 2, 0, []), (.bipush 45, 2, 0, 0, 0, 45, []), (.iload_n 1, 1, 1, 0, 0, 0, []), (.iadd, 1, 0, 0, 0, 0, []), (.iaload, 1, 0, 0, 0, 0, []), (.ireturn, 1, 0, 0, 0, 0, [])] = true := by decide +kernel
set_option maxRecDepth 100000 in
theorem bk_m_act_82 : chk 107 92 82 [(.aload_n 0, 1, 0, 0, 0, 0, []), (.getfield 13, 3, 10, 3, 2, 0, []), (.bipush 55, 2, 0, 0, 0, 55, []), (.iload_n 1, 1, 1, 0, 0, 0, []), (.iadd, 1, 0, 0, 0, 0, []), (.iaload, 1, 0, 0, 0, 0, []), (.ireturn, 1, 0, 0, 0, 0, [])] = true := by decide +kernel
set_option maxRecDepth 100000 in
theorem bk_m_act_92 : chk 107 104 92 [(.aload_n 0, 1, 0, 0, 0, 0, []), (.getfield 19, 3, 10, 5, 2, 0, []), (.bipush 9, 2, 0, 0, 0, 9, []), (.iaload, 1, 0, 0, 0, 0, []), (.iload_n 1, 1, 1, 0, 0, 0, []), (.ishr, 1, 0, 0, 0, 0, []), (.iconst 1, 1, 0, 0, 0, 1, []), (.iand, 1, 0, 0, 0, 0, []), (.ireturn, 1, 0, 0, 0, 0, [])] = true := by decide +kernel
set_option maxRecDepth 100000 in
theorem bk_m_act_104 : chk 107 106 104 [(.iconst (-1), 1, 0, 0, 0, -1, []), (.ireturn, 1, 0, 0, 0, 0, [])] = true := by decide +kernel
set_option maxRecDepth 100000 in
theorem bk_m_keeps_0 : chk 108 11 0 [(.aload_n 0, 1, 0, 0, 0, 0, []), (.getfield 107, 3, 10, 7, 0, 0, []), (.bipush 10, 2, 0, 0, 0, 10, []), (.if_icmp .ne 42, 3, 48, 0, 0, 0, []), (.iconst 0, 1, 0, 0, 0, 0, []), (.istore_n 1, 1, 1, 0, 0, 0, [])] = true := by decide +kernel
set_option maxRecDepth 100000 in
theorem bk_m_keeps_11 : chk 108 38 11 [(.iload_n 1, 1, 1, 0, 0, 0, []), (.bipush 99, 2, 0, 0, 0, 99, []), (.if_icmp .ge 24, 3, 38, 0, 0, 0, []), (.aload_n 0, 1, 0, 0, 0, 0, []), (.getfield 22, 3, 10, 6, 2, 0, []), (.iload_n 1, 1, 1, 0, 0, 0, []), (.aload_n 0, 1, 0, 0, 0, 0, []), (.getfield 22, 3, 10, 6, 2, 0, []), (.iload_n 1, 1, 1, 0, 0, 0, []), (.bipush 11, 2, 0, 0, 0, 11, []), (.iadd, 1, 0, 0, 0, 0, []), (.iaload, 1, 0, 0, 0, 0, []), (.iastore, 1, 0, 0, 0, 0, []), (.iinc 1 1, 3, 1, 0, 0, 1, []), (.goto (-24), 3, 11, 0, 0, 0, [])] = true := by decide +kernel
set_option maxRecDepth 100000 in
theorem bk_m_keeps_38 : chk 108 48 38 [(.aload_n 0, 1, 0, 0, 0, 0, []), (.dup, 1, 0, 0, 0, 0, []), (.getfield 107, 3, 10, 7, 0, 0, []), (.iconst 1, 1, 0, 0, 0, 1, []), (.isub, 1, 0, 0, 0, 0, []), (.putfield 107, 3, 10, 7, 0, 0, [])] = true := by decide +kernel
set_option maxRecDepth 100000 in
theorem bk_m_keeps_48 : chk 108 50 48 [(.iconst 0, 1, 0, 0, 0, 0, []), (.istore_n 1, 1, 1, 0, 0, 0, [])] = true := by decide +kernel
set_option maxRecDepth 100000 in
theorem bk_m_keeps_50 : chk 108 82 50 [(.iload_n 1, 1, 1, 0, 0, 0, []), (.bipush 11, 2, 0, 0, 0, 11, []), (.if_icmp .ge 29, 3, 82, 0, 0, 0, []), (.aload_n 0, 1, 0, 0, 0, 0, []), (.getfield 22, 3, 10, 6, 2, 0, []), (.bipush 11, 2, 0, 0, 0, 11, []), (.aload_n 0, 1, 0, 0, 0, 0, []), (.getfield 107, 3, 10, 7, 0, 0, []), (.imul, 1, 0, 0, 0, 0, []), (.iload_n 1, 1, 1, 0, 0, 0, []), (.iadd, 1, 0, 0, 0, 0, []), (.aload_n 0, 1, 0, 0, 0, 0, []), (.getfield 19, 3, 10, 5, 2, 0, []), (.iload_n 1, 1, 1, 0, 0, 0, []), (.iaload, 1, 0, 0, 0, 0, []), (.iastore, 1, 0, 0, 0, 0, []), (.iinc 1 1, 3, 1, 0, 0, 1, []), (.goto (-29), 3, 50, 0, 0, 0, [])] = true := by decide +kernel
set_option maxRecDepth 100000 in
theorem bk_m_keeps_82 : chk 108 93 82 [(.aload_n 0, 1, 0, 0, 0, 0, []), (.dup, 1, 0, 0, 0, 0, []), (.getfield 107, 3, 10, 7, 0, 0, []), (.iconst 1, 1, 0, 0, 0, 1, []), (.iadd, 1, 0, 0, 0, 0, []), (.putfield 107, 3, 10, 7, 0, 0, []), (.return_, 1, 0, 0, 0, 0, [])] = true := by decide +kernel
set_option maxRecDepth 100000 in
theorem bk_m_sends_0 : chk 109 5 0 [(.aload_n 0, 1, 0, 0, 0, 0, []), (.iload_n 1, 1, 1, 0, 0, 0, []), (.invokevirtual 116, 3, 92, 2, 10, 0, [])] = true := by decide +kernel
set_option maxRecDepth 100000 in
theorem bk_m_sends_5 : chk 109 10 5 [(.ifCond .ne 5, 3, 10, 0, 0, 0, []), (.iconst (-1), 1, 0, 0, 0, -1, []), (.ireturn, 1, 0, 0, 0, 0, [])] = true := by decide +kernel
set_option maxRecDepth 100000 in
theorem bk_m_sends_10 : chk 109 29 10 [(.aload_n 0, 1, 0, 0, 0, 0, []), (.getfield 19, 3, 10, 5, 2, 0, []), (.bipush 7, 2, 0, 0, 0, 7, []), (.iaload, 1, 0, 0, 0, 0, []), (.aload_n 0, 1, 0, 0, 0, 0, []), (.getfield 19, 3, 10, 5, 2, 0, []), (.bipush 8, 2, 0, 0, 0, 8, []), (.iaload, 1, 0, 0, 0, 0, []), (.ior, 1, 0, 0, 0, 0, []), (.iload_n 1, 1, 1, 0, 0, 0, []), (.invokestatic 119, 3, 91, 2, 0, 0, [])] = true := by decide +kernel
set_option maxRecDepth 100000 in
theorem bk_m_sends_29 : chk 109 42 29 [(.ifCond .ne 22, 3, 51, 0, 0, 0, []), (.aload_n 0, 1, 0, 0, 0, 0, []), (.getfield 19, 3, 10, 5, 2, 0, []), (.bipush 7, 2, 0, 0, 0, 7, []), (.iaload, 1, 0, 0, 0, 0, []), (.invokestatic 123, 3, 93, 1, 0, 0, [])] = true := by decide +kernel
set_option maxRecDepth 100000 in
theorem bk_m_sends_42 : chk 109 51 42 [(.aload_n 0, 1, 0, 0, 0, 0, []), (.getfield 13, 3, 10, 3, 2, 0, []), (.iconst 2, 1, 0, 0, 0, 2, []), (.iaload, 1, 0, 0, 0, 0, []), (.if_icmp .ne 6, 3, 54, 0, 0, 0, [])] = true := by decide +kernel
set_option maxRecDepth 100000 in
theorem bk_m_sends_51 : chk 109 54 51 [(.bipush (-2), 2, 0, 0, 0, -2, []), (.ireturn, 1, 0, 0, 0, 0, [])] = true := by decide +kernel
set_option maxRecDepth 100000 in
theorem bk_m_sends_54 : chk 109 58 54 [(.aload_n 0, 1, 0, 0, 0, 0, []), (.invokevirtual 126, 3, 108, 1, 10, 0, [])] = true := by decide +kernel
set_option maxRecDepth 100000 in
theorem bk_m_sends_58 : chk 109 81 58 [(.aload_n 0, 1, 0, 0, 0, 0, []), (.getfield 19, 3, 10, 5, 2, 0, []), (.bipush 7, 2, 0, 0, 0, 7, []), (.dup2, 1, 0, 0, 0, 0, []), (.iaload, 1, 0, 0, 0, 0, []), (.iconst 1, 1, 0, 0, 0, 1, []), (.iload_n 1, 1, 1, 0, 0, 0, []), (.ishl, 1, 0, 0, 0, 0, []), (.ior, 1, 0, 0, 0, 0, []), (.iastore, 1, 0, 0, 0, 0, []), (.aload_n 0, 1, 0, 0, 0, 0, []), (.getfield 19, 3, 10, 5, 2, 0, []), (.bipush 7, 2, 0, 0, 0, 7, []), (.iaload, 1, 0, 0, 0, 0, []), (.invokestatic 123, 3, 93, 1, 0, 0, [])] = true := by decide +kernel
set_option maxRecDepth 100000 in
theorem bk_m_sends_81 : chk 109 82 81 [(.ireturn, 1, 0, 0, 0, 0, [])] = true := by decide +kernel
set_option maxRecDepth 100000 in
theorem bk_m_calls_0 : chk 110 5 0 [(.aload_n 0, 1, 0, 0, 0, 0, []), (.iload_n 1, 1, 1, 0, 0, 0, []), (.invokevirtual 116, 3, 92, 2, 10, 0, [])] = true := by decide +kernel
set_option maxRecDepth 100000 in
theorem bk_m_calls_5 : chk 110 10 5 [(.ifCond .ne 5, 3, 10, 0, 0, 0, []), (.iconst (-1), 1, 0, 0, 0, -1, []), (.ireturn, 1, 0, 0, 0, 0, [])] = true := by decide +kernel
set_option maxRecDepth 100000 in
theorem bk_m_calls_10 : chk 110 21 10 [(.aload_n 0, 1, 0, 0, 0, 0, []), (.getfield 19, 3, 10, 5, 2, 0, []), (.bipush 7, 2, 0, 0, 0, 7, []), (.iaload, 1, 0, 0, 0, 0, []), (.iload_n 1, 1, 1, 0, 0, 0, []), (.invokestatic 119, 3, 91, 2, 0, 0, [])] = true := by decide +kernel
set_option maxRecDepth 100000 in
theorem bk_m_calls_21 : chk 110 27 21 [(.ifCond .ne 6, 3, 27, 0, 0, 0, []), (.bipush (-2), 2, 0, 0, 0, -2, []), (.ireturn, 1, 0, 0, 0, 0, [])] = true := by decide +kernel
set_option maxRecDepth 100000 in
theorem bk_m_calls_27 : chk 110 31 27 [(.aload_n 0, 1, 0, 0, 0, 0, []), (.invokevirtual 126, 3, 108, 1, 10, 0, [])] = true := by decide +kernel
set_option maxRecDepth 100000 in
theorem bk_m_calls_31 : chk 110 54 31 [(.aload_n 0, 1, 0, 0, 0, 0, []), (.getfield 19, 3, 10, 5, 2, 0, []), (.bipush 7, 2, 0, 0, 0, 7, []), (.dup2, 1, 0, 0, 0, 0, []), (.iaload, 1, 0, 0, 0, 0, []), (.iconst 1, 1, 0, 0, 0, 1, []), (.iload_n 1, 1, 1, 0, 0, 0, []), (.ishl, 1, 0, 0, 0, 0, []), (.ixor, 1, 0, 0, 0, 0, []), (.iastore, 1, 0, 0, 0, 0, []), (.aload_n 0, 1, 0, 0, 0, 0, []), (.getfield 19, 3, 10, 5, 2, 0, []), (.bipush 7, 2, 0, 0, 0, 7, []), (.iaload, 1, 0, 0, 0, 0, []), (.invokestatic 123, 3, 93, 1, 0, 0, [])] = true := by decide +kernel
set_option maxRecDepth 100000 in
theorem bk_m_calls_54 : chk 110 55 54 [(.ireturn, 1, 0, 0, 0, 0, [])] = true := by decide +kernel
set_option maxRecDepth 100000 in
theorem bk_m_acts_0 : chk 111 13 0 [(.iload_n 1, 1, 1, 0, 0, 0, []), (.iconst 0, 1, 0, 0, 0, 0, []), (.aload_n 0, 1, 0, 0, 0, 0, []), (.getfield 13, 3, 10, 3, 2, 0, []), (.iconst 1, 1, 0, 0, 0, 1, []), (.iaload, 1, 0, 0, 0, 0, []), (.iconst 1, 1, 0, 0, 0, 1, []), (.isub, 1, 0, 0, 0, 0, []), (.invokestatic 63, 3, 90, 3, 0, 0, [])] = true := by decide +kernel
set_option maxRecDepth 100000 in
theorem bk_m_acts_13 : chk 111 18 13 [(.ifCond .ne 5, 3, 18, 0, 0, 0, []), (.iconst (-1), 1, 0, 0, 0, -1, []), (.ireturn, 1, 0, 0, 0, 0, [])] = true := by decide +kernel
set_option maxRecDepth 100000 in
theorem bk_m_acts_18 : chk 111 57 18 [(.aload_n 0, 1, 0, 0, 0, 0, []), (.getfield 13, 3, 10, 3, 2, 0, []), (.bipush 35, 2, 0, 0, 0, 35, []), (.iload_n 1, 1, 1, 0, 0, 0, []), (.iadd, 1, 0, 0, 0, 0, []), (.iaload, 1, 0, 0, 0, 0, []), (.istore_n 2, 1, 2, 0, 0, 0, []), (.aload_n 0, 1, 0, 0, 0, 0, []), (.getfield 13, 3, 10, 3, 2, 0, []), (.bipush 25, 2, 0, 0, 0, 25, []), (.iload_n 1, 1, 1, 0, 0, 0, []), (.iadd, 1, 0, 0, 0, 0, []), (.iaload, 1, 0, 0, 0, 0, []), (.aload_n 0, 1, 0, 0, 0, 0, []), (.getfield 19, 3, 10, 5, 2, 0, []), (.iconst 0, 1, 0, 0, 0, 0, []), (.iaload, 1, 0, 0, 0, 0, []), (.if_icmp .ne 69, 3, 112, 0, 0, 0, []), (.aload_n 0, 1, 0, 0, 0, 0, []), (.getfield 19, 3, 10, 5, 2, 0, []), (.bipush 9, 2, 0, 0, 0, 9, []), (.iaload, 1, 0, 0, 0, 0, []), (.iload_n 1, 1, 1, 0, 0, 0, []), (.invokestatic 119, 3, 91, 2, 0, 0, [])] = true := by decide +kernel
set_option maxRecDepth 100000 in
theorem bk_m_acts_57 : chk 111 79 57 [(.ifCond .ne 55, 3, 112, 0, 0, 0, []), (.aload_n 0, 1, 0, 0, 0, 0, []), (.getfield 19, 3, 10, 5, 2, 0, []), (.bipush 7, 2, 0, 0, 0, 7, []), (.iaload, 1, 0, 0, 0, 0, []), (.aload_n 0, 1, 0, 0, 0, 0, []), (.getfield 19, 3, 10, 5, 2, 0, []), (.bipush 8, 2, 0, 0, 0, 8, []), (.iaload, 1, 0, 0, 0, 0, []), (.ior, 1, 0, 0, 0, 0, []), (.iload_n 2, 1, 2, 0, 0, 0, []), (.invokestatic 119, 3, 91, 2, 0, 0, [])] = true := by decide +kernel
set_option maxRecDepth 100000 in
theorem bk_m_acts_79 : chk 111 112 79 [(.ifCond .ne 33, 3, 112, 0, 0, 0, []), (.aload_n 0, 1, 0, 0, 0, 0, []), (.getfield 19, 3, 10, 5, 2, 0, []), (.iconst 1, 1, 0, 0, 0, 1, []), (.iload_n 2, 1, 2, 0, 0, 0, []), (.iadd, 1, 0, 0, 0, 0, []), (.iaload, 1, 0, 0, 0, 0, []), (.aload_n 0, 1, 0, 0, 0, 0, []), (.getfield 13, 3, 10, 3, 2, 0, []), (.bipush 45, 2, 0, 0, 0, 45, []), (.iload_n 1, 1, 1, 0, 0, 0, []), (.iadd, 1, 0, 0, 0, 0, []), (.iaload, 1, 0, 0, 0, 0, []), (.iadd, 1, 0, 0, 0, 0, []), (.aload_n 0, 1, 0, 0, 0, 0, []), (.getfield 13, 3, 10, 3, 2, 0, []), (.bipush 7, 2, 0, 0, 0, 7, []), (.iload_n 2, 1, 2, 0, 0, 0, []), (.iadd, 1, 0, 0, 0, 0, []), (.iaload, 1, 0, 0, 0, 0, []), (.if_icmp .le 6, 3, 115, 0, 0, 0, [])] = true := by decide +kernel
set_option maxRecDepth 100000 in
theorem bk_m_acts_112 : chk 111 115 112 [(.bipush (-2), 2, 0, 0, 0, -2, []), (.ireturn, 1, 0, 0, 0, 0, [])] = true := by decide +kernel
set_option maxRecDepth 100000 in
theorem bk_m_acts_115 : chk 111 119 115 [(.aload_n 0, 1, 0, 0, 0, 0, []), (.invokevirtual 126, 3, 108, 1, 10, 0, [])] = true := by decide +kernel
set_option maxRecDepth 100000 in
theorem bk_m_acts_119 : chk 111 161 119 [(.aload_n 0, 1, 0, 0, 0, 0, []), (.getfield 19, 3, 10, 5, 2, 0, []), (.bipush 9, 2, 0, 0, 0, 9, []), (.dup2, 1, 0, 0, 0, 0, []), (.iaload, 1, 0, 0, 0, 0, []), (.iconst 1, 1, 0, 0, 0, 1, []), (.iload_n 1, 1, 1, 0, 0, 0, []), (.ishl, 1, 0, 0, 0, 0, []), (.ior, 1, 0, 0, 0, 0, []), (.iastore, 1, 0, 0, 0, 0, []), (.aload_n 0, 1, 0, 0, 0, 0, []), (.getfield 19, 3, 10, 5, 2, 0, []), (.iconst 1, 1, 0, 0, 0, 1, []), (.iload_n 2, 1, 2, 0, 0, 0, []), (.iadd, 1, 0, 0, 0, 0, []), (.dup2, 1, 0, 0, 0, 0, []), (.iaload, 1, 0, 0, 0, 0, []), (.aload_n 0, 1, 0, 0, 0, 0, []), (.getfield 13, 3, 10, 3, 2, 0, []), (.bipush 45, 2, 0, 0, 0, 45, []), (.iload_n 1, 1, 1, 0, 0, 0, []), (.iadd, 1, 0, 0, 0, 0, []), (.iaload, 1, 0, 0, 0, 0, []), (.iadd, 1, 0, 0, 0, 0, []), (.iastore, 1, 0, 0, 0, 0, []), (.aload_n 0, 1, 0, 0, 0, 0, []), (.getfield 19, 3, 10, 5, 2, 0, []), (.iconst 1, 1, 0, 0, 0, 1, []), (.iload_n 2, 1, 2, 0, 0, 0, []), (.iadd, 1, 0, 0, 0, 0, []), (.iaload, 1, 0, 0, 0, 0, []), (.ireturn, 1, 0, 0, 0, 0, [])] = true := by decide +kernel
set_option maxRecDepth 100000 in
theorem bk_m_rested_0 : chk 112 21 0 [(.iload_n 1, 1, 1, 0, 0, 0, []), (.aload_n 0, 1, 0, 0, 0, 0, []), (.getfield 13, 3, 10, 3, 2, 0, []), (.iconst 3, 1, 0, 0, 0, 3, []), (.iaload, 1, 0, 0, 0, 0, []), (.if_icmp .le 14, 3, 21, 0, 0, 0, []), (.iload_n 1, 1, 1, 0, 0, 0, []), (.aload_n 0, 1, 0, 0, 0, 0, []), (.getfield 13, 3, 10, 3, 2, 0, []), (.iconst 3, 1, 0, 0, 0, 3, []), (.iaload, 1, 0, 0, 0, 0, []), (.isub, 1, 0, 0, 0, 0, []), (.goto 4, 3, 22, 0, 0, 0, [])] = true := by decide +kernel
set_option maxRecDepth 100000 in
theorem bk_m_rested_21 : chk 112 22 21 [(.iconst 0, 1, 0, 0, 0, 0, [])] = true := by decide +kernel
set_option maxRecDepth 100000 in
theorem bk_m_rested_22 : chk 112 23 22 [(.ireturn, 1, 0, 0, 0, 0, [])] = true := by decide +kernel
set_option maxRecDepth 100000 in
theorem bk_m_month_0 : chk 113 8 0 [(.iload_n 1, 1, 1, 0, 0, 0, []), (.iconst 0, 1, 0, 0, 0, 0, []), (.sipush 9999, 3, 0, 0, 0, 9999, []), (.invokestatic 63, 3, 90, 3, 0, 0, [])] = true := by decide +kernel
set_option maxRecDepth 100000 in
theorem bk_m_month_8 : chk 113 13 8 [(.ifCond .ne 5, 3, 13, 0, 0, 0, []), (.iconst (-1), 1, 0, 0, 0, -1, []), (.ireturn, 1, 0, 0, 0, 0, [])] = true := by decide +kernel
set_option maxRecDepth 100000 in
theorem bk_m_month_13 : chk 113 27 13 [(.aload_n 0, 1, 0, 0, 0, 0, []), (.getfield 19, 3, 10, 5, 2, 0, []), (.iconst 0, 1, 0, 0, 0, 0, []), (.iaload, 1, 0, 0, 0, 0, []), (.bipush 12, 2, 0, 0, 0, 12, []), (.if_icmp .ne 6, 3, 27, 0, 0, 0, []), (.bipush (-2), 2, 0, 0, 0, -2, []), (.ireturn, 1, 0, 0, 0, 0, [])] = true := by decide +kernel
set_option maxRecDepth 100000 in
theorem bk_m_month_27 : chk 113 31 27 [(.aload_n 0, 1, 0, 0, 0, 0, []), (.invokevirtual 126, 3, 108, 1, 10, 0, [])] = true := by decide +kernel
set_option maxRecDepth 100000 in
theorem bk_m_month_31 : chk 113 33 31 [(.iconst 0, 1, 0, 0, 0, 0, []), (.istore_n 2, 1, 2, 0, 0, 0, [])] = true := by decide +kernel
set_option maxRecDepth 100000 in
theorem bk_m_month_33 : chk 113 80 33 [(.iload_n 2, 1, 2, 0, 0, 0, []), (.aload_n 0, 1, 0, 0, 0, 0, []), (.getfield 13, 3, 10, 3, 2, 0, []), (.iconst 1, 1, 0, 0, 0, 1, []), (.iaload, 1, 0, 0, 0, 0, []), (.if_icmp .ge 64, 3, 104, 0, 0, 0, []), (.aload_n 0, 1, 0, 0, 0, 0, []), (.getfield 19, 3, 10, 5, 2, 0, []), (.bipush 10, 2, 0, 0, 0, 10, []), (.dup2, 1, 0, 0, 0, 0, []), (.iaload, 1, 0, 0, 0, 0, []), (.aload_n 0, 1, 0, 0, 0, 0, []), (.getfield 13, 3, 10, 3, 2, 0, []), (.bipush 25, 2, 0, 0, 0, 25, []), (.iload_n 2, 1, 2, 0, 0, 0, []), (.iadd, 1, 0, 0, 0, 0, []), (.iaload, 1, 0, 0, 0, 0, []), (.aload_n 0, 1, 0, 0, 0, 0, []), (.getfield 19, 3, 10, 5, 2, 0, []), (.iconst 0, 1, 0, 0, 0, 0, []), (.iaload, 1, 0, 0, 0, 0, []), (.if_icmp .ne 29, 3, 95, 0, 0, 0, []), (.aload_n 0, 1, 0, 0, 0, 0, []), (.getfield 19, 3, 10, 5, 2, 0, []), (.bipush 9, 2, 0, 0, 0, 9, []), (.iaload, 1, 0, 0, 0, 0, []), (.iload_n 2, 1, 2, 0, 0, 0, []), (.invokestatic 119, 3, 91, 2, 0, 0, [])] = true := by decide +kernel
set_option maxRecDepth 100000 in
theorem bk_m_month_80 : chk 113 95 80 [(.ifCond .ne 15, 3, 95, 0, 0, 0, []), (.aload_n 0, 1, 0, 0, 0, 0, []), (.getfield 13, 3, 10, 3, 2, 0, []), (.bipush 55, 2, 0, 0, 0, 55, []), (.iload_n 2, 1, 2, 0, 0, 0, []), (.iadd, 1, 0, 0, 0, 0, []), (.iaload, 1, 0, 0, 0, 0, []), (.goto 4, 3, 96, 0, 0, 0, [])] = true := by decide +kernel
set_option maxRecDepth 100000 in
theorem bk_m_month_95 : chk 113 96 95 [(.iconst 0, 1, 0, 0, 0, 0, [])] = true := by decide +kernel
set_option maxRecDepth 100000 in
theorem bk_m_month_96 : chk 113 104 96 [(.iadd, 1, 0, 0, 0, 0, []), (.iastore, 1, 0, 0, 0, 0, []), (.iinc 2 1, 3, 2, 0, 0, 1, []), (.goto (-68), 3, 33, 0, 0, 0, [])] = true := by decide +kernel
set_option maxRecDepth 100000 in
theorem bk_m_month_104 : chk 113 108 104 [(.iconst 0, 1, 0, 0, 0, 0, []), (.istore_n 2, 1, 2, 0, 0, 0, []), (.iconst 0, 1, 0, 0, 0, 0, []), (.istore_n 3, 1, 3, 0, 0, 0, [])] = true := by decide +kernel
set_option maxRecDepth 100000 in
theorem bk_m_month_108 : chk 113 129 108 [(.iload_n 3, 1, 3, 0, 0, 0, []), (.aload_n 0, 1, 0, 0, 0, 0, []), (.getfield 13, 3, 10, 3, 2, 0, []), (.iconst 0, 1, 0, 0, 0, 0, []), (.iaload, 1, 0, 0, 0, 0, []), (.if_icmp .ge 110, 3, 225, 0, 0, 0, []), (.aload_n 0, 1, 0, 0, 0, 0, []), (.getfield 19, 3, 10, 5, 2, 0, []), (.bipush 7, 2, 0, 0, 0, 7, []), (.iaload, 1, 0, 0, 0, 0, []), (.iload_n 3, 1, 3, 0, 0, 0, []), (.invokestatic 119, 3, 91, 2, 0, 0, [])] = true := by decide +kernel
set_option maxRecDepth 100000 in
theorem bk_m_month_129 : chk 113 180 129 [(.ifCond .eq 90, 3, 219, 0, 0, 0, []), (.ldc2_w 129, 3, 0, 0, 0, 7919, []), (.iload_n 1, 1, 1, 0, 0, 0, []), (.i2l, 1, 0, 0, 0, 0, []), (.lmul, 1, 0, 0, 0, 0, []), (.ldc2_w 131, 3, 0, 0, 0, 6151, []), (.iload_n 3, 1, 3, 0, 0, 0, []), (.i2l, 1, 0, 0, 0, 0, []), (.lmul, 1, 0, 0, 0, 0, []), (.ladd, 1, 0, 0, 0, 0, []), (.ldc2_w 133, 3, 0, 0, 0, 12289, []), (.aload_n 0, 1, 0, 0, 0, 0, []), (.getfield 19, 3, 10, 5, 2, 0, []), (.iconst 0, 1, 0, 0, 0, 0, []), (.iaload, 1, 0, 0, 0, 0, []), (.i2l, 1, 0, 0, 0, 0, []), (.lmul, 1, 0, 0, 0, 0, []), (.ladd, 1, 0, 0, 0, 0, []), (.lconst 1, 1, 0, 0, 0, 1, []), (.ladd, 1, 0, 0, 0, 0, []), (.lstore 4, 2, 4, 0, 0, 0, []), (.aload_n 0, 1, 0, 0, 0, 0, []), (.getfield 19, 3, 10, 5, 2, 0, []), (.iconst 1, 1, 0, 0, 0, 1, []), (.iload_n 3, 1, 3, 0, 0, 0, []), (.iadd, 1, 0, 0, 0, 0, []), (.aload_n 0, 1, 0, 0, 0, 0, []), (.aload_n 0, 1, 0, 0, 0, 0, []), (.getfield 19, 3, 10, 5, 2, 0, []), (.iconst 1, 1, 0, 0, 0, 1, []), (.iload_n 3, 1, 3, 0, 0, 0, []), (.iadd, 1, 0, 0, 0, 0, []), (.iaload, 1, 0, 0, 0, 0, []), (.invokevirtual 135, 3, 112, 2, 10, 0, [])] = true := by decide +kernel
set_option maxRecDepth 100000 in
theorem bk_m_month_180 : chk 113 216 180 [(.iastore, 1, 0, 0, 0, 0, []), (.iload_n 2, 1, 2, 0, 0, 0, []), (.lload 4, 2, 4, 0, 0, 0, []), (.lload 4, 2, 4, 0, 0, 0, []), (.lmul, 1, 0, 0, 0, 0, []), (.ldc2_w 138, 3, 0, 0, 0, 65521, []), (.lrem, 1, 0, 0, 0, 0, []), (.ldc2_w 140, 3, 0, 0, 0, 8, []), (.ldiv, 1, 0, 0, 0, 0, []), (.ldc2_w 142, 3, 0, 0, 0, 10, []), (.lrem, 1, 0, 0, 0, 0, []), (.aload_n 0, 1, 0, 0, 0, 0, []), (.getfield 13, 3, 10, 3, 2, 0, []), (.iconst 4, 1, 0, 0, 0, 4, []), (.iaload, 1, 0, 0, 0, 0, []), (.i2l, 1, 0, 0, 0, 0, []), (.lcmp, 1, 0, 0, 0, 0, []), (.ifCond .ge 9, 3, 216, 0, 0, 0, []), (.iconst 1, 1, 0, 0, 0, 1, []), (.iload_n 3, 1, 3, 0, 0, 0, []), (.ishl, 1, 0, 0, 0, 0, []), (.goto 4, 3, 217, 0, 0, 0, [])] = true := by decide +kernel
set_option maxRecDepth 100000 in
theorem bk_m_month_216 : chk 113 217 216 [(.iconst 0, 1, 0, 0, 0, 0, [])] = true := by decide +kernel
set_option maxRecDepth 100000 in
theorem bk_m_month_217 : chk 113 219 217 [(.ior, 1, 0, 0, 0, 0, []), (.istore_n 2, 1, 2, 0, 0, 0, [])] = true := by decide +kernel
set_option maxRecDepth 100000 in
theorem bk_m_month_219 : chk 113 225 219 [(.iinc 3 1, 3, 3, 0, 0, 1, []), (.goto (-114), 3, 108, 0, 0, 0, [])] = true := by decide +kernel
set_option maxRecDepth 100000 in
theorem bk_m_month_225 : chk 113 261 225 [(.aload_n 0, 1, 0, 0, 0, 0, []), (.getfield 19, 3, 10, 5, 2, 0, []), (.bipush 7, 2, 0, 0, 0, 7, []), (.dup2, 1, 0, 0, 0, 0, []), (.iaload, 1, 0, 0, 0, 0, []), (.iload_n 2, 1, 2, 0, 0, 0, []), (.ixor, 1, 0, 0, 0, 0, []), (.iastore, 1, 0, 0, 0, 0, []), (.aload_n 0, 1, 0, 0, 0, 0, []), (.getfield 19, 3, 10, 5, 2, 0, []), (.bipush 8, 2, 0, 0, 0, 8, []), (.dup2, 1, 0, 0, 0, 0, []), (.iaload, 1, 0, 0, 0, 0, []), (.iload_n 2, 1, 2, 0, 0, 0, []), (.ior, 1, 0, 0, 0, 0, []), (.iastore, 1, 0, 0, 0, 0, []), (.aload_n 0, 1, 0, 0, 0, 0, []), (.getfield 19, 3, 10, 5, 2, 0, []), (.iconst 0, 1, 0, 0, 0, 0, []), (.dup2, 1, 0, 0, 0, 0, []), (.iaload, 1, 0, 0, 0, 0, []), (.iconst 1, 1, 0, 0, 0, 1, []), (.iadd, 1, 0, 0, 0, 0, []), (.iastore, 1, 0, 0, 0, 0, []), (.iload_n 2, 1, 2, 0, 0, 0, []), (.invokestatic 123, 3, 93, 1, 0, 0, [])] = true := by decide +kernel
set_option maxRecDepth 100000 in
theorem bk_m_month_261 : chk 113 262 261 [(.ireturn, 1, 0, 0, 0, 0, [])] = true := by decide +kernel
