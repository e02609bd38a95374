/-! blocks of the code, by program (b) -/
set_option maxRecDepth 100000 in
theorem bk_x_add_0 : chk 43 15 0 [(.aload_n 0, 1, 0, 0, 0, 0, []), (.getfield 22, 3, 7, 1, 0, 0, []), (.aload_n 0, 1, 0, 0, 0, 0, []), (.getfield 9, 3, 7, 0, 2, 0, []), (.arraylength, 1, 0, 180, 2, 0, []), (.if_icmp .lt 6, 3, 15, 0, 0, 0, []), (.bipush (-3), 2, 0, 0, 0, -3, []), (.ireturn, 1, 0, 0, 0, 0, [])] = true := by decide +kernel
set_option maxRecDepth 100000 in
theorem bk_x_add_15 : chk 43 40 15 [(.aload_n 0, 1, 0, 0, 0, 0, []), (.getfield 9, 3, 7, 0, 2, 0, []), (.aload_n 0, 1, 0, 0, 0, 0, []), (.getfield 22, 3, 7, 1, 0, 0, []), (.iload_n 1, 1, 1, 0, 0, 0, []), (.castore, 1, 0, 0, 0, 0, []), (.aload_n 0, 1, 0, 0, 0, 0, []), (.dup, 1, 0, 0, 0, 0, []), (.getfield 22, 3, 7, 1, 0, 0, []), (.iconst 1, 1, 0, 0, 0, 1, []), (.iadd, 1, 0, 0, 0, 0, []), (.putfield 22, 3, 7, 1, 0, 0, []), (.aload_n 0, 1, 0, 0, 0, 0, []), (.getfield 22, 3, 7, 1, 0, 0, []), (.ireturn, 1, 0, 0, 0, 0, [])] = true := by decide +kernel
set_option maxRecDepth 100000 in
theorem bk_x_read_0 : chk 44 7 0 [(.aload_n 0, 1, 0, 0, 0, 0, []), (.getfield 18, 3, 7, 2, 2, 0, []), (.invokevirtual 26, 3, 56, 1, 8, 0, [])] = true := by decide +kernel
set_option maxRecDepth 100000 in
theorem bk_x_read_7 : chk 44 36 7 [(.aload_n 0, 1, 0, 0, 0, 0, []), (.iconst 0, 1, 0, 0, 0, 0, []), (.putfield 29, 3, 7, 3, 0, 0, []), (.aload_n 0, 1, 0, 0, 0, 0, []), (.iconst (-1), 1, 0, 0, 0, -1, []), (.putfield 32, 3, 7, 7, 0, 0, []), (.aload_n 0, 1, 0, 0, 0, 0, []), (.iconst 0, 1, 0, 0, 0, 0, []), (.putfield 35, 3, 7, 8, 3, 0, []), (.aload_n 0, 1, 0, 0, 0, 0, []), (.iconst 0, 1, 0, 0, 0, 0, []), (.putfield 39, 3, 7, 9, 3, 0, []), (.aload_n 0, 1, 0, 0, 0, 0, []), (.iconst 0, 1, 0, 0, 0, 0, []), (.putfield 42, 3, 7, 10, 3, 0, []), (.aload_n 0, 1, 0, 0, 0, 0, []), (.invokevirtual 45, 3, 51, 1, 7, 0, [])] = true := by decide +kernel
set_option maxRecDepth 100000 in
theorem bk_x_read_36 : chk 44 38 36 [(.iconst 0, 1, 0, 0, 0, 0, []), (.istore_n 1, 1, 1, 0, 0, 0, [])] = true := by decide +kernel
set_option maxRecDepth 100000 in
theorem bk_x_read_38 : chk 44 65 38 [(.iload_n 1, 1, 1, 0, 0, 0, []), (.sipush 180, 3, 0, 0, 0, 180, []), (.if_icmp .ge 29, 3, 71, 0, 0, 0, []), (.aload_n 0, 1, 0, 0, 0, 0, []), (.getfield 48, 3, 7, 4, 0, 0, []), (.iconst (-1), 1, 0, 0, 0, -1, []), (.if_icmp .eq 21, 3, 71, 0, 0, 0, []), (.aload_n 0, 1, 0, 0, 0, 0, []), (.getfield 32, 3, 7, 7, 0, 0, []), (.iconst (-1), 1, 0, 0, 0, -1, []), (.if_icmp .ne 13, 3, 71, 0, 0, 0, []), (.aload_n 0, 1, 0, 0, 0, 0, []), (.invokevirtual 51, 3, 45, 1, 7, 0, [])] = true := by decide +kernel
set_option maxRecDepth 100000 in
theorem bk_x_read_65 : chk 44 71 65 [(.iinc 1 1, 3, 1, 0, 0, 1, []), (.goto (-30), 3, 38, 0, 0, 0, [])] = true := by decide +kernel
set_option maxRecDepth 100000 in
theorem bk_x_read_71 : chk 44 83 71 [(.aload_n 0, 1, 0, 0, 0, 0, []), (.getfield 32, 3, 7, 7, 0, 0, []), (.iconst (-1), 1, 0, 0, 0, -1, []), (.if_icmp .ne 7, 3, 83, 0, 0, 0, []), (.iload_n 1, 1, 1, 0, 0, 0, []), (.goto 10, 3, 90, 0, 0, 0, [])] = true := by decide +kernel
set_option maxRecDepth 100000 in
theorem bk_x_read_83 : chk 44 90 83 [(.bipush (-10), 2, 0, 0, 0, -10, []), (.aload_n 0, 1, 0, 0, 0, 0, []), (.getfield 32, 3, 7, 7, 0, 0, []), (.isub, 1, 0, 0, 0, 0, [])] = true := by decide +kernel
set_option maxRecDepth 100000 in
theorem bk_x_read_90 : chk 44 91 90 [(.ireturn, 1, 0, 0, 0, 0, [])] = true := by decide +kernel
set_option maxRecDepth 100000 in
theorem bk_x_readItem_0 : chk 45 10 0 [(.aload_n 0, 1, 0, 0, 0, 0, []), (.getfield 48, 3, 7, 4, 0, 0, []), (.istore_n 1, 1, 1, 0, 0, 0, []), (.aload_n 0, 1, 0, 0, 0, 0, []), (.iload_n 1, 1, 1, 0, 0, 0, []), (.invokevirtual 54, 3, 46, 2, 7, 0, [])] = true := by decide +kernel
set_option maxRecDepth 100000 in
theorem bk_x_readItem_10 : chk 45 22 10 [(.ifCond .ne 12, 3, 22, 0, 0, 0, []), (.aload_n 0, 1, 0, 0, 0, 0, []), (.aload_n 0, 1, 0, 0, 0, 0, []), (.getfield 58, 3, 7, 5, 0, 0, []), (.putfield 32, 3, 7, 7, 0, 0, []), (.return_, 1, 0, 0, 0, 0, [])] = true := by decide +kernel
set_option maxRecDepth 100000 in
theorem bk_x_readItem_22 : chk 45 26 22 [(.aload_n 0, 1, 0, 0, 0, 0, []), (.invokevirtual 45, 3, 51, 1, 7, 0, [])] = true := by decide +kernel
set_option maxRecDepth 100000 in
theorem bk_x_readItem_26 : chk 45 52 26 [(.iload_n 1, 1, 1, 0, 0, 0, []), (.lookupswitch 39 #[(97, 32), (110, 25)], 25, 66, 0, 0, 0, [(97, 59), (110, 52)])] = true := by decide +kernel
set_option maxRecDepth 100000 in
theorem bk_x_readItem_52 : chk 45 56 52 [(.aload_n 0, 1, 0, 0, 0, 0, []), (.invokevirtual 61, 3, 47, 1, 7, 0, [])] = true := by decide +kernel
set_option maxRecDepth 100000 in
theorem bk_x_readItem_56 : chk 45 59 56 [(.goto 15, 3, 71, 0, 0, 0, [])] = true := by decide +kernel
set_option maxRecDepth 100000 in
theorem bk_x_readItem_59 : chk 45 63 59 [(.aload_n 0, 1, 0, 0, 0, 0, []), (.invokevirtual 64, 3, 48, 1, 7, 0, [])] = true := by decide +kernel
set_option maxRecDepth 100000 in
theorem bk_x_readItem_63 : chk 45 66 63 [(.goto 8, 3, 71, 0, 0, 0, [])] = true := by decide +kernel
set_option maxRecDepth 100000 in
theorem bk_x_readItem_66 : chk 45 71 66 [(.aload_n 0, 1, 0, 0, 0, 0, []), (.iload_n 1, 1, 1, 0, 0, 0, []), (.invokevirtual 67, 3, 49, 2, 7, 0, [])] = true := by decide +kernel
set_option maxRecDepth 100000 in
theorem bk_x_readItem_71 : chk 45 96 71 [(.aload_n 0, 1, 0, 0, 0, 0, []), (.getfield 32, 3, 7, 7, 0, 0, []), (.iconst (-1), 1, 0, 0, 0, -1, []), (.if_icmp .ne 20, 3, 96, 0, 0, 0, []), (.aload_n 0, 1, 0, 0, 0, 0, []), (.getfield 48, 3, 7, 4, 0, 0, []), (.bipush 59, 2, 0, 0, 0, 59, []), (.if_icmp .eq 11, 3, 96, 0, 0, 0, []), (.aload_n 0, 1, 0, 0, 0, 0, []), (.aload_n 0, 1, 0, 0, 0, 0, []), (.getfield 58, 3, 7, 5, 0, 0, []), (.putfield 32, 3, 7, 7, 0, 0, [])] = true := by decide +kernel
set_option maxRecDepth 100000 in
theorem bk_x_readItem_96 : chk 45 100 96 [(.aload_n 0, 1, 0, 0, 0, 0, []), (.invokevirtual 45, 3, 51, 1, 7, 0, [])] = true := by decide +kernel
set_option maxRecDepth 100000 in
theorem bk_x_readItem_100 : chk 45 101 100 [(.return_, 1, 0, 0, 0, 0, [])] = true := by decide +kernel
set_option maxRecDepth 100000 in
theorem bk_x_mayBegin_0 : chk 46 52 0 [(.iload_n 1, 1, 1, 0, 0, 0, []), (.lookupswitch 126 #[(97, 69), (109, 87), (110, 51), (114, 100), (119, 113)], 51, 127, 0, 0, 0, [(97, 70), (109, 88), (110, 52), (114, 101), (119, 114)])] = true := by decide +kernel
set_option maxRecDepth 100000 in
theorem bk_x_mayBegin_52 : chk 46 68 52 [(.aload_n 0, 1, 0, 0, 0, 0, []), (.getfield 18, 3, 7, 2, 2, 0, []), (.getfield 71, 3, 8, 0, 0, 0, []), (.bipush 6, 2, 0, 0, 0, 6, []), (.if_icmp .ge 7, 3, 68, 0, 0, 0, []), (.iconst 1, 1, 0, 0, 0, 1, []), (.goto 4, 3, 69, 0, 0, 0, [])] = true := by decide +kernel
set_option maxRecDepth 100000 in
theorem bk_x_mayBegin_68 : chk 46 69 68 [(.iconst 0, 1, 0, 0, 0, 0, [])] = true := by decide +kernel
set_option maxRecDepth 100000 in
theorem bk_x_mayBegin_69 : chk 46 70 69 [(.ireturn, 1, 0, 1, 0, 0, [])] = true := by decide +kernel
set_option maxRecDepth 100000 in
theorem bk_x_mayBegin_70 : chk 46 86 70 [(.aload_n 0, 1, 0, 0, 0, 0, []), (.getfield 18, 3, 7, 2, 2, 0, []), (.getfield 74, 3, 8, 4, 0, 0, []), (.bipush 10, 2, 0, 0, 0, 10, []), (.if_icmp .ge 7, 3, 86, 0, 0, 0, []), (.iconst 1, 1, 0, 0, 0, 1, []), (.goto 4, 3, 87, 0, 0, 0, [])] = true := by decide +kernel
set_option maxRecDepth 100000 in
theorem bk_x_mayBegin_86 : chk 46 87 86 [(.iconst 0, 1, 0, 0, 0, 0, [])] = true := by decide +kernel
set_option maxRecDepth 100000 in
theorem bk_x_mayBegin_87 : chk 46 88 87 [(.ireturn, 1, 0, 1, 0, 0, [])] = true := by decide +kernel
set_option maxRecDepth 100000 in
theorem bk_x_mayBegin_88 : chk 46 99 88 [(.aload_n 0, 1, 0, 0, 0, 0, []), (.getfield 35, 3, 7, 8, 3, 0, []), (.ifCond .ne 7, 3, 99, 0, 0, 0, []), (.iconst 1, 1, 0, 0, 0, 1, []), (.goto 4, 3, 100, 0, 0, 0, [])] = true := by decide +kernel
set_option maxRecDepth 100000 in
theorem bk_x_mayBegin_99 : chk 46 100 99 [(.iconst 0, 1, 0, 0, 0, 0, [])] = true := by decide +kernel
set_option maxRecDepth 100000 in
theorem bk_x_mayBegin_100 : chk 46 101 100 [(.ireturn, 1, 0, 1, 0, 0, [])] = true := by decide +kernel
set_option maxRecDepth 100000 in
theorem bk_x_mayBegin_101 : chk 46 112 101 [(.aload_n 0, 1, 0, 0, 0, 0, []), (.getfield 39, 3, 7, 9, 3, 0, []), (.ifCond .ne 7, 3, 112, 0, 0, 0, []), (.iconst 1, 1, 0, 0, 0, 1, []), (.goto 4, 3, 113, 0, 0, 0, [])] = true := by decide +kernel
set_option maxRecDepth 100000 in
theorem bk_x_mayBegin_112 : chk 46 113 112 [(.iconst 0, 1, 0, 0, 0, 0, [])] = true := by decide +kernel
set_option maxRecDepth 100000 in
theorem bk_x_mayBegin_113 : chk 46 114 113 [(.ireturn, 1, 0, 1, 0, 0, [])] = true := by decide +kernel
set_option maxRecDepth 100000 in
theorem bk_x_mayBegin_114 : chk 46 125 114 [(.aload_n 0, 1, 0, 0, 0, 0, []), (.getfield 42, 3, 7, 10, 3, 0, []), (.ifCond .ne 7, 3, 125, 0, 0, 0, []), (.iconst 1, 1, 0, 0, 0, 1, []), (.goto 4, 3, 126, 0, 0, 0, [])] = true := by decide +kernel
set_option maxRecDepth 100000 in
theorem bk_x_mayBegin_125 : chk 46 126 125 [(.iconst 0, 1, 0, 0, 0, 0, [])] = true := by decide +kernel
set_option maxRecDepth 100000 in
theorem bk_x_mayBegin_126 : chk 46 127 126 [(.ireturn, 1, 0, 1, 0, 0, [])] = true := by decide +kernel
set_option maxRecDepth 100000 in
theorem bk_x_mayBegin_127 : chk 46 129 127 [(.iconst 0, 1, 0, 0, 0, 0, []), (.ireturn, 1, 0, 1, 0, 0, [])] = true := by decide +kernel
set_option maxRecDepth 100000 in
theorem bk_x_readName_0 : chk 47 15 0 [(.aload_n 0, 1, 0, 0, 0, 0, []), (.getfield 18, 3, 7, 2, 2, 0, []), (.getfield 71, 3, 8, 0, 0, 0, []), (.istore_n 1, 1, 1, 0, 0, 0, []), (.iload_n 1, 1, 1, 0, 0, 0, []), (.bipush 6, 2, 0, 0, 0, 6, []), (.if_icmp .lt 4, 3, 15, 0, 0, 0, []), (.return_, 1, 0, 0, 0, 0, [])] = true := by decide +kernel
set_option maxRecDepth 100000 in
theorem bk_x_readName_15 : chk 47 30 15 [(.aload_n 0, 1, 0, 0, 0, 0, []), (.getfield 18, 3, 7, 2, 2, 0, []), (.getfield 77, 3, 8, 1, 2, 0, []), (.iload_n 1, 1, 1, 0, 0, 0, []), (.aload_n 0, 1, 0, 0, 0, 0, []), (.iconst 1, 1, 0, 0, 0, 1, []), (.bipush 30, 2, 0, 0, 0, 30, []), (.invokevirtual 81, 3, 50, 3, 7, 0, [])] = true := by decide +kernel
set_option maxRecDepth 100000 in
theorem bk_x_readName_30 : chk 47 53 30 [(.iastore, 1, 0, 0, 0, 0, []), (.aload_n 0, 1, 0, 0, 0, 0, []), (.getfield 18, 3, 7, 2, 2, 0, []), (.getfield 85, 3, 8, 2, 2, 0, []), (.iload_n 1, 1, 1, 0, 0, 0, []), (.aload_n 0, 1, 0, 0, 0, 0, []), (.iconst 0, 1, 0, 0, 0, 0, []), (.aload_n 0, 1, 0, 0, 0, 0, []), (.getfield 18, 3, 7, 2, 2, 0, []), (.getfield 77, 3, 8, 1, 2, 0, []), (.iload_n 1, 1, 1, 0, 0, 0, []), (.iaload, 1, 0, 0, 0, 0, []), (.invokevirtual 81, 3, 50, 3, 7, 0, [])] = true := by decide +kernel
set_option maxRecDepth 100000 in
theorem bk_x_readName_53 : chk 47 69 53 [(.iastore, 1, 0, 0, 0, 0, []), (.aload_n 0, 1, 0, 0, 0, 0, []), (.getfield 18, 3, 7, 2, 2, 0, []), (.getfield 88, 3, 8, 3, 2, 0, []), (.iload_n 1, 1, 1, 0, 0, 0, []), (.aload_n 0, 1, 0, 0, 0, 0, []), (.iconst 0, 1, 0, 0, 0, 0, []), (.bipush 31, 2, 0, 0, 0, 31, []), (.invokevirtual 81, 3, 50, 3, 7, 0, [])] = true := by decide +kernel
set_option maxRecDepth 100000 in
theorem bk_x_readName_69 : chk 47 84 69 [(.iastore, 1, 0, 0, 0, 0, []), (.aload_n 0, 1, 0, 0, 0, 0, []), (.getfield 18, 3, 7, 2, 2, 0, []), (.dup, 1, 0, 0, 0, 0, []), (.getfield 71, 3, 8, 0, 0, 0, []), (.iconst 1, 1, 0, 0, 0, 1, []), (.iadd, 1, 0, 0, 0, 0, []), (.putfield 71, 3, 8, 0, 0, 0, []), (.return_, 1, 0, 0, 0, 0, [])] = true := by decide +kernel
set_option maxRecDepth 100000 in
theorem bk_x_readAct_0 : chk 48 15 0 [(.aload_n 0, 1, 0, 0, 0, 0, []), (.getfield 18, 3, 7, 2, 2, 0, []), (.getfield 74, 3, 8, 4, 0, 0, []), (.istore_n 1, 1, 1, 0, 0, 0, []), (.iload_n 1, 1, 1, 0, 0, 0, []), (.bipush 10, 2, 0, 0, 0, 10, []), (.if_icmp .lt 4, 3, 15, 0, 0, 0, []), (.return_, 1, 0, 0, 0, 0, [])] = true := by decide +kernel
set_option maxRecDepth 100000 in
theorem bk_x_readAct_15 : chk 48 30 15 [(.aload_n 0, 1, 0, 0, 0, 0, []), (.getfield 18, 3, 7, 2, 2, 0, []), (.getfield 91, 3, 8, 5, 2, 0, []), (.iload_n 1, 1, 1, 0, 0, 0, []), (.aload_n 0, 1, 0, 0, 0, 0, []), (.iconst 0, 1, 0, 0, 0, 0, []), (.bipush 11, 2, 0, 0, 0, 11, []), (.invokevirtual 81, 3, 50, 3, 7, 0, [])] = true := by decide +kernel
set_option maxRecDepth 100000 in
theorem bk_x_readAct_30 : chk 48 53 30 [(.iastore, 1, 0, 0, 0, 0, []), (.aload_n 0, 1, 0, 0, 0, 0, []), (.getfield 18, 3, 7, 2, 2, 0, []), (.getfield 94, 3, 8, 6, 2, 0, []), (.iload_n 1, 1, 1, 0, 0, 0, []), (.aload_n 0, 1, 0, 0, 0, 0, []), (.iconst 0, 1, 0, 0, 0, 0, []), (.aload_n 0, 1, 0, 0, 0, 0, []), (.getfield 18, 3, 7, 2, 2, 0, []), (.getfield 71, 3, 8, 0, 0, 0, []), (.iconst 1, 1, 0, 0, 0, 1, []), (.isub, 1, 0, 0, 0, 0, []), (.invokevirtual 81, 3, 50, 3, 7, 0, [])] = true := by decide +kernel
set_option maxRecDepth 100000 in
theorem bk_x_readAct_53 : chk 48 69 53 [(.iastore, 1, 0, 0, 0, 0, []), (.aload_n 0, 1, 0, 0, 0, 0, []), (.getfield 18, 3, 7, 2, 2, 0, []), (.getfield 97, 3, 8, 7, 2, 0, []), (.iload_n 1, 1, 1, 0, 0, 0, []), (.aload_n 0, 1, 0, 0, 0, 0, []), (.iconst 1, 1, 0, 0, 0, 1, []), (.bipush 9, 2, 0, 0, 0, 9, []), (.invokevirtual 81, 3, 50, 3, 7, 0, [])] = true := by decide +kernel
set_option maxRecDepth 100000 in
theorem bk_x_readAct_69 : chk 48 85 69 [(.iastore, 1, 0, 0, 0, 0, []), (.aload_n 0, 1, 0, 0, 0, 0, []), (.getfield 18, 3, 7, 2, 2, 0, []), (.getfield 100, 3, 8, 8, 2, 0, []), (.iload_n 1, 1, 1, 0, 0, 0, []), (.aload_n 0, 1, 0, 0, 0, 0, []), (.iconst 1, 1, 0, 0, 0, 1, []), (.bipush 9, 2, 0, 0, 0, 9, []), (.invokevirtual 81, 3, 50, 3, 7, 0, [])] = true := by decide +kernel
set_option maxRecDepth 100000 in
theorem bk_x_readAct_85 : chk 48 100 85 [(.iastore, 1, 0, 0, 0, 0, []), (.aload_n 0, 1, 0, 0, 0, 0, []), (.getfield 18, 3, 7, 2, 2, 0, []), (.dup, 1, 0, 0, 0, 0, []), (.getfield 74, 3, 8, 4, 0, 0, []), (.iconst 1, 1, 0, 0, 0, 1, []), (.iadd, 1, 0, 0, 0, 0, []), (.putfield 74, 3, 8, 4, 0, 0, []), (.return_, 1, 0, 0, 0, 0, [])] = true := by decide +kernel
set_option maxRecDepth 100000 in
theorem bk_x_readSetting_0 : chk 49 16 0 [(.iload_n 1, 1, 1, 0, 0, 0, []), (.bipush 109, 2, 0, 0, 0, 109, []), (.if_icmp .ne 24, 3, 27, 0, 0, 0, []), (.aload_n 0, 1, 0, 0, 0, 0, []), (.getfield 18, 3, 7, 2, 2, 0, []), (.aload_n 0, 1, 0, 0, 0, 0, []), (.iconst 1, 1, 0, 0, 0, 1, []), (.iconst 4, 1, 0, 0, 0, 4, []), (.invokevirtual 81, 3, 50, 3, 7, 0, [])] = true := by decide +kernel
set_option maxRecDepth 100000 in
theorem bk_x_readSetting_16 : chk 49 27 16 [(.putfield 103, 3, 8, 9, 0, 0, []), (.aload_n 0, 1, 0, 0, 0, 0, []), (.iconst 1, 1, 0, 0, 0, 1, []), (.putfield 35, 3, 7, 8, 3, 0, []), (.goto 50, 3, 74, 0, 0, 0, [])] = true := by decide +kernel
set_option maxRecDepth 100000 in
theorem bk_x_readSetting_27 : chk 49 44 27 [(.iload_n 1, 1, 1, 0, 0, 0, []), (.bipush 114, 2, 0, 0, 0, 114, []), (.if_icmp .ne 25, 3, 55, 0, 0, 0, []), (.aload_n 0, 1, 0, 0, 0, 0, []), (.getfield 18, 3, 7, 2, 2, 0, []), (.aload_n 0, 1, 0, 0, 0, 0, []), (.iconst 1, 1, 0, 0, 0, 1, []), (.bipush 9, 2, 0, 0, 0, 9, []), (.invokevirtual 81, 3, 50, 3, 7, 0, [])] = true := by decide +kernel
set_option maxRecDepth 100000 in
theorem bk_x_readSetting_44 : chk 49 55 44 [(.putfield 106, 3, 8, 10, 0, 0, []), (.aload_n 0, 1, 0, 0, 0, 0, []), (.iconst 1, 1, 0, 0, 0, 1, []), (.putfield 39, 3, 7, 9, 3, 0, []), (.goto 22, 3, 74, 0, 0, 0, [])] = true := by decide +kernel
set_option maxRecDepth 100000 in
theorem bk_x_readSetting_55 : chk 49 66 55 [(.aload_n 0, 1, 0, 0, 0, 0, []), (.getfield 18, 3, 7, 2, 2, 0, []), (.aload_n 0, 1, 0, 0, 0, 0, []), (.iconst 0, 1, 0, 0, 0, 0, []), (.bipush 10, 2, 0, 0, 0, 10, []), (.invokevirtual 81, 3, 50, 3, 7, 0, [])] = true := by decide +kernel
set_option maxRecDepth 100000 in
theorem bk_x_readSetting_66 : chk 49 74 66 [(.putfield 109, 3, 8, 11, 0, 0, []), (.aload_n 0, 1, 0, 0, 0, 0, []), (.iconst 1, 1, 0, 0, 0, 1, []), (.putfield 42, 3, 7, 10, 3, 0, [])] = true := by decide +kernel
set_option maxRecDepth 100000 in
theorem bk_x_readSetting_74 : chk 49 75 74 [(.return_, 1, 0, 0, 0, 0, [])] = true := by decide +kernel
set_option maxRecDepth 100000 in
theorem bk_x_readNumber_0 : chk 50 10 0 [(.aload_n 0, 1, 0, 0, 0, 0, []), (.getfield 32, 3, 7, 7, 0, 0, []), (.iconst (-1), 1, 0, 0, 0, -1, []), (.if_icmp .eq 5, 3, 10, 0, 0, 0, []), (.iload_n 1, 1, 1, 0, 0, 0, []), (.ireturn, 1, 0, 0, 0, 0, [])] = true := by decide +kernel
set_option maxRecDepth 100000 in
theorem bk_x_readNumber_10 : chk 50 35 10 [(.aload_n 0, 1, 0, 0, 0, 0, []), (.getfield 48, 3, 7, 4, 0, 0, []), (.bipush (-2), 2, 0, 0, 0, -2, []), (.if_icmp .ne 19, 3, 35, 0, 0, 0, []), (.aload_n 0, 1, 0, 0, 0, 0, []), (.getfield 112, 3, 7, 6, 0, 0, []), (.iload_n 1, 1, 1, 0, 0, 0, []), (.if_icmp .lt 11, 3, 35, 0, 0, 0, []), (.aload_n 0, 1, 0, 0, 0, 0, []), (.getfield 112, 3, 7, 6, 0, 0, []), (.iload_n 2, 1, 2, 0, 0, 0, []), (.if_icmp .le 13, 3, 45, 0, 0, 0, [])] = true := by decide +kernel
set_option maxRecDepth 100000 in
theorem bk_x_readNumber_35 : chk 50 45 35 [(.aload_n 0, 1, 0, 0, 0, 0, []), (.aload_n 0, 1, 0, 0, 0, 0, []), (.getfield 58, 3, 7, 5, 0, 0, []), (.putfield 32, 3, 7, 7, 0, 0, []), (.iload_n 1, 1, 1, 0, 0, 0, []), (.ireturn, 1, 0, 0, 0, 0, [])] = true := by decide +kernel
set_option maxRecDepth 100000 in
theorem bk_x_readNumber_45 : chk 50 54 45 [(.aload_n 0, 1, 0, 0, 0, 0, []), (.getfield 112, 3, 7, 6, 0, 0, []), (.istore_n 3, 1, 3, 0, 0, 0, []), (.aload_n 0, 1, 0, 0, 0, 0, []), (.invokevirtual 45, 3, 51, 1, 7, 0, [])] = true := by decide +kernel
set_option maxRecDepth 100000 in
theorem bk_x_readNumber_54 : chk 50 56 54 [(.iload_n 3, 1, 3, 0, 0, 0, []), (.ireturn, 1, 0, 0, 0, 0, [])] = true := by decide +kernel
set_option maxRecDepth 100000 in
theorem bk_x_nextToken_0 : chk 51 38 0 [(.aload_n 0, 1, 0, 0, 0, 0, []), (.getfield 29, 3, 7, 3, 0, 0, []), (.aload_n 0, 1, 0, 0, 0, 0, []), (.getfield 22, 3, 7, 1, 0, 0, []), (.if_icmp .ge 30, 3, 38, 0, 0, 0, []), (.aload_n 0, 1, 0, 0, 0, 0, []), (.getfield 9, 3, 7, 0, 2, 0, []), (.aload_n 0, 1, 0, 0, 0, 0, []), (.getfield 29, 3, 7, 3, 0, 0, []), (.caload, 1, 0, 0, 0, 0, []), (.bipush 32, 2, 0, 0, 0, 32, []), (.if_icmp .ne 16, 3, 38, 0, 0, 0, []), (.aload_n 0, 1, 0, 0, 0, 0, []), (.dup, 1, 0, 0, 0, 0, []), (.getfield 29, 3, 7, 3, 0, 0, []), (.iconst 1, 1, 0, 0, 0, 1, []), (.iadd, 1, 0, 0, 0, 0, []), (.putfield 29, 3, 7, 3, 0, 0, []), (.goto (-35), 3, 0, 0, 0, 0, [])] = true := by decide +kernel
set_option maxRecDepth 100000 in
theorem bk_x_nextToken_38 : chk 51 63 38 [(.aload_n 0, 1, 0, 0, 0, 0, []), (.aload_n 0, 1, 0, 0, 0, 0, []), (.getfield 29, 3, 7, 3, 0, 0, []), (.putfield 58, 3, 7, 5, 0, 0, []), (.aload_n 0, 1, 0, 0, 0, 0, []), (.getfield 29, 3, 7, 3, 0, 0, []), (.aload_n 0, 1, 0, 0, 0, 0, []), (.getfield 22, 3, 7, 1, 0, 0, []), (.if_icmp .lt 9, 3, 63, 0, 0, 0, []), (.aload_n 0, 1, 0, 0, 0, 0, []), (.iconst (-1), 1, 0, 0, 0, -1, []), (.putfield 48, 3, 7, 4, 0, 0, []), (.return_, 1, 0, 0, 0, 0, [])] = true := by decide +kernel
set_option maxRecDepth 100000 in
theorem bk_x_nextToken_63 : chk 51 77 63 [(.aload_n 0, 1, 0, 0, 0, 0, []), (.getfield 9, 3, 7, 0, 2, 0, []), (.aload_n 0, 1, 0, 0, 0, 0, []), (.getfield 29, 3, 7, 3, 0, 0, []), (.caload, 1, 0, 0, 0, 0, []), (.istore_n 1, 1, 1, 0, 0, 0, []), (.iload_n 1, 1, 1, 0, 0, 0, []), (.invokestatic 115, 3, 53, 1, 0, 0, [])] = true := by decide +kernel
set_option maxRecDepth 100000 in
theorem bk_x_nextToken_77 : chk 51 84 77 [(.ifCond .eq 8, 3, 85, 0, 0, 0, []), (.aload_n 0, 1, 0, 0, 0, 0, []), (.invokevirtual 119, 3, 52, 1, 7, 0, [])] = true := by decide +kernel
set_option maxRecDepth 100000 in
theorem bk_x_nextToken_84 : chk 51 85 84 [(.return_, 1, 0, 0, 0, 0, [])] = true := by decide +kernel
set_option maxRecDepth 100000 in
theorem bk_x_nextToken_85 : chk 51 100 85 [(.aload_n 0, 1, 0, 0, 0, 0, []), (.dup, 1, 0, 0, 0, 0, []), (.getfield 29, 3, 7, 3, 0, 0, []), (.iconst 1, 1, 0, 0, 0, 1, []), (.iadd, 1, 0, 0, 0, 0, []), (.putfield 29, 3, 7, 3, 0, 0, []), (.aload_n 0, 1, 0, 0, 0, 0, []), (.iload_n 1, 1, 1, 0, 0, 0, []), (.invokestatic 122, 3, 54, 1, 0, 0, [])] = true := by decide +kernel
set_option maxRecDepth 100000 in
theorem bk_x_nextToken_100 : chk 51 107 100 [(.ifCond .eq 7, 3, 107, 0, 0, 0, []), (.iload_n 1, 1, 1, 0, 0, 0, []), (.goto 5, 3, 109, 0, 0, 0, [])] = true := by decide +kernel
set_option maxRecDepth 100000 in
theorem bk_x_nextToken_107 : chk 51 109 107 [(.bipush (-3), 2, 0, 0, 0, -3, [])] = true := by decide +kernel
set_option maxRecDepth 100000 in
theorem bk_x_nextToken_109 : chk 51 113 109 [(.putfield 48, 3, 7, 4, 0, 0, []), (.return_, 1, 0, 0, 0, 0, [])] = true := by decide +kernel
set_option maxRecDepth 100000 in
theorem bk_x_takeNumber_0 : chk 52 18 0 [(.aload_n 0, 1, 0, 0, 0, 0, []), (.getfield 9, 3, 7, 0, 2, 0, []), (.aload_n 0, 1, 0, 0, 0, 0, []), (.getfield 29, 3, 7, 3, 0, 0, []), (.caload, 1, 0, 0, 0, 0, []), (.bipush 48, 2, 0, 0, 0, 48, []), (.if_icmp .ne 7, 3, 18, 0, 0, 0, []), (.iconst 1, 1, 0, 0, 0, 1, []), (.goto 4, 3, 19, 0, 0, 0, [])] = true := by decide +kernel
set_option maxRecDepth 100000 in
theorem bk_x_takeNumber_18 : chk 52 19 18 [(.iconst 0, 1, 0, 0, 0, 0, [])] = true := by decide +kernel
set_option maxRecDepth 100000 in
theorem bk_x_takeNumber_19 : chk 52 25 19 [(.istore_n 1, 1, 1, 0, 0, 0, []), (.aload_n 0, 1, 0, 0, 0, 0, []), (.iconst 0, 1, 0, 0, 0, 0, []), (.putfield 112, 3, 7, 6, 0, 0, [])] = true := by decide +kernel
set_option maxRecDepth 100000 in
theorem bk_x_takeNumber_25 : chk 52 48 25 [(.aload_n 0, 1, 0, 0, 0, 0, []), (.getfield 29, 3, 7, 3, 0, 0, []), (.aload_n 0, 1, 0, 0, 0, 0, []), (.getfield 22, 3, 7, 1, 0, 0, []), (.if_icmp .ge 60, 3, 93, 0, 0, 0, []), (.aload_n 0, 1, 0, 0, 0, 0, []), (.getfield 9, 3, 7, 0, 2, 0, []), (.aload_n 0, 1, 0, 0, 0, 0, []), (.getfield 29, 3, 7, 3, 0, 0, []), (.caload, 1, 0, 0, 0, 0, []), (.invokestatic 115, 3, 53, 1, 0, 0, [])] = true := by decide +kernel
set_option maxRecDepth 100000 in
theorem bk_x_takeNumber_48 : chk 52 77 48 [(.ifCond .eq 45, 3, 93, 0, 0, 0, []), (.aload_n 0, 1, 0, 0, 0, 0, []), (.bipush 100, 2, 0, 0, 0, 100, []), (.aload_n 0, 1, 0, 0, 0, 0, []), (.getfield 112, 3, 7, 6, 0, 0, []), (.bipush 10, 2, 0, 0, 0, 10, []), (.imul, 1, 0, 0, 0, 0, []), (.aload_n 0, 1, 0, 0, 0, 0, []), (.getfield 9, 3, 7, 0, 2, 0, []), (.aload_n 0, 1, 0, 0, 0, 0, []), (.getfield 29, 3, 7, 3, 0, 0, []), (.caload, 1, 0, 0, 0, 0, []), (.bipush 48, 2, 0, 0, 0, 48, []), (.isub, 1, 0, 0, 0, 0, []), (.iadd, 1, 0, 0, 0, 0, []), (.invokestatic 125, 3, 146, 2, 0, 0, [])] = true := by decide +kernel
set_option maxRecDepth 100000 in
theorem bk_x_takeNumber_77 : chk 52 93 77 [(.putfield 112, 3, 7, 6, 0, 0, []), (.aload_n 0, 1, 0, 0, 0, 0, []), (.dup, 1, 0, 0, 0, 0, []), (.getfield 29, 3, 7, 3, 0, 0, []), (.iconst 1, 1, 0, 0, 0, 1, []), (.iadd, 1, 0, 0, 0, 0, []), (.putfield 29, 3, 7, 3, 0, 0, []), (.goto (-65), 3, 25, 0, 0, 0, [])] = true := by decide +kernel
set_option maxRecDepth 100000 in
theorem bk_x_takeNumber_93 : chk 52 119 93 [(.aload_n 0, 1, 0, 0, 0, 0, []), (.getfield 112, 3, 7, 6, 0, 0, []), (.bipush 99, 2, 0, 0, 0, 99, []), (.if_icmp .gt 20, 3, 119, 0, 0, 0, []), (.iload_n 1, 1, 1, 0, 0, 0, []), (.ifCond .eq 20, 3, 123, 0, 0, 0, []), (.aload_n 0, 1, 0, 0, 0, 0, []), (.getfield 29, 3, 7, 3, 0, 0, []), (.aload_n 0, 1, 0, 0, 0, 0, []), (.getfield 58, 3, 7, 5, 0, 0, []), (.isub, 1, 0, 0, 0, 0, []), (.iconst 1, 1, 0, 0, 0, 1, []), (.if_icmp .le 7, 3, 123, 0, 0, 0, [])] = true := by decide +kernel
set_option maxRecDepth 100000 in
theorem bk_x_takeNumber_119 : chk 52 123 119 [(.iconst 1, 1, 0, 0, 0, 1, []), (.goto 4, 3, 124, 0, 0, 0, [])] = true := by decide +kernel
set_option maxRecDepth 100000 in
theorem bk_x_takeNumber_123 : chk 52 124 123 [(.iconst 0, 1, 0, 0, 0, 0, [])] = true := by decide +kernel
set_option maxRecDepth 100000 in
theorem bk_x_takeNumber_124 : chk 52 135 124 [(.istore_n 2, 1, 2, 0, 0, 0, []), (.aload_n 0, 1, 0, 0, 0, 0, []), (.iload_n 2, 1, 2, 0, 0, 0, []), (.ifCond .eq 8, 3, 135, 0, 0, 0, []), (.bipush (-3), 2, 0, 0, 0, -3, []), (.goto 5, 3, 137, 0, 0, 0, [])] = true := by decide +kernel
set_option maxRecDepth 100000 in
theorem bk_x_takeNumber_135 : chk 52 137 135 [(.bipush (-2), 2, 0, 0, 0, -2, [])] = true := by decide +kernel
set_option maxRecDepth 100000 in
theorem bk_x_takeNumber_137 : chk 52 141 137 [(.putfield 48, 3, 7, 4, 0, 0, []), (.return_, 1, 0, 0, 0, 0, [])] = true := by decide +kernel
set_option maxRecDepth 100000 in
theorem bk_x_isDigit_0 : chk 53 16 0 [(.iload_n 0, 1, 0, 0, 0, 0, []), (.bipush 48, 2, 0, 0, 0, 48, []), (.if_icmp .lt 13, 3, 16, 0, 0, 0, []), (.iload_n 0, 1, 0, 0, 0, 0, []), (.bipush 57, 2, 0, 0, 0, 57, []), (.if_icmp .gt 7, 3, 16, 0, 0, 0, []), (.iconst 1, 1, 0, 0, 0, 1, []), (.goto 4, 3, 17, 0, 0, 0, [])] = true := by decide +kernel
set_option maxRecDepth 100000 in
theorem bk_x_isDigit_16 : chk 53 17 16 [(.iconst 0, 1, 0, 0, 0, 0, [])] = true := by decide +kernel
set_option maxRecDepth 100000 in
theorem bk_x_isDigit_17 : chk 53 18 17 [(.ireturn, 1, 0, 1, 0, 0, [])] = true := by decide +kernel
set_option maxRecDepth 100000 in
theorem bk_x_isLetterOfItems_0 : chk 54 36 0 [(.iload_n 0, 1, 0, 0, 0, 0, []), (.bipush 110, 2, 0, 0, 0, 110, []), (.if_icmp .eq 33, 3, 36, 0, 0, 0, []), (.iload_n 0, 1, 0, 0, 0, 0, []), (.bipush 97, 2, 0, 0, 0, 97, []), (.if_icmp .eq 27, 3, 36, 0, 0, 0, []), (.iload_n 0, 1, 0, 0, 0, 0, []), (.bipush 109, 2, 0, 0, 0, 109, []), (.if_icmp .eq 21, 3, 36, 0, 0, 0, []), (.iload_n 0, 1, 0, 0, 0, 0, []), (.bipush 114, 2, 0, 0, 0, 114, []), (.if_icmp .eq 15, 3, 36, 0, 0, 0, []), (.iload_n 0, 1, 0, 0, 0, 0, []), (.bipush 119, 2, 0, 0, 0, 119, []), (.if_icmp .eq 9, 3, 36, 0, 0, 0, []), (.iload_n 0, 1, 0, 0, 0, 0, []), (.bipush 59, 2, 0, 0, 0, 59, []), (.if_icmp .ne 7, 3, 40, 0, 0, 0, [])] = true := by decide +kernel
set_option maxRecDepth 100000 in
theorem bk_x_isLetterOfItems_36 : chk 54 40 36 [(.iconst 1, 1, 0, 0, 0, 1, []), (.goto 4, 3, 41, 0, 0, 0, [])] = true := by decide +kernel
set_option maxRecDepth 100000 in
theorem bk_x_isLetterOfItems_40 : chk 54 41 40 [(.iconst 0, 1, 0, 0, 0, 0, [])] = true := by decide +kernel
set_option maxRecDepth 100000 in
theorem bk_x_isLetterOfItems_41 : chk 54 42 41 [(.ireturn, 1, 0, 1, 0, 0, [])] = true := by decide +kernel
set_option maxRecDepth 100000 in
theorem bk_t_init_0 : chk 55 64 0 [(.aload_n 0, 1, 0, 0, 0, 0, []), (.invokespecial 3, 3, 0, 0, 0, 0, []), (.aload_n 0, 1, 0, 0, 0, 0, []), (.bipush 6, 2, 0, 0, 0, 6, []), (.newarray .int, 2, 0, 0, 0, 0, []), (.putfield 9, 3, 8, 1, 2, 0, []), (.aload_n 0, 1, 0, 0, 0, 0, []), (.bipush 6, 2, 0, 0, 0, 6, []), (.newarray .int, 2, 0, 0, 0, 0, []), (.putfield 15, 3, 8, 2, 2, 0, []), (.aload_n 0, 1, 0, 0, 0, 0, []), (.bipush 6, 2, 0, 0, 0, 6, []), (.newarray .int, 2, 0, 0, 0, 0, []), (.putfield 18, 3, 8, 3, 2, 0, []), (.aload_n 0, 1, 0, 0, 0, 0, []), (.bipush 10, 2, 0, 0, 0, 10, []), (.newarray .int, 2, 0, 0, 0, 0, []), (.putfield 21, 3, 8, 5, 2, 0, []), (.aload_n 0, 1, 0, 0, 0, 0, []), (.bipush 10, 2, 0, 0, 0, 10, []), (.newarray .int, 2, 0, 0, 0, 0, []), (.putfield 24, 3, 8, 6, 2, 0, []), (.aload_n 0, 1, 0, 0, 0, 0, []), (.bipush 10, 2, 0, 0, 0, 10, []), (.newarray .int, 2, 0, 0, 0, 0, []), (.putfield 27, 3, 8, 7, 2, 0, []), (.aload_n 0, 1, 0, 0, 0, 0, []), (.bipush 10, 2, 0, 0, 0, 10, []), (.newarray .int, 2, 0, 0, 0, 0, []), (.putfield 30, 3, 8, 8, 2, 0, []), (.aload_n 0, 1, 0, 0, 0, 0, []), (.invokevirtual 33, 3, 56, 1, 8, 0, [])] = true := by decide +kernel
set_option maxRecDepth 100000 in
theorem bk_t_init_64 : chk 55 65 64 [(.return_, 1, 0, 0, 0, 0, [])] = true := by decide +kernel
set_option maxRecDepth 100000 in
theorem bk_t_begin_0 : chk 56 26 0 [(.aload_n 0, 1, 0, 0, 0, 0, []), (.iconst 0, 1, 0, 0, 0, 0, []), (.putfield 36, 3, 8, 0, 0, 0, []), (.aload_n 0, 1, 0, 0, 0, 0, []), (.iconst 0, 1, 0, 0, 0, 0, []), (.putfield 40, 3, 8, 4, 0, 0, []), (.aload_n 0, 1, 0, 0, 0, 0, []), (.iconst 2, 1, 0, 0, 0, 2, []), (.putfield 43, 3, 8, 9, 0, 0, []), (.aload_n 0, 1, 0, 0, 0, 0, []), (.iconst 5, 1, 0, 0, 0, 5, []), (.putfield 46, 3, 8, 10, 0, 0, []), (.aload_n 0, 1, 0, 0, 0, 0, []), (.iconst 1, 1, 0, 0, 0, 1, []), (.putfield 49, 3, 8, 11, 0, 0, []), (.return_, 1, 0, 0, 0, 0, [])] = true := by decide +kernel
