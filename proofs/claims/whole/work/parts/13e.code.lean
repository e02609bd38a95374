/-! blocks of the code, by program (e) -/
set_option maxRecDepth 100000 in
theorem bk_m_undo_0 : chk 114 10 0 [(.aload_n 0, 1, 0, 0, 0, 0, []), (.getfield 107, 3, 10, 7, 0, 0, []), (.ifCond .ne 6, 3, 10, 0, 0, 0, []), (.bipush (-2), 2, 0, 0, 0, -2, []), (.ireturn, 1, 0, 0, 0, 0, [])] = true := by decide +kernel
set_option maxRecDepth 100000 in
theorem bk_m_undo_10 : chk 114 22 10 [(.aload_n 0, 1, 0, 0, 0, 0, []), (.dup, 1, 0, 0, 0, 0, []), (.getfield 107, 3, 10, 7, 0, 0, []), (.iconst 1, 1, 0, 0, 0, 1, []), (.isub, 1, 0, 0, 0, 0, []), (.putfield 107, 3, 10, 7, 0, 0, []), (.iconst 0, 1, 0, 0, 0, 0, []), (.istore_n 1, 1, 1, 0, 0, 0, [])] = true := by decide +kernel
set_option maxRecDepth 100000 in
theorem bk_m_undo_22 : chk 114 54 22 [(.iload_n 1, 1, 1, 0, 0, 0, []), (.bipush 11, 2, 0, 0, 0, 11, []), (.if_icmp .ge 29, 3, 54, 0, 0, 0, []), (.aload_n 0, 1, 0, 0, 0, 0, []), (.getfield 19, 3, 10, 5, 2, 0, []), (.iload_n 1, 1, 1, 0, 0, 0, []), (.aload_n 0, 1, 0, 0, 0, 0, []), (.getfield 22, 3, 10, 6, 2, 0, []), (.bipush 11, 2, 0, 0, 0, 11, []), (.aload_n 0, 1, 0, 0, 0, 0, []), (.getfield 107, 3, 10, 7, 0, 0, []), (.imul, 1, 0, 0, 0, 0, []), (.iload_n 1, 1, 1, 0, 0, 0, []), (.iadd, 1, 0, 0, 0, 0, []), (.iaload, 1, 0, 0, 0, 0, []), (.iastore, 1, 0, 0, 0, 0, []), (.iinc 1 1, 3, 1, 0, 0, 1, []), (.goto (-29), 3, 22, 0, 0, 0, [])] = true := by decide +kernel
set_option maxRecDepth 100000 in
theorem bk_m_undo_54 : chk 114 59 54 [(.aload_n 0, 1, 0, 0, 0, 0, []), (.getfield 107, 3, 10, 7, 0, 0, []), (.ireturn, 1, 0, 0, 0, 0, [])] = true := by decide +kernel
set_option maxRecDepth 100000 in
theorem bk_m_tires_0 : chk 115 2 0 [(.iconst 0, 1, 0, 0, 0, 0, []), (.istore_n 1, 1, 1, 0, 0, 0, [])] = true := by decide +kernel
set_option maxRecDepth 100000 in
theorem bk_m_tires_2 : chk 115 28 2 [(.iload_n 1, 1, 1, 0, 0, 0, []), (.bipush 6, 2, 0, 0, 0, 6, []), (.if_icmp .ge 23, 3, 28, 0, 0, 0, []), (.aload_n 0, 1, 0, 0, 0, 0, []), (.getfield 38, 3, 10, 18, 2, 0, []), (.iload_n 1, 1, 1, 0, 0, 0, []), (.aload_n 0, 1, 0, 0, 0, 0, []), (.getfield 19, 3, 10, 5, 2, 0, []), (.iconst 1, 1, 0, 0, 0, 1, []), (.iload_n 1, 1, 1, 0, 0, 0, []), (.iadd, 1, 0, 0, 0, 0, []), (.iaload, 1, 0, 0, 0, 0, []), (.iastore, 1, 0, 0, 0, 0, []), (.iinc 1 1, 3, 1, 0, 0, 1, []), (.goto (-23), 3, 2, 0, 0, 0, [])] = true := by decide +kernel
set_option maxRecDepth 100000 in
theorem bk_m_tires_28 : chk 115 34 28 [(.aload_n 0, 1, 0, 0, 0, 0, []), (.iconst 0, 1, 0, 0, 0, 0, []), (.putfield 144, 3, 10, 19, 0, 0, []), (.return_, 1, 0, 0, 0, 0, [])] = true := by decide +kernel
set_option maxRecDepth 100000 in
theorem bk_m_goes_0 : chk 116 3 0 [(.iconst 0, 1, 0, 0, 0, 0, []), (.istore 4, 2, 4, 0, 0, 0, [])] = true := by decide +kernel
set_option maxRecDepth 100000 in
theorem bk_m_goes_3 : chk 116 54 3 [(.iload 4, 2, 4, 0, 0, 0, []), (.aload_n 0, 1, 0, 0, 0, 0, []), (.getfield 13, 3, 10, 3, 2, 0, []), (.iconst 1, 1, 0, 0, 0, 1, []), (.iaload, 1, 0, 0, 0, 0, []), (.if_icmp .ge 162, 3, 173, 0, 0, 0, []), (.aload_n 0, 1, 0, 0, 0, 0, []), (.getfield 13, 3, 10, 3, 2, 0, []), (.bipush 35, 2, 0, 0, 0, 35, []), (.iload 4, 2, 4, 0, 0, 0, []), (.iadd, 1, 0, 0, 0, 0, []), (.iaload, 1, 0, 0, 0, 0, []), (.iload_n 1, 1, 1, 0, 0, 0, []), (.if_icmp .ne 142, 3, 167, 0, 0, 0, []), (.aload_n 0, 1, 0, 0, 0, 0, []), (.getfield 13, 3, 10, 3, 2, 0, []), (.bipush 25, 2, 0, 0, 0, 25, []), (.iload 4, 2, 4, 0, 0, 0, []), (.iadd, 1, 0, 0, 0, 0, []), (.iaload, 1, 0, 0, 0, 0, []), (.iload_n 2, 1, 2, 0, 0, 0, []), (.if_icmp .ne 128, 3, 167, 0, 0, 0, []), (.aload_n 0, 1, 0, 0, 0, 0, []), (.getfield 19, 3, 10, 5, 2, 0, []), (.bipush 9, 2, 0, 0, 0, 9, []), (.iaload, 1, 0, 0, 0, 0, []), (.iload 4, 2, 4, 0, 0, 0, []), (.invokestatic 119, 3, 91, 2, 0, 0, [])] = true := by decide +kernel
set_option maxRecDepth 100000 in
theorem bk_m_goes_54 : chk 116 72 54 [(.ifCond .ne 113, 3, 167, 0, 0, 0, []), (.iload_n 3, 1, 3, 0, 0, 0, []), (.ifCond .ne 50, 3, 108, 0, 0, 0, []), (.aload_n 0, 1, 0, 0, 0, 0, []), (.getfield 19, 3, 10, 5, 2, 0, []), (.bipush 8, 2, 0, 0, 0, 8, []), (.iaload, 1, 0, 0, 0, 0, []), (.iload_n 1, 1, 1, 0, 0, 0, []), (.invokestatic 119, 3, 91, 2, 0, 0, [])] = true := by decide +kernel
set_option maxRecDepth 100000 in
theorem bk_m_goes_72 : chk 116 108 72 [(.ifCond .ne 36, 3, 108, 0, 0, 0, []), (.aload_n 0, 1, 0, 0, 0, 0, []), (.getfield 38, 3, 10, 18, 2, 0, []), (.iload_n 1, 1, 1, 0, 0, 0, []), (.iaload, 1, 0, 0, 0, 0, []), (.aload_n 0, 1, 0, 0, 0, 0, []), (.getfield 13, 3, 10, 3, 2, 0, []), (.bipush 45, 2, 0, 0, 0, 45, []), (.iload 4, 2, 4, 0, 0, 0, []), (.iadd, 1, 0, 0, 0, 0, []), (.iaload, 1, 0, 0, 0, 0, []), (.iadd, 1, 0, 0, 0, 0, []), (.aload_n 0, 1, 0, 0, 0, 0, []), (.getfield 13, 3, 10, 3, 2, 0, []), (.bipush 7, 2, 0, 0, 0, 7, []), (.iload_n 1, 1, 1, 0, 0, 0, []), (.iadd, 1, 0, 0, 0, 0, []), (.iaload, 1, 0, 0, 0, 0, []), (.if_icmp .gt 7, 3, 108, 0, 0, 0, []), (.iconst 1, 1, 0, 0, 0, 1, []), (.goto 4, 3, 109, 0, 0, 0, [])] = true := by decide +kernel
set_option maxRecDepth 100000 in
theorem bk_m_goes_108 : chk 116 109 108 [(.iconst 0, 1, 0, 0, 0, 0, [])] = true := by decide +kernel
set_option maxRecDepth 100000 in
theorem bk_m_goes_109 : chk 116 136 109 [(.istore 5, 2, 5, 0, 0, 0, []), (.aload_n 0, 1, 0, 0, 0, 0, []), (.getfield 38, 3, 10, 18, 2, 0, []), (.iload_n 1, 1, 1, 0, 0, 0, []), (.dup2, 1, 0, 0, 0, 0, []), (.iaload, 1, 0, 0, 0, 0, []), (.iload 5, 2, 5, 0, 0, 0, []), (.ifCond .eq 16, 3, 136, 0, 0, 0, []), (.aload_n 0, 1, 0, 0, 0, 0, []), (.getfield 13, 3, 10, 3, 2, 0, []), (.bipush 45, 2, 0, 0, 0, 45, []), (.iload 4, 2, 4, 0, 0, 0, []), (.iadd, 1, 0, 0, 0, 0, []), (.iaload, 1, 0, 0, 0, 0, []), (.goto 4, 3, 137, 0, 0, 0, [])] = true := by decide +kernel
set_option maxRecDepth 100000 in
theorem bk_m_goes_136 : chk 116 137 136 [(.iconst 0, 1, 0, 0, 0, 0, [])] = true := by decide +kernel
set_option maxRecDepth 100000 in
theorem bk_m_goes_137 : chk 116 153 137 [(.iadd, 1, 0, 0, 0, 0, []), (.iastore, 1, 0, 0, 0, 0, []), (.aload_n 0, 1, 0, 0, 0, 0, []), (.dup, 1, 0, 0, 0, 0, []), (.getfield 144, 3, 10, 19, 0, 0, []), (.iload 5, 2, 5, 0, 0, 0, []), (.ifCond .eq 7, 3, 153, 0, 0, 0, []), (.iconst 0, 1, 0, 0, 0, 0, []), (.goto 13, 3, 163, 0, 0, 0, [])] = true := by decide +kernel
set_option maxRecDepth 100000 in
theorem bk_m_goes_153 : chk 116 163 153 [(.aload_n 0, 1, 0, 0, 0, 0, []), (.getfield 13, 3, 10, 3, 2, 0, []), (.bipush 55, 2, 0, 0, 0, 55, []), (.iload 4, 2, 4, 0, 0, 0, []), (.iadd, 1, 0, 0, 0, 0, []), (.iaload, 1, 0, 0, 0, 0, [])] = true := by decide +kernel
set_option maxRecDepth 100000 in
theorem bk_m_goes_163 : chk 116 167 163 [(.iadd, 1, 0, 0, 0, 0, []), (.putfield 144, 3, 10, 19, 0, 0, [])] = true := by decide +kernel
set_option maxRecDepth 100000 in
theorem bk_m_goes_167 : chk 116 173 167 [(.iinc 4 1, 3, 4, 0, 0, 1, []), (.goto (-167), 3, 3, 0, 0, 0, [])] = true := by decide +kernel
set_option maxRecDepth 100000 in
theorem bk_m_goes_173 : chk 116 192 173 [(.aload_n 0, 1, 0, 0, 0, 0, []), (.getfield 38, 3, 10, 18, 2, 0, []), (.iload_n 1, 1, 1, 0, 0, 0, []), (.iload_n 3, 1, 3, 0, 0, 0, []), (.ifCond .eq 16, 3, 195, 0, 0, 0, []), (.aload_n 0, 1, 0, 0, 0, 0, []), (.aload_n 0, 1, 0, 0, 0, 0, []), (.getfield 38, 3, 10, 18, 2, 0, []), (.iload_n 1, 1, 1, 0, 0, 0, []), (.iaload, 1, 0, 0, 0, 0, []), (.invokevirtual 135, 3, 112, 2, 10, 0, [])] = true := by decide +kernel
set_option maxRecDepth 100000 in
theorem bk_m_goes_192 : chk 116 195 192 [(.goto 9, 3, 201, 0, 0, 0, [])] = true := by decide +kernel
set_option maxRecDepth 100000 in
theorem bk_m_goes_195 : chk 116 201 195 [(.aload_n 0, 1, 0, 0, 0, 0, []), (.getfield 38, 3, 10, 18, 2, 0, []), (.iload_n 1, 1, 1, 0, 0, 0, []), (.iaload, 1, 0, 0, 0, 0, [])] = true := by decide +kernel
set_option maxRecDepth 100000 in
theorem bk_m_goes_201 : chk 116 203 201 [(.iastore, 1, 0, 0, 0, 0, []), (.return_, 1, 0, 0, 0, 0, [])] = true := by decide +kernel
set_option maxRecDepth 100000 in
theorem bk_m_reckons_0 : chk 117 2 0 [(.iconst 0, 1, 0, 0, 0, 0, []), (.istore_n 2, 1, 2, 0, 0, 0, [])] = true := by decide +kernel
set_option maxRecDepth 100000 in
theorem bk_m_reckons_2 : chk 117 14 2 [(.iload_n 2, 1, 2, 0, 0, 0, []), (.aload_n 0, 1, 0, 0, 0, 0, []), (.getfield 13, 3, 10, 3, 2, 0, []), (.iconst 0, 1, 0, 0, 0, 0, []), (.iaload, 1, 0, 0, 0, 0, []), (.if_icmp .ge 78, 3, 87, 0, 0, 0, []), (.iconst 0, 1, 0, 0, 0, 0, []), (.istore_n 3, 1, 3, 0, 0, 0, [])] = true := by decide +kernel
set_option maxRecDepth 100000 in
theorem bk_m_reckons_14 : chk 117 25 14 [(.iload_n 3, 1, 3, 0, 0, 0, []), (.iconst 1, 1, 0, 0, 0, 1, []), (.iload_n 1, 1, 1, 0, 0, 0, []), (.ishl, 1, 0, 0, 0, 0, []), (.if_icmp .ge 63, 3, 81, 0, 0, 0, []), (.aload_n 0, 1, 0, 0, 0, 0, []), (.invokevirtual 147, 3, 115, 1, 10, 0, [])] = true := by decide +kernel
set_option maxRecDepth 100000 in
theorem bk_m_reckons_25 : chk 117 28 25 [(.iconst 0, 1, 0, 0, 0, 0, []), (.istore 4, 2, 4, 0, 0, 0, [])] = true := by decide +kernel
set_option maxRecDepth 100000 in
theorem bk_m_reckons_28 : chk 117 51 28 [(.iload 4, 2, 4, 0, 0, 0, []), (.iload_n 1, 1, 1, 0, 0, 0, []), (.if_icmp .ge 29, 3, 60, 0, 0, 0, []), (.aload_n 0, 1, 0, 0, 0, 0, []), (.iload_n 2, 1, 2, 0, 0, 0, []), (.aload_n 0, 1, 0, 0, 0, 0, []), (.getfield 19, 3, 10, 5, 2, 0, []), (.iconst 0, 1, 0, 0, 0, 0, []), (.iaload, 1, 0, 0, 0, 0, []), (.iload 4, 2, 4, 0, 0, 0, []), (.iadd, 1, 0, 0, 0, 0, []), (.iload_n 3, 1, 3, 0, 0, 0, []), (.iload 4, 2, 4, 0, 0, 0, []), (.invokestatic 119, 3, 91, 2, 0, 0, [])] = true := by decide +kernel
set_option maxRecDepth 100000 in
theorem bk_m_reckons_51 : chk 117 54 51 [(.invokevirtual 150, 3, 116, 4, 10, 0, [])] = true := by decide +kernel
set_option maxRecDepth 100000 in
theorem bk_m_reckons_54 : chk 117 60 54 [(.iinc 4 1, 3, 4, 0, 0, 1, []), (.goto (-29), 3, 28, 0, 0, 0, [])] = true := by decide +kernel
set_option maxRecDepth 100000 in
theorem bk_m_reckons_60 : chk 117 81 60 [(.aload_n 0, 1, 0, 0, 0, 0, []), (.getfield 41, 3, 10, 20, 2, 0, []), (.bipush 32, 2, 0, 0, 0, 32, []), (.iload_n 2, 1, 2, 0, 0, 0, []), (.imul, 1, 0, 0, 0, 0, []), (.iload_n 3, 1, 3, 0, 0, 0, []), (.iadd, 1, 0, 0, 0, 0, []), (.aload_n 0, 1, 0, 0, 0, 0, []), (.getfield 144, 3, 10, 19, 0, 0, []), (.iastore, 1, 0, 0, 0, 0, []), (.iinc 3 1, 3, 3, 0, 0, 1, []), (.goto (-64), 3, 14, 0, 0, 0, [])] = true := by decide +kernel
set_option maxRecDepth 100000 in
theorem bk_m_reckons_81 : chk 117 87 81 [(.iinc 2 1, 3, 2, 0, 0, 1, []), (.goto (-82), 3, 2, 0, 0, 0, [])] = true := by decide +kernel
set_option maxRecDepth 100000 in
theorem bk_m_reckons_87 : chk 117 108 87 [(.aload_n 0, 1, 0, 0, 0, 0, []), (.getfield 50, 3, 10, 23, 2, 0, []), (.aload_n 0, 1, 0, 0, 0, 0, []), (.getfield 13, 3, 10, 3, 2, 0, []), (.iconst 0, 1, 0, 0, 0, 0, []), (.iaload, 1, 0, 0, 0, 0, []), (.iconst 0, 1, 0, 0, 0, 0, []), (.iastore, 1, 0, 0, 0, 0, []), (.aload_n 0, 1, 0, 0, 0, 0, []), (.getfield 13, 3, 10, 3, 2, 0, []), (.iconst 0, 1, 0, 0, 0, 0, []), (.iaload, 1, 0, 0, 0, 0, []), (.iconst 1, 1, 0, 0, 0, 1, []), (.isub, 1, 0, 0, 0, 0, []), (.istore_n 2, 1, 2, 0, 0, 0, [])] = true := by decide +kernel
set_option maxRecDepth 100000 in
theorem bk_m_reckons_108 : chk 117 125 108 [(.iload_n 2, 1, 2, 0, 0, 0, []), (.ifCond .lt 93, 3, 202, 0, 0, 0, []), (.aload_n 0, 1, 0, 0, 0, 0, []), (.getfield 41, 3, 10, 20, 2, 0, []), (.bipush 32, 2, 0, 0, 0, 32, []), (.iload_n 2, 1, 2, 0, 0, 0, []), (.imul, 1, 0, 0, 0, 0, []), (.iaload, 1, 0, 0, 0, 0, []), (.istore_n 3, 1, 3, 0, 0, 0, []), (.iconst 1, 1, 0, 0, 0, 1, []), (.istore 4, 2, 4, 0, 0, 0, [])] = true := by decide +kernel
set_option maxRecDepth 100000 in
theorem bk_m_reckons_125 : chk 117 158 125 [(.iload 4, 2, 4, 0, 0, 0, []), (.iconst 1, 1, 0, 0, 0, 1, []), (.iload_n 1, 1, 1, 0, 0, 0, []), (.ishl, 1, 0, 0, 0, 0, []), (.if_icmp .ge 50, 3, 180, 0, 0, 0, []), (.aload_n 0, 1, 0, 0, 0, 0, []), (.getfield 41, 3, 10, 20, 2, 0, []), (.bipush 32, 2, 0, 0, 0, 32, []), (.iload_n 2, 1, 2, 0, 0, 0, []), (.imul, 1, 0, 0, 0, 0, []), (.iload 4, 2, 4, 0, 0, 0, []), (.iadd, 1, 0, 0, 0, 0, []), (.iaload, 1, 0, 0, 0, 0, []), (.istore 5, 2, 5, 0, 0, 0, []), (.aload_n 0, 1, 0, 0, 0, 0, []), (.getfield 19, 3, 10, 5, 2, 0, []), (.bipush 8, 2, 0, 0, 0, 8, []), (.iaload, 1, 0, 0, 0, 0, []), (.iload_n 2, 1, 2, 0, 0, 0, []), (.invokestatic 119, 3, 91, 2, 0, 0, [])] = true := by decide +kernel
set_option maxRecDepth 100000 in
theorem bk_m_reckons_158 : chk 117 172 158 [(.ifCond .ne 14, 3, 172, 0, 0, 0, []), (.iload 5, 2, 5, 0, 0, 0, []), (.iload_n 3, 1, 3, 0, 0, 0, []), (.if_icmp .ge 8, 3, 172, 0, 0, 0, []), (.iload 5, 2, 5, 0, 0, 0, []), (.goto 4, 3, 173, 0, 0, 0, [])] = true := by decide +kernel
set_option maxRecDepth 100000 in
theorem bk_m_reckons_172 : chk 117 173 172 [(.iload_n 3, 1, 3, 0, 0, 0, [])] = true := by decide +kernel
set_option maxRecDepth 100000 in
theorem bk_m_reckons_173 : chk 117 180 173 [(.istore_n 3, 1, 3, 0, 0, 0, []), (.iinc 4 1, 3, 4, 0, 0, 1, []), (.goto (-52), 3, 125, 0, 0, 0, [])] = true := by decide +kernel
set_option maxRecDepth 100000 in
theorem bk_m_reckons_180 : chk 117 202 180 [(.aload_n 0, 1, 0, 0, 0, 0, []), (.getfield 50, 3, 10, 23, 2, 0, []), (.iload_n 2, 1, 2, 0, 0, 0, []), (.aload_n 0, 1, 0, 0, 0, 0, []), (.getfield 50, 3, 10, 23, 2, 0, []), (.iload_n 2, 1, 2, 0, 0, 0, []), (.iconst 1, 1, 0, 0, 0, 1, []), (.iadd, 1, 0, 0, 0, 0, []), (.iaload, 1, 0, 0, 0, 0, []), (.iload_n 3, 1, 3, 0, 0, 0, []), (.iadd, 1, 0, 0, 0, 0, []), (.iastore, 1, 0, 0, 0, 0, []), (.iinc 2 (-1), 3, 2, 0, 0, -1, []), (.goto (-91), 3, 108, 0, 0, 0, [])] = true := by decide +kernel
set_option maxRecDepth 100000 in
theorem bk_m_reckons_202 : chk 117 203 202 [(.return_, 1, 0, 0, 0, 0, [])] = true := by decide +kernel
set_option maxRecDepth 100000 in
theorem bk_m_may_0 : chk 118 15 0 [(.iload_n 2, 1, 2, 0, 0, 0, []), (.ifCond .eq 17, 3, 18, 0, 0, 0, []), (.aload_n 0, 1, 0, 0, 0, 0, []), (.getfield 19, 3, 10, 5, 2, 0, []), (.bipush 8, 2, 0, 0, 0, 8, []), (.iaload, 1, 0, 0, 0, 0, []), (.iload_n 1, 1, 1, 0, 0, 0, []), (.invokestatic 119, 3, 91, 2, 0, 0, [])] = true := by decide +kernel
set_option maxRecDepth 100000 in
theorem bk_m_may_15 : chk 118 18 15 [(.ifCond .ne 7, 3, 22, 0, 0, 0, [])] = true := by decide +kernel
set_option maxRecDepth 100000 in
theorem bk_m_may_18 : chk 118 22 18 [(.iconst 1, 1, 0, 0, 0, 1, []), (.goto 4, 3, 23, 0, 0, 0, [])] = true := by decide +kernel
set_option maxRecDepth 100000 in
theorem bk_m_may_22 : chk 118 23 22 [(.iconst 0, 1, 0, 0, 0, 0, [])] = true := by decide +kernel
set_option maxRecDepth 100000 in
theorem bk_m_may_23 : chk 118 28 23 [(.istore 4, 2, 4, 0, 0, 0, []), (.iconst 0, 1, 0, 0, 0, 0, []), (.istore 5, 2, 5, 0, 0, 0, [])] = true := by decide +kernel
set_option maxRecDepth 100000 in
theorem bk_m_may_28 : chk 118 74 28 [(.iload 5, 2, 5, 0, 0, 0, []), (.iload_n 2, 1, 2, 0, 0, 0, []), (.if_icmp .ge 56, 3, 87, 0, 0, 0, []), (.iload 4, 2, 4, 0, 0, 0, []), (.ifCond .eq 51, 3, 87, 0, 0, 0, []), (.iload 5, 2, 5, 0, 0, 0, []), (.iload_n 2, 1, 2, 0, 0, 0, []), (.iand, 1, 0, 0, 0, 0, []), (.iload 5, 2, 5, 0, 0, 0, []), (.if_icmp .ne 29, 3, 74, 0, 0, 0, []), (.aload_n 0, 1, 0, 0, 0, 0, []), (.getfield 41, 3, 10, 20, 2, 0, []), (.bipush 32, 2, 0, 0, 0, 32, []), (.iload_n 1, 1, 1, 0, 0, 0, []), (.imul, 1, 0, 0, 0, 0, []), (.iload 5, 2, 5, 0, 0, 0, []), (.iadd, 1, 0, 0, 0, 0, []), (.iaload, 1, 0, 0, 0, 0, []), (.aload_n 0, 1, 0, 0, 0, 0, []), (.getfield 41, 3, 10, 20, 2, 0, []), (.bipush 32, 2, 0, 0, 0, 32, []), (.iload_n 1, 1, 1, 0, 0, 0, []), (.imul, 1, 0, 0, 0, 0, []), (.iload_n 2, 1, 2, 0, 0, 0, []), (.iadd, 1, 0, 0, 0, 0, []), (.iaload, 1, 0, 0, 0, 0, []), (.if_icmp .le 7, 3, 78, 0, 0, 0, [])] = true := by decide +kernel
set_option maxRecDepth 100000 in
theorem bk_m_may_74 : chk 118 78 74 [(.iconst 1, 1, 0, 0, 0, 1, []), (.goto 4, 3, 79, 0, 0, 0, [])] = true := by decide +kernel
set_option maxRecDepth 100000 in
theorem bk_m_may_78 : chk 118 79 78 [(.iconst 0, 1, 0, 0, 0, 0, [])] = true := by decide +kernel
set_option maxRecDepth 100000 in
theorem bk_m_may_79 : chk 118 87 79 [(.istore 4, 2, 4, 0, 0, 0, []), (.iinc 5 1, 3, 5, 0, 0, 1, []), (.goto (-56), 3, 28, 0, 0, 0, [])] = true := by decide +kernel
set_option maxRecDepth 100000 in
theorem bk_m_may_87 : chk 118 90 87 [(.iconst 0, 1, 0, 0, 0, 0, []), (.istore 5, 2, 5, 0, 0, 0, [])] = true := by decide +kernel
set_option maxRecDepth 100000 in
theorem bk_m_may_90 : chk 118 107 90 [(.iload 5, 2, 5, 0, 0, 0, []), (.iload_n 3, 1, 3, 0, 0, 0, []), (.if_icmp .ge 76, 3, 169, 0, 0, 0, []), (.iload 4, 2, 4, 0, 0, 0, []), (.ifCond .eq 71, 3, 169, 0, 0, 0, []), (.iconst 0, 1, 0, 0, 0, 0, []), (.istore 6, 2, 6, 0, 0, 0, []), (.iconst 0, 1, 0, 0, 0, 0, []), (.istore 7, 2, 7, 0, 0, 0, [])] = true := by decide +kernel
set_option maxRecDepth 100000 in
theorem bk_m_may_107 : chk 118 136 107 [(.iload 7, 2, 7, 0, 0, 0, []), (.iload_n 1, 1, 1, 0, 0, 0, []), (.if_icmp .ge 26, 3, 136, 0, 0, 0, []), (.iload 6, 2, 6, 0, 0, 0, []), (.aload_n 0, 1, 0, 0, 0, 0, []), (.getfield 44, 3, 10, 21, 2, 0, []), (.iload 7, 2, 7, 0, 0, 0, []), (.iaload, 1, 0, 0, 0, 0, []), (.iload 5, 2, 5, 0, 0, 0, []), (.ishr, 1, 0, 0, 0, 0, []), (.iconst 1, 1, 0, 0, 0, 1, []), (.iand, 1, 0, 0, 0, 0, []), (.iadd, 1, 0, 0, 0, 0, []), (.istore 6, 2, 6, 0, 0, 0, []), (.iinc 7 1, 3, 7, 0, 0, 1, []), (.goto (-26), 3, 107, 0, 0, 0, [])] = true := by decide +kernel
set_option maxRecDepth 100000 in
theorem bk_m_may_136 : chk 118 142 136 [(.iload_n 2, 1, 2, 0, 0, 0, []), (.iload 5, 2, 5, 0, 0, 0, []), (.invokestatic 119, 3, 91, 2, 0, 0, [])] = true := by decide +kernel
set_option maxRecDepth 100000 in
theorem bk_m_may_142 : chk 118 156 142 [(.ifCond .eq 14, 3, 156, 0, 0, 0, []), (.iload 6, 2, 6, 0, 0, 0, []), (.aload_n 0, 1, 0, 0, 0, 0, []), (.getfield 13, 3, 10, 3, 2, 0, []), (.iconst 2, 1, 0, 0, 0, 2, []), (.iaload, 1, 0, 0, 0, 0, []), (.if_icmp .ge 7, 3, 160, 0, 0, 0, [])] = true := by decide +kernel
set_option maxRecDepth 100000 in
theorem bk_m_may_156 : chk 118 160 156 [(.iconst 1, 1, 0, 0, 0, 1, []), (.goto 4, 3, 161, 0, 0, 0, [])] = true := by decide +kernel
set_option maxRecDepth 100000 in
theorem bk_m_may_160 : chk 118 161 160 [(.iconst 0, 1, 0, 0, 0, 0, [])] = true := by decide +kernel
set_option maxRecDepth 100000 in
theorem bk_m_may_161 : chk 118 169 161 [(.istore 4, 2, 4, 0, 0, 0, []), (.iinc 5 1, 3, 5, 0, 0, 1, []), (.goto (-76), 3, 90, 0, 0, 0, [])] = true := by decide +kernel
set_option maxRecDepth 100000 in
theorem bk_m_may_169 : chk 118 172 169 [(.iload 4, 2, 4, 0, 0, 0, []), (.ireturn, 1, 0, 1, 0, 0, [])] = true := by decide +kernel
set_option maxRecDepth 100000 in
theorem bk_m_plans_0 : chk 119 5 0 [(.aload_n 0, 1, 0, 0, 0, 0, []), (.iload_n 1, 1, 1, 0, 0, 0, []), (.invokevirtual 154, 3, 117, 2, 10, 0, [])] = true := by decide +kernel
set_option maxRecDepth 100000 in
theorem bk_m_plans_5 : chk 119 16 5 [(.iconst (-1), 1, 0, 0, 0, -1, []), (.istore_n 2, 1, 2, 0, 0, 0, []), (.iconst 0, 1, 0, 0, 0, 0, []), (.istore_n 3, 1, 3, 0, 0, 0, []), (.aload_n 0, 1, 0, 0, 0, 0, []), (.getfield 44, 3, 10, 21, 2, 0, []), (.iconst 0, 1, 0, 0, 0, 0, []), (.iconst (-1), 1, 0, 0, 0, -1, []), (.iastore, 1, 0, 0, 0, 0, [])] = true := by decide +kernel
set_option maxRecDepth 100000 in
theorem bk_m_plans_16 : chk 119 36 16 [(.iload_n 3, 1, 3, 0, 0, 0, []), (.ifCond .lt 253, 3, 270, 0, 0, 0, []), (.iload_n 3, 1, 3, 0, 0, 0, []), (.aload_n 0, 1, 0, 0, 0, 0, []), (.getfield 13, 3, 10, 3, 2, 0, []), (.iconst 0, 1, 0, 0, 0, 0, []), (.iaload, 1, 0, 0, 0, 0, []), (.if_icmp .ne 92, 3, 119, 0, 0, 0, []), (.iconst 0, 1, 0, 0, 0, 0, []), (.istore 4, 2, 4, 0, 0, 0, []), (.iconst 0, 1, 0, 0, 0, 0, []), (.istore 5, 2, 5, 0, 0, 0, [])] = true := by decide +kernel
set_option maxRecDepth 100000 in
theorem bk_m_plans_36 : chk 119 71 36 [(.iload 5, 2, 5, 0, 0, 0, []), (.iload_n 3, 1, 3, 0, 0, 0, []), (.if_icmp .ge 32, 3, 71, 0, 0, 0, []), (.iload 4, 2, 4, 0, 0, 0, []), (.aload_n 0, 1, 0, 0, 0, 0, []), (.getfield 41, 3, 10, 20, 2, 0, []), (.bipush 32, 2, 0, 0, 0, 32, []), (.iload 5, 2, 5, 0, 0, 0, []), (.imul, 1, 0, 0, 0, 0, []), (.aload_n 0, 1, 0, 0, 0, 0, []), (.getfield 44, 3, 10, 21, 2, 0, []), (.iload 5, 2, 5, 0, 0, 0, []), (.iaload, 1, 0, 0, 0, 0, []), (.iadd, 1, 0, 0, 0, 0, []), (.iaload, 1, 0, 0, 0, 0, []), (.iadd, 1, 0, 0, 0, 0, []), (.istore 4, 2, 4, 0, 0, 0, []), (.iinc 5 1, 3, 5, 0, 0, 1, []), (.goto (-32), 3, 36, 0, 0, 0, [])] = true := by decide +kernel
set_option maxRecDepth 100000 in
theorem bk_m_plans_71 : chk 119 81 71 [(.iload_n 2, 1, 2, 0, 0, 0, []), (.ifCond .lt 9, 3, 81, 0, 0, 0, []), (.iload 4, 2, 4, 0, 0, 0, []), (.iload_n 2, 1, 2, 0, 0, 0, []), (.if_icmp .ge 35, 3, 113, 0, 0, 0, [])] = true := by decide +kernel
set_option maxRecDepth 100000 in
theorem bk_m_plans_81 : chk 119 87 81 [(.iload 4, 2, 4, 0, 0, 0, []), (.istore_n 2, 1, 2, 0, 0, 0, []), (.iconst 0, 1, 0, 0, 0, 0, []), (.istore 5, 2, 5, 0, 0, 0, [])] = true := by decide +kernel
set_option maxRecDepth 100000 in
theorem bk_m_plans_87 : chk 119 113 87 [(.iload 5, 2, 5, 0, 0, 0, []), (.iload_n 3, 1, 3, 0, 0, 0, []), (.if_icmp .ge 23, 3, 113, 0, 0, 0, []), (.aload_n 0, 1, 0, 0, 0, 0, []), (.getfield 47, 3, 10, 22, 2, 0, []), (.iload 5, 2, 5, 0, 0, 0, []), (.aload_n 0, 1, 0, 0, 0, 0, []), (.getfield 44, 3, 10, 21, 2, 0, []), (.iload 5, 2, 5, 0, 0, 0, []), (.iaload, 1, 0, 0, 0, 0, []), (.iastore, 1, 0, 0, 0, 0, []), (.iinc 5 1, 3, 5, 0, 0, 1, []), (.goto (-23), 3, 87, 0, 0, 0, [])] = true := by decide +kernel
set_option maxRecDepth 100000 in
theorem bk_m_plans_113 : chk 119 119 113 [(.iinc 3 (-1), 3, 3, 0, 0, -1, []), (.goto (-100), 3, 16, 0, 0, 0, [])] = true := by decide +kernel
set_option maxRecDepth 100000 in
theorem bk_m_plans_119 : chk 119 132 119 [(.aload_n 0, 1, 0, 0, 0, 0, []), (.getfield 50, 3, 10, 23, 2, 0, []), (.iload_n 3, 1, 3, 0, 0, 0, []), (.iconst 1, 1, 0, 0, 0, 1, []), (.iadd, 1, 0, 0, 0, 0, []), (.iaload, 1, 0, 0, 0, 0, []), (.istore 4, 2, 4, 0, 0, 0, []), (.iconst 0, 1, 0, 0, 0, 0, []), (.istore 5, 2, 5, 0, 0, 0, [])] = true := by decide +kernel
set_option maxRecDepth 100000 in
theorem bk_m_plans_132 : chk 119 167 132 [(.iload 5, 2, 5, 0, 0, 0, []), (.iload_n 3, 1, 3, 0, 0, 0, []), (.if_icmp .ge 32, 3, 167, 0, 0, 0, []), (.iload 4, 2, 4, 0, 0, 0, []), (.aload_n 0, 1, 0, 0, 0, 0, []), (.getfield 41, 3, 10, 20, 2, 0, []), (.bipush 32, 2, 0, 0, 0, 32, []), (.iload 5, 2, 5, 0, 0, 0, []), (.imul, 1, 0, 0, 0, 0, []), (.aload_n 0, 1, 0, 0, 0, 0, []), (.getfield 44, 3, 10, 21, 2, 0, []), (.iload 5, 2, 5, 0, 0, 0, []), (.iaload, 1, 0, 0, 0, 0, []), (.iadd, 1, 0, 0, 0, 0, []), (.iaload, 1, 0, 0, 0, 0, []), (.iadd, 1, 0, 0, 0, 0, []), (.istore 4, 2, 4, 0, 0, 0, []), (.iinc 5 1, 3, 5, 0, 0, 1, []), (.goto (-32), 3, 132, 0, 0, 0, [])] = true := by decide +kernel
set_option maxRecDepth 100000 in
theorem bk_m_plans_167 : chk 119 177 167 [(.aload_n 0, 1, 0, 0, 0, 0, []), (.getfield 44, 3, 10, 21, 2, 0, []), (.iload_n 3, 1, 3, 0, 0, 0, []), (.iaload, 1, 0, 0, 0, 0, []), (.iconst 1, 1, 0, 0, 0, 1, []), (.iadd, 1, 0, 0, 0, 0, []), (.istore 5, 2, 5, 0, 0, 0, [])] = true := by decide +kernel
set_option maxRecDepth 100000 in
theorem bk_m_plans_177 : chk 119 193 177 [(.iload 5, 2, 5, 0, 0, 0, []), (.iconst 1, 1, 0, 0, 0, 1, []), (.iload_n 1, 1, 1, 0, 0, 0, []), (.ishl, 1, 0, 0, 0, 0, []), (.if_icmp .ge 43, 3, 225, 0, 0, 0, []), (.aload_n 0, 1, 0, 0, 0, 0, []), (.iload_n 3, 1, 3, 0, 0, 0, []), (.iload 5, 2, 5, 0, 0, 0, []), (.iload_n 1, 1, 1, 0, 0, 0, []), (.invokevirtual 158, 3, 118, 4, 10, 0, [])] = true := by decide +kernel
set_option maxRecDepth 100000 in
theorem bk_m_plans_193 : chk 119 219 193 [(.ifCond .eq 26, 3, 219, 0, 0, 0, []), (.iload_n 2, 1, 2, 0, 0, 0, []), (.ifCond .lt 28, 3, 225, 0, 0, 0, []), (.iload 4, 2, 4, 0, 0, 0, []), (.aload_n 0, 1, 0, 0, 0, 0, []), (.getfield 41, 3, 10, 20, 2, 0, []), (.bipush 32, 2, 0, 0, 0, 32, []), (.iload_n 3, 1, 3, 0, 0, 0, []), (.imul, 1, 0, 0, 0, 0, []), (.iload 5, 2, 5, 0, 0, 0, []), (.iadd, 1, 0, 0, 0, 0, []), (.iaload, 1, 0, 0, 0, 0, []), (.iadd, 1, 0, 0, 0, 0, []), (.iload_n 2, 1, 2, 0, 0, 0, []), (.if_icmp .lt 9, 3, 225, 0, 0, 0, [])] = true := by decide +kernel
set_option maxRecDepth 100000 in
theorem bk_m_plans_219 : chk 119 225 219 [(.iinc 5 1, 3, 5, 0, 0, 1, []), (.goto (-45), 3, 177, 0, 0, 0, [])] = true := by decide +kernel
set_option maxRecDepth 100000 in
theorem bk_m_plans_225 : chk 119 264 225 [(.aload_n 0, 1, 0, 0, 0, 0, []), (.getfield 44, 3, 10, 21, 2, 0, []), (.iload_n 3, 1, 3, 0, 0, 0, []), (.iload 5, 2, 5, 0, 0, 0, []), (.iastore, 1, 0, 0, 0, 0, []), (.iload 5, 2, 5, 0, 0, 0, []), (.iconst 1, 1, 0, 0, 0, 1, []), (.iload_n 1, 1, 1, 0, 0, 0, []), (.ishl, 1, 0, 0, 0, 0, []), (.if_icmp .ge 26, 3, 264, 0, 0, 0, []), (.iinc 3 1, 3, 3, 0, 0, 1, []), (.iload_n 3, 1, 3, 0, 0, 0, []), (.aload_n 0, 1, 0, 0, 0, 0, []), (.getfield 13, 3, 10, 3, 2, 0, []), (.iconst 0, 1, 0, 0, 0, 0, []), (.iaload, 1, 0, 0, 0, 0, []), (.if_icmp .ge 16, 3, 267, 0, 0, 0, []), (.aload_n 0, 1, 0, 0, 0, 0, []), (.getfield 44, 3, 10, 21, 2, 0, []), (.iload_n 3, 1, 3, 0, 0, 0, []), (.iconst (-1), 1, 0, 0, 0, -1, []), (.iastore, 1, 0, 0, 0, 0, []), (.goto 6, 3, 267, 0, 0, 0, [])] = true := by decide +kernel
set_option maxRecDepth 100000 in
theorem bk_m_plans_264 : chk 119 267 264 [(.iinc 3 (-1), 3, 3, 0, 0, -1, [])] = true := by decide +kernel
set_option maxRecDepth 100000 in
theorem bk_m_plans_267 : chk 119 270 267 [(.goto (-251), 3, 16, 0, 0, 0, [])] = true := by decide +kernel
set_option maxRecDepth 100000 in
theorem bk_m_plans_270 : chk 119 272 270 [(.iload_n 2, 1, 2, 0, 0, 0, []), (.ireturn, 1, 0, 0, 0, 0, [])] = true := by decide +kernel
set_option maxRecDepth 100000 in
theorem bk_m_plan_0 : chk 120 6 0 [(.iload_n 1, 1, 1, 0, 0, 0, []), (.iconst 1, 1, 0, 0, 0, 1, []), (.iconst 5, 1, 0, 0, 0, 5, []), (.invokestatic 63, 3, 90, 3, 0, 0, [])] = true := by decide +kernel
set_option maxRecDepth 100000 in
theorem bk_m_plan_6 : chk 120 19 6 [(.ifCond .eq 16, 3, 22, 0, 0, 0, []), (.iload_n 2, 1, 2, 0, 0, 0, []), (.iconst (-1), 1, 0, 0, 0, -1, []), (.if_icmp .eq 13, 3, 24, 0, 0, 0, []), (.aload_n 0, 1, 0, 0, 0, 0, []), (.iload_n 2, 1, 2, 0, 0, 0, []), (.invokevirtual 116, 3, 92, 2, 10, 0, [])] = true := by decide +kernel
set_option maxRecDepth 100000 in
theorem bk_m_plan_19 : chk 120 22 19 [(.ifCond .ne 5, 3, 24, 0, 0, 0, [])] = true := by decide +kernel
set_option maxRecDepth 100000 in
theorem bk_m_plan_22 : chk 120 24 22 [(.iconst (-1), 1, 0, 0, 0, -1, []), (.ireturn, 1, 0, 0, 0, 0, [])] = true := by decide +kernel
set_option maxRecDepth 100000 in
theorem bk_m_plan_24 : chk 120 40 24 [(.aload_n 0, 1, 0, 0, 0, 0, []), (.getfield 19, 3, 10, 5, 2, 0, []), (.iconst 0, 1, 0, 0, 0, 0, []), (.iaload, 1, 0, 0, 0, 0, []), (.iload_n 1, 1, 1, 0, 0, 0, []), (.iadd, 1, 0, 0, 0, 0, []), (.bipush 12, 2, 0, 0, 0, 12, []), (.if_icmp .le 6, 3, 40, 0, 0, 0, []), (.bipush (-2), 2, 0, 0, 0, -2, []), (.ireturn, 1, 0, 0, 0, 0, [])] = true := by decide +kernel
set_option maxRecDepth 100000 in
theorem bk_m_plan_40 : chk 120 45 40 [(.aload_n 0, 1, 0, 0, 0, 0, []), (.iload_n 1, 1, 1, 0, 0, 0, []), (.invokevirtual 161, 3, 119, 2, 10, 0, [])] = true := by decide +kernel
set_option maxRecDepth 100000 in
theorem bk_m_plan_45 : chk 120 55 45 [(.istore_n 3, 1, 3, 0, 0, 0, []), (.iload_n 2, 1, 2, 0, 0, 0, []), (.iconst (-1), 1, 0, 0, 0, -1, []), (.if_icmp .ne 7, 3, 55, 0, 0, 0, []), (.iload_n 3, 1, 3, 0, 0, 0, []), (.goto 9, 3, 61, 0, 0, 0, [])] = true := by decide +kernel
set_option maxRecDepth 100000 in
theorem bk_m_plan_55 : chk 120 61 55 [(.aload_n 0, 1, 0, 0, 0, 0, []), (.getfield 47, 3, 10, 22, 2, 0, []), (.iload_n 2, 1, 2, 0, 0, 0, []), (.iaload, 1, 0, 0, 0, 0, [])] = true := by decide +kernel
set_option maxRecDepth 100000 in
theorem bk_m_plan_61 : chk 120 62 61 [(.ireturn, 1, 0, 0, 0, 0, [])] = true := by decide +kernel
set_option maxRecDepth 100000 in
theorem bk_m_lawOf_0 : chk 121 4 0 [(.aload_n 0, 1, 0, 0, 0, 0, []), (.invokevirtual 147, 3, 115, 1, 10, 0, [])] = true := by decide +kernel
set_option maxRecDepth 100000 in
theorem bk_m_lawOf_4 : chk 121 11 4 [(.aload_n 0, 1, 0, 0, 0, 0, []), (.getfield 19, 3, 10, 5, 2, 0, []), (.iconst 0, 1, 0, 0, 0, 0, []), (.iaload, 1, 0, 0, 0, 0, []), (.istore_n 2, 1, 2, 0, 0, 0, [])] = true := by decide +kernel
set_option maxRecDepth 100000 in
theorem bk_m_lawOf_11 : chk 121 22 11 [(.iload_n 2, 1, 2, 0, 0, 0, []), (.bipush 12, 2, 0, 0, 0, 12, []), (.if_icmp .ge 179, 3, 193, 0, 0, 0, []), (.iconst 0, 1, 0, 0, 0, 0, []), (.istore_n 3, 1, 3, 0, 0, 0, []), (.iconst 0, 1, 0, 0, 0, 0, []), (.istore 4, 2, 4, 0, 0, 0, [])] = true := by decide +kernel
set_option maxRecDepth 100000 in
theorem bk_m_lawOf_22 : chk 121 40 22 [(.iload 4, 2, 4, 0, 0, 0, []), (.aload_n 0, 1, 0, 0, 0, 0, []), (.getfield 13, 3, 10, 3, 2, 0, []), (.iconst 2, 1, 0, 0, 0, 2, []), (.iaload, 1, 0, 0, 0, 0, []), (.if_icmp .ge 124, 3, 154, 0, 0, 0, []), (.bipush (-9), 2, 0, 0, 0, -9, []), (.istore 5, 2, 5, 0, 0, 0, []), (.iconst 0, 1, 0, 0, 0, 0, []), (.istore 6, 2, 6, 0, 0, 0, [])] = true := by decide +kernel
set_option maxRecDepth 100000 in
theorem bk_m_lawOf_40 : chk 121 65 40 [(.iload 6, 2, 6, 0, 0, 0, []), (.aload_n 0, 1, 0, 0, 0, 0, []), (.getfield 13, 3, 10, 3, 2, 0, []), (.iconst 0, 1, 0, 0, 0, 0, []), (.iaload, 1, 0, 0, 0, 0, []), (.if_icmp .ge 82, 3, 130, 0, 0, 0, []), (.aload_n 0, 1, 0, 0, 0, 0, []), (.getfield 19, 3, 10, 5, 2, 0, []), (.bipush 8, 2, 0, 0, 0, 8, []), (.iaload, 1, 0, 0, 0, 0, []), (.iload_n 3, 1, 3, 0, 0, 0, []), (.ior, 1, 0, 0, 0, 0, []), (.iload 6, 2, 6, 0, 0, 0, []), (.invokestatic 119, 3, 91, 2, 0, 0, [])] = true := by decide +kernel
set_option maxRecDepth 100000 in
theorem bk_m_lawOf_65 : chk 121 83 65 [(.ifCond .ne 18, 3, 83, 0, 0, 0, []), (.aload_n 0, 1, 0, 0, 0, 0, []), (.getfield 38, 3, 10, 18, 2, 0, []), (.iload 6, 2, 6, 0, 0, 0, []), (.iaload, 1, 0, 0, 0, 0, []), (.iload_n 1, 1, 1, 0, 0, 0, []), (.if_icmp .lt 7, 3, 83, 0, 0, 0, []), (.iconst 1, 1, 0, 0, 0, 1, []), (.goto 4, 3, 84, 0, 0, 0, [])] = true := by decide +kernel
set_option maxRecDepth 100000 in
theorem bk_m_lawOf_83 : chk 121 84 83 [(.iconst 0, 1, 0, 0, 0, 0, [])] = true := by decide +kernel
set_option maxRecDepth 100000 in
theorem bk_m_lawOf_84 : chk 121 115 84 [(.istore 7, 2, 7, 0, 0, 0, []), (.iload 7, 2, 7, 0, 0, 0, []), (.ifCond .eq 32, 3, 120, 0, 0, 0, []), (.iload 5, 2, 5, 0, 0, 0, []), (.bipush (-9), 2, 0, 0, 0, -9, []), (.if_icmp .eq 20, 3, 115, 0, 0, 0, []), (.aload_n 0, 1, 0, 0, 0, 0, []), (.getfield 38, 3, 10, 18, 2, 0, []), (.iload 6, 2, 6, 0, 0, 0, []), (.iaload, 1, 0, 0, 0, 0, []), (.aload_n 0, 1, 0, 0, 0, 0, []), (.getfield 38, 3, 10, 18, 2, 0, []), (.iload 5, 2, 5, 0, 0, 0, []), (.iaload, 1, 0, 0, 0, 0, []), (.if_icmp .le 8, 3, 120, 0, 0, 0, [])] = true := by decide +kernel
set_option maxRecDepth 100000 in
theorem bk_m_lawOf_115 : chk 121 120 115 [(.iload 6, 2, 6, 0, 0, 0, []), (.goto 5, 3, 122, 0, 0, 0, [])] = true := by decide +kernel
set_option maxRecDepth 100000 in
theorem bk_m_lawOf_120 : chk 121 122 120 [(.iload 5, 2, 5, 0, 0, 0, [])] = true := by decide +kernel
set_option maxRecDepth 100000 in
theorem bk_m_lawOf_122 : chk 121 130 122 [(.istore 5, 2, 5, 0, 0, 0, []), (.iinc 6 1, 3, 6, 0, 0, 1, []), (.goto (-87), 3, 40, 0, 0, 0, [])] = true := by decide +kernel
set_option maxRecDepth 100000 in
theorem bk_m_lawOf_130 : chk 121 142 130 [(.iload_n 3, 1, 3, 0, 0, 0, []), (.iload 5, 2, 5, 0, 0, 0, []), (.bipush (-9), 2, 0, 0, 0, -9, []), (.if_icmp .ne 7, 3, 142, 0, 0, 0, []), (.iconst 0, 1, 0, 0, 0, 0, []), (.goto 7, 3, 146, 0, 0, 0, [])] = true := by decide +kernel
set_option maxRecDepth 100000 in
theorem bk_m_lawOf_142 : chk 121 146 142 [(.iconst 1, 1, 0, 0, 0, 1, []), (.iload 5, 2, 5, 0, 0, 0, []), (.ishl, 1, 0, 0, 0, 0, [])] = true := by decide +kernel
set_option maxRecDepth 100000 in
theorem bk_m_lawOf_146 : chk 121 154 146 [(.ior, 1, 0, 0, 0, 0, []), (.istore_n 3, 1, 3, 0, 0, 0, []), (.iinc 4 1, 3, 4, 0, 0, 1, []), (.goto (-129), 3, 22, 0, 0, 0, [])] = true := by decide +kernel
set_option maxRecDepth 100000 in
theorem bk_m_lawOf_154 : chk 121 157 154 [(.iconst 0, 1, 0, 0, 0, 0, []), (.istore 4, 2, 4, 0, 0, 0, [])] = true := by decide +kernel
set_option maxRecDepth 100000 in
theorem bk_m_lawOf_157 : chk 121 178 157 [(.iload 4, 2, 4, 0, 0, 0, []), (.aload_n 0, 1, 0, 0, 0, 0, []), (.getfield 13, 3, 10, 3, 2, 0, []), (.iconst 0, 1, 0, 0, 0, 0, []), (.iaload, 1, 0, 0, 0, 0, []), (.if_icmp .ge 22, 3, 187, 0, 0, 0, []), (.aload_n 0, 1, 0, 0, 0, 0, []), (.iload 4, 2, 4, 0, 0, 0, []), (.iload_n 2, 1, 2, 0, 0, 0, []), (.iload_n 3, 1, 3, 0, 0, 0, []), (.iload 4, 2, 4, 0, 0, 0, []), (.invokestatic 119, 3, 91, 2, 0, 0, [])] = true := by decide +kernel
set_option maxRecDepth 100000 in
theorem bk_m_lawOf_178 : chk 121 181 178 [(.invokevirtual 150, 3, 116, 4, 10, 0, [])] = true := by decide +kernel
set_option maxRecDepth 100000 in
theorem bk_m_lawOf_181 : chk 121 187 181 [(.iinc 4 1, 3, 4, 0, 0, 1, []), (.goto (-27), 3, 157, 0, 0, 0, [])] = true := by decide +kernel
set_option maxRecDepth 100000 in
theorem bk_m_lawOf_187 : chk 121 193 187 [(.iinc 2 1, 3, 2, 0, 0, 1, []), (.goto (-179), 3, 11, 0, 0, 0, [])] = true := by decide +kernel
set_option maxRecDepth 100000 in
theorem bk_m_lawOf_193 : chk 121 198 193 [(.aload_n 0, 1, 0, 0, 0, 0, []), (.getfield 144, 3, 10, 19, 0, 0, []), (.ireturn, 1, 0, 0, 0, 0, [])] = true := by decide +kernel
set_option maxRecDepth 100000 in
theorem bk_m_law_0 : chk 122 7 0 [(.iload_n 1, 1, 1, 0, 0, 0, []), (.iconst 0, 1, 0, 0, 0, 0, []), (.bipush 30, 2, 0, 0, 0, 30, []), (.invokestatic 63, 3, 90, 3, 0, 0, [])] = true := by decide +kernel
set_option maxRecDepth 100000 in
theorem bk_m_law_7 : chk 122 15 7 [(.ifCond .eq 11, 3, 18, 0, 0, 0, []), (.aload_n 0, 1, 0, 0, 0, 0, []), (.iload_n 1, 1, 1, 0, 0, 0, []), (.invokevirtual 164, 3, 121, 2, 10, 0, [])] = true := by decide +kernel
set_option maxRecDepth 100000 in
theorem bk_m_law_15 : chk 122 18 15 [(.goto 4, 3, 19, 0, 0, 0, [])] = true := by decide +kernel
set_option maxRecDepth 100000 in
theorem bk_m_law_18 : chk 122 19 18 [(.iconst (-1), 1, 0, 0, 0, -1, [])] = true := by decide +kernel
set_option maxRecDepth 100000 in
theorem bk_m_law_19 : chk 122 20 19 [(.ireturn, 1, 0, 0, 0, 0, [])] = true := by decide +kernel
set_option maxRecDepth 100000 in
theorem bk_m_bestLaw_0 : chk 123 4 0 [(.iconst 0, 1, 0, 0, 0, 0, []), (.istore_n 1, 1, 1, 0, 0, 0, []), (.iconst 1, 1, 0, 0, 0, 1, []), (.istore_n 2, 1, 2, 0, 0, 0, [])] = true := by decide +kernel
set_option maxRecDepth 100000 in
theorem bk_m_bestLaw_4 : chk 123 15 4 [(.iload_n 2, 1, 2, 0, 0, 0, []), (.bipush 30, 2, 0, 0, 0, 30, []), (.if_icmp .gt 28, 3, 35, 0, 0, 0, []), (.aload_n 0, 1, 0, 0, 0, 0, []), (.iload_n 2, 1, 2, 0, 0, 0, []), (.invokevirtual 164, 3, 121, 2, 10, 0, [])] = true := by decide +kernel
set_option maxRecDepth 100000 in
theorem bk_m_bestLaw_15 : chk 123 20 15 [(.aload_n 0, 1, 0, 0, 0, 0, []), (.iload_n 1, 1, 1, 0, 0, 0, []), (.invokevirtual 164, 3, 121, 2, 10, 0, [])] = true := by decide +kernel
set_option maxRecDepth 100000 in
theorem bk_m_bestLaw_20 : chk 123 27 20 [(.if_icmp .ge 7, 3, 27, 0, 0, 0, []), (.iload_n 2, 1, 2, 0, 0, 0, []), (.goto 4, 3, 28, 0, 0, 0, [])] = true := by decide +kernel
set_option maxRecDepth 100000 in
theorem bk_m_bestLaw_27 : chk 123 28 27 [(.iload_n 1, 1, 1, 0, 0, 0, [])] = true := by decide +kernel
set_option maxRecDepth 100000 in
theorem bk_m_bestLaw_28 : chk 123 35 28 [(.istore_n 1, 1, 1, 0, 0, 0, []), (.iinc 2 1, 3, 2, 0, 0, 1, []), (.goto (-28), 3, 4, 0, 0, 0, [])] = true := by decide +kernel
set_option maxRecDepth 100000 in
theorem bk_m_bestLaw_35 : chk 123 37 35 [(.iload_n 1, 1, 1, 0, 0, 0, []), (.ireturn, 1, 0, 0, 0, 0, [])] = true := by decide +kernel
set_option maxRecDepth 100000 in
theorem bk_m_now_0 : chk 124 44 0 [(.iload_n 1, 1, 1, 0, 0, 0, []), (.tableswitch 92 0 6 #[43, 50, 58, 66, 74, 82, 87], 43, 93, 0, 0, 0, [(0, 44), (1, 51), (2, 59), (3, 67), (4, 75), (5, 83), (6, 88)])] = true := by decide +kernel
set_option maxRecDepth 100000 in
theorem bk_m_now_44 : chk 124 51 44 [(.aload_n 0, 1, 0, 0, 0, 0, []), (.getfield 19, 3, 10, 5, 2, 0, []), (.iconst 0, 1, 0, 0, 0, 0, []), (.iaload, 1, 0, 0, 0, 0, []), (.ireturn, 1, 0, 0, 0, 0, [])] = true := by decide +kernel
set_option maxRecDepth 100000 in
theorem bk_m_now_51 : chk 124 59 51 [(.aload_n 0, 1, 0, 0, 0, 0, []), (.getfield 19, 3, 10, 5, 2, 0, []), (.bipush 7, 2, 0, 0, 0, 7, []), (.iaload, 1, 0, 0, 0, 0, []), (.ireturn, 1, 0, 0, 0, 0, [])] = true := by decide +kernel
set_option maxRecDepth 100000 in
theorem bk_m_now_59 : chk 124 67 59 [(.aload_n 0, 1, 0, 0, 0, 0, []), (.getfield 19, 3, 10, 5, 2, 0, []), (.bipush 8, 2, 0, 0, 0, 8, []), (.iaload, 1, 0, 0, 0, 0, []), (.ireturn, 1, 0, 0, 0, 0, [])] = true := by decide +kernel
set_option maxRecDepth 100000 in
theorem bk_m_now_67 : chk 124 75 67 [(.aload_n 0, 1, 0, 0, 0, 0, []), (.getfield 19, 3, 10, 5, 2, 0, []), (.bipush 9, 2, 0, 0, 0, 9, []), (.iaload, 1, 0, 0, 0, 0, []), (.ireturn, 1, 0, 0, 0, 0, [])] = true := by decide +kernel
set_option maxRecDepth 100000 in
theorem bk_m_now_75 : chk 124 83 75 [(.aload_n 0, 1, 0, 0, 0, 0, []), (.getfield 19, 3, 10, 5, 2, 0, []), (.bipush 10, 2, 0, 0, 0, 10, []), (.iaload, 1, 0, 0, 0, 0, []), (.ireturn, 1, 0, 0, 0, 0, [])] = true := by decide +kernel
set_option maxRecDepth 100000 in
theorem bk_m_now_83 : chk 124 87 83 [(.aload_n 0, 1, 0, 0, 0, 0, []), (.invokevirtual 167, 3, 123, 1, 10, 0, [])] = true := by decide +kernel
set_option maxRecDepth 100000 in
theorem bk_m_now_87 : chk 124 88 87 [(.ireturn, 1, 0, 0, 0, 0, [])] = true := by decide +kernel
set_option maxRecDepth 100000 in
theorem bk_m_now_88 : chk 124 93 88 [(.aload_n 0, 1, 0, 0, 0, 0, []), (.getfield 107, 3, 10, 7, 0, 0, []), (.ireturn, 1, 0, 0, 0, 0, [])] = true := by decide +kernel
set_option maxRecDepth 100000 in
theorem bk_m_now_93 : chk 124 95 93 [(.iconst (-1), 1, 0, 0, 0, -1, []), (.ireturn, 1, 0, 0, 0, 0, [])] = true := by decide +kernel
set_option maxRecDepth 100000 in
theorem bk_m_lowest_0 : chk 125 5 0 [(.iload_n 0, 1, 0, 0, 0, 0, []), (.istore_n 3, 1, 3, 0, 0, 0, []), (.iload_n 1, 1, 1, 0, 0, 0, []), (.istore 4, 2, 4, 0, 0, 0, [])] = true := by decide +kernel
set_option maxRecDepth 100000 in
theorem bk_m_lowest_5 : chk 125 26 5 [(.iload 4, 2, 4, 0, 0, 0, []), (.ifCond .le 19, 3, 26, 0, 0, 0, []), (.iload_n 3, 1, 3, 0, 0, 0, []), (.iload 4, 2, 4, 0, 0, 0, []), (.irem, 1, 0, 0, 0, 0, []), (.istore 5, 2, 5, 0, 0, 0, []), (.iload 4, 2, 4, 0, 0, 0, []), (.istore_n 3, 1, 3, 0, 0, 0, []), (.iload 5, 2, 5, 0, 0, 0, []), (.istore 4, 2, 4, 0, 0, 0, []), (.goto (-18), 3, 5, 0, 0, 0, [])] = true := by decide +kernel
set_option maxRecDepth 100000 in
theorem bk_m_lowest_26 : chk 125 36 26 [(.iload_n 2, 1, 2, 0, 0, 0, []), (.ifCond .ne 9, 3, 36, 0, 0, 0, []), (.iload_n 0, 1, 0, 0, 0, 0, []), (.iload_n 3, 1, 3, 0, 0, 0, []), (.idiv, 1, 0, 0, 0, 0, []), (.goto 6, 3, 39, 0, 0, 0, [])] = true := by decide +kernel
set_option maxRecDepth 100000 in
theorem bk_m_lowest_36 : chk 125 39 36 [(.iload_n 1, 1, 1, 0, 0, 0, []), (.iload_n 3, 1, 3, 0, 0, 0, []), (.idiv, 1, 0, 0, 0, 0, [])] = true := by decide +kernel
set_option maxRecDepth 100000 in
theorem bk_m_lowest_39 : chk 125 40 39 [(.ireturn, 1, 0, 0, 0, 0, [])] = true := by decide +kernel
set_option maxRecDepth 100000 in
theorem bk_m_mean_0 : chk 126 6 0 [(.iload_n 1, 1, 1, 0, 0, 0, []), (.iconst 0, 1, 0, 0, 0, 0, []), (.iconst 1, 1, 0, 0, 0, 1, []), (.invokestatic 63, 3, 90, 3, 0, 0, [])] = true := by decide +kernel
set_option maxRecDepth 100000 in
theorem bk_m_mean_6 : chk 126 11 6 [(.ifCond .ne 5, 3, 11, 0, 0, 0, []), (.iconst (-1), 1, 0, 0, 0, -1, []), (.ireturn, 1, 0, 0, 0, 0, [])] = true := by decide +kernel
set_option maxRecDepth 100000 in
theorem bk_m_mean_11 : chk 126 15 11 [(.iconst 0, 1, 0, 0, 0, 0, []), (.istore_n 2, 1, 2, 0, 0, 0, []), (.iconst 0, 1, 0, 0, 0, 0, []), (.istore_n 3, 1, 3, 0, 0, 0, [])] = true := by decide +kernel
set_option maxRecDepth 100000 in
theorem bk_m_mean_15 : chk 126 45 15 [(.iload_n 3, 1, 3, 0, 0, 0, []), (.aload_n 0, 1, 0, 0, 0, 0, []), (.getfield 13, 3, 10, 3, 2, 0, []), (.iconst 1, 1, 0, 0, 0, 1, []), (.iaload, 1, 0, 0, 0, 0, []), (.if_icmp .ge 65, 3, 87, 0, 0, 0, []), (.iload_n 2, 1, 2, 0, 0, 0, []), (.aload_n 0, 1, 0, 0, 0, 0, []), (.getfield 19, 3, 10, 5, 2, 0, []), (.bipush 7, 2, 0, 0, 0, 7, []), (.iaload, 1, 0, 0, 0, 0, []), (.aload_n 0, 1, 0, 0, 0, 0, []), (.getfield 13, 3, 10, 3, 2, 0, []), (.bipush 35, 2, 0, 0, 0, 35, []), (.iload_n 3, 1, 3, 0, 0, 0, []), (.iadd, 1, 0, 0, 0, 0, []), (.iaload, 1, 0, 0, 0, 0, []), (.invokestatic 119, 3, 91, 2, 0, 0, [])] = true := by decide +kernel
set_option maxRecDepth 100000 in
theorem bk_m_mean_45 : chk 126 78 45 [(.ifCond .eq 33, 3, 78, 0, 0, 0, []), (.aload_n 0, 1, 0, 0, 0, 0, []), (.getfield 13, 3, 10, 3, 2, 0, []), (.bipush 25, 2, 0, 0, 0, 25, []), (.iload_n 3, 1, 3, 0, 0, 0, []), (.iadd, 1, 0, 0, 0, 0, []), (.iaload, 1, 0, 0, 0, 0, []), (.aload_n 0, 1, 0, 0, 0, 0, []), (.getfield 19, 3, 10, 5, 2, 0, []), (.iconst 0, 1, 0, 0, 0, 0, []), (.iaload, 1, 0, 0, 0, 0, []), (.if_icmp .le 15, 3, 78, 0, 0, 0, []), (.aload_n 0, 1, 0, 0, 0, 0, []), (.getfield 13, 3, 10, 3, 2, 0, []), (.bipush 55, 2, 0, 0, 0, 55, []), (.iload_n 3, 1, 3, 0, 0, 0, []), (.iadd, 1, 0, 0, 0, 0, []), (.iaload, 1, 0, 0, 0, 0, []), (.goto 4, 3, 79, 0, 0, 0, [])] = true := by decide +kernel
set_option maxRecDepth 100000 in
theorem bk_m_mean_78 : chk 126 79 78 [(.iconst 0, 1, 0, 0, 0, 0, [])] = true := by decide +kernel
set_option maxRecDepth 100000 in
theorem bk_m_mean_79 : chk 126 87 79 [(.iadd, 1, 0, 0, 0, 0, []), (.istore_n 2, 1, 2, 0, 0, 0, []), (.iinc 3 1, 3, 3, 0, 0, 1, []), (.goto (-69), 3, 15, 0, 0, 0, [])] = true := by decide +kernel
set_option maxRecDepth 100000 in
theorem bk_m_mean_87 : chk 126 101 87 [(.iload_n 2, 1, 2, 0, 0, 0, []), (.aload_n 0, 1, 0, 0, 0, 0, []), (.getfield 13, 3, 10, 3, 2, 0, []), (.iconst 4, 1, 0, 0, 0, 4, []), (.iaload, 1, 0, 0, 0, 0, []), (.imul, 1, 0, 0, 0, 0, []), (.bipush 10, 2, 0, 0, 0, 10, []), (.iload_n 1, 1, 1, 0, 0, 0, []), (.invokestatic 171, 3, 125, 3, 0, 0, [])] = true := by decide +kernel
set_option maxRecDepth 100000 in
theorem bk_m_mean_101 : chk 126 102 101 [(.ireturn, 1, 0, 0, 0, 0, [])] = true := by decide +kernel
set_option maxRecDepth 100000 in
theorem bk_m_home_0 : chk 127 6 0 [(.iload_n 1, 1, 1, 0, 0, 0, []), (.iconst 0, 1, 0, 0, 0, 0, []), (.iconst 3, 1, 0, 0, 0, 3, []), (.invokestatic 63, 3, 90, 3, 0, 0, [])] = true := by decide +kernel
set_option maxRecDepth 100000 in
theorem bk_m_home_6 : chk 127 15 6 [(.ifCond .eq 31, 3, 37, 0, 0, 0, []), (.iload_n 2, 1, 2, 0, 0, 0, []), (.iconst 0, 1, 0, 0, 0, 0, []), (.iconst 3, 1, 0, 0, 0, 3, []), (.invokestatic 63, 3, 90, 3, 0, 0, [])] = true := by decide +kernel
set_option maxRecDepth 100000 in
theorem bk_m_home_15 : chk 127 24 15 [(.ifCond .eq 22, 3, 37, 0, 0, 0, []), (.iload_n 3, 1, 3, 0, 0, 0, []), (.iconst 0, 1, 0, 0, 0, 0, []), (.iconst 2, 1, 0, 0, 0, 2, []), (.invokestatic 63, 3, 90, 3, 0, 0, [])] = true := by decide +kernel
set_option maxRecDepth 100000 in
theorem bk_m_home_24 : chk 127 34 24 [(.ifCond .eq 13, 3, 37, 0, 0, 0, []), (.iload 4, 2, 4, 0, 0, 0, []), (.iconst 0, 1, 0, 0, 0, 0, []), (.iconst 1, 1, 0, 0, 0, 1, []), (.invokestatic 63, 3, 90, 3, 0, 0, [])] = true := by decide +kernel
set_option maxRecDepth 100000 in
theorem bk_m_home_34 : chk 127 37 34 [(.ifCond .ne 5, 3, 39, 0, 0, 0, [])] = true := by decide +kernel
set_option maxRecDepth 100000 in
theorem bk_m_home_37 : chk 127 39 37 [(.iconst (-1), 1, 0, 0, 0, -1, []), (.ireturn, 1, 0, 0, 0, 0, [])] = true := by decide +kernel
set_option maxRecDepth 100000 in
theorem bk_m_home_39 : chk 127 48 39 [(.iconst 1, 1, 0, 0, 0, 1, []), (.istore 5, 2, 5, 0, 0, 0, []), (.iconst 1, 1, 0, 0, 0, 1, []), (.istore 6, 2, 6, 0, 0, 0, []), (.iconst 0, 1, 0, 0, 0, 0, []), (.istore 7, 2, 7, 0, 0, 0, [])] = true := by decide +kernel
set_option maxRecDepth 100000 in
theorem bk_m_home_48 : chk 127 81 48 [(.iload 7, 2, 7, 0, 0, 0, []), (.iload_n 3, 1, 3, 0, 0, 0, []), (.if_icmp .ge 30, 3, 81, 0, 0, 0, []), (.iload 5, 2, 5, 0, 0, 0, []), (.bipush 10, 2, 0, 0, 0, 10, []), (.aload_n 0, 1, 0, 0, 0, 0, []), (.getfield 13, 3, 10, 3, 2, 0, []), (.iconst 4, 1, 0, 0, 0, 4, []), (.iaload, 1, 0, 0, 0, 0, []), (.isub, 1, 0, 0, 0, 0, []), (.imul, 1, 0, 0, 0, 0, []), (.istore 5, 2, 5, 0, 0, 0, []), (.iload 6, 2, 6, 0, 0, 0, []), (.bipush 10, 2, 0, 0, 0, 10, []), (.imul, 1, 0, 0, 0, 0, []), (.istore 6, 2, 6, 0, 0, 0, []), (.iinc 7 1, 3, 7, 0, 0, 1, []), (.goto (-30), 3, 48, 0, 0, 0, [])] = true := by decide +kernel
set_option maxRecDepth 100000 in
theorem bk_m_home_81 : chk 127 90 81 [(.iconst 0, 1, 0, 0, 0, 0, []), (.istore 7, 2, 7, 0, 0, 0, []), (.iconst 1, 1, 0, 0, 0, 1, []), (.istore 8, 2, 8, 0, 0, 0, []), (.iconst 0, 1, 0, 0, 0, 0, []), (.istore 9, 2, 9, 0, 0, 0, [])] = true := by decide +kernel
set_option maxRecDepth 100000 in
theorem bk_m_home_90 : chk 127 104 90 [(.iload 9, 2, 9, 0, 0, 0, []), (.iconst 1, 1, 0, 0, 0, 1, []), (.iload_n 2, 1, 2, 0, 0, 0, []), (.ishl, 1, 0, 0, 0, 0, []), (.if_icmp .ge 72, 3, 167, 0, 0, 0, []), (.iconst 1, 1, 0, 0, 0, 1, []), (.istore 10, 2, 10, 0, 0, 0, []), (.iconst 0, 1, 0, 0, 0, 0, []), (.istore 11, 2, 11, 0, 0, 0, [])] = true := by decide +kernel
set_option maxRecDepth 100000 in
theorem bk_m_home_104 : chk 127 119 104 [(.iload 11, 2, 11, 0, 0, 0, []), (.iload_n 2, 1, 2, 0, 0, 0, []), (.if_icmp .ge 34, 3, 141, 0, 0, 0, []), (.iload 10, 2, 10, 0, 0, 0, []), (.iload 9, 2, 9, 0, 0, 0, []), (.iload 11, 2, 11, 0, 0, 0, []), (.invokestatic 119, 3, 91, 2, 0, 0, [])] = true := by decide +kernel
set_option maxRecDepth 100000 in
theorem bk_m_home_119 : chk 127 127 119 [(.ifCond .eq 8, 3, 127, 0, 0, 0, []), (.iload 5, 2, 5, 0, 0, 0, []), (.goto 8, 3, 132, 0, 0, 0, [])] = true := by decide +kernel
set_option maxRecDepth 100000 in
theorem bk_m_home_127 : chk 127 132 127 [(.iload 6, 2, 6, 0, 0, 0, []), (.iload 5, 2, 5, 0, 0, 0, []), (.isub, 1, 0, 0, 0, 0, [])] = true := by decide +kernel
set_option maxRecDepth 100000 in
theorem bk_m_home_132 : chk 127 141 132 [(.imul, 1, 0, 0, 0, 0, []), (.istore 10, 2, 10, 0, 0, 0, []), (.iinc 11 1, 3, 11, 0, 0, 1, []), (.goto (-34), 3, 104, 0, 0, 0, [])] = true := by decide +kernel
set_option maxRecDepth 100000 in
theorem bk_m_home_141 : chk 127 148 141 [(.iload 7, 2, 7, 0, 0, 0, []), (.iload 9, 2, 9, 0, 0, 0, []), (.invokestatic 123, 3, 93, 1, 0, 0, [])] = true := by decide +kernel
set_option maxRecDepth 100000 in
theorem bk_m_home_148 : chk 127 157 148 [(.iload_n 1, 1, 1, 0, 0, 0, []), (.if_icmp .lt 8, 3, 157, 0, 0, 0, []), (.iload 10, 2, 10, 0, 0, 0, []), (.goto 4, 3, 158, 0, 0, 0, [])] = true := by decide +kernel
set_option maxRecDepth 100000 in
theorem bk_m_home_157 : chk 127 158 157 [(.iconst 0, 1, 0, 0, 0, 0, [])] = true := by decide +kernel
set_option maxRecDepth 100000 in
theorem bk_m_home_158 : chk 127 167 158 [(.iadd, 1, 0, 0, 0, 0, []), (.istore 7, 2, 7, 0, 0, 0, []), (.iinc 9 1, 3, 9, 0, 0, 1, []), (.goto (-74), 3, 90, 0, 0, 0, [])] = true := by decide +kernel
set_option maxRecDepth 100000 in
theorem bk_m_home_167 : chk 127 170 167 [(.iconst 0, 1, 0, 0, 0, 0, []), (.istore 9, 2, 9, 0, 0, 0, [])] = true := by decide +kernel
set_option maxRecDepth 100000 in
theorem bk_m_home_170 : chk 127 189 170 [(.iload 9, 2, 9, 0, 0, 0, []), (.iload_n 2, 1, 2, 0, 0, 0, []), (.if_icmp .ge 16, 3, 189, 0, 0, 0, []), (.iload 8, 2, 8, 0, 0, 0, []), (.iload 6, 2, 6, 0, 0, 0, []), (.imul, 1, 0, 0, 0, 0, []), (.istore 8, 2, 8, 0, 0, 0, []), (.iinc 9 1, 3, 9, 0, 0, 1, []), (.goto (-16), 3, 170, 0, 0, 0, [])] = true := by decide +kernel
set_option maxRecDepth 100000 in
theorem bk_m_home_189 : chk 127 198 189 [(.iload 7, 2, 7, 0, 0, 0, []), (.iload 8, 2, 8, 0, 0, 0, []), (.iload 4, 2, 4, 0, 0, 0, []), (.invokestatic 171, 3, 125, 3, 0, 0, [])] = true := by decide +kernel
set_option maxRecDepth 100000 in
theorem bk_m_home_198 : chk 127 199 198 [(.ireturn, 1, 0, 0, 0, 0, [])] = true := by decide +kernel
set_option maxRecDepth 100000 in
theorem bk_m_saw_0 : chk 128 7 0 [(.iload_n 1, 1, 1, 0, 0, 0, []), (.iconst 0, 1, 0, 0, 0, 0, []), (.bipush 31, 2, 0, 0, 0, 31, []), (.invokestatic 63, 3, 90, 3, 0, 0, [])] = true := by decide +kernel
set_option maxRecDepth 100000 in
theorem bk_m_saw_7 : chk 128 12 7 [(.ifCond .ne 5, 3, 12, 0, 0, 0, []), (.iconst (-1), 1, 0, 0, 0, -1, []), (.ireturn, 1, 0, 0, 0, 0, [])] = true := by decide +kernel
set_option maxRecDepth 100000 in
theorem bk_m_saw_12 : chk 128 24 12 [(.aload_n 0, 1, 0, 0, 0, 0, []), (.getfield 110, 3, 10, 11, 0, 0, []), (.bipush 6, 2, 0, 0, 0, 6, []), (.if_icmp .ne 6, 3, 24, 0, 0, 0, []), (.bipush (-3), 2, 0, 0, 0, -3, []), (.ireturn, 1, 0, 0, 0, 0, [])] = true := by decide +kernel
set_option maxRecDepth 100000 in
theorem bk_m_saw_24 : chk 128 49 24 [(.aload_n 0, 1, 0, 0, 0, 0, []), (.getfield 32, 3, 10, 10, 2, 0, []), (.aload_n 0, 1, 0, 0, 0, 0, []), (.getfield 110, 3, 10, 11, 0, 0, []), (.iload_n 1, 1, 1, 0, 0, 0, []), (.iastore, 1, 0, 0, 0, 0, []), (.aload_n 0, 1, 0, 0, 0, 0, []), (.dup, 1, 0, 0, 0, 0, []), (.getfield 110, 3, 10, 11, 0, 0, []), (.iconst 1, 1, 0, 0, 0, 1, []), (.iadd, 1, 0, 0, 0, 0, []), (.putfield 110, 3, 10, 11, 0, 0, []), (.aload_n 0, 1, 0, 0, 0, 0, []), (.getfield 110, 3, 10, 11, 0, 0, []), (.ireturn, 1, 0, 0, 0, 0, [])] = true := by decide +kernel
set_option maxRecDepth 100000 in
theorem bk_m_isLike_0 : chk 129 11 0 [(.aload_n 0, 1, 0, 0, 0, 0, []), (.getfield 19, 3, 10, 5, 2, 0, []), (.bipush 8, 2, 0, 0, 0, 8, []), (.iaload, 1, 0, 0, 0, 0, []), (.iload_n 1, 1, 1, 0, 0, 0, []), (.invokestatic 119, 3, 91, 2, 0, 0, [])] = true := by decide +kernel
set_option maxRecDepth 100000 in
theorem bk_m_isLike_11 : chk 129 28 11 [(.ifCond .ne 25, 3, 36, 0, 0, 0, []), (.aload_n 0, 1, 0, 0, 0, 0, []), (.getfield 13, 3, 10, 3, 2, 0, []), (.bipush 19, 2, 0, 0, 0, 19, []), (.iload_n 1, 1, 1, 0, 0, 0, []), (.iadd, 1, 0, 0, 0, 0, []), (.iaload, 1, 0, 0, 0, 0, []), (.iload_n 2, 1, 2, 0, 0, 0, []), (.ixor, 1, 0, 0, 0, 0, []), (.invokestatic 123, 3, 93, 1, 0, 0, [])] = true := by decide +kernel
set_option maxRecDepth 100000 in
theorem bk_m_isLike_28 : chk 129 36 28 [(.iconst 1, 1, 0, 0, 0, 1, []), (.if_icmp .gt 7, 3, 36, 0, 0, 0, []), (.iconst 1, 1, 0, 0, 0, 1, []), (.goto 4, 3, 37, 0, 0, 0, [])] = true := by decide +kernel
set_option maxRecDepth 100000 in
theorem bk_m_isLike_36 : chk 129 37 36 [(.iconst 0, 1, 0, 0, 0, 0, [])] = true := by decide +kernel
set_option maxRecDepth 100000 in
theorem bk_m_isLike_37 : chk 129 38 37 [(.ireturn, 1, 0, 1, 0, 0, [])] = true := by decide +kernel
set_option maxRecDepth 100000 in
theorem bk_m_waysBut_0 : chk 130 2 0 [(.iconst 0, 1, 0, 0, 0, 0, []), (.istore_n 3, 1, 3, 0, 0, 0, [])] = true := by decide +kernel
set_option maxRecDepth 100000 in
theorem bk_m_waysBut_2 : chk 130 21 2 [(.iload_n 3, 1, 3, 0, 0, 0, []), (.bipush 64, 2, 0, 0, 0, 64, []), (.if_icmp .ge 24, 3, 29, 0, 0, 0, []), (.aload_n 0, 1, 0, 0, 0, 0, []), (.getfield 53, 3, 10, 24, 2, 0, []), (.iload_n 3, 1, 3, 0, 0, 0, []), (.iload_n 3, 1, 3, 0, 0, 0, []), (.ifCond .ne 7, 3, 21, 0, 0, 0, []), (.iconst 1, 1, 0, 0, 0, 1, []), (.goto 4, 3, 22, 0, 0, 0, [])] = true := by decide +kernel
set_option maxRecDepth 100000 in
theorem bk_m_waysBut_21 : chk 130 22 21 [(.iconst 0, 1, 0, 0, 0, 0, [])] = true := by decide +kernel
set_option maxRecDepth 100000 in
theorem bk_m_waysBut_22 : chk 130 29 22 [(.iastore, 1, 0, 0, 0, 0, []), (.iinc 3 1, 3, 3, 0, 0, 1, []), (.goto (-24), 3, 2, 0, 0, 0, [])] = true := by decide +kernel
set_option maxRecDepth 100000 in
theorem bk_m_waysBut_29 : chk 130 31 29 [(.iconst 0, 1, 0, 0, 0, 0, []), (.istore_n 3, 1, 3, 0, 0, 0, [])] = true := by decide +kernel
set_option maxRecDepth 100000 in
theorem bk_m_waysBut_31 : chk 130 47 31 [(.iload_n 3, 1, 3, 0, 0, 0, []), (.iconst 1, 1, 0, 0, 0, 1, []), (.aload_n 0, 1, 0, 0, 0, 0, []), (.getfield 13, 3, 10, 3, 2, 0, []), (.iconst 0, 1, 0, 0, 0, 0, []), (.iaload, 1, 0, 0, 0, 0, []), (.ishl, 1, 0, 0, 0, 0, []), (.if_icmp .ge 117, 3, 157, 0, 0, 0, []), (.iload_n 3, 1, 3, 0, 0, 0, []), (.invokestatic 123, 3, 93, 1, 0, 0, [])] = true := by decide +kernel
set_option maxRecDepth 100000 in
theorem bk_m_waysBut_47 : chk 130 52 47 [(.istore 4, 2, 4, 0, 0, 0, []), (.iconst 0, 1, 0, 0, 0, 0, []), (.istore 5, 2, 5, 0, 0, 0, [])] = true := by decide +kernel
set_option maxRecDepth 100000 in
theorem bk_m_waysBut_52 : chk 130 78 52 [(.iload 5, 2, 5, 0, 0, 0, []), (.aload_n 0, 1, 0, 0, 0, 0, []), (.getfield 13, 3, 10, 3, 2, 0, []), (.iconst 0, 1, 0, 0, 0, 0, []), (.iaload, 1, 0, 0, 0, 0, []), (.if_icmp .ge 91, 3, 151, 0, 0, 0, []), (.iload 4, 2, 4, 0, 0, 0, []), (.aload_n 0, 1, 0, 0, 0, 0, []), (.getfield 110, 3, 10, 11, 0, 0, []), (.if_icmp .ge 82, 3, 151, 0, 0, 0, []), (.iload_n 3, 1, 3, 0, 0, 0, []), (.iload 5, 2, 5, 0, 0, 0, []), (.invokestatic 119, 3, 91, 2, 0, 0, [])] = true := by decide +kernel
set_option maxRecDepth 100000 in
theorem bk_m_waysBut_78 : chk 130 94 78 [(.ifCond .ne 35, 3, 113, 0, 0, 0, []), (.aload_n 0, 1, 0, 0, 0, 0, []), (.iload 5, 2, 5, 0, 0, 0, []), (.aload_n 0, 1, 0, 0, 0, 0, []), (.getfield 32, 3, 10, 10, 2, 0, []), (.iload 4, 2, 4, 0, 0, 0, []), (.iaload, 1, 0, 0, 0, 0, []), (.invokevirtual 175, 3, 129, 3, 10, 0, [])] = true := by decide +kernel
set_option maxRecDepth 100000 in
theorem bk_m_waysBut_94 : chk 130 109 94 [(.ifCond .eq 19, 3, 113, 0, 0, 0, []), (.iload 4, 2, 4, 0, 0, 0, []), (.iload_n 1, 1, 1, 0, 0, 0, []), (.if_icmp .ne 9, 3, 109, 0, 0, 0, []), (.iload 5, 2, 5, 0, 0, 0, []), (.iload_n 2, 1, 2, 0, 0, 0, []), (.if_icmp .ne 7, 3, 113, 0, 0, 0, [])] = true := by decide +kernel
set_option maxRecDepth 100000 in
theorem bk_m_waysBut_109 : chk 130 113 109 [(.iconst 1, 1, 0, 0, 0, 1, []), (.goto 4, 3, 114, 0, 0, 0, [])] = true := by decide +kernel
set_option maxRecDepth 100000 in
theorem bk_m_waysBut_113 : chk 130 114 113 [(.iconst 0, 1, 0, 0, 0, 0, [])] = true := by decide +kernel
set_option maxRecDepth 100000 in
theorem bk_m_waysBut_114 : chk 130 142 114 [(.istore 6, 2, 6, 0, 0, 0, []), (.aload_n 0, 1, 0, 0, 0, 0, []), (.getfield 53, 3, 10, 24, 2, 0, []), (.iload_n 3, 1, 3, 0, 0, 0, []), (.iconst 1, 1, 0, 0, 0, 1, []), (.iload 5, 2, 5, 0, 0, 0, []), (.ishl, 1, 0, 0, 0, 0, []), (.ior, 1, 0, 0, 0, 0, []), (.dup2, 1, 0, 0, 0, 0, []), (.iaload, 1, 0, 0, 0, 0, []), (.iload 6, 2, 6, 0, 0, 0, []), (.ifCond .eq 12, 3, 142, 0, 0, 0, []), (.aload_n 0, 1, 0, 0, 0, 0, []), (.getfield 53, 3, 10, 24, 2, 0, []), (.iload_n 3, 1, 3, 0, 0, 0, []), (.iaload, 1, 0, 0, 0, 0, []), (.goto 4, 3, 143, 0, 0, 0, [])] = true := by decide +kernel
set_option maxRecDepth 100000 in
theorem bk_m_waysBut_142 : chk 130 143 142 [(.iconst 0, 1, 0, 0, 0, 0, [])] = true := by decide +kernel
set_option maxRecDepth 100000 in
theorem bk_m_waysBut_143 : chk 130 151 143 [(.iadd, 1, 0, 0, 0, 0, []), (.iastore, 1, 0, 0, 0, 0, []), (.iinc 5 1, 3, 5, 0, 0, 1, []), (.goto (-96), 3, 52, 0, 0, 0, [])] = true := by decide +kernel
set_option maxRecDepth 100000 in
theorem bk_m_waysBut_151 : chk 130 157 151 [(.iinc 3 1, 3, 3, 0, 0, 1, []), (.goto (-123), 3, 31, 0, 0, 0, [])] = true := by decide +kernel
set_option maxRecDepth 100000 in
theorem bk_m_waysBut_157 : chk 130 162 157 [(.iconst 0, 1, 0, 0, 0, 0, []), (.istore_n 3, 1, 3, 0, 0, 0, []), (.iconst 0, 1, 0, 0, 0, 0, []), (.istore 4, 2, 4, 0, 0, 0, [])] = true := by decide +kernel
set_option maxRecDepth 100000 in
theorem bk_m_waysBut_162 : chk 130 181 162 [(.iload 4, 2, 4, 0, 0, 0, []), (.iconst 1, 1, 0, 0, 0, 1, []), (.aload_n 0, 1, 0, 0, 0, 0, []), (.getfield 13, 3, 10, 3, 2, 0, []), (.iconst 0, 1, 0, 0, 0, 0, []), (.iaload, 1, 0, 0, 0, 0, []), (.ishl, 1, 0, 0, 0, 0, []), (.if_icmp .ge 35, 3, 207, 0, 0, 0, []), (.iload_n 3, 1, 3, 0, 0, 0, []), (.iload 4, 2, 4, 0, 0, 0, []), (.invokestatic 123, 3, 93, 1, 0, 0, [])] = true := by decide +kernel
set_option maxRecDepth 100000 in
theorem bk_m_waysBut_181 : chk 130 198 181 [(.aload_n 0, 1, 0, 0, 0, 0, []), (.getfield 110, 3, 10, 11, 0, 0, []), (.if_icmp .ne 13, 3, 198, 0, 0, 0, []), (.aload_n 0, 1, 0, 0, 0, 0, []), (.getfield 53, 3, 10, 24, 2, 0, []), (.iload 4, 2, 4, 0, 0, 0, []), (.iaload, 1, 0, 0, 0, 0, []), (.goto 4, 3, 199, 0, 0, 0, [])] = true := by decide +kernel
set_option maxRecDepth 100000 in
theorem bk_m_waysBut_198 : chk 130 199 198 [(.iconst 0, 1, 0, 0, 0, 0, [])] = true := by decide +kernel
set_option maxRecDepth 100000 in
theorem bk_m_waysBut_199 : chk 130 207 199 [(.iadd, 1, 0, 0, 0, 0, []), (.istore_n 3, 1, 3, 0, 0, 0, []), (.iinc 4 1, 3, 4, 0, 0, 1, []), (.goto (-42), 3, 162, 0, 0, 0, [])] = true := by decide +kernel
set_option maxRecDepth 100000 in
theorem bk_m_waysBut_207 : chk 130 209 207 [(.iload_n 3, 1, 3, 0, 0, 0, []), (.ireturn, 1, 0, 0, 0, 0, [])] = true := by decide +kernel
set_option maxRecDepth 100000 in
theorem bk_m_stray_0 : chk 131 11 0 [(.iload_n 1, 1, 1, 0, 0, 0, []), (.iconst (-1), 1, 0, 0, 0, -1, []), (.aload_n 0, 1, 0, 0, 0, 0, []), (.getfield 110, 3, 10, 11, 0, 0, []), (.iconst 1, 1, 0, 0, 0, 1, []), (.isub, 1, 0, 0, 0, 0, []), (.invokestatic 63, 3, 90, 3, 0, 0, [])] = true := by decide +kernel
set_option maxRecDepth 100000 in
theorem bk_m_stray_11 : chk 131 16 11 [(.ifCond .ne 5, 3, 16, 0, 0, 0, []), (.iconst (-1), 1, 0, 0, 0, -1, []), (.ireturn, 1, 0, 0, 0, 0, [])] = true := by decide +kernel
set_option maxRecDepth 100000 in
theorem bk_m_stray_16 : chk 131 24 16 [(.aload_n 0, 1, 0, 0, 0, 0, []), (.bipush (-9), 2, 0, 0, 0, -9, []), (.bipush (-9), 2, 0, 0, 0, -9, []), (.invokevirtual 178, 3, 130, 3, 10, 0, [])] = true := by decide +kernel
set_option maxRecDepth 100000 in
theorem bk_m_stray_24 : chk 131 32 24 [(.istore_n 2, 1, 2, 0, 0, 0, []), (.iload_n 1, 1, 1, 0, 0, 0, []), (.iconst (-1), 1, 0, 0, 0, -1, []), (.if_icmp .ne 5, 3, 32, 0, 0, 0, []), (.iload_n 2, 1, 2, 0, 0, 0, []), (.ireturn, 1, 0, 0, 0, 0, [])] = true := by decide +kernel
set_option maxRecDepth 100000 in
theorem bk_m_stray_32 : chk 131 38 32 [(.bipush (-9), 2, 0, 0, 0, -9, []), (.istore_n 3, 1, 3, 0, 0, 0, []), (.iconst 0, 1, 0, 0, 0, 0, []), (.istore 4, 2, 4, 0, 0, 0, [])] = true := by decide +kernel
set_option maxRecDepth 100000 in
theorem bk_m_stray_38 : chk 131 60 38 [(.iload 4, 2, 4, 0, 0, 0, []), (.aload_n 0, 1, 0, 0, 0, 0, []), (.getfield 13, 3, 10, 3, 2, 0, []), (.iconst 0, 1, 0, 0, 0, 0, []), (.iaload, 1, 0, 0, 0, 0, []), (.if_icmp .ge 31, 3, 77, 0, 0, 0, []), (.iload_n 2, 1, 2, 0, 0, 0, []), (.ifCond .le 27, 3, 77, 0, 0, 0, []), (.aload_n 0, 1, 0, 0, 0, 0, []), (.iload_n 1, 1, 1, 0, 0, 0, []), (.iload 4, 2, 4, 0, 0, 0, []), (.invokevirtual 178, 3, 130, 3, 10, 0, [])] = true := by decide +kernel
set_option maxRecDepth 100000 in
theorem bk_m_stray_60 : chk 131 69 60 [(.iload_n 2, 1, 2, 0, 0, 0, []), (.if_icmp .ne 8, 3, 69, 0, 0, 0, []), (.iload 4, 2, 4, 0, 0, 0, []), (.goto 4, 3, 70, 0, 0, 0, [])] = true := by decide +kernel
set_option maxRecDepth 100000 in
theorem bk_m_stray_69 : chk 131 70 69 [(.iload_n 3, 1, 3, 0, 0, 0, [])] = true := by decide +kernel
set_option maxRecDepth 100000 in
theorem bk_m_stray_70 : chk 131 77 70 [(.istore_n 3, 1, 3, 0, 0, 0, []), (.iinc 4 1, 3, 4, 0, 0, 1, []), (.goto (-36), 3, 38, 0, 0, 0, [])] = true := by decide +kernel
set_option maxRecDepth 100000 in
theorem bk_m_stray_77 : chk 131 79 77 [(.iload_n 3, 1, 3, 0, 0, 0, []), (.ireturn, 1, 0, 0, 0, 0, [])] = true := by decide +kernel
set_option maxRecDepth 100000 in
theorem bk_m_found_0 : chk 132 15 0 [(.iload_n 1, 1, 1, 0, 0, 0, []), (.iconst 1, 1, 0, 0, 0, 1, []), (.iconst 1, 1, 0, 0, 0, 1, []), (.aload_n 0, 1, 0, 0, 0, 0, []), (.getfield 13, 3, 10, 3, 2, 0, []), (.iconst 0, 1, 0, 0, 0, 0, []), (.iaload, 1, 0, 0, 0, 0, []), (.ishl, 1, 0, 0, 0, 0, []), (.iconst 1, 1, 0, 0, 0, 1, []), (.isub, 1, 0, 0, 0, 0, []), (.invokestatic 63, 3, 90, 3, 0, 0, [])] = true := by decide +kernel
set_option maxRecDepth 100000 in
theorem bk_m_found_15 : chk 132 24 15 [(.ifCond .eq 12, 3, 27, 0, 0, 0, []), (.iload_n 2, 1, 2, 0, 0, 0, []), (.iconst 0, 1, 0, 0, 0, 0, []), (.iconst 4, 1, 0, 0, 0, 4, []), (.invokestatic 63, 3, 90, 3, 0, 0, [])] = true := by decide +kernel
set_option maxRecDepth 100000 in
theorem bk_m_found_24 : chk 132 27 24 [(.ifCond .ne 5, 3, 29, 0, 0, 0, [])] = true := by decide +kernel
set_option maxRecDepth 100000 in
theorem bk_m_found_27 : chk 132 29 27 [(.iconst (-1), 1, 0, 0, 0, -1, []), (.ireturn, 1, 0, 0, 0, 0, [])] = true := by decide +kernel
set_option maxRecDepth 100000 in
theorem bk_m_found_29 : chk 132 41 29 [(.aload_n 0, 1, 0, 0, 0, 0, []), (.getfield 113, 3, 10, 13, 0, 0, []), (.bipush 6, 2, 0, 0, 0, 6, []), (.if_icmp .ne 6, 3, 41, 0, 0, 0, []), (.bipush (-3), 2, 0, 0, 0, -3, []), (.ireturn, 1, 0, 0, 0, 0, [])] = true := by decide +kernel
set_option maxRecDepth 100000 in
theorem bk_m_found_41 : chk 132 82 41 [(.aload_n 0, 1, 0, 0, 0, 0, []), (.getfield 35, 3, 10, 12, 2, 0, []), (.iconst 2, 1, 0, 0, 0, 2, []), (.aload_n 0, 1, 0, 0, 0, 0, []), (.getfield 113, 3, 10, 13, 0, 0, []), (.imul, 1, 0, 0, 0, 0, []), (.iload_n 1, 1, 1, 0, 0, 0, []), (.iastore, 1, 0, 0, 0, 0, []), (.aload_n 0, 1, 0, 0, 0, 0, []), (.getfield 35, 3, 10, 12, 2, 0, []), (.iconst 2, 1, 0, 0, 0, 2, []), (.aload_n 0, 1, 0, 0, 0, 0, []), (.getfield 113, 3, 10, 13, 0, 0, []), (.imul, 1, 0, 0, 0, 0, []), (.iconst 1, 1, 0, 0, 0, 1, []), (.iadd, 1, 0, 0, 0, 0, []), (.iload_n 2, 1, 2, 0, 0, 0, []), (.iastore, 1, 0, 0, 0, 0, []), (.aload_n 0, 1, 0, 0, 0, 0, []), (.dup, 1, 0, 0, 0, 0, []), (.getfield 113, 3, 10, 13, 0, 0, []), (.iconst 1, 1, 0, 0, 0, 1, []), (.iadd, 1, 0, 0, 0, 0, []), (.putfield 113, 3, 10, 13, 0, 0, []), (.aload_n 0, 1, 0, 0, 0, 0, []), (.getfield 113, 3, 10, 13, 0, 0, []), (.ireturn, 1, 0, 0, 0, 0, [])] = true := by decide +kernel
set_option maxRecDepth 100000 in
theorem bk_m_isSo_0 : chk 133 4 0 [(.iload_n 1, 1, 1, 0, 0, 0, []), (.invokestatic 123, 3, 93, 1, 0, 0, [])] = true := by decide +kernel
set_option maxRecDepth 100000 in
theorem bk_m_isSo_4 : chk 133 17 4 [(.aload_n 0, 1, 0, 0, 0, 0, []), (.getfield 13, 3, 10, 3, 2, 0, []), (.iconst 2, 1, 0, 0, 0, 2, []), (.iaload, 1, 0, 0, 0, 0, []), (.if_icmp .gt 7, 3, 17, 0, 0, 0, []), (.iconst 1, 1, 0, 0, 0, 1, []), (.goto 4, 3, 18, 0, 0, 0, [])] = true := by decide +kernel
set_option maxRecDepth 100000 in
theorem bk_m_isSo_17 : chk 133 18 17 [(.iconst 0, 1, 0, 0, 0, 0, [])] = true := by decide +kernel
set_option maxRecDepth 100000 in
theorem bk_m_isSo_18 : chk 133 21 18 [(.istore_n 2, 1, 2, 0, 0, 0, []), (.iconst 0, 1, 0, 0, 0, 0, []), (.istore_n 3, 1, 3, 0, 0, 0, [])] = true := by decide +kernel
set_option maxRecDepth 100000 in
theorem bk_m_isSo_21 : chk 133 46 21 [(.iload_n 3, 1, 3, 0, 0, 0, []), (.aload_n 0, 1, 0, 0, 0, 0, []), (.getfield 113, 3, 10, 13, 0, 0, []), (.if_icmp .ge 45, 3, 71, 0, 0, 0, []), (.iload_n 2, 1, 2, 0, 0, 0, []), (.ifCond .eq 33, 3, 63, 0, 0, 0, []), (.iload_n 1, 1, 1, 0, 0, 0, []), (.aload_n 0, 1, 0, 0, 0, 0, []), (.getfield 35, 3, 10, 12, 2, 0, []), (.iconst 2, 1, 0, 0, 0, 2, []), (.iload_n 3, 1, 3, 0, 0, 0, []), (.imul, 1, 0, 0, 0, 0, []), (.iaload, 1, 0, 0, 0, 0, []), (.iand, 1, 0, 0, 0, 0, []), (.invokestatic 123, 3, 93, 1, 0, 0, [])] = true := by decide +kernel
set_option maxRecDepth 100000 in
theorem bk_m_isSo_46 : chk 133 63 46 [(.aload_n 0, 1, 0, 0, 0, 0, []), (.getfield 35, 3, 10, 12, 2, 0, []), (.iconst 2, 1, 0, 0, 0, 2, []), (.iload_n 3, 1, 3, 0, 0, 0, []), (.imul, 1, 0, 0, 0, 0, []), (.iconst 1, 1, 0, 0, 0, 1, []), (.iadd, 1, 0, 0, 0, 0, []), (.iaload, 1, 0, 0, 0, 0, []), (.if_icmp .ne 7, 3, 63, 0, 0, 0, []), (.iconst 1, 1, 0, 0, 0, 1, []), (.goto 4, 3, 64, 0, 0, 0, [])] = true := by decide +kernel
set_option maxRecDepth 100000 in
theorem bk_m_isSo_63 : chk 133 64 63 [(.iconst 0, 1, 0, 0, 0, 0, [])] = true := by decide +kernel
set_option maxRecDepth 100000 in
theorem bk_m_isSo_64 : chk 133 71 64 [(.istore_n 2, 1, 2, 0, 0, 0, []), (.iinc 3 1, 3, 3, 0, 0, 1, []), (.goto (-47), 3, 21, 0, 0, 0, [])] = true := by decide +kernel
set_option maxRecDepth 100000 in
theorem bk_m_isSo_71 : chk 133 73 71 [(.iload_n 2, 1, 2, 0, 0, 0, []), (.ireturn, 1, 0, 1, 0, 0, [])] = true := by decide +kernel
set_option maxRecDepth 100000 in
theorem bk_m_manyWith_0 : chk 134 4 0 [(.iconst 0, 1, 0, 0, 0, 0, []), (.istore_n 2, 1, 2, 0, 0, 0, []), (.iconst 0, 1, 0, 0, 0, 0, []), (.istore_n 3, 1, 3, 0, 0, 0, [])] = true := by decide +kernel
set_option maxRecDepth 100000 in
theorem bk_m_manyWith_4 : chk 134 28 4 [(.iload_n 3, 1, 3, 0, 0, 0, []), (.iconst 1, 1, 0, 0, 0, 1, []), (.aload_n 0, 1, 0, 0, 0, 0, []), (.getfield 13, 3, 10, 3, 2, 0, []), (.iconst 0, 1, 0, 0, 0, 0, []), (.iaload, 1, 0, 0, 0, 0, []), (.ishl, 1, 0, 0, 0, 0, []), (.if_icmp .ge 39, 3, 52, 0, 0, 0, []), (.iload_n 2, 1, 2, 0, 0, 0, []), (.iload_n 1, 1, 1, 0, 0, 0, []), (.bipush (-9), 2, 0, 0, 0, -9, []), (.if_icmp .eq 11, 3, 31, 0, 0, 0, []), (.iload_n 3, 1, 3, 0, 0, 0, []), (.iload_n 1, 1, 1, 0, 0, 0, []), (.invokestatic 119, 3, 91, 2, 0, 0, [])] = true := by decide +kernel
set_option maxRecDepth 100000 in
theorem bk_m_manyWith_28 : chk 134 31 28 [(.ifCond .eq 15, 3, 43, 0, 0, 0, [])] = true := by decide +kernel
set_option maxRecDepth 100000 in
theorem bk_m_manyWith_31 : chk 134 36 31 [(.aload_n 0, 1, 0, 0, 0, 0, []), (.iload_n 3, 1, 3, 0, 0, 0, []), (.invokevirtual 182, 3, 133, 2, 10, 0, [])] = true := by decide +kernel
set_option maxRecDepth 100000 in
theorem bk_m_manyWith_36 : chk 134 43 36 [(.ifCond .eq 7, 3, 43, 0, 0, 0, []), (.iconst 1, 1, 0, 0, 0, 1, []), (.goto 4, 3, 44, 0, 0, 0, [])] = true := by decide +kernel
set_option maxRecDepth 100000 in
theorem bk_m_manyWith_43 : chk 134 44 43 [(.iconst 0, 1, 0, 0, 0, 0, [])] = true := by decide +kernel
set_option maxRecDepth 100000 in
theorem bk_m_manyWith_44 : chk 134 52 44 [(.iadd, 1, 0, 0, 0, 0, []), (.istore_n 2, 1, 2, 0, 0, 0, []), (.iinc 3 1, 3, 3, 0, 0, 1, []), (.goto (-45), 3, 4, 0, 0, 0, [])] = true := by decide +kernel
set_option maxRecDepth 100000 in
theorem bk_m_manyWith_52 : chk 134 54 52 [(.iload_n 2, 1, 2, 0, 0, 0, []), (.ireturn, 1, 0, 0, 0, 0, [])] = true := by decide +kernel
set_option maxRecDepth 100000 in
theorem bk_m_can_0 : chk 135 6 0 [(.iload_n 1, 1, 1, 0, 0, 0, []), (.iconst 0, 1, 0, 0, 0, 0, []), (.iconst 2, 1, 0, 0, 0, 2, []), (.invokestatic 63, 3, 90, 3, 0, 0, [])] = true := by decide +kernel
set_option maxRecDepth 100000 in
theorem bk_m_can_6 : chk 135 11 6 [(.ifCond .ne 5, 3, 11, 0, 0, 0, []), (.iconst (-1), 1, 0, 0, 0, -1, []), (.ireturn, 1, 0, 0, 0, 0, [])] = true := by decide +kernel
set_option maxRecDepth 100000 in
theorem bk_m_can_11 : chk 135 17 11 [(.aload_n 0, 1, 0, 0, 0, 0, []), (.bipush (-9), 2, 0, 0, 0, -9, []), (.invokevirtual 185, 3, 134, 2, 10, 0, [])] = true := by decide +kernel
set_option maxRecDepth 100000 in
theorem bk_m_can_17 : chk 135 26 17 [(.istore_n 2, 1, 2, 0, 0, 0, []), (.iconst 0, 1, 0, 0, 0, 0, []), (.istore_n 3, 1, 3, 0, 0, 0, []), (.iconst 0, 1, 0, 0, 0, 0, []), (.istore 4, 2, 4, 0, 0, 0, []), (.iconst 0, 1, 0, 0, 0, 0, []), (.istore 5, 2, 5, 0, 0, 0, [])] = true := by decide +kernel
set_option maxRecDepth 100000 in
theorem bk_m_can_26 : chk 135 43 26 [(.iload 5, 2, 5, 0, 0, 0, []), (.aload_n 0, 1, 0, 0, 0, 0, []), (.getfield 13, 3, 10, 3, 2, 0, []), (.iconst 0, 1, 0, 0, 0, 0, []), (.iaload, 1, 0, 0, 0, 0, []), (.if_icmp .ge 52, 3, 86, 0, 0, 0, []), (.aload_n 0, 1, 0, 0, 0, 0, []), (.iload 5, 2, 5, 0, 0, 0, []), (.invokevirtual 185, 3, 134, 2, 10, 0, [])] = true := by decide +kernel
set_option maxRecDepth 100000 in
theorem bk_m_can_43 : chk 135 59 43 [(.istore 6, 2, 6, 0, 0, 0, []), (.iload_n 3, 1, 3, 0, 0, 0, []), (.iload 6, 2, 6, 0, 0, 0, []), (.iload_n 2, 1, 2, 0, 0, 0, []), (.if_icmp .ne 10, 3, 59, 0, 0, 0, []), (.iconst 1, 1, 0, 0, 0, 1, []), (.iload 5, 2, 5, 0, 0, 0, []), (.ishl, 1, 0, 0, 0, 0, []), (.goto 4, 3, 60, 0, 0, 0, [])] = true := by decide +kernel
set_option maxRecDepth 100000 in
theorem bk_m_can_59 : chk 135 60 59 [(.iconst 0, 1, 0, 0, 0, 0, [])] = true := by decide +kernel
set_option maxRecDepth 100000 in
theorem bk_m_can_60 : chk 135 76 60 [(.ior, 1, 0, 0, 0, 0, []), (.istore_n 3, 1, 3, 0, 0, 0, []), (.iload 4, 2, 4, 0, 0, 0, []), (.iload 6, 2, 6, 0, 0, 0, []), (.ifCond .le 10, 3, 76, 0, 0, 0, []), (.iconst 1, 1, 0, 0, 0, 1, []), (.iload 5, 2, 5, 0, 0, 0, []), (.ishl, 1, 0, 0, 0, 0, []), (.goto 4, 3, 77, 0, 0, 0, [])] = true := by decide +kernel
set_option maxRecDepth 100000 in
theorem bk_m_can_76 : chk 135 77 76 [(.iconst 0, 1, 0, 0, 0, 0, [])] = true := by decide +kernel
set_option maxRecDepth 100000 in
theorem bk_m_can_77 : chk 135 86 77 [(.ior, 1, 0, 0, 0, 0, []), (.istore 4, 2, 4, 0, 0, 0, []), (.iinc 5 1, 3, 5, 0, 0, 1, []), (.goto (-57), 3, 26, 0, 0, 0, [])] = true := by decide +kernel
set_option maxRecDepth 100000 in
theorem bk_m_can_86 : chk 135 94 86 [(.iload_n 1, 1, 1, 0, 0, 0, []), (.ifCond .ne 7, 3, 94, 0, 0, 0, []), (.iload_n 2, 1, 2, 0, 0, 0, []), (.goto 23, 3, 114, 0, 0, 0, [])] = true := by decide +kernel
set_option maxRecDepth 100000 in
theorem bk_m_can_94 : chk 135 104 94 [(.iload_n 1, 1, 1, 0, 0, 0, []), (.iconst 2, 1, 0, 0, 0, 2, []), (.if_icmp .ne 8, 3, 104, 0, 0, 0, []), (.iload 4, 2, 4, 0, 0, 0, []), (.goto 13, 3, 114, 0, 0, 0, [])] = true := by decide +kernel
set_option maxRecDepth 100000 in
theorem bk_m_can_104 : chk 135 113 104 [(.iload_n 2, 1, 2, 0, 0, 0, []), (.ifCond .ne 8, 3, 113, 0, 0, 0, []), (.bipush (-9), 2, 0, 0, 0, -9, []), (.goto 4, 3, 114, 0, 0, 0, [])] = true := by decide +kernel
set_option maxRecDepth 100000 in
theorem bk_m_can_113 : chk 135 114 113 [(.iload_n 3, 1, 3, 0, 0, 0, [])] = true := by decide +kernel
set_option maxRecDepth 100000 in
theorem bk_m_can_114 : chk 135 115 114 [(.ireturn, 1, 0, 0, 0, 0, [])] = true := by decide +kernel
set_option maxRecDepth 100000 in
theorem bk_m_ask_0 : chk 136 6 0 [(.aload_n 0, 1, 0, 0, 0, 0, []), (.bipush (-9), 2, 0, 0, 0, -9, []), (.invokevirtual 185, 3, 134, 2, 10, 0, [])] = true := by decide +kernel
set_option maxRecDepth 100000 in
theorem bk_m_ask_6 : chk 136 17 6 [(.istore_n 1, 1, 1, 0, 0, 0, []), (.bipush (-9), 2, 0, 0, 0, -9, []), (.istore_n 2, 1, 2, 0, 0, 0, []), (.iload_n 1, 1, 1, 0, 0, 0, []), (.iconst 1, 1, 0, 0, 0, 1, []), (.iadd, 1, 0, 0, 0, 0, []), (.istore_n 3, 1, 3, 0, 0, 0, []), (.iconst 0, 1, 0, 0, 0, 0, []), (.istore 4, 2, 4, 0, 0, 0, [])] = true := by decide +kernel
set_option maxRecDepth 100000 in
theorem bk_m_ask_17 : chk 136 39 17 [(.iload 4, 2, 4, 0, 0, 0, []), (.aload_n 0, 1, 0, 0, 0, 0, []), (.getfield 13, 3, 10, 3, 2, 0, []), (.iconst 0, 1, 0, 0, 0, 0, []), (.iaload, 1, 0, 0, 0, 0, []), (.if_icmp .ge 68, 3, 93, 0, 0, 0, []), (.iload_n 1, 1, 1, 0, 0, 0, []), (.iconst 1, 1, 0, 0, 0, 1, []), (.if_icmp .le 63, 3, 93, 0, 0, 0, []), (.aload_n 0, 1, 0, 0, 0, 0, []), (.iload 4, 2, 4, 0, 0, 0, []), (.invokevirtual 185, 3, 134, 2, 10, 0, [])] = true := by decide +kernel
set_option maxRecDepth 100000 in
theorem bk_m_ask_39 : chk 136 55 39 [(.istore 5, 2, 5, 0, 0, 0, []), (.iload 5, 2, 5, 0, 0, 0, []), (.iload_n 1, 1, 1, 0, 0, 0, []), (.iload 5, 2, 5, 0, 0, 0, []), (.isub, 1, 0, 0, 0, 0, []), (.if_icmp .le 8, 3, 55, 0, 0, 0, []), (.iload 5, 2, 5, 0, 0, 0, []), (.goto 7, 3, 59, 0, 0, 0, [])] = true := by decide +kernel
set_option maxRecDepth 100000 in
theorem bk_m_ask_55 : chk 136 59 55 [(.iload_n 1, 1, 1, 0, 0, 0, []), (.iload 5, 2, 5, 0, 0, 0, []), (.isub, 1, 0, 0, 0, 0, [])] = true := by decide +kernel
set_option maxRecDepth 100000 in
theorem bk_m_ask_59 : chk 136 72 59 [(.istore 6, 2, 6, 0, 0, 0, []), (.iload 6, 2, 6, 0, 0, 0, []), (.iload_n 3, 1, 3, 0, 0, 0, []), (.if_icmp .ge 8, 3, 72, 0, 0, 0, []), (.iload 4, 2, 4, 0, 0, 0, []), (.goto 4, 3, 73, 0, 0, 0, [])] = true := by decide +kernel
set_option maxRecDepth 100000 in
theorem bk_m_ask_72 : chk 136 73 72 [(.iload_n 2, 1, 2, 0, 0, 0, [])] = true := by decide +kernel
set_option maxRecDepth 100000 in
theorem bk_m_ask_73 : chk 136 85 73 [(.istore_n 2, 1, 2, 0, 0, 0, []), (.iload 6, 2, 6, 0, 0, 0, []), (.iload_n 3, 1, 3, 0, 0, 0, []), (.if_icmp .ge 8, 3, 85, 0, 0, 0, []), (.iload 6, 2, 6, 0, 0, 0, []), (.goto 4, 3, 86, 0, 0, 0, [])] = true := by decide +kernel
set_option maxRecDepth 100000 in
theorem bk_m_ask_85 : chk 136 86 85 [(.iload_n 3, 1, 3, 0, 0, 0, [])] = true := by decide +kernel
set_option maxRecDepth 100000 in
theorem bk_m_ask_86 : chk 136 93 86 [(.istore_n 3, 1, 3, 0, 0, 0, []), (.iinc 4 1, 3, 4, 0, 0, 1, []), (.goto (-73), 3, 17, 0, 0, 0, [])] = true := by decide +kernel
set_option maxRecDepth 100000 in
theorem bk_m_ask_93 : chk 136 95 93 [(.iload_n 2, 1, 2, 0, 0, 0, []), (.ireturn, 1, 0, 0, 0, 0, [])] = true := by decide +kernel
set_option maxRecDepth 100000 in
theorem bk_m_forget_0 : chk 137 22 0 [(.aload_n 0, 1, 0, 0, 0, 0, []), (.getfield 110, 3, 10, 11, 0, 0, []), (.aload_n 0, 1, 0, 0, 0, 0, []), (.getfield 113, 3, 10, 13, 0, 0, []), (.iadd, 1, 0, 0, 0, 0, []), (.istore_n 1, 1, 1, 0, 0, 0, []), (.aload_n 0, 1, 0, 0, 0, 0, []), (.iconst 0, 1, 0, 0, 0, 0, []), (.putfield 110, 3, 10, 11, 0, 0, []), (.aload_n 0, 1, 0, 0, 0, 0, []), (.iconst 0, 1, 0, 0, 0, 0, []), (.putfield 113, 3, 10, 13, 0, 0, []), (.iload_n 1, 1, 1, 0, 0, 0, []), (.ireturn, 1, 0, 0, 0, 0, [])] = true := by decide +kernel
set_option maxRecDepth 100000 in
theorem bk_m_rate_0 : chk 138 6 0 [(.iload_n 1, 1, 1, 0, 0, 0, []), (.iconst 0, 1, 0, 0, 0, 0, []), (.iconst 5, 1, 0, 0, 0, 5, []), (.invokestatic 63, 3, 90, 3, 0, 0, [])] = true := by decide +kernel
set_option maxRecDepth 100000 in
theorem bk_m_rate_6 : chk 138 14 6 [(.ifCond .eq 11, 3, 17, 0, 0, 0, []), (.aload_n 0, 1, 0, 0, 0, 0, []), (.iload_n 2, 1, 2, 0, 0, 0, []), (.invokevirtual 116, 3, 92, 2, 10, 0, [])] = true := by decide +kernel
set_option maxRecDepth 100000 in
theorem bk_m_rate_14 : chk 138 17 14 [(.ifCond .ne 6, 3, 20, 0, 0, 0, [])] = true := by decide +kernel
set_option maxRecDepth 100000 in
theorem bk_m_rate_17 : chk 138 20 17 [(.ldc 188, 2, 0, 0, 0, -1000000, []), (.ireturn, 1, 0, 0, 0, 0, [])] = true := by decide +kernel
set_option maxRecDepth 100000 in
theorem bk_m_rate_20 : chk 138 33 20 [(.aload_n 0, 1, 0, 0, 0, 0, []), (.dup, 1, 0, 0, 0, 0, []), (.getfield 189, 3, 10, 0, 1, 0, []), (.iload_n 1, 1, 1, 0, 0, 0, []), (.ifCond .ne 7, 3, 33, 0, 0, 0, []), (.lconst 1, 1, 0, 0, 0, 1, []), (.goto 50, 3, 80, 0, 0, 0, [])] = true := by decide +kernel
set_option maxRecDepth 100000 in
theorem bk_m_rate_33 : chk 138 44 33 [(.iload_n 1, 1, 1, 0, 0, 0, []), (.iconst 1, 1, 0, 0, 0, 1, []), (.if_icmp .ne 9, 3, 44, 0, 0, 0, []), (.ldc2_w 193, 3, 0, 0, 0, 11, []), (.goto 39, 3, 80, 0, 0, 0, [])] = true := by decide +kernel
set_option maxRecDepth 100000 in
theorem bk_m_rate_44 : chk 138 55 44 [(.iload_n 1, 1, 1, 0, 0, 0, []), (.iconst 2, 1, 0, 0, 0, 2, []), (.if_icmp .ne 9, 3, 55, 0, 0, 0, []), (.ldc2_w 195, 3, 0, 0, 0, 101, []), (.goto 28, 3, 80, 0, 0, 0, [])] = true := by decide +kernel
set_option maxRecDepth 100000 in
theorem bk_m_rate_55 : chk 138 66 55 [(.iload_n 1, 1, 1, 0, 0, 0, []), (.iconst 3, 1, 0, 0, 0, 3, []), (.if_icmp .ne 9, 3, 66, 0, 0, 0, []), (.ldc2_w 197, 3, 0, 0, 0, 1011, []), (.goto 17, 3, 80, 0, 0, 0, [])] = true := by decide +kernel
set_option maxRecDepth 100000 in
theorem bk_m_rate_66 : chk 138 77 66 [(.iload_n 1, 1, 1, 0, 0, 0, []), (.iconst 4, 1, 0, 0, 0, 4, []), (.if_icmp .ne 9, 3, 77, 0, 0, 0, []), (.ldc2_w 199, 3, 0, 0, 0, 10101, []), (.goto 6, 3, 80, 0, 0, 0, [])] = true := by decide +kernel
set_option maxRecDepth 100000 in
theorem bk_m_rate_77 : chk 138 80 77 [(.ldc2_w 201, 3, 0, 0, 0, 100001, [])] = true := by decide +kernel
set_option maxRecDepth 100000 in
theorem bk_m_rate_80 : chk 138 119 80 [(.ladd, 1, 0, 0, 0, 0, []), (.putfield 189, 3, 10, 0, 1, 0, []), (.aload_n 0, 1, 0, 0, 0, 0, []), (.getfield 13, 3, 10, 3, 2, 0, []), (.bipush 7, 2, 0, 0, 0, 7, []), (.iload_n 2, 1, 2, 0, 0, 0, []), (.iadd, 1, 0, 0, 0, 0, []), (.iaload, 1, 0, 0, 0, 0, []), (.istore_n 3, 1, 3, 0, 0, 0, []), (.iload_n 3, 1, 3, 0, 0, 0, []), (.aload_n 0, 1, 0, 0, 0, 0, []), (.getfield 19, 3, 10, 5, 2, 0, []), (.iconst 1, 1, 0, 0, 0, 1, []), (.iload_n 2, 1, 2, 0, 0, 0, []), (.iadd, 1, 0, 0, 0, 0, []), (.iaload, 1, 0, 0, 0, 0, []), (.iadd, 1, 0, 0, 0, 0, []), (.istore 4, 2, 4, 0, 0, 0, []), (.iload_n 3, 1, 3, 0, 0, 0, []), (.aload_n 0, 1, 0, 0, 0, 0, []), (.getfield 13, 3, 10, 3, 2, 0, []), (.bipush 19, 2, 0, 0, 0, 19, []), (.iload_n 2, 1, 2, 0, 0, 0, []), (.iadd, 1, 0, 0, 0, 0, []), (.iaload, 1, 0, 0, 0, 0, []), (.invokestatic 123, 3, 93, 1, 0, 0, [])] = true := by decide +kernel
set_option maxRecDepth 100000 in
theorem bk_m_rate_119 : chk 138 130 119 [(.isub, 1, 0, 0, 0, 0, []), (.istore 5, 2, 5, 0, 0, 0, []), (.iload_n 1, 1, 1, 0, 0, 0, []), (.ifCond .ne 7, 3, 130, 0, 0, 0, []), (.iload_n 3, 1, 3, 0, 0, 0, []), (.goto 56, 3, 183, 0, 0, 0, [])] = true := by decide +kernel
set_option maxRecDepth 100000 in
theorem bk_m_rate_130 : chk 138 140 130 [(.iload_n 1, 1, 1, 0, 0, 0, []), (.iconst 1, 1, 0, 0, 0, 1, []), (.if_icmp .ne 8, 3, 140, 0, 0, 0, []), (.iload 4, 2, 4, 0, 0, 0, []), (.goto 46, 3, 183, 0, 0, 0, [])] = true := by decide +kernel
set_option maxRecDepth 100000 in
theorem bk_m_rate_140 : chk 138 150 140 [(.iload_n 1, 1, 1, 0, 0, 0, []), (.iconst 2, 1, 0, 0, 0, 2, []), (.if_icmp .ne 8, 3, 150, 0, 0, 0, []), (.iload 5, 2, 5, 0, 0, 0, []), (.goto 36, 3, 183, 0, 0, 0, [])] = true := by decide +kernel
set_option maxRecDepth 100000 in
theorem bk_m_rate_150 : chk 138 162 150 [(.iload_n 1, 1, 1, 0, 0, 0, []), (.iconst 3, 1, 0, 0, 0, 3, []), (.if_icmp .ne 10, 3, 162, 0, 0, 0, []), (.iconst 2, 1, 0, 0, 0, 2, []), (.iload 4, 2, 4, 0, 0, 0, []), (.imul, 1, 0, 0, 0, 0, []), (.goto 24, 3, 183, 0, 0, 0, [])] = true := by decide +kernel
set_option maxRecDepth 100000 in
theorem bk_m_rate_162 : chk 138 174 162 [(.iload_n 1, 1, 1, 0, 0, 0, []), (.iconst 4, 1, 0, 0, 0, 4, []), (.if_icmp .ne 10, 3, 174, 0, 0, 0, []), (.iload 5, 2, 5, 0, 0, 0, []), (.iload_n 2, 1, 2, 0, 0, 0, []), (.iadd, 1, 0, 0, 0, 0, []), (.goto 12, 3, 183, 0, 0, 0, [])] = true := by decide +kernel
set_option maxRecDepth 100000 in
theorem bk_m_rate_174 : chk 138 183 174 [(.iload_n 3, 1, 3, 0, 0, 0, []), (.aload_n 0, 1, 0, 0, 0, 0, []), (.getfield 19, 3, 10, 5, 2, 0, []), (.bipush 10, 2, 0, 0, 0, 10, []), (.iaload, 1, 0, 0, 0, 0, []), (.iadd, 1, 0, 0, 0, 0, [])] = true := by decide +kernel
set_option maxRecDepth 100000 in
theorem bk_m_rate_183 : chk 138 184 183 [(.ireturn, 1, 0, 0, 0, 0, [])] = true := by decide +kernel
set_option maxRecDepth 100000 in
theorem bk_m_keep_0 : chk 139 6 0 [(.iload_n 1, 1, 1, 0, 0, 0, []), (.iconst 0, 1, 0, 0, 0, 0, []), (.iconst 1, 1, 0, 0, 0, 1, []), (.invokestatic 63, 3, 90, 3, 0, 0, [])] = true := by decide +kernel
set_option maxRecDepth 100000 in
theorem bk_m_keep_6 : chk 139 11 6 [(.ifCond .ne 5, 3, 11, 0, 0, 0, []), (.iconst (-1), 1, 0, 0, 0, -1, []), (.ireturn, 1, 0, 0, 0, 0, [])] = true := by decide +kernel
set_option maxRecDepth 100000 in
theorem bk_m_keep_11 : chk 139 13 11 [(.iconst 0, 1, 0, 0, 0, 0, []), (.istore_n 2, 1, 2, 0, 0, 0, [])] = true := by decide +kernel
set_option maxRecDepth 100000 in
theorem bk_m_keep_13 : chk 139 42 13 [(.iload_n 2, 1, 2, 0, 0, 0, []), (.bipush 11, 2, 0, 0, 0, 11, []), (.if_icmp .ge 26, 3, 42, 0, 0, 0, []), (.aload_n 0, 1, 0, 0, 0, 0, []), (.getfield 25, 3, 10, 8, 2, 0, []), (.bipush 11, 2, 0, 0, 0, 11, []), (.iload_n 1, 1, 1, 0, 0, 0, []), (.imul, 1, 0, 0, 0, 0, []), (.iload_n 2, 1, 2, 0, 0, 0, []), (.iadd, 1, 0, 0, 0, 0, []), (.aload_n 0, 1, 0, 0, 0, 0, []), (.getfield 19, 3, 10, 5, 2, 0, []), (.iload_n 2, 1, 2, 0, 0, 0, []), (.iaload, 1, 0, 0, 0, 0, []), (.iastore, 1, 0, 0, 0, 0, []), (.iinc 2 1, 3, 2, 0, 0, 1, []), (.goto (-26), 3, 13, 0, 0, 0, [])] = true := by decide +kernel
set_option maxRecDepth 100000 in
theorem bk_m_keep_42 : chk 139 56 42 [(.aload_n 0, 1, 0, 0, 0, 0, []), (.getfield 28, 3, 10, 9, 2, 0, []), (.iload_n 1, 1, 1, 0, 0, 0, []), (.iconst 1, 1, 0, 0, 0, 1, []), (.bastore, 1, 0, 0, 0, 0, []), (.aload_n 0, 1, 0, 0, 0, 0, []), (.getfield 19, 3, 10, 5, 2, 0, []), (.iconst 0, 1, 0, 0, 0, 0, []), (.iaload, 1, 0, 0, 0, 0, []), (.ireturn, 1, 0, 0, 0, 0, [])] = true := by decide +kernel
set_option maxRecDepth 100000 in
theorem bk_m_back_0 : chk 140 6 0 [(.iload_n 1, 1, 1, 0, 0, 0, []), (.iconst 0, 1, 0, 0, 0, 0, []), (.iconst 1, 1, 0, 0, 0, 1, []), (.invokestatic 63, 3, 90, 3, 0, 0, [])] = true := by decide +kernel
set_option maxRecDepth 100000 in
theorem bk_m_back_6 : chk 140 11 6 [(.ifCond .ne 5, 3, 11, 0, 0, 0, []), (.iconst (-1), 1, 0, 0, 0, -1, []), (.ireturn, 1, 0, 0, 0, 0, [])] = true := by decide +kernel
set_option maxRecDepth 100000 in
theorem bk_m_back_11 : chk 140 23 11 [(.aload_n 0, 1, 0, 0, 0, 0, []), (.getfield 28, 3, 10, 9, 2, 0, []), (.iload_n 1, 1, 1, 0, 0, 0, []), (.baload, 1, 0, 0, 0, 0, []), (.ifCond .ne 6, 3, 23, 0, 0, 0, []), (.bipush (-2), 2, 0, 0, 0, -2, []), (.ireturn, 1, 0, 0, 0, 0, [])] = true := by decide +kernel
set_option maxRecDepth 100000 in
theorem bk_m_back_23 : chk 140 25 23 [(.iconst 0, 1, 0, 0, 0, 0, []), (.istore_n 2, 1, 2, 0, 0, 0, [])] = true := by decide +kernel
set_option maxRecDepth 100000 in
theorem bk_m_back_25 : chk 140 54 25 [(.iload_n 2, 1, 2, 0, 0, 0, []), (.bipush 11, 2, 0, 0, 0, 11, []), (.if_icmp .ge 26, 3, 54, 0, 0, 0, []), (.aload_n 0, 1, 0, 0, 0, 0, []), (.getfield 19, 3, 10, 5, 2, 0, []), (.iload_n 2, 1, 2, 0, 0, 0, []), (.aload_n 0, 1, 0, 0, 0, 0, []), (.getfield 25, 3, 10, 8, 2, 0, []), (.bipush 11, 2, 0, 0, 0, 11, []), (.iload_n 1, 1, 1, 0, 0, 0, []), (.imul, 1, 0, 0, 0, 0, []), (.iload_n 2, 1, 2, 0, 0, 0, []), (.iadd, 1, 0, 0, 0, 0, []), (.iaload, 1, 0, 0, 0, 0, []), (.iastore, 1, 0, 0, 0, 0, []), (.iinc 2 1, 3, 2, 0, 0, 1, []), (.goto (-26), 3, 25, 0, 0, 0, [])] = true := by decide +kernel
set_option maxRecDepth 100000 in
theorem bk_m_back_54 : chk 140 66 54 [(.aload_n 0, 1, 0, 0, 0, 0, []), (.iconst 0, 1, 0, 0, 0, 0, []), (.putfield 107, 3, 10, 7, 0, 0, []), (.aload_n 0, 1, 0, 0, 0, 0, []), (.getfield 19, 3, 10, 5, 2, 0, []), (.iconst 0, 1, 0, 0, 0, 0, []), (.iaload, 1, 0, 0, 0, 0, []), (.ireturn, 1, 0, 0, 0, 0, [])] = true := by decide +kernel
set_option maxRecDepth 100000 in
theorem bk_m_count_0 : chk 141 48 0 [(.iload_n 1, 1, 1, 0, 0, 0, []), (.tableswitch 97 0 7 #[47, 54, 61, 68, 75, 82, 87, 92], 47, 98, 0, 0, 0, [(0, 48), (1, 55), (2, 62), (3, 69), (4, 76), (5, 83), (6, 88), (7, 93)])] = true := by decide +kernel
set_option maxRecDepth 100000 in
theorem bk_m_count_48 : chk 141 55 48 [(.aload_n 0, 1, 0, 0, 0, 0, []), (.getfield 13, 3, 10, 3, 2, 0, []), (.iconst 0, 1, 0, 0, 0, 0, []), (.iaload, 1, 0, 0, 0, 0, []), (.ireturn, 1, 0, 0, 0, 0, [])] = true := by decide +kernel
set_option maxRecDepth 100000 in
theorem bk_m_count_55 : chk 141 62 55 [(.aload_n 0, 1, 0, 0, 0, 0, []), (.getfield 13, 3, 10, 3, 2, 0, []), (.iconst 1, 1, 0, 0, 0, 1, []), (.iaload, 1, 0, 0, 0, 0, []), (.ireturn, 1, 0, 0, 0, 0, [])] = true := by decide +kernel
set_option maxRecDepth 100000 in
theorem bk_m_count_62 : chk 141 69 62 [(.aload_n 0, 1, 0, 0, 0, 0, []), (.getfield 13, 3, 10, 3, 2, 0, []), (.iconst 2, 1, 0, 0, 0, 2, []), (.iaload, 1, 0, 0, 0, 0, []), (.ireturn, 1, 0, 0, 0, 0, [])] = true := by decide +kernel
set_option maxRecDepth 100000 in
theorem bk_m_count_69 : chk 141 76 69 [(.aload_n 0, 1, 0, 0, 0, 0, []), (.getfield 13, 3, 10, 3, 2, 0, []), (.iconst 3, 1, 0, 0, 0, 3, []), (.iaload, 1, 0, 0, 0, 0, []), (.ireturn, 1, 0, 0, 0, 0, [])] = true := by decide +kernel
set_option maxRecDepth 100000 in
theorem bk_m_count_76 : chk 141 83 76 [(.aload_n 0, 1, 0, 0, 0, 0, []), (.getfield 13, 3, 10, 3, 2, 0, []), (.iconst 4, 1, 0, 0, 0, 4, []), (.iaload, 1, 0, 0, 0, 0, []), (.ireturn, 1, 0, 0, 0, 0, [])] = true := by decide +kernel
set_option maxRecDepth 100000 in
theorem bk_m_count_83 : chk 141 88 83 [(.aload_n 0, 1, 0, 0, 0, 0, []), (.getfield 110, 3, 10, 11, 0, 0, []), (.ireturn, 1, 0, 0, 0, 0, [])] = true := by decide +kernel
set_option maxRecDepth 100000 in
theorem bk_m_count_88 : chk 141 93 88 [(.aload_n 0, 1, 0, 0, 0, 0, []), (.getfield 113, 3, 10, 13, 0, 0, []), (.ireturn, 1, 0, 0, 0, 0, [])] = true := by decide +kernel
set_option maxRecDepth 100000 in
theorem bk_m_count_93 : chk 141 98 93 [(.aload_n 0, 1, 0, 0, 0, 0, []), (.getfield 67, 3, 10, 2, 0, 0, []), (.ireturn, 1, 0, 0, 0, 0, [])] = true := by decide +kernel
set_option maxRecDepth 100000 in
theorem bk_m_count_98 : chk 141 100 98 [(.iconst (-1), 1, 0, 0, 0, -1, []), (.ireturn, 1, 0, 0, 0, 0, [])] = true := by decide +kernel
set_option maxRecDepth 100000 in
theorem bk_m_trace_0 : chk 142 5 0 [(.aload_n 0, 1, 0, 0, 0, 0, []), (.getfield 189, 3, 10, 0, 1, 0, []), (.lreturn, 1, 0, 0, 0, 0, [])] = true := by decide +kernel
