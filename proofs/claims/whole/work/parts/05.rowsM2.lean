theorem dX9_returned_116 : decode cX9_returned 116 = .ok (.ifCond .eq 7, 3) := by decide +kernel
theorem dX9_returned_119 : decode cX9_returned 119 = .ok (.iconst 1, 1) := by decide +kernel
theorem dX9_returned_120 : decode cX9_returned 120 = .ok (.goto 4, 3) := by decide +kernel
theorem dX9_returned_123 : decode cX9_returned 123 = .ok (.iconst 0, 1) := by decide +kernel
theorem dX9_returned_124 : decode cX9_returned 124 = .ok (.iadd, 1) := by decide +kernel
theorem dX9_returned_125 : decode cX9_returned 125 = .ok (.invokevirtual 57, 3) := by decide +kernel
theorem dX9_returned_128 : decode cX9_returned 128 = .ok (.aload_n 0, 1) := by decide +kernel
theorem dX9_returned_129 : decode cX9_returned 129 = .ok (.iload_n 2, 1) := by decide +kernel
theorem dX9_returned_130 : decode cX9_returned 130 = .ok (.iconst 2, 1) := by decide +kernel
theorem dX9_returned_131 : decode cX9_returned 131 = .ok (.aload_n 0, 1) := by decide +kernel
theorem dX9_returned_132 : decode cX9_returned 132 = .ok (.iload_n 2, 1) := by decide +kernel
theorem dX9_returned_133 : decode cX9_returned 133 = .ok (.iconst 2, 1) := by decide +kernel
theorem dX9_returned_134 : decode cX9_returned 134 = .ok (.invokevirtual 53, 3) := by decide +kernel
theorem dX9_returned_137 : decode cX9_returned 137 = .ok (.iload 4, 2) := by decide +kernel
theorem dX9_returned_139 : decode cX9_returned 139 = .ok (.ifCond .eq 8, 3) := by decide +kernel
theorem dX9_returned_142 : decode cX9_returned 142 = .ok (.bipush (-5), 2) := by decide +kernel
theorem dX9_returned_144 : decode cX9_returned 144 = .ok (.goto 4, 3) := by decide +kernel
theorem dX9_returned_147 : decode cX9_returned 147 = .ok (.iconst 1, 1) := by decide +kernel
theorem dX9_returned_148 : decode cX9_returned 148 = .ok (.iadd, 1) := by decide +kernel
theorem dX9_returned_149 : decode cX9_returned 149 = .ok (.iconst 0, 1) := by decide +kernel
theorem dX9_returned_150 : decode cX9_returned 150 = .ok (.bipush 99, 2) := by decide +kernel
theorem dX9_returned_152 : decode cX9_returned 152 = .ok (.invokestatic 155, 3) := by decide +kernel
theorem dX9_returned_155 : decode cX9_returned 155 = .ok (.invokevirtual 57, 3) := by decide +kernel
theorem dX9_returned_158 : decode cX9_returned 158 = .ok (.aload_n 0, 1) := by decide +kernel
theorem dX9_returned_159 : decode cX9_returned 159 = .ok (.iload_n 1, 1) := by decide +kernel
theorem dX9_returned_160 : decode cX9_returned 160 = .ok (.iconst 5, 1) := by decide +kernel
theorem dX9_returned_161 : decode cX9_returned 161 = .ok (.iconst 0, 1) := by decide +kernel
theorem dX9_returned_162 : decode cX9_returned 162 = .ok (.invokevirtual 93, 3) := by decide +kernel
theorem dX9_returned_165 : decode cX9_returned 165 = .ok (.aload_n 0, 1) := by decide +kernel
theorem dX9_returned_166 : decode cX9_returned 166 = .ok (.iload_n 1, 1) := by decide +kernel
theorem dX9_returned_167 : decode cX9_returned 167 = .ok (.invokevirtual 164, 3) := by decide +kernel
theorem dX9_returned_170 : decode cX9_returned 170 = .ok (.aload_n 0, 1) := by decide +kernel
theorem dX9_returned_171 : decode cX9_returned 171 = .ok (.iload_n 1, 1) := by decide +kernel
theorem dX9_returned_172 : decode cX9_returned 172 = .ok (.invokevirtual 167, 3) := by decide +kernel
theorem dX9_returned_175 : decode cX9_returned 175 = .ok (.iload_n 3, 1) := by decide +kernel
theorem dX9_returned_176 : decode cX9_returned 176 = .ok (.ireturn, 1) := by decide +kernel
set_option maxRecDepth 20000 in
theorem ggX9_noPass_X9_t : GoodIn wsX9_noPass wsX9_t := goodIn_r _ [6, 1, 11, 12, 13, 14, 15, 16, 17, 18, 19, 20, 21, 22, 23, 24, 25, 26] (by decide +kernel) (by decide +kernel)
set_option maxRecDepth 20000 in
theorem gX9_noPass_X9_t : GoodIn wsX9_noPass (wsV RX9 81 RX9 yX9_t wsX9_t) := goodIn_app (goodIn_of _ (by decide +kernel)) ggX9_noPass_X9_t
set_option maxRecDepth 20000 in
theorem ggX9_noPass_X9_p : GoodIn wsX9_noPass wsX9_p := goodIn_r _ [10, 1, 11, 12, 13, 14, 15, 16, 17, 18, 19, 20, 21, 22, 23, 24, 25, 26] (by decide +kernel) (by decide +kernel)
set_option maxRecDepth 20000 in
theorem gX9_noPass_X9_p : GoodIn wsX9_noPass (wsV RX9 53 RX9 yX9_p wsX9_p) := goodIn_app (goodIn_of _ (by decide +kernel)) ggX9_noPass_X9_p
theorem dX9_noPass_0 : decode cX9_noPass 0 = .ok (.aload_n 0, 1) := by decide +kernel
theorem dX9_noPass_1 : decode cX9_noPass 1 = .ok (.getfield 9, 3) := by decide +kernel
theorem dX9_noPass_4 : decode cX9_noPass 4 = .ok (.sipush 1082, 3) := by decide +kernel
theorem dX9_noPass_7 : decode cX9_noPass 7 = .ok (.iaload, 1) := by decide +kernel
theorem dX9_noPass_8 : decode cX9_noPass 8 = .ok (.aload_n 0, 1) := by decide +kernel
theorem dX9_noPass_9 : decode cX9_noPass 9 = .ok (.iload_n 1, 1) := by decide +kernel
theorem dX9_noPass_10 : decode cX9_noPass 10 = .ok (.iconst 4, 1) := by decide +kernel
theorem dX9_noPass_11 : decode cX9_noPass 11 = .ok (.invokevirtual 81, 3) := by decide +kernel
theorem dX9_noPass_14 : decode cX9_noPass 14 = .ok (.if_icmp .le 7, 3) := by decide +kernel
theorem dX9_noPass_17 : decode cX9_noPass 17 = .ok (.iconst 3, 1) := by decide +kernel
theorem dX9_noPass_18 : decode cX9_noPass 18 = .ok (.goto 23, 3) := by decide +kernel
theorem dX9_noPass_21 : decode cX9_noPass 21 = .ok (.aload_n 0, 1) := by decide +kernel
theorem dX9_noPass_22 : decode cX9_noPass 22 = .ok (.iload_n 2, 1) := by decide +kernel
theorem dX9_noPass_23 : decode cX9_noPass 23 = .ok (.iconst 1, 1) := by decide +kernel
theorem dX9_noPass_24 : decode cX9_noPass 24 = .ok (.invokevirtual 53, 3) := by decide +kernel
theorem dX9_noPass_27 : decode cX9_noPass 27 = .ok (.aload_n 0, 1) := by decide +kernel
theorem dX9_noPass_28 : decode cX9_noPass 28 = .ok (.iload_n 1, 1) := by decide +kernel
theorem dX9_noPass_29 : decode cX9_noPass 29 = .ok (.iconst 5, 1) := by decide +kernel
theorem dX9_noPass_30 : decode cX9_noPass 30 = .ok (.invokevirtual 81, 3) := by decide +kernel
theorem dX9_noPass_33 : decode cX9_noPass 33 = .ok (.if_icmp .ge 7, 3) := by decide +kernel
theorem dX9_noPass_36 : decode cX9_noPass 36 = .ok (.iconst 2, 1) := by decide +kernel
theorem dX9_noPass_37 : decode cX9_noPass 37 = .ok (.goto 4, 3) := by decide +kernel
theorem dX9_noPass_40 : decode cX9_noPass 40 = .ok (.iconst 0, 1) := by decide +kernel
theorem dX9_noPass_41 : decode cX9_noPass 41 = .ok (.ireturn, 1) := by decide +kernel
set_option maxRecDepth 20000 in
theorem ggX9_passes_X9_t : GoodIn wsX9_passes wsX9_t := goodIn_r _ [5, 6, 31, 32, 33, 34, 35, 36, 37, 38, 39, 40, 41, 42, 43, 44, 45, 46] (by decide +kernel) (by decide +kernel)
set_option maxRecDepth 20000 in
theorem gX9_passes_X9_t : GoodIn wsX9_passes (wsV RX9 81 RX9 yX9_t wsX9_t) := goodIn_app (goodIn_of _ (by decide +kernel)) ggX9_passes_X9_t
set_option maxRecDepth 20000 in
theorem ggX9_passes_X9_p : GoodIn wsX9_passes wsX9_p := goodIn_r _ [10, 6, 31, 32, 33, 34, 35, 36, 37, 38, 39, 40, 41, 42, 43, 44, 45, 46] (by decide +kernel) (by decide +kernel)
set_option maxRecDepth 20000 in
theorem gX9_passes_X9_p : GoodIn wsX9_passes (wsV RX9 53 RX9 yX9_p wsX9_p) := goodIn_app (goodIn_of _ (by decide +kernel)) ggX9_passes_X9_p
set_option maxRecDepth 20000 in
theorem ggX9_passes_X9_setP : GoodIn wsX9_passes wsX9_setP := goodIn_r _ [14, 6, 31, 32, 33, 34, 35, 36, 37, 38, 39, 40, 41, 42, 43, 44, 45, 46] (by decide +kernel) (by decide +kernel)
set_option maxRecDepth 20000 in
theorem gX9_passes_X9_setP : GoodIn wsX9_passes (wsV RX9 57 RX9 yX9_setP wsX9_setP) := goodIn_app (goodIn_of _ (by decide +kernel)) ggX9_passes_X9_setP
set_option maxRecDepth 20000 in
theorem ggX9_passes_X9_ends : GoodIn wsX9_passes wsX9_ends := goodIn_r _ [18, 6, 1, 2, 3, 4, 5, 19, 20, 21, 22, 31, 32, 33, 34, 35, 36, 37, 38, 39, 40, 41, 42, 43, 44, 45, 46] (by decide +kernel) (by decide +kernel)
set_option maxRecDepth 20000 in
theorem gX9_passes_X9_ends : GoodIn wsX9_passes (wsV RX9 164 RX9 yX9_ends wsX9_ends) := goodIn_app (goodIn_of _ (by decide +kernel)) ggX9_passes_X9_ends
set_option maxRecDepth 20000 in
theorem ggX9_passes_X9_begins : GoodIn wsX9_passes wsX9_begins := goodIn_r _ [26, 6, 27, 28, 29, 4, 30, 1, 2, 3, 5, 19, 20, 21, 22, 31, 32, 33, 34, 35, 36, 37, 38, 39, 40, 41, 42, 43, 44, 45, 46] (by decide +kernel) (by decide +kernel)
set_option maxRecDepth 20000 in
theorem gX9_passes_X9_begins : GoodIn wsX9_passes (wsV RX9 124 RX9 yX9_begins wsX9_begins) := goodIn_app (goodIn_of _ (by decide +kernel)) ggX9_passes_X9_begins
theorem dX9_passes_0 : decode cX9_passes 0 = .ok (.aload_n 0, 1) := by decide +kernel
theorem dX9_passes_1 : decode cX9_passes 1 = .ok (.iload_n 1, 1) := by decide +kernel
theorem dX9_passes_2 : decode cX9_passes 2 = .ok (.iconst 2, 1) := by decide +kernel
theorem dX9_passes_3 : decode cX9_passes 3 = .ok (.invokevirtual 81, 3) := by decide +kernel
theorem dX9_passes_6 : decode cX9_passes 6 = .ok (.istore_n 3, 1) := by decide +kernel
theorem dX9_passes_7 : decode cX9_passes 7 = .ok (.aload_n 0, 1) := by decide +kernel
theorem dX9_passes_8 : decode cX9_passes 8 = .ok (.iload_n 2, 1) := by decide +kernel
theorem dX9_passes_9 : decode cX9_passes 9 = .ok (.iconst 1, 1) := by decide +kernel
theorem dX9_passes_10 : decode cX9_passes 10 = .ok (.aload_n 0, 1) := by decide +kernel
theorem dX9_passes_11 : decode cX9_passes 11 = .ok (.iload_n 2, 1) := by decide +kernel
theorem dX9_passes_12 : decode cX9_passes 12 = .ok (.iconst 1, 1) := by decide +kernel
theorem dX9_passes_13 : decode cX9_passes 13 = .ok (.invokevirtual 53, 3) := by decide +kernel
theorem dX9_passes_16 : decode cX9_passes 16 = .ok (.aload_n 0, 1) := by decide +kernel
theorem dX9_passes_17 : decode cX9_passes 17 = .ok (.iload_n 1, 1) := by decide +kernel
theorem dX9_passes_18 : decode cX9_passes 18 = .ok (.iconst 5, 1) := by decide +kernel
theorem dX9_passes_19 : decode cX9_passes 19 = .ok (.invokevirtual 81, 3) := by decide +kernel
theorem dX9_passes_22 : decode cX9_passes 22 = .ok (.isub, 1) := by decide +kernel
theorem dX9_passes_23 : decode cX9_passes 23 = .ok (.invokevirtual 57, 3) := by decide +kernel
theorem dX9_passes_26 : decode cX9_passes 26 = .ok (.aload_n 0, 1) := by decide +kernel
theorem dX9_passes_27 : decode cX9_passes 27 = .ok (.iload_n 3, 1) := by decide +kernel
theorem dX9_passes_28 : decode cX9_passes 28 = .ok (.iconst 1, 1) := by decide +kernel
theorem dX9_passes_29 : decode cX9_passes 29 = .ok (.aload_n 0, 1) := by decide +kernel
theorem dX9_passes_30 : decode cX9_passes 30 = .ok (.iload_n 3, 1) := by decide +kernel
theorem dX9_passes_31 : decode cX9_passes 31 = .ok (.iconst 1, 1) := by decide +kernel
theorem dX9_passes_32 : decode cX9_passes 32 = .ok (.invokevirtual 53, 3) := by decide +kernel
theorem dX9_passes_35 : decode cX9_passes 35 = .ok (.aload_n 0, 1) := by decide +kernel
theorem dX9_passes_36 : decode cX9_passes 36 = .ok (.iload_n 1, 1) := by decide +kernel
theorem dX9_passes_37 : decode cX9_passes 37 = .ok (.iconst 5, 1) := by decide +kernel
theorem dX9_passes_38 : decode cX9_passes 38 = .ok (.invokevirtual 81, 3) := by decide +kernel
theorem dX9_passes_41 : decode cX9_passes 41 = .ok (.iadd, 1) := by decide +kernel
theorem dX9_passes_42 : decode cX9_passes 42 = .ok (.invokevirtual 57, 3) := by decide +kernel
theorem dX9_passes_45 : decode cX9_passes 45 = .ok (.aload_n 0, 1) := by decide +kernel
theorem dX9_passes_46 : decode cX9_passes 46 = .ok (.iload_n 1, 1) := by decide +kernel
theorem dX9_passes_47 : decode cX9_passes 47 = .ok (.invokevirtual 164, 3) := by decide +kernel
theorem dX9_passes_50 : decode cX9_passes 50 = .ok (.aload_n 0, 1) := by decide +kernel
theorem dX9_passes_51 : decode cX9_passes 51 = .ok (.iload_n 1, 1) := by decide +kernel
theorem dX9_passes_52 : decode cX9_passes 52 = .ok (.iload_n 2, 1) := by decide +kernel
theorem dX9_passes_53 : decode cX9_passes 53 = .ok (.invokevirtual 124, 3) := by decide +kernel
theorem dX9_passes_56 : decode cX9_passes 56 = .ok (.return_, 1) := by decide +kernel
set_option maxRecDepth 20000 in
theorem ggX9_pass_X9_isTool : GoodIn wsX9_pass wsX9_isTool := goodIn_r _ [5, 6, 7, 8, 4, 9, 58, 59, 60, 61, 62, 63, 64, 65, 66, 67, 68, 69, 70, 71, 72, 73] (by decide +kernel) (by decide +kernel)
set_option maxRecDepth 20000 in
theorem gX9_pass_X9_isTool : GoodIn wsX9_pass (wsV RX9 78 RX9 yX9_isTool wsX9_isTool) := goodIn_app (goodIn_of _ (by decide +kernel)) ggX9_pass_X9_isTool
set_option maxRecDepth 20000 in
theorem ggX9_pass_X9_isPerson : GoodIn wsX9_pass wsX9_isPerson := goodIn_r _ [13, 6, 7, 8, 4, 9, 58, 59, 60, 61, 62, 63, 64, 65, 66, 67, 68, 69, 70, 71, 72, 73] (by decide +kernel) (by decide +kernel)
set_option maxRecDepth 20000 in
theorem gX9_pass_X9_isPerson : GoodIn wsX9_pass (wsV RX9 75 RX9 yX9_isPerson wsX9_isPerson) := goodIn_app (goodIn_of _ (by decide +kernel)) ggX9_pass_X9_isPerson
set_option maxRecDepth 20000 in
theorem ggX9_pass_X9_t : GoodIn wsX9_pass wsX9_t := goodIn_r _ [17, 6, 58, 59, 60, 61, 62, 63, 64, 65, 66, 67, 68, 69, 70, 71, 72, 73] (by decide +kernel) (by decide +kernel)
set_option maxRecDepth 20000 in
theorem gX9_pass_X9_t : GoodIn wsX9_pass (wsV RX9 81 RX9 yX9_t wsX9_t) := goodIn_app (goodIn_of _ (by decide +kernel)) ggX9_pass_X9_t
set_option maxRecDepth 20000 in
theorem ggX9_pass_X9_isOut : GoodIn wsX9_pass wsX9_isOut := goodIn_r _ [21, 14, 15, 16, 4, 17, 6, 58, 59, 60, 61, 62, 63, 64, 65, 66, 67, 68, 69, 70, 71, 72, 73] (by decide +kernel) (by decide +kernel)
set_option maxRecDepth 20000 in
theorem gX9_pass_X9_isOut : GoodIn wsX9_pass (wsV RX9 100 RX9 yX9_isOut wsX9_isOut) := goodIn_app (goodIn_of _ (by decide +kernel)) ggX9_pass_X9_isOut
set_option maxRecDepth 20000 in
theorem ggX9_pass_X9_noPass : GoodIn wsX9_pass wsX9_noPass := goodIn_r _ [25, 6, 14, 15, 16, 4, 17, 26, 27, 28, 29, 58, 59, 60, 61, 62, 63, 64, 65, 66, 67, 68, 69, 70, 71, 72, 73] (by decide +kernel) (by decide +kernel)
set_option maxRecDepth 20000 in
theorem gX9_pass_X9_noPass : GoodIn wsX9_pass (wsV RX9 170 RX9 yX9_noPass wsX9_noPass) := goodIn_app (goodIn_of _ (by decide +kernel)) ggX9_pass_X9_noPass
set_option maxRecDepth 20000 in
theorem ggX9_pass_X9_refused : GoodIn wsX9_pass wsX9_refused := goodIn_r _ [33, 6, 58, 59, 60, 61, 62, 63, 64, 65, 66, 67, 68, 69, 70, 71, 72, 73] (by decide +kernel) (by decide +kernel)
set_option maxRecDepth 20000 in
theorem gX9_pass_X9_refused : GoodIn wsX9_pass (wsV RX9 127 RX9 yX9_refused wsX9_refused) := goodIn_app (goodIn_of _ (by decide +kernel)) ggX9_pass_X9_refused
set_option maxRecDepth 20000 in
theorem ggX9_pass_X9_passes : GoodIn wsX9_pass wsX9_passes := goodIn_r _ [37, 14, 15, 16, 4, 17, 6, 26, 27, 28, 29, 38, 39, 40, 41, 42, 43, 44, 45, 46, 47, 48, 49, 50, 51, 52, 53, 54, 55, 56, 57, 58, 59, 60, 61, 62, 63, 64, 65, 66, 67, 68, 69, 70, 71, 72, 73] (by decide +kernel) (by decide +kernel)
set_option maxRecDepth 20000 in
theorem gX9_pass_X9_passes : GoodIn wsX9_pass (wsV RX9 173 RX9 yX9_passes wsX9_passes) := goodIn_app (goodIn_of _ (by decide +kernel)) ggX9_pass_X9_passes
theorem dX9_pass_0 : decode cX9_pass 0 = .ok (.aload_n 0, 1) := by decide +kernel
theorem dX9_pass_1 : decode cX9_pass 1 = .ok (.iload_n 1, 1) := by decide +kernel
theorem dX9_pass_2 : decode cX9_pass 2 = .ok (.invokevirtual 78, 3) := by decide +kernel
theorem dX9_pass_5 : decode cX9_pass 5 = .ok (.ifCond .eq 21, 3) := by decide +kernel
theorem dX9_pass_8 : decode cX9_pass 8 = .ok (.aload_n 0, 1) := by decide +kernel
theorem dX9_pass_9 : decode cX9_pass 9 = .ok (.iload_n 2, 1) := by decide +kernel
theorem dX9_pass_10 : decode cX9_pass 10 = .ok (.invokevirtual 75, 3) := by decide +kernel
theorem dX9_pass_13 : decode cX9_pass 13 = .ok (.ifCond .eq 13, 3) := by decide +kernel
theorem dX9_pass_16 : decode cX9_pass 16 = .ok (.aload_n 0, 1) := by decide +kernel
theorem dX9_pass_17 : decode cX9_pass 17 = .ok (.iload_n 1, 1) := by decide +kernel
theorem dX9_pass_18 : decode cX9_pass 18 = .ok (.iconst 2, 1) := by decide +kernel
theorem dX9_pass_19 : decode cX9_pass 19 = .ok (.invokevirtual 81, 3) := by decide +kernel
theorem dX9_pass_22 : decode cX9_pass 22 = .ok (.iload_n 2, 1) := by decide +kernel
theorem dX9_pass_23 : decode cX9_pass 23 = .ok (.if_icmp .ne 5, 3) := by decide +kernel
theorem dX9_pass_26 : decode cX9_pass 26 = .ok (.iconst (-1), 1) := by decide +kernel
theorem dX9_pass_27 : decode cX9_pass 27 = .ok (.ireturn, 1) := by decide +kernel
theorem dX9_pass_28 : decode cX9_pass 28 = .ok (.aload_n 0, 1) := by decide +kernel
theorem dX9_pass_29 : decode cX9_pass 29 = .ok (.iload_n 1, 1) := by decide +kernel
theorem dX9_pass_30 : decode cX9_pass 30 = .ok (.invokevirtual 100, 3) := by decide +kernel
theorem dX9_pass_33 : decode cX9_pass 33 = .ok (.ifCond .ne 6, 3) := by decide +kernel
theorem dX9_pass_36 : decode cX9_pass 36 = .ok (.bipush (-5), 2) := by decide +kernel
theorem dX9_pass_38 : decode cX9_pass 38 = .ok (.ireturn, 1) := by decide +kernel
theorem dX9_pass_39 : decode cX9_pass 39 = .ok (.aload_n 0, 1) := by decide +kernel
theorem dX9_pass_40 : decode cX9_pass 40 = .ok (.iload_n 1, 1) := by decide +kernel
theorem dX9_pass_41 : decode cX9_pass 41 = .ok (.iload_n 2, 1) := by decide +kernel
theorem dX9_pass_42 : decode cX9_pass 42 = .ok (.invokevirtual 170, 3) := by decide +kernel
theorem dX9_pass_45 : decode cX9_pass 45 = .ok (.istore_n 3, 1) := by decide +kernel
theorem dX9_pass_46 : decode cX9_pass 46 = .ok (.iload_n 3, 1) := by decide +kernel
theorem dX9_pass_47 : decode cX9_pass 47 = .ok (.ifCond .eq 11, 3) := by decide +kernel
theorem dX9_pass_50 : decode cX9_pass 50 = .ok (.aload_n 0, 1) := by decide +kernel
theorem dX9_pass_51 : decode cX9_pass 51 = .ok (.bipush 6, 2) := by decide +kernel
theorem dX9_pass_53 : decode cX9_pass 53 = .ok (.iload_n 3, 1) := by decide +kernel
theorem dX9_pass_54 : decode cX9_pass 54 = .ok (.invokevirtual 127, 3) := by decide +kernel
theorem dX9_pass_57 : decode cX9_pass 57 = .ok (.ireturn, 1) := by decide +kernel
theorem dX9_pass_58 : decode cX9_pass 58 = .ok (.aload_n 0, 1) := by decide +kernel
theorem dX9_pass_59 : decode cX9_pass 59 = .ok (.iload_n 1, 1) := by decide +kernel
theorem dX9_pass_60 : decode cX9_pass 60 = .ok (.iload_n 2, 1) := by decide +kernel
theorem dX9_pass_61 : decode cX9_pass 61 = .ok (.invokevirtual 173, 3) := by decide +kernel
theorem dX9_pass_64 : decode cX9_pass 64 = .ok (.iconst 1, 1) := by decide +kernel
theorem dX9_pass_65 : decode cX9_pass 65 = .ok (.ireturn, 1) := by decide +kernel
set_option maxRecDepth 20000 in
theorem ggX9_more_X9_p : GoodIn wsX9_more wsX9_p := goodIn_r _ [5, 6, 7, 8, 9, 10, 11, 12, 13, 14, 15, 16, 17, 18, 19, 20, 21, 22] (by decide +kernel) (by decide +kernel)
set_option maxRecDepth 20000 in
theorem gX9_more_X9_p : GoodIn wsX9_more (wsV RX9 53 RX9 yX9_p wsX9_p) := goodIn_app (goodIn_of _ (by decide +kernel)) ggX9_more_X9_p
theorem dX9_more_0 : decode cX9_more 0 = .ok (.aload_n 0, 1) := by decide +kernel
theorem dX9_more_1 : decode cX9_more 1 = .ok (.iload_n 1, 1) := by decide +kernel
theorem dX9_more_2 : decode cX9_more 2 = .ok (.iconst 5, 1) := by decide +kernel
theorem dX9_more_3 : decode cX9_more 3 = .ok (.iload_n 3, 1) := by decide +kernel
theorem dX9_more_4 : decode cX9_more 4 = .ok (.iadd, 1) := by decide +kernel
theorem dX9_more_5 : decode cX9_more 5 = .ok (.invokevirtual 53, 3) := by decide +kernel
theorem dX9_more_8 : decode cX9_more 8 = .ok (.aload_n 0, 1) := by decide +kernel
theorem dX9_more_9 : decode cX9_more 9 = .ok (.iload_n 1, 1) := by decide +kernel
theorem dX9_more_10 : decode cX9_more 10 = .ok (.iconst 5, 1) := by decide +kernel
theorem dX9_more_11 : decode cX9_more 11 = .ok (.iload_n 2, 1) := by decide +kernel
theorem dX9_more_12 : decode cX9_more 12 = .ok (.iadd, 1) := by decide +kernel
theorem dX9_more_13 : decode cX9_more 13 = .ok (.invokevirtual 53, 3) := by decide +kernel
theorem dX9_more_16 : decode cX9_more 16 = .ok (.isub, 1) := by decide +kernel
theorem dX9_more_17 : decode cX9_more 17 = .ok (.ireturn, 1) := by decide +kernel
set_option maxRecDepth 20000 in
theorem ggX9_mayBeSwapped_X9_isOut : GoodIn wsX9_mayBeSwapped wsX9_isOut := goodIn_r _ [5, 6, 7, 8, 4, 9, 10, 11, 12, 13, 14, 15, 16, 17, 18, 19, 20, 21, 22, 23, 24, 25, 26] (by decide +kernel) (by decide +kernel)
set_option maxRecDepth 20000 in
theorem gX9_mayBeSwapped_X9_isOut : GoodIn wsX9_mayBeSwapped (wsV RX9 100 RX9 yX9_isOut wsX9_isOut) := goodIn_app (goodIn_of _ (by decide +kernel)) ggX9_mayBeSwapped_X9_isOut
set_option maxRecDepth 20000 in
theorem ggX9_mayBeSwapped_X9_t : GoodIn wsX9_mayBeSwapped wsX9_t := goodIn_r _ [9, 10, 11, 12, 13, 14, 15, 16, 17, 18, 19, 20, 21, 22, 23, 24, 25, 26] (by decide +kernel) (by decide +kernel)
set_option maxRecDepth 20000 in
theorem gX9_mayBeSwapped_X9_t : GoodIn wsX9_mayBeSwapped (wsV RX9 81 RX9 yX9_t wsX9_t) := goodIn_app (goodIn_of _ (by decide +kernel)) ggX9_mayBeSwapped_X9_t
theorem dX9_mayBeSwapped_0 : decode cX9_mayBeSwapped 0 = .ok (.iload_n 1, 1) := by decide +kernel
theorem dX9_mayBeSwapped_1 : decode cX9_mayBeSwapped 1 = .ok (.iload_n 2, 1) := by decide +kernel
theorem dX9_mayBeSwapped_2 : decode cX9_mayBeSwapped 2 = .ok (.if_icmp .eq 38, 3) := by decide +kernel
theorem dX9_mayBeSwapped_5 : decode cX9_mayBeSwapped 5 = .ok (.aload_n 0, 1) := by decide +kernel
theorem dX9_mayBeSwapped_6 : decode cX9_mayBeSwapped 6 = .ok (.iload_n 1, 1) := by decide +kernel
theorem dX9_mayBeSwapped_7 : decode cX9_mayBeSwapped 7 = .ok (.invokevirtual 100, 3) := by decide +kernel
theorem dX9_mayBeSwapped_10 : decode cX9_mayBeSwapped 10 = .ok (.ifCond .eq 30, 3) := by decide +kernel
theorem dX9_mayBeSwapped_13 : decode cX9_mayBeSwapped 13 = .ok (.aload_n 0, 1) := by decide +kernel
theorem dX9_mayBeSwapped_14 : decode cX9_mayBeSwapped 14 = .ok (.iload_n 2, 1) := by decide +kernel
theorem dX9_mayBeSwapped_15 : decode cX9_mayBeSwapped 15 = .ok (.invokevirtual 100, 3) := by decide +kernel
theorem dX9_mayBeSwapped_18 : decode cX9_mayBeSwapped 18 = .ok (.ifCond .eq 22, 3) := by decide +kernel
theorem dX9_mayBeSwapped_21 : decode cX9_mayBeSwapped 21 = .ok (.aload_n 0, 1) := by decide +kernel
theorem dX9_mayBeSwapped_22 : decode cX9_mayBeSwapped 22 = .ok (.iload_n 1, 1) := by decide +kernel
theorem dX9_mayBeSwapped_23 : decode cX9_mayBeSwapped 23 = .ok (.iconst 2, 1) := by decide +kernel
theorem dX9_mayBeSwapped_24 : decode cX9_mayBeSwapped 24 = .ok (.invokevirtual 81, 3) := by decide +kernel
theorem dX9_mayBeSwapped_27 : decode cX9_mayBeSwapped 27 = .ok (.aload_n 0, 1) := by decide +kernel
theorem dX9_mayBeSwapped_28 : decode cX9_mayBeSwapped 28 = .ok (.iload_n 2, 1) := by decide +kernel
theorem dX9_mayBeSwapped_29 : decode cX9_mayBeSwapped 29 = .ok (.iconst 2, 1) := by decide +kernel
theorem dX9_mayBeSwapped_30 : decode cX9_mayBeSwapped 30 = .ok (.invokevirtual 81, 3) := by decide +kernel
theorem dX9_mayBeSwapped_33 : decode cX9_mayBeSwapped 33 = .ok (.if_icmp .eq 7, 3) := by decide +kernel
theorem dX9_mayBeSwapped_36 : decode cX9_mayBeSwapped 36 = .ok (.iconst 1, 1) := by decide +kernel
theorem dX9_mayBeSwapped_37 : decode cX9_mayBeSwapped 37 = .ok (.goto 4, 3) := by decide +kernel
theorem dX9_mayBeSwapped_40 : decode cX9_mayBeSwapped 40 = .ok (.iconst 0, 1) := by decide +kernel
theorem dX9_mayBeSwapped_41 : decode cX9_mayBeSwapped 41 = .ok (.ireturn, 1) := by decide +kernel
set_option maxRecDepth 20000 in
theorem ggX9_gain_X9_t : GoodIn wsX9_gain wsX9_t := goodIn_r _ [5, 6, 15, 16, 17, 18, 19, 20, 21, 22, 23, 24, 25, 26, 27, 28, 29, 30] (by decide +kernel) (by decide +kernel)
set_option maxRecDepth 20000 in
theorem gX9_gain_X9_t : GoodIn wsX9_gain (wsV RX9 81 RX9 yX9_t wsX9_t) := goodIn_app (goodIn_of _ (by decide +kernel)) ggX9_gain_X9_t
set_option maxRecDepth 20000 in
theorem ggX9_gain_X9_more : GoodIn wsX9_gain wsX9_more := goodIn_r _ [10, 11, 12, 13, 4, 14, 6, 15, 16, 17, 18, 19, 20, 21, 22, 23, 24, 25, 26, 27, 28, 29, 30] (by decide +kernel) (by decide +kernel)
set_option maxRecDepth 20000 in
theorem gX9_gain_X9_more : GoodIn wsX9_gain (wsV RX9 176 RX9 yX9_more wsX9_more) := goodIn_app (goodIn_of _ (by decide +kernel)) ggX9_gain_X9_more
theorem dX9_gain_0 : decode cX9_gain 0 = .ok (.aload_n 0, 1) := by decide +kernel
theorem dX9_gain_1 : decode cX9_gain 1 = .ok (.aload_n 0, 1) := by decide +kernel
theorem dX9_gain_2 : decode cX9_gain 2 = .ok (.iload_n 1, 1) := by decide +kernel
theorem dX9_gain_3 : decode cX9_gain 3 = .ok (.iconst 2, 1) := by decide +kernel
theorem dX9_gain_4 : decode cX9_gain 4 = .ok (.invokevirtual 81, 3) := by decide +kernel
theorem dX9_gain_7 : decode cX9_gain 7 = .ok (.iload_n 1, 1) := by decide +kernel
theorem dX9_gain_8 : decode cX9_gain 8 = .ok (.iload_n 2, 1) := by decide +kernel
theorem dX9_gain_9 : decode cX9_gain 9 = .ok (.invokevirtual 176, 3) := by decide +kernel
theorem dX9_gain_12 : decode cX9_gain 12 = .ok (.istore_n 3, 1) := by decide +kernel
theorem dX9_gain_13 : decode cX9_gain 13 = .ok (.aload_n 0, 1) := by decide +kernel
theorem dX9_gain_14 : decode cX9_gain 14 = .ok (.aload_n 0, 1) := by decide +kernel
theorem dX9_gain_15 : decode cX9_gain 15 = .ok (.iload_n 2, 1) := by decide +kernel
theorem dX9_gain_16 : decode cX9_gain 16 = .ok (.iconst 2, 1) := by decide +kernel
theorem dX9_gain_17 : decode cX9_gain 17 = .ok (.invokevirtual 81, 3) := by decide +kernel
theorem dX9_gain_20 : decode cX9_gain 20 = .ok (.iload_n 2, 1) := by decide +kernel
theorem dX9_gain_21 : decode cX9_gain 21 = .ok (.iload_n 1, 1) := by decide +kernel
theorem dX9_gain_22 : decode cX9_gain 22 = .ok (.invokevirtual 176, 3) := by decide +kernel
theorem dX9_gain_25 : decode cX9_gain 25 = .ok (.istore 4, 2) := by decide +kernel
theorem dX9_gain_27 : decode cX9_gain 27 = .ok (.iload_n 3, 1) := by decide +kernel
theorem dX9_gain_28 : decode cX9_gain 28 = .ok (.ifCond .le 15, 3) := by decide +kernel
theorem dX9_gain_31 : decode cX9_gain 31 = .ok (.iload 4, 2) := by decide +kernel
theorem dX9_gain_33 : decode cX9_gain 33 = .ok (.ifCond .le 10, 3) := by decide +kernel
theorem dX9_gain_36 : decode cX9_gain 36 = .ok (.iload_n 3, 1) := by decide +kernel
theorem dX9_gain_37 : decode cX9_gain 37 = .ok (.iload 4, 2) := by decide +kernel
theorem dX9_gain_39 : decode cX9_gain 39 = .ok (.iadd, 1) := by decide +kernel
theorem dX9_gain_40 : decode cX9_gain 40 = .ok (.goto 4, 3) := by decide +kernel
theorem dX9_gain_43 : decode cX9_gain 43 = .ok (.iconst 0, 1) := by decide +kernel
theorem dX9_gain_44 : decode cX9_gain 44 = .ok (.ireturn, 1) := by decide +kernel
set_option maxRecDepth 20000 in
theorem ggX9_swapped_X9_gain : GoodIn wsX9_swapped wsX9_gain := goodIn_r _ [5, 6, 7, 8, 4, 9, 10, 11, 12, 13, 14, 15, 16, 17, 18, 47, 48, 49, 50, 51, 52, 53, 54, 55, 56, 57, 58, 59, 60, 61, 62] (by decide +kernel) (by decide +kernel)
set_option maxRecDepth 20000 in
theorem gX9_swapped_X9_gain : GoodIn wsX9_swapped (wsV RX9 179 RX9 yX9_gain wsX9_gain) := goodIn_app (goodIn_of _ (by decide +kernel)) ggX9_swapped_X9_gain
set_option maxRecDepth 20000 in
theorem ggX9_swapped_X9_t : GoodIn wsX9_swapped wsX9_t := goodIn_r _ [9, 10, 47, 48, 49, 50, 51, 52, 53, 54, 55, 56, 57, 58, 59, 60, 61, 62] (by decide +kernel) (by decide +kernel)
set_option maxRecDepth 20000 in
theorem gX9_swapped_X9_t : GoodIn wsX9_swapped (wsV RX9 81 RX9 yX9_t wsX9_t) := goodIn_app (goodIn_of _ (by decide +kernel)) ggX9_swapped_X9_t
set_option maxRecDepth 20000 in
theorem ggX9_swapped_X9_noPass : GoodIn wsX9_swapped wsX9_noPass := goodIn_r _ [22, 10, 6, 7, 8, 4, 9, 15, 16, 17, 18, 47, 48, 49, 50, 51, 52, 53, 54, 55, 56, 57, 58, 59, 60, 61, 62] (by decide +kernel) (by decide +kernel)
set_option maxRecDepth 20000 in
theorem gX9_swapped_X9_noPass : GoodIn wsX9_swapped (wsV RX9 170 RX9 yX9_noPass wsX9_noPass) := goodIn_app (goodIn_of _ (by decide +kernel)) ggX9_swapped_X9_noPass
set_option maxRecDepth 20000 in
theorem ggX9_swapped_X9_passes : GoodIn wsX9_swapped wsX9_passes := goodIn_r _ [26, 6, 7, 8, 4, 9, 10, 15, 16, 17, 18, 27, 28, 29, 30, 31, 32, 33, 34, 35, 36, 37, 38, 39, 40, 41, 42, 43, 44, 45, 46, 47, 48, 49, 50, 51, 52, 53, 54, 55, 56, 57, 58, 59, 60, 61, 62] (by decide +kernel) (by decide +kernel)
set_option maxRecDepth 20000 in
theorem gX9_swapped_X9_passes : GoodIn wsX9_swapped (wsV RX9 173 RX9 yX9_passes wsX9_passes) := goodIn_app (goodIn_of _ (by decide +kernel)) ggX9_swapped_X9_passes
theorem dX9_swapped_0 : decode cX9_swapped 0 = .ok (.aload_n 0, 1) := by decide +kernel
theorem dX9_swapped_1 : decode cX9_swapped 1 = .ok (.iload_n 1, 1) := by decide +kernel
theorem dX9_swapped_2 : decode cX9_swapped 2 = .ok (.iload_n 2, 1) := by decide +kernel
theorem dX9_swapped_3 : decode cX9_swapped 3 = .ok (.invokevirtual 179, 3) := by decide +kernel
theorem dX9_swapped_6 : decode cX9_swapped 6 = .ok (.ifCond .ne 6, 3) := by decide +kernel
theorem dX9_swapped_9 : decode cX9_swapped 9 = .ok (.bipush 40, 2) := by decide +kernel
theorem dX9_swapped_11 : decode cX9_swapped 11 = .ok (.ireturn, 1) := by decide +kernel
theorem dX9_swapped_12 : decode cX9_swapped 12 = .ok (.aload_n 0, 1) := by decide +kernel
theorem dX9_swapped_13 : decode cX9_swapped 13 = .ok (.iload_n 1, 1) := by decide +kernel
theorem dX9_swapped_14 : decode cX9_swapped 14 = .ok (.iconst 2, 1) := by decide +kernel
theorem dX9_swapped_15 : decode cX9_swapped 15 = .ok (.invokevirtual 81, 3) := by decide +kernel
theorem dX9_swapped_18 : decode cX9_swapped 18 = .ok (.istore_n 3, 1) := by decide +kernel
theorem dX9_swapped_19 : decode cX9_swapped 19 = .ok (.aload_n 0, 1) := by decide +kernel
theorem dX9_swapped_20 : decode cX9_swapped 20 = .ok (.iload_n 2, 1) := by decide +kernel
theorem dX9_swapped_21 : decode cX9_swapped 21 = .ok (.iconst 2, 1) := by decide +kernel
theorem dX9_swapped_22 : decode cX9_swapped 22 = .ok (.invokevirtual 81, 3) := by decide +kernel
theorem dX9_swapped_25 : decode cX9_swapped 25 = .ok (.istore 4, 2) := by decide +kernel
theorem dX9_swapped_27 : decode cX9_swapped 27 = .ok (.aload_n 0, 1) := by decide +kernel
theorem dX9_swapped_28 : decode cX9_swapped 28 = .ok (.iload_n 1, 1) := by decide +kernel
theorem dX9_swapped_29 : decode cX9_swapped 29 = .ok (.iload 4, 2) := by decide +kernel
theorem dX9_swapped_31 : decode cX9_swapped 31 = .ok (.invokevirtual 170, 3) := by decide +kernel
theorem dX9_swapped_34 : decode cX9_swapped 34 = .ok (.istore 5, 2) := by decide +kernel
theorem dX9_swapped_36 : decode cX9_swapped 36 = .ok (.iload 5, 2) := by decide +kernel
theorem dX9_swapped_38 : decode cX9_swapped 38 = .ok (.ifCond .eq 9, 3) := by decide +kernel
theorem dX9_swapped_41 : decode cX9_swapped 41 = .ok (.bipush 50, 2) := by decide +kernel
theorem dX9_swapped_43 : decode cX9_swapped 43 = .ok (.iload 5, 2) := by decide +kernel
theorem dX9_swapped_45 : decode cX9_swapped 45 = .ok (.iadd, 1) := by decide +kernel
theorem dX9_swapped_46 : decode cX9_swapped 46 = .ok (.ireturn, 1) := by decide +kernel
theorem dX9_swapped_47 : decode cX9_swapped 47 = .ok (.aload_n 0, 1) := by decide +kernel
theorem dX9_swapped_48 : decode cX9_swapped 48 = .ok (.iload_n 1, 1) := by decide +kernel
theorem dX9_swapped_49 : decode cX9_swapped 49 = .ok (.iload 4, 2) := by decide +kernel
theorem dX9_swapped_51 : decode cX9_swapped 51 = .ok (.invokevirtual 173, 3) := by decide +kernel
theorem dX9_swapped_54 : decode cX9_swapped 54 = .ok (.aload_n 0, 1) := by decide +kernel
theorem dX9_swapped_55 : decode cX9_swapped 55 = .ok (.iload_n 2, 1) := by decide +kernel
theorem dX9_swapped_56 : decode cX9_swapped 56 = .ok (.iload_n 3, 1) := by decide +kernel
theorem dX9_swapped_57 : decode cX9_swapped 57 = .ok (.invokevirtual 170, 3) := by decide +kernel
theorem dX9_swapped_60 : decode cX9_swapped 60 = .ok (.istore 5, 2) := by decide +kernel
theorem dX9_swapped_62 : decode cX9_swapped 62 = .ok (.iload 5, 2) := by decide +kernel
theorem dX9_swapped_64 : decode cX9_swapped 64 = .ok (.ifCond .eq 9, 3) := by decide +kernel
theorem dX9_swapped_67 : decode cX9_swapped 67 = .ok (.bipush 50, 2) := by decide +kernel
theorem dX9_swapped_69 : decode cX9_swapped 69 = .ok (.iload 5, 2) := by decide +kernel
theorem dX9_swapped_71 : decode cX9_swapped 71 = .ok (.iadd, 1) := by decide +kernel
theorem dX9_swapped_72 : decode cX9_swapped 72 = .ok (.ireturn, 1) := by decide +kernel
theorem dX9_swapped_73 : decode cX9_swapped 73 = .ok (.aload_n 0, 1) := by decide +kernel
theorem dX9_swapped_74 : decode cX9_swapped 74 = .ok (.iload_n 2, 1) := by decide +kernel
theorem dX9_swapped_75 : decode cX9_swapped 75 = .ok (.iload_n 3, 1) := by decide +kernel
theorem dX9_swapped_76 : decode cX9_swapped 76 = .ok (.invokevirtual 173, 3) := by decide +kernel
theorem dX9_swapped_79 : decode cX9_swapped 79 = .ok (.iconst 0, 1) := by decide +kernel
theorem dX9_swapped_80 : decode cX9_swapped 80 = .ok (.ireturn, 1) := by decide +kernel
set_option maxRecDepth 20000 in
theorem ggX9_swap_X9_isTool : GoodIn wsX9_swap wsX9_isTool := goodIn_r _ [7, 1, 8, 9, 6, 10, 74, 75, 76, 77, 78, 79, 80, 81, 82, 83, 84, 85, 86, 87, 88, 89] (by decide +kernel) (by decide +kernel)
set_option maxRecDepth 20000 in
theorem gX9_swap_X9_isTool : GoodIn wsX9_swap (wsV RX9 78 RX9 yX9_isTool wsX9_isTool) := goodIn_app (goodIn_of _ (by decide +kernel)) ggX9_swap_X9_isTool
set_option maxRecDepth 20000 in
theorem ggX9_swap_X9_mayBeSwapped : GoodIn wsX9_swap wsX9_mayBeSwapped := goodIn_r _ [14, 15, 16, 17, 6, 18, 19, 20, 21, 22, 1, 74, 75, 76, 77, 78, 79, 80, 81, 82, 83, 84, 85, 86, 87, 88, 89] (by decide +kernel) (by decide +kernel)
set_option maxRecDepth 20000 in
theorem gX9_swap_X9_mayBeSwapped : GoodIn wsX9_swap (wsV RX9 182 RX9 yX9_mayBeSwapped wsX9_mayBeSwapped) := goodIn_app (goodIn_of _ (by decide +kernel)) ggX9_swap_X9_mayBeSwapped
set_option maxRecDepth 20000 in
theorem ggX9_swap_X9_gain : GoodIn wsX9_swap wsX9_gain := goodIn_r _ [26, 19, 20, 21, 6, 22, 1, 27, 28, 29, 30, 31, 32, 33, 34, 74, 75, 76, 77, 78, 79, 80, 81, 82, 83, 84, 85, 86, 87, 88, 89] (by decide +kernel) (by decide +kernel)
set_option maxRecDepth 20000 in
theorem gX9_swap_X9_gain : GoodIn wsX9_swap (wsV RX9 179 RX9 yX9_gain wsX9_gain) := goodIn_app (goodIn_of _ (by decide +kernel)) ggX9_swap_X9_gain
set_option maxRecDepth 20000 in
theorem ggX9_swap_X9_take : GoodIn wsX9_swap wsX9_take := goodIn_r _ [37] (by decide +kernel) (by decide +kernel)
set_option maxRecDepth 20000 in
theorem gX9_swap_X9_take : GoodIn wsX9_swap (va_wsS RX9 185 yX9_take wsX9_take) := goodIn_app (goodIn_of _ (by decide +kernel)) ggX9_swap_X9_take
set_option maxRecDepth 20000 in
theorem ggX9_swap_X9_swapped : GoodIn wsX9_swap wsX9_swapped := goodIn_r _ [41, 23, 24, 25, 6, 26, 19, 20, 21, 22, 1, 27, 28, 29, 30, 31, 32, 33, 34, 42, 43, 44, 45, 46, 47, 48, 49, 50, 51, 52, 53, 54, 55, 56, 57, 58, 59, 60, 61, 62, 63, 64, 65, 66, 67, 68, 69, 74, 75, 76, 77, 78, 79, 80, 81, 82, 83, 84, 85, 86, 87, 88, 89] (by decide +kernel) (by decide +kernel)
set_option maxRecDepth 20000 in
theorem gX9_swap_X9_swapped : GoodIn wsX9_swap (wsV RX9 189 RX9 yX9_swapped wsX9_swapped) := goodIn_app (goodIn_of _ (by decide +kernel)) ggX9_swap_X9_swapped
set_option maxRecDepth 20000 in
theorem ggX9_swap_X9_refused : GoodIn wsX9_swap wsX9_refused := goodIn_r _ [73, 1, 74, 75, 76, 77, 78, 79, 80, 81, 82, 83, 84, 85, 86, 87, 88, 89] (by decide +kernel) (by decide +kernel)
set_option maxRecDepth 20000 in
theorem gX9_swap_X9_refused : GoodIn wsX9_swap (wsV RX9 127 RX9 yX9_refused wsX9_refused) := goodIn_app (goodIn_of _ (by decide +kernel)) ggX9_swap_X9_refused
theorem dX9_swap_0 : decode cX9_swap 0 = .ok (.aload_n 0, 1) := by decide +kernel
theorem dX9_swap_1 : decode cX9_swap 1 = .ok (.iload_n 1, 1) := by decide +kernel
theorem dX9_swap_2 : decode cX9_swap 2 = .ok (.invokevirtual 78, 3) := by decide +kernel
theorem dX9_swap_5 : decode cX9_swap 5 = .ok (.ifCond .eq 20, 3) := by decide +kernel
theorem dX9_swap_8 : decode cX9_swap 8 = .ok (.aload_n 0, 1) := by decide +kernel
theorem dX9_swap_9 : decode cX9_swap 9 = .ok (.iload_n 2, 1) := by decide +kernel
theorem dX9_swap_10 : decode cX9_swap 10 = .ok (.invokevirtual 78, 3) := by decide +kernel
theorem dX9_swap_13 : decode cX9_swap 13 = .ok (.ifCond .eq 12, 3) := by decide +kernel
theorem dX9_swap_16 : decode cX9_swap 16 = .ok (.aload_n 0, 1) := by decide +kernel
theorem dX9_swap_17 : decode cX9_swap 17 = .ok (.iload_n 1, 1) := by decide +kernel
theorem dX9_swap_18 : decode cX9_swap 18 = .ok (.iload_n 2, 1) := by decide +kernel
theorem dX9_swap_19 : decode cX9_swap 19 = .ok (.invokevirtual 182, 3) := by decide +kernel
theorem dX9_swap_22 : decode cX9_swap 22 = .ok (.ifCond .ne 5, 3) := by decide +kernel
theorem dX9_swap_25 : decode cX9_swap 25 = .ok (.iconst (-1), 1) := by decide +kernel
theorem dX9_swap_26 : decode cX9_swap 26 = .ok (.ireturn, 1) := by decide +kernel
theorem dX9_swap_27 : decode cX9_swap 27 = .ok (.aload_n 0, 1) := by decide +kernel
theorem dX9_swap_28 : decode cX9_swap 28 = .ok (.iload_n 1, 1) := by decide +kernel
theorem dX9_swap_29 : decode cX9_swap 29 = .ok (.iload_n 2, 1) := by decide +kernel
theorem dX9_swap_30 : decode cX9_swap 30 = .ok (.invokevirtual 179, 3) := by decide +kernel
theorem dX9_swap_33 : decode cX9_swap 33 = .ok (.istore_n 3, 1) := by decide +kernel
theorem dX9_swap_34 : decode cX9_swap 34 = .ok (.aload_n 0, 1) := by decide +kernel
theorem dX9_swap_35 : decode cX9_swap 35 = .ok (.getfield 9, 3) := by decide +kernel
theorem dX9_swap_38 : decode cX9_swap 38 = .ok (.aload_n 0, 1) := by decide +kernel
theorem dX9_swap_39 : decode cX9_swap 39 = .ok (.getfield 13, 3) := by decide +kernel
theorem dX9_swap_42 : decode cX9_swap 42 = .ok (.invokestatic 185, 3) := by decide +kernel
theorem dX9_swap_45 : decode cX9_swap 45 = .ok (.aload_n 0, 1) := by decide +kernel
theorem dX9_swap_46 : decode cX9_swap 46 = .ok (.iload_n 1, 1) := by decide +kernel
theorem dX9_swap_47 : decode cX9_swap 47 = .ok (.iload_n 2, 1) := by decide +kernel
theorem dX9_swap_48 : decode cX9_swap 48 = .ok (.invokevirtual 189, 3) := by decide +kernel
theorem dX9_swap_51 : decode cX9_swap 51 = .ok (.istore 4, 2) := by decide +kernel
theorem dX9_swap_53 : decode cX9_swap 53 = .ok (.iload 4, 2) := by decide +kernel
theorem dX9_swap_55 : decode cX9_swap 55 = .ok (.ifCond .eq 29, 3) := by decide +kernel
theorem dX9_swap_58 : decode cX9_swap 58 = .ok (.aload_n 0, 1) := by decide +kernel
theorem dX9_swap_59 : decode cX9_swap 59 = .ok (.getfield 13, 3) := by decide +kernel
theorem dX9_swap_62 : decode cX9_swap 62 = .ok (.aload_n 0, 1) := by decide +kernel
theorem dX9_swap_63 : decode cX9_swap 63 = .ok (.getfield 9, 3) := by decide +kernel
theorem dX9_swap_66 : decode cX9_swap 66 = .ok (.invokestatic 185, 3) := by decide +kernel
theorem dX9_swap_69 : decode cX9_swap 69 = .ok (.aload_n 0, 1) := by decide +kernel
theorem dX9_swap_70 : decode cX9_swap 70 = .ok (.iload 4, 2) := by decide +kernel
theorem dX9_swap_72 : decode cX9_swap 72 = .ok (.bipush 10, 2) := by decide +kernel
theorem dX9_swap_74 : decode cX9_swap 74 = .ok (.idiv, 1) := by decide +kernel
theorem dX9_swap_75 : decode cX9_swap 75 = .ok (.iload 4, 2) := by decide +kernel
theorem dX9_swap_77 : decode cX9_swap 77 = .ok (.bipush 10, 2) := by decide +kernel
theorem dX9_swap_79 : decode cX9_swap 79 = .ok (.irem, 1) := by decide +kernel
theorem dX9_swap_80 : decode cX9_swap 80 = .ok (.invokevirtual 127, 3) := by decide +kernel
theorem dX9_swap_83 : decode cX9_swap 83 = .ok (.ireturn, 1) := by decide +kernel
theorem dX9_swap_84 : decode cX9_swap 84 = .ok (.iload_n 3, 1) := by decide +kernel
theorem dX9_swap_85 : decode cX9_swap 85 = .ok (.ireturn, 1) := by decide +kernel
set_option maxRecDepth 20000 in
theorem ggX9_use_X9_isTool : GoodIn wsX9_use wsX9_isTool := goodIn_r _ [5, 6, 7, 8, 4, 9, 25, 26, 27, 28, 29, 30, 31, 32, 33, 34, 35, 36, 37, 38, 39, 40] (by decide +kernel) (by decide +kernel)
set_option maxRecDepth 20000 in
theorem gX9_use_X9_isTool : GoodIn wsX9_use (wsV RX9 78 RX9 yX9_isTool wsX9_isTool) := goodIn_app (goodIn_of _ (by decide +kernel)) ggX9_use_X9_isTool
set_option maxRecDepth 20000 in
theorem ggX9_use_X9_in : GoodIn wsX9_use wsX9_in := goodIn_r _ [9] (by decide +kernel) (by decide +kernel)
set_option maxRecDepth 20000 in
theorem gX9_use_X9_in : GoodIn wsX9_use (va_wsS RX9 45 yX9_in wsX9_in) := goodIn_app (goodIn_of _ (by decide +kernel)) ggX9_use_X9_in
set_option maxRecDepth 20000 in
theorem ggX9_use_X9_isOut : GoodIn wsX9_use wsX9_isOut := goodIn_r _ [13, 14, 15, 16, 4, 17, 6, 25, 26, 27, 28, 29, 30, 31, 32, 33, 34, 35, 36, 37, 38, 39, 40] (by decide +kernel) (by decide +kernel)
set_option maxRecDepth 20000 in
theorem gX9_use_X9_isOut : GoodIn wsX9_use (wsV RX9 100 RX9 yX9_isOut wsX9_isOut) := goodIn_app (goodIn_of _ (by decide +kernel)) ggX9_use_X9_isOut
set_option maxRecDepth 20000 in
theorem ggX9_use_X9_t : GoodIn wsX9_use wsX9_t := goodIn_r _ [17, 6, 25, 26, 27, 28, 29, 30, 31, 32, 33, 34, 35, 36, 37, 38, 39, 40] (by decide +kernel) (by decide +kernel)
set_option maxRecDepth 20000 in
theorem gX9_use_X9_t : GoodIn wsX9_use (wsV RX9 81 RX9 yX9_t wsX9_t) := goodIn_app (goodIn_of _ (by decide +kernel)) ggX9_use_X9_t
set_option maxRecDepth 20000 in
theorem ggX9_use_X9_cut : GoodIn wsX9_use wsX9_cut := goodIn_r _ [20] (by decide +kernel) (by decide +kernel)
set_option maxRecDepth 20000 in
theorem gX9_use_X9_cut : GoodIn wsX9_use (va_wsS RX9 155 yX9_cut wsX9_cut) := goodIn_app (goodIn_of _ (by decide +kernel)) ggX9_use_X9_cut
set_option maxRecDepth 20000 in
theorem ggX9_use_X9_setT : GoodIn wsX9_use wsX9_setT := goodIn_r _ [24, 6, 25, 26, 27, 28, 29, 30, 31, 32, 33, 34, 35, 36, 37, 38, 39, 40] (by decide +kernel) (by decide +kernel)
set_option maxRecDepth 20000 in
theorem gX9_use_X9_setT : GoodIn wsX9_use (wsV RX9 93 RX9 yX9_setT wsX9_setT) := goodIn_app (goodIn_of _ (by decide +kernel)) ggX9_use_X9_setT
theorem dX9_use_0 : decode cX9_use 0 = .ok (.aload_n 0, 1) := by decide +kernel
theorem dX9_use_1 : decode cX9_use 1 = .ok (.iload_n 1, 1) := by decide +kernel
theorem dX9_use_2 : decode cX9_use 2 = .ok (.invokevirtual 78, 3) := by decide +kernel
theorem dX9_use_5 : decode cX9_use 5 = .ok (.ifCond .eq 13, 3) := by decide +kernel
theorem dX9_use_8 : decode cX9_use 8 = .ok (.iload_n 2, 1) := by decide +kernel
theorem dX9_use_9 : decode cX9_use 9 = .ok (.iconst 1, 1) := by decide +kernel
theorem dX9_use_10 : decode cX9_use 10 = .ok (.bipush 9, 2) := by decide +kernel
theorem dX9_use_12 : decode cX9_use 12 = .ok (.invokestatic 45, 3) := by decide +kernel
theorem dX9_use_15 : decode cX9_use 15 = .ok (.ifCond .ne 5, 3) := by decide +kernel
theorem dX9_use_18 : decode cX9_use 18 = .ok (.iconst (-1), 1) := by decide +kernel
theorem dX9_use_19 : decode cX9_use 19 = .ok (.ireturn, 1) := by decide +kernel
theorem dX9_use_20 : decode cX9_use 20 = .ok (.aload_n 0, 1) := by decide +kernel
theorem dX9_use_21 : decode cX9_use 21 = .ok (.iload_n 1, 1) := by decide +kernel
theorem dX9_use_22 : decode cX9_use 22 = .ok (.invokevirtual 100, 3) := by decide +kernel
theorem dX9_use_25 : decode cX9_use 25 = .ok (.ifCond .ne 6, 3) := by decide +kernel
theorem dX9_use_28 : decode cX9_use 28 = .ok (.bipush (-5), 2) := by decide +kernel
theorem dX9_use_30 : decode cX9_use 30 = .ok (.ireturn, 1) := by decide +kernel
theorem dX9_use_31 : decode cX9_use 31 = .ok (.aload_n 0, 1) := by decide +kernel
theorem dX9_use_32 : decode cX9_use 32 = .ok (.iload_n 1, 1) := by decide +kernel
theorem dX9_use_33 : decode cX9_use 33 = .ok (.iconst 1, 1) := by decide +kernel
theorem dX9_use_34 : decode cX9_use 34 = .ok (.aload_n 0, 1) := by decide +kernel
theorem dX9_use_35 : decode cX9_use 35 = .ok (.iload_n 1, 1) := by decide +kernel
theorem dX9_use_36 : decode cX9_use 36 = .ok (.iconst 1, 1) := by decide +kernel
theorem dX9_use_37 : decode cX9_use 37 = .ok (.invokevirtual 81, 3) := by decide +kernel
theorem dX9_use_40 : decode cX9_use 40 = .ok (.iload_n 2, 1) := by decide +kernel
theorem dX9_use_41 : decode cX9_use 41 = .ok (.iadd, 1) := by decide +kernel
theorem dX9_use_42 : decode cX9_use 42 = .ok (.iconst 0, 1) := by decide +kernel
theorem dX9_use_43 : decode cX9_use 43 = .ok (.bipush 9, 2) := by decide +kernel
theorem dX9_use_45 : decode cX9_use 45 = .ok (.invokestatic 155, 3) := by decide +kernel
theorem dX9_use_48 : decode cX9_use 48 = .ok (.invokevirtual 93, 3) := by decide +kernel
theorem dX9_use_51 : decode cX9_use 51 = .ok (.aload_n 0, 1) := by decide +kernel
theorem dX9_use_52 : decode cX9_use 52 = .ok (.iload_n 1, 1) := by decide +kernel
theorem dX9_use_53 : decode cX9_use 53 = .ok (.iconst 1, 1) := by decide +kernel
theorem dX9_use_54 : decode cX9_use 54 = .ok (.invokevirtual 81, 3) := by decide +kernel
theorem dX9_use_57 : decode cX9_use 57 = .ok (.ireturn, 1) := by decide +kernel
set_option maxRecDepth 20000 in
theorem ggX9_days_X9_in : GoodIn wsX9_days wsX9_in := goodIn_r _ [5] (by decide +kernel) (by decide +kernel)
set_option maxRecDepth 20000 in
theorem gX9_days_X9_in : GoodIn wsX9_days (va_wsS RX9 45 yX9_in wsX9_in) := goodIn_app (goodIn_of _ (by decide +kernel)) ggX9_days_X9_in
theorem dX9_days_0 : decode cX9_days 0 = .ok (.iload_n 1, 1) := by decide +kernel
theorem dX9_days_1 : decode cX9_days 1 = .ok (.iconst 1, 1) := by decide +kernel
theorem dX9_days_2 : decode cX9_days 2 = .ok (.bipush 99, 2) := by decide +kernel
theorem dX9_days_4 : decode cX9_days 4 = .ok (.invokestatic 45, 3) := by decide +kernel
theorem dX9_days_7 : decode cX9_days 7 = .ok (.ifCond .ne 5, 3) := by decide +kernel
theorem dX9_days_10 : decode cX9_days 10 = .ok (.iconst (-1), 1) := by decide +kernel
theorem dX9_days_11 : decode cX9_days 11 = .ok (.ireturn, 1) := by decide +kernel
theorem dX9_days_12 : decode cX9_days 12 = .ok (.aload_n 0, 1) := by decide +kernel
theorem dX9_days_13 : decode cX9_days 13 = .ok (.getfield 9, 3) := by decide +kernel
theorem dX9_days_16 : decode cX9_days 16 = .ok (.sipush 1082, 3) := by decide +kernel
theorem dX9_days_19 : decode cX9_days 19 = .ok (.dup2, 1) := by decide +kernel
theorem dX9_days_20 : decode cX9_days 20 = .ok (.iaload, 1) := by decide +kernel
theorem dX9_days_21 : decode cX9_days 21 = .ok (.iload_n 1, 1) := by decide +kernel
theorem dX9_days_22 : decode cX9_days 22 = .ok (.iadd, 1) := by decide +kernel
theorem dX9_days_23 : decode cX9_days 23 = .ok (.iastore, 1) := by decide +kernel
theorem dX9_days_24 : decode cX9_days 24 = .ok (.aload_n 0, 1) := by decide +kernel
theorem dX9_days_25 : decode cX9_days 25 = .ok (.getfield 9, 3) := by decide +kernel
theorem dX9_days_28 : decode cX9_days 28 = .ok (.sipush 1082, 3) := by decide +kernel
theorem dX9_days_31 : decode cX9_days 31 = .ok (.iaload, 1) := by decide +kernel
theorem dX9_days_32 : decode cX9_days 32 = .ok (.ireturn, 1) := by decide +kernel
set_option maxRecDepth 20000 in
theorem ggX9_told_X9_isTool : GoodIn wsX9_told wsX9_isTool := goodIn_r _ [8, 1, 9, 10, 7, 11, 56, 57, 58, 59, 60, 61, 62, 63, 64, 65, 66, 67, 68, 69, 70, 71] (by decide +kernel) (by decide +kernel)
set_option maxRecDepth 20000 in
theorem gX9_told_X9_isTool : GoodIn wsX9_told (wsV RX9 78 RX9 yX9_isTool wsX9_isTool) := goodIn_app (goodIn_of _ (by decide +kernel)) ggX9_told_X9_isTool
set_option maxRecDepth 20000 in
theorem ggX9_told_X9_in : GoodIn wsX9_told wsX9_in := goodIn_r _ [11] (by decide +kernel) (by decide +kernel)
set_option maxRecDepth 20000 in
theorem gX9_told_X9_in : GoodIn wsX9_told (va_wsS RX9 45 yX9_in wsX9_in) := goodIn_app (goodIn_of _ (by decide +kernel)) ggX9_told_X9_in
set_option maxRecDepth 20000 in
theorem ggX9_told_X9_nextClaim : GoodIn wsX9_told wsX9_nextClaim := goodIn_r _ [15, 16, 17, 18, 7, 19, 1, 20, 21, 22, 23, 24, 25, 26, 27, 28, 29, 30, 31, 32, 33, 34, 35, 36, 37, 38, 39, 40, 41, 42, 43, 56, 57, 58, 59, 60, 61, 62, 63, 64, 65, 66, 67, 68, 69, 70, 71] (by decide +kernel) (by decide +kernel)
set_option maxRecDepth 20000 in
theorem gX9_told_X9_nextClaim : GoodIn wsX9_told (wsV RX9 136 RX9 yX9_nextClaim wsX9_nextClaim) := goodIn_app (goodIn_of _ (by decide +kernel)) ggX9_told_X9_nextClaim
set_option maxRecDepth 20000 in
theorem ggX9_told_X9_c : GoodIn wsX9_told wsX9_c := goodIn_r _ [35, 16, 17, 18, 7, 19, 1, 56, 57, 58, 59, 60, 61, 62, 63, 64, 65, 66, 67, 68, 69, 70, 71] (by decide +kernel) (by decide +kernel)
set_option maxRecDepth 20000 in
theorem gX9_told_X9_c : GoodIn wsX9_told (wsV RX9 107 RX9 yX9_c wsX9_c) := goodIn_app (goodIn_of _ (by decide +kernel)) ggX9_told_X9_c
set_option maxRecDepth 20000 in
theorem ggX9_told_X9_isOut : GoodIn wsX9_told wsX9_isOut := goodIn_r _ [47, 16, 17, 18, 7, 19, 1, 56, 57, 58, 59, 60, 61, 62, 63, 64, 65, 66, 67, 68, 69, 70, 71] (by decide +kernel) (by decide +kernel)
set_option maxRecDepth 20000 in
theorem gX9_told_X9_isOut : GoodIn wsX9_told (wsV RX9 100 RX9 yX9_isOut wsX9_isOut) := goodIn_app (goodIn_of _ (by decide +kernel)) ggX9_told_X9_isOut
set_option maxRecDepth 20000 in
theorem ggX9_told_X9_fee : GoodIn wsX9_told wsX9_fee := goodIn_r _ [51, 16, 17, 18, 7, 19, 1, 56, 57, 58, 59, 60, 61, 62, 63, 64, 65, 66, 67, 68, 69, 70, 71] (by decide +kernel) (by decide +kernel)
set_option maxRecDepth 20000 in
theorem gX9_told_X9_fee : GoodIn wsX9_told (wsV RX9 161 RX9 yX9_fee wsX9_fee) := goodIn_app (goodIn_of _ (by decide +kernel)) ggX9_told_X9_fee
set_option maxRecDepth 20000 in
theorem ggX9_told_X9_blames : GoodIn wsX9_told wsX9_blames := goodIn_r _ [55, 2, 3, 16, 17, 18, 7, 19, 1, 56, 57, 58, 59, 60, 61, 62, 63, 64, 65, 66, 67, 68, 69, 70, 71] (by decide +kernel) (by decide +kernel)
set_option maxRecDepth 20000 in
theorem gX9_told_X9_blames : GoodIn wsX9_told (wsV RX9 146 RX9 yX9_blames wsX9_blames) := goodIn_app (goodIn_of _ (by decide +kernel)) ggX9_told_X9_blames
theorem dX9_told_0 : decode cX9_told 0 = .ok (.aload_n 0, 1) := by decide +kernel
theorem dX9_told_1 : decode cX9_told 1 = .ok (.iload_n 1, 1) := by decide +kernel
theorem dX9_told_2 : decode cX9_told 2 = .ok (.invokevirtual 78, 3) := by decide +kernel
theorem dX9_told_5 : decode cX9_told 5 = .ok (.ifCond .eq 12, 3) := by decide +kernel
theorem dX9_told_8 : decode cX9_told 8 = .ok (.iload_n 2, 1) := by decide +kernel
theorem dX9_told_9 : decode cX9_told 9 = .ok (.iconst 0, 1) := by decide +kernel
theorem dX9_told_10 : decode cX9_told 10 = .ok (.iconst 2, 1) := by decide +kernel
theorem dX9_told_11 : decode cX9_told 11 = .ok (.invokestatic 45, 3) := by decide +kernel
theorem dX9_told_14 : decode cX9_told 14 = .ok (.ifCond .ne 5, 3) := by decide +kernel
theorem dX9_told_17 : decode cX9_told 17 = .ok (.iconst (-1), 1) := by decide +kernel
theorem dX9_told_18 : decode cX9_told 18 = .ok (.ireturn, 1) := by decide +kernel
theorem dX9_told_19 : decode cX9_told 19 = .ok (.iload_n 2, 1) := by decide +kernel
theorem dX9_told_20 : decode cX9_told 20 = .ok (.ifCond .ne 26, 3) := by decide +kernel
theorem dX9_told_23 : decode cX9_told 23 = .ok (.aload_n 0, 1) := by decide +kernel
theorem dX9_told_24 : decode cX9_told 24 = .ok (.iload_n 1, 1) := by decide +kernel
theorem dX9_told_25 : decode cX9_told 25 = .ok (.invokevirtual 136, 3) := by decide +kernel
theorem dX9_told_28 : decode cX9_told 28 = .ok (.istore_n 3, 1) := by decide +kernel
theorem dX9_told_29 : decode cX9_told 29 = .ok (.iload_n 3, 1) := by decide +kernel
theorem dX9_told_30 : decode cX9_told 30 = .ok (.ifCond .ge 8, 3) := by decide +kernel
theorem dX9_told_33 : decode cX9_told 33 = .ok (.bipush (-2), 2) := by decide +kernel
theorem dX9_told_35 : decode cX9_told 35 = .ok (.goto 10, 3) := by decide +kernel
theorem dX9_told_38 : decode cX9_told 38 = .ok (.aload_n 0, 1) := by decide +kernel
theorem dX9_told_39 : decode cX9_told 39 = .ok (.iload_n 1, 1) := by decide +kernel
theorem dX9_told_40 : decode cX9_told 40 = .ok (.iload_n 3, 1) := by decide +kernel
theorem dX9_told_41 : decode cX9_told 41 = .ok (.iconst 0, 1) := by decide +kernel
theorem dX9_told_42 : decode cX9_told 42 = .ok (.invokevirtual 107, 3) := by decide +kernel
theorem dX9_told_45 : decode cX9_told 45 = .ok (.ireturn, 1) := by decide +kernel
theorem dX9_told_46 : decode cX9_told 46 = .ok (.iload_n 2, 1) := by decide +kernel
theorem dX9_told_47 : decode cX9_told 47 = .ok (.iconst 2, 1) := by decide +kernel
theorem dX9_told_48 : decode cX9_told 48 = .ok (.if_icmp .ne 29, 3) := by decide +kernel
theorem dX9_told_51 : decode cX9_told 51 = .ok (.aload_n 0, 1) := by decide +kernel
theorem dX9_told_52 : decode cX9_told 52 = .ok (.iload_n 1, 1) := by decide +kernel
theorem dX9_told_53 : decode cX9_told 53 = .ok (.invokevirtual 100, 3) := by decide +kernel
theorem dX9_told_56 : decode cX9_told 56 = .ok (.ifCond .eq 19, 3) := by decide +kernel
theorem dX9_told_59 : decode cX9_told 59 = .ok (.aload_n 0, 1) := by decide +kernel
theorem dX9_told_60 : decode cX9_told 60 = .ok (.iload_n 1, 1) := by decide +kernel
theorem dX9_told_61 : decode cX9_told 61 = .ok (.aload_n 0, 1) := by decide +kernel
theorem dX9_told_62 : decode cX9_told 62 = .ok (.getfield 9, 3) := by decide +kernel
theorem dX9_told_65 : decode cX9_told 65 = .ok (.sipush 1082, 3) := by decide +kernel
theorem dX9_told_68 : decode cX9_told 68 = .ok (.iaload, 1) := by decide +kernel
theorem dX9_told_69 : decode cX9_told 69 = .ok (.invokevirtual 161, 3) := by decide +kernel
theorem dX9_told_72 : decode cX9_told 72 = .ok (.goto 4, 3) := by decide +kernel
theorem dX9_told_75 : decode cX9_told 75 = .ok (.iconst 0, 1) := by decide +kernel
theorem dX9_told_76 : decode cX9_told 76 = .ok (.ireturn, 1) := by decide +kernel
theorem dX9_told_77 : decode cX9_told 77 = .ok (.aload_n 0, 1) := by decide +kernel
theorem dX9_told_78 : decode cX9_told 78 = .ok (.iload_n 1, 1) := by decide +kernel
theorem dX9_told_79 : decode cX9_told 79 = .ok (.invokevirtual 146, 3) := by decide +kernel
theorem dX9_told_82 : decode cX9_told 82 = .ok (.iconst 0, 1) := by decide +kernel
theorem dX9_told_83 : decode cX9_told 83 = .ok (.istore_n 3, 1) := by decide +kernel
theorem dX9_told_84 : decode cX9_told 84 = .ok (.iconst 0, 1) := by decide +kernel
theorem dX9_told_85 : decode cX9_told 85 = .ok (.istore 4, 2) := by decide +kernel
theorem dX9_told_87 : decode cX9_told 87 = .ok (.iload 4, 2) := by decide +kernel
theorem dX9_told_89 : decode cX9_told 89 = .ok (.aload_n 0, 1) := by decide +kernel
theorem dX9_told_90 : decode cX9_told 90 = .ok (.getfield 139, 3) := by decide +kernel
theorem dX9_told_93 : decode cX9_told 93 = .ok (.if_icmp .ge 21, 3) := by decide +kernel
theorem dX9_told_96 : decode cX9_told 96 = .ok (.iload_n 3, 1) := by decide +kernel
theorem dX9_told_97 : decode cX9_told 97 = .ok (.iconst 1, 1) := by decide +kernel
theorem dX9_told_98 : decode cX9_told 98 = .ok (.aload_n 0, 1) := by decide +kernel
theorem dX9_told_99 : decode cX9_told 99 = .ok (.getfield 22, 3) := by decide +kernel
theorem dX9_told_102 : decode cX9_told 102 = .ok (.iload 4, 2) := by decide +kernel
theorem dX9_told_104 : decode cX9_told 104 = .ok (.iaload, 1) := by decide +kernel
theorem dX9_told_105 : decode cX9_told 105 = .ok (.ishl, 1) := by decide +kernel
theorem dX9_told_106 : decode cX9_told 106 = .ok (.ior, 1) := by decide +kernel
theorem dX9_told_107 : decode cX9_told 107 = .ok (.istore_n 3, 1) := by decide +kernel
theorem dX9_told_108 : decode cX9_told 108 = .ok (.iinc 4 1, 3) := by decide +kernel
theorem dX9_told_111 : decode cX9_told 111 = .ok (.goto (-24), 3) := by decide +kernel
theorem dX9_told_114 : decode cX9_told 114 = .ok (.iload_n 3, 1) := by decide +kernel
theorem dX9_told_115 : decode cX9_told 115 = .ok (.ireturn, 1) := by decide +kernel
set_option maxRecDepth 20000 in
theorem ggX9_share_X9_isTool : GoodIn wsX9_share wsX9_isTool := goodIn_r _ [7, 8, 9, 10, 6, 11, 36, 37, 38, 39, 40, 41, 42, 43, 44, 45, 46, 47, 48, 49, 50, 51] (by decide +kernel) (by decide +kernel)
set_option maxRecDepth 20000 in
theorem gX9_share_X9_isTool : GoodIn wsX9_share (wsV RX9 78 RX9 yX9_isTool wsX9_isTool) := goodIn_app (goodIn_of _ (by decide +kernel)) ggX9_share_X9_isTool
set_option maxRecDepth 20000 in
theorem ggX9_share_X9_isPerson : GoodIn wsX9_share wsX9_isPerson := goodIn_r _ [15, 8, 9, 10, 6, 11, 36, 37, 38, 39, 40, 41, 42, 43, 44, 45, 46, 47, 48, 49, 50, 51] (by decide +kernel) (by decide +kernel)
set_option maxRecDepth 20000 in
theorem gX9_share_X9_isPerson : GoodIn wsX9_share (wsV RX9 75 RX9 yX9_isPerson wsX9_isPerson) := goodIn_app (goodIn_of _ (by decide +kernel)) ggX9_share_X9_isPerson
set_option maxRecDepth 20000 in
theorem ggX9_share_X9_blames : GoodIn wsX9_share wsX9_blames := goodIn_r _ [19, 1, 2, 20, 21, 22, 6, 23, 8, 36, 37, 38, 39, 40, 41, 42, 43, 44, 45, 46, 47, 48, 49, 50, 51] (by decide +kernel) (by decide +kernel)
set_option maxRecDepth 20000 in
theorem gX9_share_X9_blames : GoodIn wsX9_share (wsV RX9 146 RX9 yX9_blames wsX9_blames) := goodIn_app (goodIn_of _ (by decide +kernel)) ggX9_share_X9_blames
set_option maxRecDepth 20000 in
theorem ggX9_share_X9_costOf : GoodIn wsX9_share wsX9_costOf := goodIn_r _ [27, 28, 29, 30, 6, 31, 20, 21, 22, 23, 8, 36, 37, 38, 39, 40, 41, 42, 43, 44, 45, 46, 47, 48, 49, 50, 51] (by decide +kernel) (by decide +kernel)
set_option maxRecDepth 20000 in
theorem gX9_share_X9_costOf : GoodIn wsX9_share (wsV RX9 149 RX9 yX9_costOf wsX9_costOf) := goodIn_app (goodIn_of _ (by decide +kernel)) ggX9_share_X9_costOf
set_option maxRecDepth 20000 in
theorem ggX9_share_X9_shareOf : GoodIn wsX9_share wsX9_shareOf := goodIn_r _ [35, 1, 36, 37, 38, 39, 40, 41, 42, 43, 44, 45, 46, 47, 48, 49, 50, 51] (by decide +kernel) (by decide +kernel)
set_option maxRecDepth 20000 in
theorem gX9_share_X9_shareOf : GoodIn wsX9_share (wsV RX9 152 RX9 yX9_shareOf wsX9_shareOf) := goodIn_app (goodIn_of _ (by decide +kernel)) ggX9_share_X9_shareOf
theorem dX9_share_0 : decode cX9_share 0 = .ok (.aload_n 0, 1) := by decide +kernel
theorem dX9_share_1 : decode cX9_share 1 = .ok (.iload_n 1, 1) := by decide +kernel
theorem dX9_share_2 : decode cX9_share 2 = .ok (.invokevirtual 78, 3) := by decide +kernel
theorem dX9_share_5 : decode cX9_share 5 = .ok (.ifCond .eq 11, 3) := by decide +kernel
theorem dX9_share_8 : decode cX9_share 8 = .ok (.aload_n 0, 1) := by decide +kernel
theorem dX9_share_9 : decode cX9_share 9 = .ok (.iload_n 2, 1) := by decide +kernel
theorem dX9_share_10 : decode cX9_share 10 = .ok (.invokevirtual 75, 3) := by decide +kernel
theorem dX9_share_13 : decode cX9_share 13 = .ok (.ifCond .ne 5, 3) := by decide +kernel
theorem dX9_share_16 : decode cX9_share 16 = .ok (.iconst (-1), 1) := by decide +kernel
theorem dX9_share_17 : decode cX9_share 17 = .ok (.ireturn, 1) := by decide +kernel
theorem dX9_share_18 : decode cX9_share 18 = .ok (.aload_n 0, 1) := by decide +kernel
theorem dX9_share_19 : decode cX9_share 19 = .ok (.iload_n 1, 1) := by decide +kernel
theorem dX9_share_20 : decode cX9_share 20 = .ok (.invokevirtual 146, 3) := by decide +kernel
theorem dX9_share_23 : decode cX9_share 23 = .ok (.iconst 0, 1) := by decide +kernel
theorem dX9_share_24 : decode cX9_share 24 = .ok (.istore_n 3, 1) := by decide +kernel
theorem dX9_share_25 : decode cX9_share 25 = .ok (.iload_n 3, 1) := by decide +kernel
theorem dX9_share_26 : decode cX9_share 26 = .ok (.aload_n 0, 1) := by decide +kernel
theorem dX9_share_27 : decode cX9_share 27 = .ok (.getfield 139, 3) := by decide +kernel
theorem dX9_share_30 : decode cX9_share 30 = .ok (.if_icmp .ge 30, 3) := by decide +kernel
theorem dX9_share_33 : decode cX9_share 33 = .ok (.aload_n 0, 1) := by decide +kernel
theorem dX9_share_34 : decode cX9_share 34 = .ok (.getfield 22, 3) := by decide +kernel
theorem dX9_share_37 : decode cX9_share 37 = .ok (.iload_n 3, 1) := by decide +kernel
theorem dX9_share_38 : decode cX9_share 38 = .ok (.iaload, 1) := by decide +kernel
theorem dX9_share_39 : decode cX9_share 39 = .ok (.iload_n 2, 1) := by decide +kernel
theorem dX9_share_40 : decode cX9_share 40 = .ok (.if_icmp .ne 14, 3) := by decide +kernel
theorem dX9_share_43 : decode cX9_share 43 = .ok (.aload_n 0, 1) := by decide +kernel
theorem dX9_share_44 : decode cX9_share 44 = .ok (.aload_n 0, 1) := by decide +kernel
theorem dX9_share_45 : decode cX9_share 45 = .ok (.iload_n 1, 1) := by decide +kernel
theorem dX9_share_46 : decode cX9_share 46 = .ok (.invokevirtual 149, 3) := by decide +kernel
theorem dX9_share_49 : decode cX9_share 49 = .ok (.iload_n 3, 1) := by decide +kernel
theorem dX9_share_50 : decode cX9_share 50 = .ok (.invokevirtual 152, 3) := by decide +kernel
theorem dX9_share_53 : decode cX9_share 53 = .ok (.ireturn, 1) := by decide +kernel
theorem dX9_share_54 : decode cX9_share 54 = .ok (.iinc 3 1, 3) := by decide +kernel
theorem dX9_share_57 : decode cX9_share 57 = .ok (.goto (-32), 3) := by decide +kernel
theorem dX9_share_60 : decode cX9_share 60 = .ok (.iconst 0, 1) := by decide +kernel
theorem dX9_share_61 : decode cX9_share 61 = .ok (.ireturn, 1) := by decide +kernel
set_option maxRecDepth 20000 in
theorem ggX9_swapsNow_X9_mayBeSwapped : GoodIn wsX9_swapsNow wsX9_mayBeSwapped := goodIn_r _ [7, 8, 9, 10, 6, 11, 12, 13, 14, 15, 1, 63, 64, 65, 66, 67, 68, 69, 70, 71, 72, 73, 74, 75, 76, 77, 78] (by decide +kernel) (by decide +kernel)
set_option maxRecDepth 20000 in
theorem gX9_swapsNow_X9_mayBeSwapped : GoodIn wsX9_swapsNow (wsV RX9 182 RX9 yX9_mayBeSwapped wsX9_mayBeSwapped) := goodIn_app (goodIn_of _ (by decide +kernel)) ggX9_swapsNow_X9_mayBeSwapped
set_option maxRecDepth 20000 in
theorem ggX9_swapsNow_X9_gain : GoodIn wsX9_swapsNow wsX9_gain := goodIn_r _ [19, 12, 13, 14, 6, 15, 1, 20, 21, 22, 23, 24, 25, 26, 27, 63, 64, 65, 66, 67, 68, 69, 70, 71, 72, 73, 74, 75, 76, 77, 78] (by decide +kernel) (by decide +kernel)
set_option maxRecDepth 20000 in
theorem gX9_swapsNow_X9_gain : GoodIn wsX9_swapsNow (wsV RX9 179 RX9 yX9_gain wsX9_gain) := goodIn_app (goodIn_of _ (by decide +kernel)) ggX9_swapsNow_X9_gain
set_option maxRecDepth 20000 in
theorem ggX9_swapsNow_X9_take : GoodIn wsX9_swapsNow wsX9_take := goodIn_r _ [30] (by decide +kernel) (by decide +kernel)
set_option maxRecDepth 20000 in
theorem gX9_swapsNow_X9_take : GoodIn wsX9_swapsNow (va_wsS RX9 185 yX9_take wsX9_take) := goodIn_app (goodIn_of _ (by decide +kernel)) ggX9_swapsNow_X9_take
set_option maxRecDepth 20000 in
theorem ggX9_swapsNow_X9_swapped : GoodIn wsX9_swapsNow wsX9_swapped := goodIn_r _ [34, 16, 17, 18, 6, 19, 12, 13, 14, 15, 1, 20, 21, 22, 23, 24, 25, 26, 27, 35, 36, 37, 38, 39, 40, 41, 42, 43, 44, 45, 46, 47, 48, 49, 50, 51, 52, 53, 54, 55, 56, 57, 58, 59, 60, 61, 62, 63, 64, 65, 66, 67, 68, 69, 70, 71, 72, 73, 74, 75, 76, 77, 78] (by decide +kernel) (by decide +kernel)
set_option maxRecDepth 20000 in
theorem gX9_swapsNow_X9_swapped : GoodIn wsX9_swapsNow (wsV RX9 189 RX9 yX9_swapped wsX9_swapped) := goodIn_app (goodIn_of _ (by decide +kernel)) ggX9_swapsNow_X9_swapped
theorem dX9_swapsNow_0 : decode cX9_swapsNow 0 = .ok (.iconst 0, 1) := by decide +kernel
theorem dX9_swapsNow_1 : decode cX9_swapsNow 1 = .ok (.istore_n 2, 1) := by decide +kernel
theorem dX9_swapsNow_2 : decode cX9_swapsNow 2 = .ok (.bipush (-2), 2) := by decide +kernel
theorem dX9_swapsNow_4 : decode cX9_swapsNow 4 = .ok (.istore_n 3, 1) := by decide +kernel
theorem dX9_swapsNow_5 : decode cX9_swapsNow 5 = .ok (.iconst 0, 1) := by decide +kernel
theorem dX9_swapsNow_6 : decode cX9_swapsNow 6 = .ok (.istore 4, 2) := by decide +kernel
theorem dX9_swapsNow_8 : decode cX9_swapsNow 8 = .ok (.iconst 0, 1) := by decide +kernel
theorem dX9_swapsNow_9 : decode cX9_swapsNow 9 = .ok (.istore 5, 2) := by decide +kernel
theorem dX9_swapsNow_11 : decode cX9_swapsNow 11 = .ok (.iload 5, 2) := by decide +kernel
theorem dX9_swapsNow_13 : decode cX9_swapsNow 13 = .ok (.aload_n 0, 1) := by decide +kernel
theorem dX9_swapsNow_14 : decode cX9_swapsNow 14 = .ok (.getfield 9, 3) := by decide +kernel
theorem dX9_swapsNow_17 : decode cX9_swapsNow 17 = .ok (.sipush 1081, 3) := by decide +kernel
theorem dX9_swapsNow_20 : decode cX9_swapsNow 20 = .ok (.iaload, 1) := by decide +kernel
theorem dX9_swapsNow_21 : decode cX9_swapsNow 21 = .ok (.if_icmp .ge 133, 3) := by decide +kernel
theorem dX9_swapsNow_24 : decode cX9_swapsNow 24 = .ok (.iload 5, 2) := by decide +kernel
theorem dX9_swapsNow_26 : decode cX9_swapsNow 26 = .ok (.iconst 1, 1) := by decide +kernel
theorem dX9_swapsNow_27 : decode cX9_swapsNow 27 = .ok (.iadd, 1) := by decide +kernel
theorem dX9_swapsNow_28 : decode cX9_swapsNow 28 = .ok (.istore 6, 2) := by decide +kernel
theorem dX9_swapsNow_30 : decode cX9_swapsNow 30 = .ok (.iload 6, 2) := by decide +kernel
theorem dX9_swapsNow_32 : decode cX9_swapsNow 32 = .ok (.aload_n 0, 1) := by decide +kernel
theorem dX9_swapsNow_33 : decode cX9_swapsNow 33 = .ok (.getfield 9, 3) := by decide +kernel
theorem dX9_swapsNow_36 : decode cX9_swapsNow 36 = .ok (.sipush 1081, 3) := by decide +kernel
theorem dX9_swapsNow_39 : decode cX9_swapsNow 39 = .ok (.iaload, 1) := by decide +kernel
theorem dX9_swapsNow_40 : decode cX9_swapsNow 40 = .ok (.if_icmp .ge 108, 3) := by decide +kernel
theorem dX9_swapsNow_43 : decode cX9_swapsNow 43 = .ok (.aload_n 0, 1) := by decide +kernel
theorem dX9_swapsNow_44 : decode cX9_swapsNow 44 = .ok (.iload 5, 2) := by decide +kernel
theorem dX9_swapsNow_46 : decode cX9_swapsNow 46 = .ok (.iload 6, 2) := by decide +kernel
theorem dX9_swapsNow_48 : decode cX9_swapsNow 48 = .ok (.invokevirtual 182, 3) := by decide +kernel
theorem dX9_swapsNow_51 : decode cX9_swapsNow 51 = .ok (.ifCond .eq 91, 3) := by decide +kernel
theorem dX9_swapsNow_54 : decode cX9_swapsNow 54 = .ok (.aload_n 0, 1) := by decide +kernel
theorem dX9_swapsNow_55 : decode cX9_swapsNow 55 = .ok (.iload 5, 2) := by decide +kernel
theorem dX9_swapsNow_57 : decode cX9_swapsNow 57 = .ok (.iload 6, 2) := by decide +kernel
theorem dX9_swapsNow_59 : decode cX9_swapsNow 59 = .ok (.invokevirtual 179, 3) := by decide +kernel
theorem dX9_swapsNow_62 : decode cX9_swapsNow 62 = .ok (.istore 7, 2) := by decide +kernel
theorem dX9_swapsNow_64 : decode cX9_swapsNow 64 = .ok (.aload_n 0, 1) := by decide +kernel
theorem dX9_swapsNow_65 : decode cX9_swapsNow 65 = .ok (.getfield 9, 3) := by decide +kernel
theorem dX9_swapsNow_68 : decode cX9_swapsNow 68 = .ok (.aload_n 0, 1) := by decide +kernel
theorem dX9_swapsNow_69 : decode cX9_swapsNow 69 = .ok (.getfield 13, 3) := by decide +kernel
theorem dX9_swapsNow_72 : decode cX9_swapsNow 72 = .ok (.invokestatic 185, 3) := by decide +kernel
theorem dX9_swapsNow_75 : decode cX9_swapsNow 75 = .ok (.aload_n 0, 1) := by decide +kernel
theorem dX9_swapsNow_76 : decode cX9_swapsNow 76 = .ok (.iload 5, 2) := by decide +kernel
theorem dX9_swapsNow_78 : decode cX9_swapsNow 78 = .ok (.iload 6, 2) := by decide +kernel
theorem dX9_swapsNow_80 : decode cX9_swapsNow 80 = .ok (.invokevirtual 189, 3) := by decide +kernel
theorem dX9_swapsNow_83 : decode cX9_swapsNow 83 = .ok (.ifCond .ne 7, 3) := by decide +kernel
theorem dX9_swapsNow_86 : decode cX9_swapsNow 86 = .ok (.iconst 1, 1) := by decide +kernel
theorem dX9_swapsNow_87 : decode cX9_swapsNow 87 = .ok (.goto 4, 3) := by decide +kernel
theorem dX9_swapsNow_90 : decode cX9_swapsNow 90 = .ok (.iconst 0, 1) := by decide +kernel
theorem dX9_swapsNow_91 : decode cX9_swapsNow 91 = .ok (.istore 8, 2) := by decide +kernel
theorem dX9_swapsNow_93 : decode cX9_swapsNow 93 = .ok (.aload_n 0, 1) := by decide +kernel
theorem dX9_swapsNow_94 : decode cX9_swapsNow 94 = .ok (.getfield 13, 3) := by decide +kernel
theorem dX9_swapsNow_97 : decode cX9_swapsNow 97 = .ok (.aload_n 0, 1) := by decide +kernel
theorem dX9_swapsNow_98 : decode cX9_swapsNow 98 = .ok (.getfield 9, 3) := by decide +kernel
theorem dX9_swapsNow_101 : decode cX9_swapsNow 101 = .ok (.invokestatic 185, 3) := by decide +kernel
theorem dX9_swapsNow_104 : decode cX9_swapsNow 104 = .ok (.iload_n 2, 1) := by decide +kernel
theorem dX9_swapsNow_105 : decode cX9_swapsNow 105 = .ok (.iload 8, 2) := by decide +kernel
theorem dX9_swapsNow_107 : decode cX9_swapsNow 107 = .ok (.ifCond .eq 7, 3) := by decide +kernel
theorem dX9_swapsNow_110 : decode cX9_swapsNow 110 = .ok (.iconst 1, 1) := by decide +kernel
theorem dX9_swapsNow_111 : decode cX9_swapsNow 111 = .ok (.goto 4, 3) := by decide +kernel
theorem dX9_swapsNow_114 : decode cX9_swapsNow 114 = .ok (.iconst 0, 1) := by decide +kernel
theorem dX9_swapsNow_115 : decode cX9_swapsNow 115 = .ok (.iadd, 1) := by decide +kernel
theorem dX9_swapsNow_116 : decode cX9_swapsNow 116 = .ok (.istore_n 2, 1) := by decide +kernel
theorem dX9_swapsNow_117 : decode cX9_swapsNow 117 = .ok (.iload 8, 2) := by decide +kernel
theorem dX9_swapsNow_119 : decode cX9_swapsNow 119 = .ok (.ifCond .eq 23, 3) := by decide +kernel
theorem dX9_swapsNow_122 : decode cX9_swapsNow 122 = .ok (.iload 7, 2) := by decide +kernel
theorem dX9_swapsNow_124 : decode cX9_swapsNow 124 = .ok (.iload 4, 2) := by decide +kernel
theorem dX9_swapsNow_126 : decode cX9_swapsNow 126 = .ok (.if_icmp .le 16, 3) := by decide +kernel
theorem dX9_swapsNow_129 : decode cX9_swapsNow 129 = .ok (.iload 7, 2) := by decide +kernel
theorem dX9_swapsNow_131 : decode cX9_swapsNow 131 = .ok (.istore 4, 2) := by decide +kernel
theorem dX9_swapsNow_133 : decode cX9_swapsNow 133 = .ok (.bipush 10, 2) := by decide +kernel
theorem dX9_swapsNow_135 : decode cX9_swapsNow 135 = .ok (.iload 5, 2) := by decide +kernel
theorem dX9_swapsNow_137 : decode cX9_swapsNow 137 = .ok (.imul, 1) := by decide +kernel
theorem dX9_swapsNow_138 : decode cX9_swapsNow 138 = .ok (.iload 6, 2) := by decide +kernel
theorem dX9_swapsNow_140 : decode cX9_swapsNow 140 = .ok (.iadd, 1) := by decide +kernel
theorem dX9_swapsNow_141 : decode cX9_swapsNow 141 = .ok (.istore_n 3, 1) := by decide +kernel
theorem dX9_swapsNow_142 : decode cX9_swapsNow 142 = .ok (.iinc 6 1, 3) := by decide +kernel
theorem dX9_swapsNow_145 : decode cX9_swapsNow 145 = .ok (.goto (-115), 3) := by decide +kernel
theorem dX9_swapsNow_148 : decode cX9_swapsNow 148 = .ok (.iinc 5 1, 3) := by decide +kernel
theorem dX9_swapsNow_151 : decode cX9_swapsNow 151 = .ok (.goto (-140), 3) := by decide +kernel
theorem dX9_swapsNow_154 : decode cX9_swapsNow 154 = .ok (.iload_n 1, 1) := by decide +kernel
theorem dX9_swapsNow_155 : decode cX9_swapsNow 155 = .ok (.ifCond .ne 7, 3) := by decide +kernel
theorem dX9_swapsNow_158 : decode cX9_swapsNow 158 = .ok (.iload_n 2, 1) := by decide +kernel
theorem dX9_swapsNow_159 : decode cX9_swapsNow 159 = .ok (.goto 4, 3) := by decide +kernel
theorem dX9_swapsNow_162 : decode cX9_swapsNow 162 = .ok (.iload_n 3, 1) := by decide +kernel
theorem dX9_swapsNow_163 : decode cX9_swapsNow 163 = .ok (.ireturn, 1) := by decide +kernel
set_option maxRecDepth 20000 in
theorem ggX9_wishesMore_X9_t : GoodIn wsX9_wishesMore wsX9_t := goodIn_r _ [5, 6, 15, 16, 17, 18, 19, 20, 21, 22, 23, 24, 25, 26, 27, 28, 29, 30] (by decide +kernel) (by decide +kernel)
set_option maxRecDepth 20000 in
theorem gX9_wishesMore_X9_t : GoodIn wsX9_wishesMore (wsV RX9 81 RX9 yX9_t wsX9_t) := goodIn_app (goodIn_of _ (by decide +kernel)) ggX9_wishesMore_X9_t
set_option maxRecDepth 20000 in
theorem ggX9_wishesMore_X9_more : GoodIn wsX9_wishesMore wsX9_more := goodIn_r _ [10, 11, 12, 13, 4, 14, 6, 15, 16, 17, 18, 19, 20, 21, 22, 23, 24, 25, 26, 27, 28, 29, 30] (by decide +kernel) (by decide +kernel)
set_option maxRecDepth 20000 in
theorem gX9_wishesMore_X9_more : GoodIn wsX9_wishesMore (wsV RX9 176 RX9 yX9_more wsX9_more) := goodIn_app (goodIn_of _ (by decide +kernel)) ggX9_wishesMore_X9_more
theorem dX9_wishesMore_0 : decode cX9_wishesMore 0 = .ok (.aload_n 0, 1) := by decide +kernel
theorem dX9_wishesMore_1 : decode cX9_wishesMore 1 = .ok (.aload_n 0, 1) := by decide +kernel
theorem dX9_wishesMore_2 : decode cX9_wishesMore 2 = .ok (.iload_n 1, 1) := by decide +kernel
theorem dX9_wishesMore_3 : decode cX9_wishesMore 3 = .ok (.iconst 2, 1) := by decide +kernel
theorem dX9_wishesMore_4 : decode cX9_wishesMore 4 = .ok (.invokevirtual 81, 3) := by decide +kernel
theorem dX9_wishesMore_7 : decode cX9_wishesMore 7 = .ok (.iload_n 1, 1) := by decide +kernel
theorem dX9_wishesMore_8 : decode cX9_wishesMore 8 = .ok (.iload_n 2, 1) := by decide +kernel
theorem dX9_wishesMore_9 : decode cX9_wishesMore 9 = .ok (.invokevirtual 176, 3) := by decide +kernel
theorem dX9_wishesMore_12 : decode cX9_wishesMore 12 = .ok (.ifCond .le 7, 3) := by decide +kernel
theorem dX9_wishesMore_15 : decode cX9_wishesMore 15 = .ok (.iconst 1, 1) := by decide +kernel
theorem dX9_wishesMore_16 : decode cX9_wishesMore 16 = .ok (.goto 4, 3) := by decide +kernel
theorem dX9_wishesMore_19 : decode cX9_wishesMore 19 = .ok (.iconst 0, 1) := by decide +kernel
theorem dX9_wishesMore_20 : decode cX9_wishesMore 20 = .ok (.ireturn, 1) := by decide +kernel
set_option maxRecDepth 20000 in
theorem ggX9_rings_X9_mayBeSwapped : GoodIn wsX9_rings wsX9_mayBeSwapped := goodIn_r _ [6, 7, 8, 9, 5, 10, 11, 12, 13, 14, 1, 27, 28, 29, 30, 31, 32, 33, 34, 35, 36, 37, 38, 39, 40, 41, 42] (by decide +kernel) (by decide +kernel)
set_option maxRecDepth 20000 in
theorem gX9_rings_X9_mayBeSwapped : GoodIn wsX9_rings (wsV RX9 182 RX9 yX9_mayBeSwapped wsX9_mayBeSwapped) := goodIn_app (goodIn_of _ (by decide +kernel)) ggX9_rings_X9_mayBeSwapped
set_option maxRecDepth 20000 in
theorem ggX9_rings_X9_wishesMore : GoodIn wsX9_rings wsX9_wishesMore := goodIn_r _ [18, 11, 12, 13, 5, 14, 1, 19, 20, 21, 22, 23, 24, 25, 26, 27, 28, 29, 30, 31, 32, 33, 34, 35, 36, 37, 38, 39, 40, 41, 42] (by decide +kernel) (by decide +kernel)
set_option maxRecDepth 20000 in
theorem gX9_rings_X9_wishesMore : GoodIn wsX9_rings (wsV RX9 192 RX9 yX9_wishesMore wsX9_wishesMore) := goodIn_app (goodIn_of _ (by decide +kernel)) ggX9_rings_X9_wishesMore
theorem dX9_rings_0 : decode cX9_rings 0 = .ok (.iconst 0, 1) := by decide +kernel
theorem dX9_rings_1 : decode cX9_rings 1 = .ok (.istore_n 1, 1) := by decide +kernel
theorem dX9_rings_2 : decode cX9_rings 2 = .ok (.iconst 0, 1) := by decide +kernel
theorem dX9_rings_3 : decode cX9_rings 3 = .ok (.istore_n 2, 1) := by decide +kernel
theorem dX9_rings_4 : decode cX9_rings 4 = .ok (.iload_n 2, 1) := by decide +kernel
theorem dX9_rings_5 : decode cX9_rings 5 = .ok (.aload_n 0, 1) := by decide +kernel
theorem dX9_rings_6 : decode cX9_rings 6 = .ok (.getfield 9, 3) := by decide +kernel
theorem dX9_rings_9 : decode cX9_rings 9 = .ok (.sipush 1081, 3) := by decide +kernel
theorem dX9_rings_12 : decode cX9_rings 12 = .ok (.iaload, 1) := by decide +kernel
theorem dX9_rings_13 : decode cX9_rings 13 = .ok (.if_icmp .ge 133, 3) := by decide +kernel
theorem dX9_rings_16 : decode cX9_rings 16 = .ok (.iload_n 2, 1) := by decide +kernel
theorem dX9_rings_17 : decode cX9_rings 17 = .ok (.iconst 1, 1) := by decide +kernel
theorem dX9_rings_18 : decode cX9_rings 18 = .ok (.iadd, 1) := by decide +kernel
theorem dX9_rings_19 : decode cX9_rings 19 = .ok (.istore_n 3, 1) := by decide +kernel
theorem dX9_rings_20 : decode cX9_rings 20 = .ok (.iload_n 3, 1) := by decide +kernel
theorem dX9_rings_21 : decode cX9_rings 21 = .ok (.aload_n 0, 1) := by decide +kernel
theorem dX9_rings_22 : decode cX9_rings 22 = .ok (.getfield 9, 3) := by decide +kernel
theorem dX9_rings_25 : decode cX9_rings 25 = .ok (.sipush 1081, 3) := by decide +kernel
theorem dX9_rings_28 : decode cX9_rings 28 = .ok (.iaload, 1) := by decide +kernel
theorem dX9_rings_29 : decode cX9_rings 29 = .ok (.if_icmp .ge 111, 3) := by decide +kernel
theorem dX9_rings_32 : decode cX9_rings 32 = .ok (.iload_n 2, 1) := by decide +kernel
theorem dX9_rings_33 : decode cX9_rings 33 = .ok (.iconst 1, 1) := by decide +kernel
theorem dX9_rings_34 : decode cX9_rings 34 = .ok (.iadd, 1) := by decide +kernel
theorem dX9_rings_35 : decode cX9_rings 35 = .ok (.istore 4, 2) := by decide +kernel
theorem dX9_rings_37 : decode cX9_rings 37 = .ok (.iload 4, 2) := by decide +kernel
theorem dX9_rings_39 : decode cX9_rings 39 = .ok (.aload_n 0, 1) := by decide +kernel
theorem dX9_rings_40 : decode cX9_rings 40 = .ok (.getfield 9, 3) := by decide +kernel
theorem dX9_rings_43 : decode cX9_rings 43 = .ok (.sipush 1081, 3) := by decide +kernel
theorem dX9_rings_46 : decode cX9_rings 46 = .ok (.iaload, 1) := by decide +kernel
theorem dX9_rings_47 : decode cX9_rings 47 = .ok (.if_icmp .ge 87, 3) := by decide +kernel
theorem dX9_rings_50 : decode cX9_rings 50 = .ok (.aload_n 0, 1) := by decide +kernel
theorem dX9_rings_51 : decode cX9_rings 51 = .ok (.iload_n 2, 1) := by decide +kernel
theorem dX9_rings_52 : decode cX9_rings 52 = .ok (.iload_n 3, 1) := by decide +kernel
theorem dX9_rings_53 : decode cX9_rings 53 = .ok (.invokevirtual 182, 3) := by decide +kernel
theorem dX9_rings_56 : decode cX9_rings 56 = .ok (.ifCond .eq 27, 3) := by decide +kernel
theorem dX9_rings_59 : decode cX9_rings 59 = .ok (.aload_n 0, 1) := by decide +kernel
theorem dX9_rings_60 : decode cX9_rings 60 = .ok (.iload_n 3, 1) := by decide +kernel
theorem dX9_rings_61 : decode cX9_rings 61 = .ok (.iload 4, 2) := by decide +kernel
theorem dX9_rings_63 : decode cX9_rings 63 = .ok (.invokevirtual 182, 3) := by decide +kernel
theorem dX9_rings_66 : decode cX9_rings 66 = .ok (.ifCond .eq 17, 3) := by decide +kernel
theorem dX9_rings_69 : decode cX9_rings 69 = .ok (.aload_n 0, 1) := by decide +kernel
theorem dX9_rings_70 : decode cX9_rings 70 = .ok (.iload 4, 2) := by decide +kernel
theorem dX9_rings_72 : decode cX9_rings 72 = .ok (.iload_n 2, 1) := by decide +kernel
theorem dX9_rings_73 : decode cX9_rings 73 = .ok (.invokevirtual 182, 3) := by decide +kernel
theorem dX9_rings_76 : decode cX9_rings 76 = .ok (.ifCond .eq 7, 3) := by decide +kernel
theorem dX9_rings_79 : decode cX9_rings 79 = .ok (.iconst 1, 1) := by decide +kernel
theorem dX9_rings_80 : decode cX9_rings 80 = .ok (.goto 4, 3) := by decide +kernel
theorem dX9_rings_83 : decode cX9_rings 83 = .ok (.iconst 0, 1) := by decide +kernel
theorem dX9_rings_84 : decode cX9_rings 84 = .ok (.istore 5, 2) := by decide +kernel
theorem dX9_rings_86 : decode cX9_rings 86 = .ok (.iload_n 1, 1) := by decide +kernel
theorem dX9_rings_87 : decode cX9_rings 87 = .ok (.iload 5, 2) := by decide +kernel
theorem dX9_rings_89 : decode cX9_rings 89 = .ok (.ifCond .eq 36, 3) := by decide +kernel
theorem dX9_rings_92 : decode cX9_rings 92 = .ok (.aload_n 0, 1) := by decide +kernel
theorem dX9_rings_93 : decode cX9_rings 93 = .ok (.iload_n 2, 1) := by decide +kernel
theorem dX9_rings_94 : decode cX9_rings 94 = .ok (.iload_n 3, 1) := by decide +kernel
theorem dX9_rings_95 : decode cX9_rings 95 = .ok (.invokevirtual 192, 3) := by decide +kernel
theorem dX9_rings_98 : decode cX9_rings 98 = .ok (.ifCond .eq 27, 3) := by decide +kernel
theorem dX9_rings_101 : decode cX9_rings 101 = .ok (.aload_n 0, 1) := by decide +kernel
theorem dX9_rings_102 : decode cX9_rings 102 = .ok (.iload_n 3, 1) := by decide +kernel
theorem dX9_rings_103 : decode cX9_rings 103 = .ok (.iload 4, 2) := by decide +kernel
theorem dX9_rings_105 : decode cX9_rings 105 = .ok (.invokevirtual 192, 3) := by decide +kernel
theorem dX9_rings_108 : decode cX9_rings 108 = .ok (.ifCond .eq 17, 3) := by decide +kernel
theorem dX9_rings_111 : decode cX9_rings 111 = .ok (.aload_n 0, 1) := by decide +kernel
theorem dX9_rings_112 : decode cX9_rings 112 = .ok (.iload 4, 2) := by decide +kernel
theorem dX9_rings_114 : decode cX9_rings 114 = .ok (.iload_n 2, 1) := by decide +kernel
theorem dX9_rings_115 : decode cX9_rings 115 = .ok (.invokevirtual 192, 3) := by decide +kernel
theorem dX9_rings_118 : decode cX9_rings 118 = .ok (.ifCond .eq 7, 3) := by decide +kernel
theorem dX9_rings_121 : decode cX9_rings 121 = .ok (.iconst 1, 1) := by decide +kernel
theorem dX9_rings_122 : decode cX9_rings 122 = .ok (.goto 4, 3) := by decide +kernel
theorem dX9_rings_125 : decode cX9_rings 125 = .ok (.iconst 0, 1) := by decide +kernel
theorem dX9_rings_126 : decode cX9_rings 126 = .ok (.iadd, 1) := by decide +kernel
theorem dX9_rings_127 : decode cX9_rings 127 = .ok (.istore_n 1, 1) := by decide +kernel
theorem dX9_rings_128 : decode cX9_rings 128 = .ok (.iinc 4 1, 3) := by decide +kernel
theorem dX9_rings_131 : decode cX9_rings 131 = .ok (.goto (-94), 3) := by decide +kernel
theorem dX9_rings_134 : decode cX9_rings 134 = .ok (.iinc 3 1, 3) := by decide +kernel
theorem dX9_rings_137 : decode cX9_rings 137 = .ok (.goto (-117), 3) := by decide +kernel
theorem dX9_rings_140 : decode cX9_rings 140 = .ok (.iinc 2 1, 3) := by decide +kernel
theorem dX9_rings_143 : decode cX9_rings 143 = .ok (.goto (-139), 3) := by decide +kernel
theorem dX9_rings_146 : decode cX9_rings 146 = .ok (.iload_n 1, 1) := by decide +kernel
theorem dX9_rings_147 : decode cX9_rings 147 = .ok (.ireturn, 1) := by decide +kernel
set_option maxRecDepth 20000 in
theorem ggX9_coins_X9_p : GoodIn wsX9_coins wsX9_p := goodIn_r _ [6, 1, 11, 12, 13, 14, 15, 16, 17, 18, 19, 20, 21, 22, 23, 24, 25, 26] (by decide +kernel) (by decide +kernel)
set_option maxRecDepth 20000 in
theorem gX9_coins_X9_p : GoodIn wsX9_coins (wsV RX9 53 RX9 yX9_p wsX9_p) := goodIn_app (goodIn_of _ (by decide +kernel)) ggX9_coins_X9_p
set_option maxRecDepth 20000 in
theorem ggX9_coins_X9_t : GoodIn wsX9_coins wsX9_t := goodIn_r _ [10, 1, 11, 12, 13, 14, 15, 16, 17, 18, 19, 20, 21, 22, 23, 24, 25, 26] (by decide +kernel) (by decide +kernel)
set_option maxRecDepth 20000 in
theorem gX9_coins_X9_t : GoodIn wsX9_coins (wsV RX9 81 RX9 yX9_t wsX9_t) := goodIn_app (goodIn_of _ (by decide +kernel)) ggX9_coins_X9_t
theorem dX9_coins_0 : decode cX9_coins 0 = .ok (.aload_n 0, 1) := by decide +kernel
theorem dX9_coins_1 : decode cX9_coins 1 = .ok (.getfield 9, 3) := by decide +kernel
theorem dX9_coins_4 : decode cX9_coins 4 = .ok (.sipush 1083, 3) := by decide +kernel
theorem dX9_coins_7 : decode cX9_coins 7 = .ok (.iaload, 1) := by decide +kernel
theorem dX9_coins_8 : decode cX9_coins 8 = .ok (.istore_n 1, 1) := by decide +kernel
theorem dX9_coins_9 : decode cX9_coins 9 = .ok (.iconst 0, 1) := by decide +kernel
theorem dX9_coins_10 : decode cX9_coins 10 = .ok (.istore_n 2, 1) := by decide +kernel
theorem dX9_coins_11 : decode cX9_coins 11 = .ok (.iload_n 2, 1) := by decide +kernel
theorem dX9_coins_12 : decode cX9_coins 12 = .ok (.aload_n 0, 1) := by decide +kernel
theorem dX9_coins_13 : decode cX9_coins 13 = .ok (.getfield 9, 3) := by decide +kernel
theorem dX9_coins_16 : decode cX9_coins 16 = .ok (.sipush 1080, 3) := by decide +kernel
theorem dX9_coins_19 : decode cX9_coins 19 = .ok (.iaload, 1) := by decide +kernel
theorem dX9_coins_20 : decode cX9_coins 20 = .ok (.if_icmp .ge 18, 3) := by decide +kernel
theorem dX9_coins_23 : decode cX9_coins 23 = .ok (.iload_n 1, 1) := by decide +kernel
theorem dX9_coins_24 : decode cX9_coins 24 = .ok (.aload_n 0, 1) := by decide +kernel
theorem dX9_coins_25 : decode cX9_coins 25 = .ok (.iload_n 2, 1) := by decide +kernel
theorem dX9_coins_26 : decode cX9_coins 26 = .ok (.iconst 1, 1) := by decide +kernel
theorem dX9_coins_27 : decode cX9_coins 27 = .ok (.invokevirtual 53, 3) := by decide +kernel
theorem dX9_coins_30 : decode cX9_coins 30 = .ok (.iadd, 1) := by decide +kernel
theorem dX9_coins_31 : decode cX9_coins 31 = .ok (.istore_n 1, 1) := by decide +kernel
theorem dX9_coins_32 : decode cX9_coins 32 = .ok (.iinc 2 1, 3) := by decide +kernel
theorem dX9_coins_35 : decode cX9_coins 35 = .ok (.goto (-24), 3) := by decide +kernel
theorem dX9_coins_38 : decode cX9_coins 38 = .ok (.iconst 0, 1) := by decide +kernel
theorem dX9_coins_39 : decode cX9_coins 39 = .ok (.istore_n 2, 1) := by decide +kernel
theorem dX9_coins_40 : decode cX9_coins 40 = .ok (.iload_n 2, 1) := by decide +kernel
theorem dX9_coins_41 : decode cX9_coins 41 = .ok (.aload_n 0, 1) := by decide +kernel
theorem dX9_coins_42 : decode cX9_coins 42 = .ok (.getfield 9, 3) := by decide +kernel
theorem dX9_coins_45 : decode cX9_coins 45 = .ok (.sipush 1081, 3) := by decide +kernel
theorem dX9_coins_48 : decode cX9_coins 48 = .ok (.iaload, 1) := by decide +kernel
theorem dX9_coins_49 : decode cX9_coins 49 = .ok (.if_icmp .ge 18, 3) := by decide +kernel
theorem dX9_coins_52 : decode cX9_coins 52 = .ok (.iload_n 1, 1) := by decide +kernel
theorem dX9_coins_53 : decode cX9_coins 53 = .ok (.aload_n 0, 1) := by decide +kernel
theorem dX9_coins_54 : decode cX9_coins 54 = .ok (.iload_n 2, 1) := by decide +kernel
theorem dX9_coins_55 : decode cX9_coins 55 = .ok (.iconst 5, 1) := by decide +kernel
theorem dX9_coins_56 : decode cX9_coins 56 = .ok (.invokevirtual 81, 3) := by decide +kernel
theorem dX9_coins_59 : decode cX9_coins 59 = .ok (.iadd, 1) := by decide +kernel
theorem dX9_coins_60 : decode cX9_coins 60 = .ok (.istore_n 1, 1) := by decide +kernel
theorem dX9_coins_61 : decode cX9_coins 61 = .ok (.iinc 2 1, 3) := by decide +kernel
theorem dX9_coins_64 : decode cX9_coins 64 = .ok (.goto (-24), 3) := by decide +kernel
theorem dX9_coins_67 : decode cX9_coins 67 = .ok (.iload_n 1, 1) := by decide +kernel
theorem dX9_coins_68 : decode cX9_coins 68 = .ok (.ireturn, 1) := by decide +kernel
set_option maxRecDepth 20000 in
theorem ggX9_swaps_X9_in : GoodIn wsX9_swaps wsX9_in := goodIn_r _ [4] (by decide +kernel) (by decide +kernel)
set_option maxRecDepth 20000 in
theorem gX9_swaps_X9_in : GoodIn wsX9_swaps (va_wsS RX9 45 yX9_in wsX9_in) := goodIn_app (goodIn_of _ (by decide +kernel)) ggX9_swaps_X9_in
set_option maxRecDepth 20000 in
theorem ggX9_swaps_X9_swapsNow : GoodIn wsX9_swaps wsX9_swapsNow := goodIn_r _ [8, 9, 10, 11, 12, 13, 3, 14, 15, 16, 17, 18, 19, 20, 21, 22, 23, 24, 25, 26, 27, 28, 29, 30, 31, 32, 33, 34, 35, 36, 37, 38, 39, 40, 41, 42, 43, 44, 45, 46, 47, 48, 49, 50, 51, 52, 53, 54, 55, 56, 57, 58, 59, 60, 61, 62, 63, 64, 65, 66, 67, 68, 69, 82, 83, 84, 85, 86, 87, 88, 89, 90, 91, 92, 93, 94, 95, 96, 97] (by decide +kernel) (by decide +kernel)
set_option maxRecDepth 20000 in
theorem gX9_swaps_X9_swapsNow : GoodIn wsX9_swaps (wsV RX9 195 RX9 yX9_swapsNow wsX9_swapsNow) := goodIn_app (goodIn_of _ (by decide +kernel)) ggX9_swaps_X9_swapsNow
set_option maxRecDepth 20000 in
theorem ggX9_swaps_X9_rings : GoodIn wsX9_swaps wsX9_rings := goodIn_r _ [73, 9, 11, 12, 13, 3, 14, 15, 16, 17, 18, 19, 20, 21, 22, 74, 75, 76, 77, 27, 28, 29, 30, 31, 32, 33, 34, 82, 83, 84, 85, 86, 87, 88, 89, 90, 91, 92, 93, 94, 95, 96, 97] (by decide +kernel) (by decide +kernel)
set_option maxRecDepth 20000 in
theorem gX9_swaps_X9_rings : GoodIn wsX9_swaps (wsV RX9 198 RX9 yX9_rings wsX9_rings) := goodIn_app (goodIn_of _ (by decide +kernel)) ggX9_swaps_X9_rings
set_option maxRecDepth 20000 in
theorem ggX9_swaps_X9_coins : GoodIn wsX9_swaps wsX9_coins := goodIn_r _ [81, 9, 31, 32, 33, 3, 34, 19, 20, 21, 22, 82, 83, 84, 85, 86, 87, 88, 89, 90, 91, 92, 93, 94, 95, 96, 97] (by decide +kernel) (by decide +kernel)
set_option maxRecDepth 20000 in
theorem gX9_swaps_X9_coins : GoodIn wsX9_swaps (wsV RX9 202 RX9 yX9_coins wsX9_coins) := goodIn_app (goodIn_of _ (by decide +kernel)) ggX9_swaps_X9_coins
theorem dX9_swaps_0 : decode cX9_swaps 0 = .ok (.iload_n 1, 1) := by decide +kernel
theorem dX9_swaps_1 : decode cX9_swaps 1 = .ok (.iconst 0, 1) := by decide +kernel
theorem dX9_swaps_2 : decode cX9_swaps 2 = .ok (.iconst 3, 1) := by decide +kernel
theorem dX9_swaps_3 : decode cX9_swaps 3 = .ok (.invokestatic 45, 3) := by decide +kernel
theorem dX9_swaps_6 : decode cX9_swaps 6 = .ok (.ifCond .ne 5, 3) := by decide +kernel
theorem dX9_swaps_9 : decode cX9_swaps 9 = .ok (.iconst (-1), 1) := by decide +kernel
theorem dX9_swaps_10 : decode cX9_swaps 10 = .ok (.ireturn, 1) := by decide +kernel
theorem dX9_swaps_11 : decode cX9_swaps 11 = .ok (.iload_n 1, 1) := by decide +kernel
theorem dX9_swaps_12 : decode cX9_swaps 12 = .ok (.iconst 2, 1) := by decide +kernel
theorem dX9_swaps_13 : decode cX9_swaps 13 = .ok (.if_icmp .ge 11, 3) := by decide +kernel
theorem dX9_swaps_16 : decode cX9_swaps 16 = .ok (.aload_n 0, 1) := by decide +kernel
theorem dX9_swaps_17 : decode cX9_swaps 17 = .ok (.iload_n 1, 1) := by decide +kernel
theorem dX9_swaps_18 : decode cX9_swaps 18 = .ok (.invokevirtual 195, 3) := by decide +kernel
theorem dX9_swaps_21 : decode cX9_swaps 21 = .ok (.goto 19, 3) := by decide +kernel
theorem dX9_swaps_24 : decode cX9_swaps 24 = .ok (.iload_n 1, 1) := by decide +kernel
theorem dX9_swaps_25 : decode cX9_swaps 25 = .ok (.iconst 2, 1) := by decide +kernel
theorem dX9_swaps_26 : decode cX9_swaps 26 = .ok (.if_icmp .ne 10, 3) := by decide +kernel
theorem dX9_swaps_29 : decode cX9_swaps 29 = .ok (.aload_n 0, 1) := by decide +kernel
theorem dX9_swaps_30 : decode cX9_swaps 30 = .ok (.invokevirtual 198, 3) := by decide +kernel
theorem dX9_swaps_33 : decode cX9_swaps 33 = .ok (.goto 7, 3) := by decide +kernel
theorem dX9_swaps_36 : decode cX9_swaps 36 = .ok (.aload_n 0, 1) := by decide +kernel
theorem dX9_swaps_37 : decode cX9_swaps 37 = .ok (.invokevirtual 202, 3) := by decide +kernel
theorem dX9_swaps_40 : decode cX9_swaps 40 = .ok (.ireturn, 1) := by decide +kernel
set_option maxRecDepth 20000 in
theorem ggX9_ahead_X9_in : GoodIn wsX9_ahead wsX9_in := goodIn_r _ [5] (by decide +kernel) (by decide +kernel)
set_option maxRecDepth 20000 in
theorem gX9_ahead_X9_in : GoodIn wsX9_ahead (va_wsS RX9 45 yX9_in wsX9_in) := goodIn_app (goodIn_of _ (by decide +kernel)) ggX9_ahead_X9_in
set_option maxRecDepth 20000 in
theorem ggX9_ahead_X9_isOut : GoodIn wsX9_ahead wsX9_isOut := goodIn_r _ [9, 10, 11, 12, 4, 13, 1, 18, 19, 20, 21, 22, 23, 24, 25, 26, 27, 28, 29, 30, 31, 32, 33] (by decide +kernel) (by decide +kernel)
set_option maxRecDepth 20000 in
theorem gX9_ahead_X9_isOut : GoodIn wsX9_ahead (wsV RX9 100 RX9 yX9_isOut wsX9_isOut) := goodIn_app (goodIn_of _ (by decide +kernel)) ggX9_ahead_X9_isOut
set_option maxRecDepth 20000 in
theorem ggX9_ahead_X9_t : GoodIn wsX9_ahead wsX9_t := goodIn_r _ [13, 1, 18, 19, 20, 21, 22, 23, 24, 25, 26, 27, 28, 29, 30, 31, 32, 33] (by decide +kernel) (by decide +kernel)
set_option maxRecDepth 20000 in
theorem gX9_ahead_X9_t : GoodIn wsX9_ahead (wsV RX9 81 RX9 yX9_t wsX9_t) := goodIn_app (goodIn_of _ (by decide +kernel)) ggX9_ahead_X9_t
set_option maxRecDepth 20000 in
theorem ggX9_ahead_X9_fee : GoodIn wsX9_ahead wsX9_fee := goodIn_r _ [17, 10, 11, 12, 4, 13, 1, 18, 19, 20, 21, 22, 23, 24, 25, 26, 27, 28, 29, 30, 31, 32, 33] (by decide +kernel) (by decide +kernel)
set_option maxRecDepth 20000 in
theorem gX9_ahead_X9_fee : GoodIn wsX9_ahead (wsV RX9 161 RX9 yX9_fee wsX9_fee) := goodIn_app (goodIn_of _ (by decide +kernel)) ggX9_ahead_X9_fee
theorem dX9_ahead_0 : decode cX9_ahead 0 = .ok (.iload_n 1, 1) := by decide +kernel
theorem dX9_ahead_1 : decode cX9_ahead 1 = .ok (.iconst 0, 1) := by decide +kernel
theorem dX9_ahead_2 : decode cX9_ahead 2 = .ok (.bipush 60, 2) := by decide +kernel
theorem dX9_ahead_4 : decode cX9_ahead 4 = .ok (.invokestatic 45, 3) := by decide +kernel
theorem dX9_ahead_7 : decode cX9_ahead 7 = .ok (.ifCond .eq 12, 3) := by decide +kernel
theorem dX9_ahead_10 : decode cX9_ahead 10 = .ok (.iload_n 2, 1) := by decide +kernel
theorem dX9_ahead_11 : decode cX9_ahead 11 = .ok (.iconst 0, 1) := by decide +kernel
theorem dX9_ahead_12 : decode cX9_ahead 12 = .ok (.iconst 1, 1) := by decide +kernel
theorem dX9_ahead_13 : decode cX9_ahead 13 = .ok (.invokestatic 45, 3) := by decide +kernel
theorem dX9_ahead_16 : decode cX9_ahead 16 = .ok (.ifCond .ne 5, 3) := by decide +kernel
theorem dX9_ahead_19 : decode cX9_ahead 19 = .ok (.iconst (-1), 1) := by decide +kernel
theorem dX9_ahead_20 : decode cX9_ahead 20 = .ok (.ireturn, 1) := by decide +kernel
theorem dX9_ahead_21 : decode cX9_ahead 21 = .ok (.iconst 0, 1) := by decide +kernel
theorem dX9_ahead_22 : decode cX9_ahead 22 = .ok (.istore_n 3, 1) := by decide +kernel
theorem dX9_ahead_23 : decode cX9_ahead 23 = .ok (.iconst 0, 1) := by decide +kernel
theorem dX9_ahead_24 : decode cX9_ahead 24 = .ok (.istore 4, 2) := by decide +kernel
theorem dX9_ahead_26 : decode cX9_ahead 26 = .ok (.iconst 0, 1) := by decide +kernel
theorem dX9_ahead_27 : decode cX9_ahead 27 = .ok (.istore 5, 2) := by decide +kernel
theorem dX9_ahead_29 : decode cX9_ahead 29 = .ok (.iload 5, 2) := by decide +kernel
theorem dX9_ahead_31 : decode cX9_ahead 31 = .ok (.aload_n 0, 1) := by decide +kernel
theorem dX9_ahead_32 : decode cX9_ahead 32 = .ok (.getfield 9, 3) := by decide +kernel
theorem dX9_ahead_35 : decode cX9_ahead 35 = .ok (.sipush 1081, 3) := by decide +kernel
theorem dX9_ahead_38 : decode cX9_ahead 38 = .ok (.iaload, 1) := by decide +kernel
theorem dX9_ahead_39 : decode cX9_ahead 39 = .ok (.if_icmp .ge 62, 3) := by decide +kernel
theorem dX9_ahead_42 : decode cX9_ahead 42 = .ok (.aload_n 0, 1) := by decide +kernel
theorem dX9_ahead_43 : decode cX9_ahead 43 = .ok (.iload 5, 2) := by decide +kernel
theorem dX9_ahead_45 : decode cX9_ahead 45 = .ok (.invokevirtual 100, 3) := by decide +kernel
theorem dX9_ahead_48 : decode cX9_ahead 48 = .ok (.ifCond .eq 47, 3) := by decide +kernel
theorem dX9_ahead_51 : decode cX9_ahead 51 = .ok (.aload_n 0, 1) := by decide +kernel
theorem dX9_ahead_52 : decode cX9_ahead 52 = .ok (.getfield 9, 3) := by decide +kernel
theorem dX9_ahead_55 : decode cX9_ahead 55 = .ok (.sipush 1082, 3) := by decide +kernel
theorem dX9_ahead_58 : decode cX9_ahead 58 = .ok (.iaload, 1) := by decide +kernel
theorem dX9_ahead_59 : decode cX9_ahead 59 = .ok (.iload_n 1, 1) := by decide +kernel
theorem dX9_ahead_60 : decode cX9_ahead 60 = .ok (.iadd, 1) := by decide +kernel
theorem dX9_ahead_61 : decode cX9_ahead 61 = .ok (.aload_n 0, 1) := by decide +kernel
theorem dX9_ahead_62 : decode cX9_ahead 62 = .ok (.iload 5, 2) := by decide +kernel
theorem dX9_ahead_64 : decode cX9_ahead 64 = .ok (.iconst 4, 1) := by decide +kernel
theorem dX9_ahead_65 : decode cX9_ahead 65 = .ok (.invokevirtual 81, 3) := by decide +kernel
theorem dX9_ahead_68 : decode cX9_ahead 68 = .ok (.if_icmp .le 27, 3) := by decide +kernel
theorem dX9_ahead_71 : decode cX9_ahead 71 = .ok (.iinc 3 1, 3) := by decide +kernel
theorem dX9_ahead_74 : decode cX9_ahead 74 = .ok (.iload 4, 2) := by decide +kernel
theorem dX9_ahead_76 : decode cX9_ahead 76 = .ok (.aload_n 0, 1) := by decide +kernel
theorem dX9_ahead_77 : decode cX9_ahead 77 = .ok (.iload 5, 2) := by decide +kernel
theorem dX9_ahead_79 : decode cX9_ahead 79 = .ok (.aload_n 0, 1) := by decide +kernel
theorem dX9_ahead_80 : decode cX9_ahead 80 = .ok (.getfield 9, 3) := by decide +kernel
theorem dX9_ahead_83 : decode cX9_ahead 83 = .ok (.sipush 1082, 3) := by decide +kernel
theorem dX9_ahead_86 : decode cX9_ahead 86 = .ok (.iaload, 1) := by decide +kernel
theorem dX9_ahead_87 : decode cX9_ahead 87 = .ok (.iload_n 1, 1) := by decide +kernel
theorem dX9_ahead_88 : decode cX9_ahead 88 = .ok (.iadd, 1) := by decide +kernel
theorem dX9_ahead_89 : decode cX9_ahead 89 = .ok (.invokevirtual 161, 3) := by decide +kernel
theorem dX9_ahead_92 : decode cX9_ahead 92 = .ok (.iadd, 1) := by decide +kernel
theorem dX9_ahead_93 : decode cX9_ahead 93 = .ok (.istore 4, 2) := by decide +kernel
theorem dX9_ahead_95 : decode cX9_ahead 95 = .ok (.iinc 5 1, 3) := by decide +kernel
theorem dX9_ahead_98 : decode cX9_ahead 98 = .ok (.goto (-69), 3) := by decide +kernel
theorem dX9_ahead_101 : decode cX9_ahead 101 = .ok (.iload_n 2, 1) := by decide +kernel
theorem dX9_ahead_102 : decode cX9_ahead 102 = .ok (.ifCond .ne 7, 3) := by decide +kernel
theorem dX9_ahead_105 : decode cX9_ahead 105 = .ok (.iload_n 3, 1) := by decide +kernel
theorem dX9_ahead_106 : decode cX9_ahead 106 = .ok (.goto 5, 3) := by decide +kernel
theorem dX9_ahead_109 : decode cX9_ahead 109 = .ok (.iload 4, 2) := by decide +kernel
theorem dX9_ahead_111 : decode cX9_ahead 111 = .ok (.ireturn, 1) := by decide +kernel
set_option maxRecDepth 20000 in
theorem ggX9_isHolder_X9_in : GoodIn wsX9_isHolder wsX9_in := goodIn_r _ [4] (by decide +kernel) (by decide +kernel)
set_option maxRecDepth 20000 in
theorem gX9_isHolder_X9_in : GoodIn wsX9_isHolder (va_wsS RX9 45 yX9_in wsX9_in) := goodIn_app (goodIn_of _ (by decide +kernel)) ggX9_isHolder_X9_in
theorem dX9_isHolder_0 : decode cX9_isHolder 0 = .ok (.iload_n 1, 1) := by decide +kernel
theorem dX9_isHolder_1 : decode cX9_isHolder 1 = .ok (.iconst 0, 1) := by decide +kernel
theorem dX9_isHolder_2 : decode cX9_isHolder 2 = .ok (.iconst 5, 1) := by decide +kernel
theorem dX9_isHolder_3 : decode cX9_isHolder 3 = .ok (.invokestatic 45, 3) := by decide +kernel
theorem dX9_isHolder_6 : decode cX9_isHolder 6 = .ok (.ireturn, 1) := by decide +kernel
set_option maxRecDepth 20000 in
theorem ggX9_judge_X9_isHolder : GoodIn wsX9_judge wsX9_isHolder := goodIn_r _ [9, 10, 11, 8, 12] (by decide +kernel) (by decide +kernel)
set_option maxRecDepth 20000 in
theorem gX9_judge_X9_isHolder : GoodIn wsX9_judge (wsV RX9 205 RX9 yX9_isHolder wsX9_isHolder) := goodIn_app (goodIn_of _ (by decide +kernel)) ggX9_judge_X9_isHolder
set_option maxRecDepth 20000 in
theorem ggX9_judge_X9_isTool : GoodIn wsX9_judge wsX9_isTool := goodIn_r _ [16, 2, 10, 11, 8, 12, 56, 57, 58, 59, 60, 61, 62, 63, 64, 65, 66, 67, 68, 69, 70, 71] (by decide +kernel) (by decide +kernel)
set_option maxRecDepth 20000 in
theorem gX9_judge_X9_isTool : GoodIn wsX9_judge (wsV RX9 78 RX9 yX9_isTool wsX9_isTool) := goodIn_app (goodIn_of _ (by decide +kernel)) ggX9_judge_X9_isTool
set_option maxRecDepth 20000 in
theorem ggX9_judge_X9_t : GoodIn wsX9_judge wsX9_t := goodIn_r _ [20, 2, 56, 57, 58, 59, 60, 61, 62, 63, 64, 65, 66, 67, 68, 69, 70, 71] (by decide +kernel) (by decide +kernel)
set_option maxRecDepth 20000 in
theorem gX9_judge_X9_t : GoodIn wsX9_judge (wsV RX9 81 RX9 yX9_t wsX9_t) := goodIn_app (goodIn_of _ (by decide +kernel)) ggX9_judge_X9_t
set_option maxRecDepth 20000 in
theorem ggX9_judge_X9_rankedAt : GoodIn wsX9_judge wsX9_rankedAt := goodIn_r _ [24, 2, 25, 26, 27, 8, 28, 29, 30, 31, 32, 33, 34, 35, 36, 37, 38, 39, 56, 57, 58, 59, 60, 61, 62, 63, 64, 65, 66, 67, 68, 69, 70, 71] (by decide +kernel) (by decide +kernel)
set_option maxRecDepth 20000 in
theorem gX9_judge_X9_rankedAt : GoodIn wsX9_judge (wsV RX9 72 RX9 yX9_rankedAt wsX9_rankedAt) := goodIn_app (goodIn_of _ (by decide +kernel)) ggX9_judge_X9_rankedAt
set_option maxRecDepth 20000 in
theorem ggX9_judge_X9_claimAt : GoodIn wsX9_judge wsX9_claimAt := goodIn_r _ [43, 17, 18, 19, 8, 20, 2, 44, 45, 46, 47, 48, 49, 50, 51, 52, 53, 54, 55, 56, 57, 58, 59, 60, 61, 62, 63, 64, 65, 66, 67, 68, 69, 70, 71] (by decide +kernel) (by decide +kernel)
set_option maxRecDepth 20000 in
theorem gX9_judge_X9_claimAt : GoodIn wsX9_judge (wsV RX9 117 RX9 yX9_claimAt wsX9_claimAt) := goodIn_app (goodIn_of _ (by decide +kernel)) ggX9_judge_X9_claimAt
set_option maxRecDepth 20000 in
theorem ggX9_judge_X9_c : GoodIn wsX9_judge wsX9_c := goodIn_r _ [55, 17, 18, 19, 8, 20, 2, 56, 57, 58, 59, 60, 61, 62, 63, 64, 65, 66, 67, 68, 69, 70, 71] (by decide +kernel) (by decide +kernel)
set_option maxRecDepth 20000 in
theorem gX9_judge_X9_c : GoodIn wsX9_judge (wsV RX9 107 RX9 yX9_c wsX9_c) := goodIn_app (goodIn_of _ (by decide +kernel)) ggX9_judge_X9_c
theorem dX9_judge_0 : decode cX9_judge 0 = .ok (.aload_n 0, 1) := by decide +kernel
theorem dX9_judge_1 : decode cX9_judge 1 = .ok (.iload_n 1, 1) := by decide +kernel
theorem dX9_judge_2 : decode cX9_judge 2 = .ok (.invokevirtual 205, 3) := by decide +kernel
theorem dX9_judge_5 : decode cX9_judge 5 = .ok (.ifCond .eq 16, 3) := by decide +kernel
theorem dX9_judge_8 : decode cX9_judge 8 = .ok (.iload_n 2, 1) := by decide +kernel
theorem dX9_judge_9 : decode cX9_judge 9 = .ok (.iconst (-1), 1) := by decide +kernel
theorem dX9_judge_10 : decode cX9_judge 10 = .ok (.if_icmp .eq 13, 3) := by decide +kernel
theorem dX9_judge_13 : decode cX9_judge 13 = .ok (.aload_n 0, 1) := by decide +kernel
theorem dX9_judge_14 : decode cX9_judge 14 = .ok (.iload_n 2, 1) := by decide +kernel
theorem dX9_judge_15 : decode cX9_judge 15 = .ok (.invokevirtual 78, 3) := by decide +kernel
theorem dX9_judge_18 : decode cX9_judge 18 = .ok (.ifCond .ne 5, 3) := by decide +kernel
theorem dX9_judge_21 : decode cX9_judge 21 = .ok (.iconst (-1), 1) := by decide +kernel
theorem dX9_judge_22 : decode cX9_judge 22 = .ok (.ireturn, 1) := by decide +kernel
theorem dX9_judge_23 : decode cX9_judge 23 = .ok (.aload_n 0, 1) := by decide +kernel
theorem dX9_judge_24 : decode cX9_judge 24 = .ok (.getfield 28, 3) := by decide +kernel
theorem dX9_judge_27 : decode cX9_judge 27 = .ok (.iload_n 1, 1) := by decide +kernel
theorem dX9_judge_28 : decode cX9_judge 28 = .ok (.iaload, 1) := by decide +kernel
theorem dX9_judge_29 : decode cX9_judge 29 = .ok (.iconst 3, 1) := by decide +kernel
theorem dX9_judge_30 : decode cX9_judge 30 = .ok (.if_icmp .eq 20, 3) := by decide +kernel
theorem dX9_judge_33 : decode cX9_judge 33 = .ok (.aload_n 0, 1) := by decide +kernel
theorem dX9_judge_34 : decode cX9_judge 34 = .ok (.getfield 28, 3) := by decide +kernel
theorem dX9_judge_37 : decode cX9_judge 37 = .ok (.iload_n 1, 1) := by decide +kernel
theorem dX9_judge_38 : decode cX9_judge 38 = .ok (.iaload, 1) := by decide +kernel
theorem dX9_judge_39 : decode cX9_judge 39 = .ok (.ifCond .ne 8, 3) := by decide +kernel
theorem dX9_judge_42 : decode cX9_judge 42 = .ok (.bipush (-11), 2) := by decide +kernel
theorem dX9_judge_44 : decode cX9_judge 44 = .ok (.goto 5, 3) := by decide +kernel
theorem dX9_judge_47 : decode cX9_judge 47 = .ok (.bipush (-12), 2) := by decide +kernel
theorem dX9_judge_49 : decode cX9_judge 49 = .ok (.ireturn, 1) := by decide +kernel
theorem dX9_judge_50 : decode cX9_judge 50 = .ok (.iload_n 2, 1) := by decide +kernel
theorem dX9_judge_51 : decode cX9_judge 51 = .ok (.iconst (-1), 1) := by decide +kernel
theorem dX9_judge_52 : decode cX9_judge 52 = .ok (.if_icmp .ne 14, 3) := by decide +kernel
theorem dX9_judge_55 : decode cX9_judge 55 = .ok (.aload_n 0, 1) := by decide +kernel
theorem dX9_judge_56 : decode cX9_judge 56 = .ok (.getfield 9, 3) := by decide +kernel
theorem dX9_judge_59 : decode cX9_judge 59 = .ok (.sipush 1080, 3) := by decide +kernel
theorem dX9_judge_62 : decode cX9_judge 62 = .ok (.iaload, 1) := by decide +kernel
theorem dX9_judge_63 : decode cX9_judge 63 = .ok (.goto 10, 3) := by decide +kernel
theorem dX9_judge_66 : decode cX9_judge 66 = .ok (.aload_n 0, 1) := by decide +kernel
theorem dX9_judge_67 : decode cX9_judge 67 = .ok (.iload_n 2, 1) := by decide +kernel
theorem dX9_judge_68 : decode cX9_judge 68 = .ok (.bipush 57, 2) := by decide +kernel
theorem dX9_judge_70 : decode cX9_judge 70 = .ok (.invokevirtual 81, 3) := by decide +kernel
theorem dX9_judge_73 : decode cX9_judge 73 = .ok (.istore_n 3, 1) := by decide +kernel
theorem dX9_judge_74 : decode cX9_judge 74 = .ok (.iconst 0, 1) := by decide +kernel
theorem dX9_judge_75 : decode cX9_judge 75 = .ok (.istore 4, 2) := by decide +kernel
theorem dX9_judge_77 : decode cX9_judge 77 = .ok (.iload 4, 2) := by decide +kernel
theorem dX9_judge_79 : decode cX9_judge 79 = .ok (.aload_n 0, 1) := by decide +kernel
theorem dX9_judge_80 : decode cX9_judge 80 = .ok (.getfield 34, 3) := by decide +kernel
theorem dX9_judge_83 : decode cX9_judge 83 = .ok (.iload_n 1, 1) := by decide +kernel
theorem dX9_judge_84 : decode cX9_judge 84 = .ok (.iaload, 1) := by decide +kernel
theorem dX9_judge_85 : decode cX9_judge 85 = .ok (.if_icmp .ge 72, 3) := by decide +kernel
theorem dX9_judge_88 : decode cX9_judge 88 = .ok (.iload 4, 2) := by decide +kernel
theorem dX9_judge_90 : decode cX9_judge 90 = .ok (.iload_n 3, 1) := by decide +kernel
theorem dX9_judge_91 : decode cX9_judge 91 = .ok (.if_icmp .lt 8, 3) := by decide +kernel
theorem dX9_judge_94 : decode cX9_judge 94 = .ok (.bipush (-2), 2) := by decide +kernel
theorem dX9_judge_96 : decode cX9_judge 96 = .ok (.goto 30, 3) := by decide +kernel
theorem dX9_judge_99 : decode cX9_judge 99 = .ok (.iload_n 2, 1) := by decide +kernel
theorem dX9_judge_100 : decode cX9_judge 100 = .ok (.iconst (-1), 1) := by decide +kernel
theorem dX9_judge_101 : decode cX9_judge 101 = .ok (.if_icmp .ne 12, 3) := by decide +kernel
theorem dX9_judge_104 : decode cX9_judge 104 = .ok (.aload_n 0, 1) := by decide +kernel
theorem dX9_judge_105 : decode cX9_judge 105 = .ok (.iload 4, 2) := by decide +kernel
theorem dX9_judge_107 : decode cX9_judge 107 = .ok (.invokevirtual 72, 3) := by decide +kernel
theorem dX9_judge_110 : decode cX9_judge 110 = .ok (.goto 16, 3) := by decide +kernel
theorem dX9_judge_113 : decode cX9_judge 113 = .ok (.aload_n 0, 1) := by decide +kernel
theorem dX9_judge_114 : decode cX9_judge 114 = .ok (.iload_n 2, 1) := by decide +kernel
theorem dX9_judge_115 : decode cX9_judge 115 = .ok (.aload_n 0, 1) := by decide +kernel
theorem dX9_judge_116 : decode cX9_judge 116 = .ok (.iload_n 2, 1) := by decide +kernel
theorem dX9_judge_117 : decode cX9_judge 117 = .ok (.iload 4, 2) := by decide +kernel
theorem dX9_judge_119 : decode cX9_judge 119 = .ok (.invokevirtual 117, 3) := by decide +kernel
theorem dX9_judge_122 : decode cX9_judge 122 = .ok (.iconst 0, 1) := by decide +kernel
theorem dX9_judge_123 : decode cX9_judge 123 = .ok (.invokevirtual 107, 3) := by decide +kernel
theorem dX9_judge_126 : decode cX9_judge 126 = .ok (.istore 5, 2) := by decide +kernel
theorem dX9_judge_128 : decode cX9_judge 128 = .ok (.iload 4, 2) := by decide +kernel
theorem dX9_judge_130 : decode cX9_judge 130 = .ok (.iload_n 3, 1) := by decide +kernel
theorem dX9_judge_131 : decode cX9_judge 131 = .ok (.if_icmp .ge 17, 3) := by decide +kernel
theorem dX9_judge_134 : decode cX9_judge 134 = .ok (.aload_n 0, 1) := by decide +kernel
theorem dX9_judge_135 : decode cX9_judge 135 = .ok (.getfield 39, 3) := by decide +kernel
theorem dX9_judge_138 : decode cX9_judge 138 = .ok (.iload_n 1, 1) := by decide +kernel
theorem dX9_judge_139 : decode cX9_judge 139 = .ok (.aaload, 1) := by decide +kernel
theorem dX9_judge_140 : decode cX9_judge 140 = .ok (.iload 4, 2) := by decide +kernel
theorem dX9_judge_142 : decode cX9_judge 142 = .ok (.iaload, 1) := by decide +kernel
theorem dX9_judge_143 : decode cX9_judge 143 = .ok (.iload 5, 2) := by decide +kernel
theorem dX9_judge_145 : decode cX9_judge 145 = .ok (.if_icmp .eq 6, 3) := by decide +kernel
theorem dX9_judge_148 : decode cX9_judge 148 = .ok (.iload 4, 2) := by decide +kernel
theorem dX9_judge_150 : decode cX9_judge 150 = .ok (.ireturn, 1) := by decide +kernel
theorem dX9_judge_151 : decode cX9_judge 151 = .ok (.iinc 4 1, 3) := by decide +kernel
theorem dX9_judge_154 : decode cX9_judge 154 = .ok (.goto (-77), 3) := by decide +kernel
theorem dX9_judge_157 : decode cX9_judge 157 = .ok (.iload_n 3, 1) := by decide +kernel
theorem dX9_judge_158 : decode cX9_judge 158 = .ok (.aload_n 0, 1) := by decide +kernel
theorem dX9_judge_159 : decode cX9_judge 159 = .ok (.getfield 34, 3) := by decide +kernel
theorem dX9_judge_162 : decode cX9_judge 162 = .ok (.iload_n 1, 1) := by decide +kernel
theorem dX9_judge_163 : decode cX9_judge 163 = .ok (.iaload, 1) := by decide +kernel
theorem dX9_judge_164 : decode cX9_judge 164 = .ok (.if_icmp .le 12, 3) := by decide +kernel
theorem dX9_judge_167 : decode cX9_judge 167 = .ok (.aload_n 0, 1) := by decide +kernel
theorem dX9_judge_168 : decode cX9_judge 168 = .ok (.getfield 34, 3) := by decide +kernel
theorem dX9_judge_171 : decode cX9_judge 171 = .ok (.iload_n 1, 1) := by decide +kernel
theorem dX9_judge_172 : decode cX9_judge 172 = .ok (.iaload, 1) := by decide +kernel
theorem dX9_judge_173 : decode cX9_judge 173 = .ok (.goto 5, 3) := by decide +kernel
theorem dX9_judge_176 : decode cX9_judge 176 = .ok (.bipush (-2), 2) := by decide +kernel
theorem dX9_judge_178 : decode cX9_judge 178 = .ok (.ireturn, 1) := by decide +kernel
set_option maxRecDepth 20000 in
theorem ggX9_feed_X9_in : GoodIn wsX9_feed wsX9_in := goodIn_r _ [6] (by decide +kernel) (by decide +kernel)
set_option maxRecDepth 20000 in
theorem gX9_feed_X9_in : GoodIn wsX9_feed (va_wsS RX9 45 yX9_in wsX9_in) := goodIn_app (goodIn_of _ (by decide +kernel)) ggX9_feed_X9_in
theorem dX9_feed_0 : decode cX9_feed 0 = .ok (.iload_n 1, 1) := by decide +kernel
theorem dX9_feed_1 : decode cX9_feed 1 = .ok (.iconst 0, 1) := by decide +kernel
theorem dX9_feed_2 : decode cX9_feed 2 = .ok (.sipush 255, 3) := by decide +kernel
theorem dX9_feed_5 : decode cX9_feed 5 = .ok (.invokestatic 45, 3) := by decide +kernel
theorem dX9_feed_8 : decode cX9_feed 8 = .ok (.ifCond .ne 5, 3) := by decide +kernel
theorem dX9_feed_11 : decode cX9_feed 11 = .ok (.iconst (-1), 1) := by decide +kernel
theorem dX9_feed_12 : decode cX9_feed 12 = .ok (.ireturn, 1) := by decide +kernel
theorem dX9_feed_13 : decode cX9_feed 13 = .ok (.aload_n 0, 1) := by decide +kernel
theorem dX9_feed_14 : decode cX9_feed 14 = .ok (.getfield 208, 3) := by decide +kernel
theorem dX9_feed_17 : decode cX9_feed 17 = .ok (.bipush 120, 2) := by decide +kernel
theorem dX9_feed_19 : decode cX9_feed 19 = .ok (.if_icmp .ne 6, 3) := by decide +kernel
theorem dX9_feed_22 : decode cX9_feed 22 = .ok (.bipush (-3), 2) := by decide +kernel
theorem dX9_feed_24 : decode cX9_feed 24 = .ok (.ireturn, 1) := by decide +kernel
theorem dX9_feed_25 : decode cX9_feed 25 = .ok (.aload_n 0, 1) := by decide +kernel
theorem dX9_feed_26 : decode cX9_feed 26 = .ok (.getfield 25, 3) := by decide +kernel
theorem dX9_feed_29 : decode cX9_feed 29 = .ok (.aload_n 0, 1) := by decide +kernel
theorem dX9_feed_30 : decode cX9_feed 30 = .ok (.dup, 1) := by decide +kernel
theorem dX9_feed_31 : decode cX9_feed 31 = .ok (.getfield 208, 3) := by decide +kernel
theorem dX9_feed_34 : decode cX9_feed 34 = .ok (.dup_x1, 1) := by decide +kernel
theorem dX9_feed_35 : decode cX9_feed 35 = .ok (.iconst 1, 1) := by decide +kernel
theorem dX9_feed_36 : decode cX9_feed 36 = .ok (.iadd, 1) := by decide +kernel
theorem dX9_feed_37 : decode cX9_feed 37 = .ok (.putfield 208, 3) := by decide +kernel
theorem dX9_feed_40 : decode cX9_feed 40 = .ok (.iload_n 1, 1) := by decide +kernel
theorem dX9_feed_41 : decode cX9_feed 41 = .ok (.iastore, 1) := by decide +kernel
theorem dX9_feed_42 : decode cX9_feed 42 = .ok (.aload_n 0, 1) := by decide +kernel
theorem dX9_feed_43 : decode cX9_feed 43 = .ok (.getfield 208, 3) := by decide +kernel
theorem dX9_feed_46 : decode cX9_feed 46 = .ok (.ireturn, 1) := by decide +kernel
set_option maxRecDepth 20000 in
theorem ggX9_sees_X9_in : GoodIn wsX9_sees wsX9_in := goodIn_r _ [8] (by decide +kernel) (by decide +kernel)
set_option maxRecDepth 20000 in
theorem gX9_sees_X9_in : GoodIn wsX9_sees (va_wsS RX9 45 yX9_in wsX9_in) := goodIn_app (goodIn_of _ (by decide +kernel)) ggX9_sees_X9_in
theorem dX9_sees_0 : decode cX9_sees 0 = .ok (.aload_n 0, 1) := by decide +kernel
theorem dX9_sees_1 : decode cX9_sees 1 = .ok (.getfield 211, 3) := by decide +kernel
theorem dX9_sees_4 : decode cX9_sees 4 = .ok (.ifCond .ge 35, 3) := by decide +kernel
theorem dX9_sees_7 : decode cX9_sees 7 = .ok (.aload_n 0, 1) := by decide +kernel
theorem dX9_sees_8 : decode cX9_sees 8 = .ok (.getfield 214, 3) := by decide +kernel
theorem dX9_sees_11 : decode cX9_sees 11 = .ok (.aload_n 0, 1) := by decide +kernel
theorem dX9_sees_12 : decode cX9_sees 12 = .ok (.getfield 208, 3) := by decide +kernel
theorem dX9_sees_15 : decode cX9_sees 15 = .ok (.if_icmp .ge 24, 3) := by decide +kernel
theorem dX9_sees_18 : decode cX9_sees 18 = .ok (.aload_n 0, 1) := by decide +kernel
theorem dX9_sees_19 : decode cX9_sees 19 = .ok (.getfield 25, 3) := by decide +kernel
theorem dX9_sees_22 : decode cX9_sees 22 = .ok (.aload_n 0, 1) := by decide +kernel
theorem dX9_sees_23 : decode cX9_sees 23 = .ok (.getfield 214, 3) := by decide +kernel
theorem dX9_sees_26 : decode cX9_sees 26 = .ok (.iaload, 1) := by decide +kernel
theorem dX9_sees_27 : decode cX9_sees 27 = .ok (.iload_n 1, 1) := by decide +kernel
theorem dX9_sees_28 : decode cX9_sees 28 = .ok (.iload_n 2, 1) := by decide +kernel
theorem dX9_sees_29 : decode cX9_sees 29 = .ok (.invokestatic 45, 3) := by decide +kernel
theorem dX9_sees_32 : decode cX9_sees 32 = .ok (.ifCond .eq 7, 3) := by decide +kernel
theorem dX9_sees_35 : decode cX9_sees 35 = .ok (.iconst 1, 1) := by decide +kernel
theorem dX9_sees_36 : decode cX9_sees 36 = .ok (.goto 4, 3) := by decide +kernel
theorem dX9_sees_39 : decode cX9_sees 39 = .ok (.iconst 0, 1) := by decide +kernel
theorem dX9_sees_40 : decode cX9_sees 40 = .ok (.ireturn, 1) := by decide +kernel
set_option maxRecDepth 20000 in
theorem ggX9_must_X9_sees : GoodIn wsX9_must wsX9_sees := goodIn_r _ [8, 1, 2, 9, 3, 10, 11, 7, 12, 13, 14, 15, 16, 17, 18, 19, 20, 21, 22, 23, 24, 25, 26, 27, 28] (by decide +kernel) (by decide +kernel)
set_option maxRecDepth 20000 in
theorem gX9_must_X9_sees : GoodIn wsX9_must (wsV RX9 217 RX9 yX9_sees wsX9_sees) := goodIn_app (goodIn_of _ (by decide +kernel)) ggX9_must_X9_sees
theorem dX9_must_0 : decode cX9_must 0 = .ok (.aload_n 0, 1) := by decide +kernel
theorem dX9_must_1 : decode cX9_must 1 = .ok (.iload_n 1, 1) := by decide +kernel
theorem dX9_must_2 : decode cX9_must 2 = .ok (.iload_n 2, 1) := by decide +kernel
theorem dX9_must_3 : decode cX9_must 3 = .ok (.invokevirtual 217, 3) := by decide +kernel
theorem dX9_must_6 : decode cX9_must 6 = .ok (.ifCond .ne 27, 3) := by decide +kernel
theorem dX9_must_9 : decode cX9_must 9 = .ok (.aload_n 0, 1) := by decide +kernel
theorem dX9_must_10 : decode cX9_must 10 = .ok (.aload_n 0, 1) := by decide +kernel
theorem dX9_must_11 : decode cX9_must 11 = .ok (.getfield 211, 3) := by decide +kernel
theorem dX9_must_14 : decode cX9_must 14 = .ok (.ifCond .ge 10, 3) := by decide +kernel
theorem dX9_must_17 : decode cX9_must 17 = .ok (.aload_n 0, 1) := by decide +kernel
theorem dX9_must_18 : decode cX9_must 18 = .ok (.getfield 214, 3) := by decide +kernel
theorem dX9_must_21 : decode cX9_must 21 = .ok (.goto 7, 3) := by decide +kernel
theorem dX9_must_24 : decode cX9_must 24 = .ok (.aload_n 0, 1) := by decide +kernel
theorem dX9_must_25 : decode cX9_must 25 = .ok (.getfield 211, 3) := by decide +kernel
theorem dX9_must_28 : decode cX9_must 28 = .ok (.putfield 211, 3) := by decide +kernel
theorem dX9_must_31 : decode cX9_must 31 = .ok (.iload_n 1, 1) := by decide +kernel
theorem dX9_must_32 : decode cX9_must 32 = .ok (.ireturn, 1) := by decide +kernel
theorem dX9_must_33 : decode cX9_must 33 = .ok (.aload_n 0, 1) := by decide +kernel
theorem dX9_must_34 : decode cX9_must 34 = .ok (.getfield 25, 3) := by decide +kernel
theorem dX9_must_37 : decode cX9_must 37 = .ok (.aload_n 0, 1) := by decide +kernel
theorem dX9_must_38 : decode cX9_must 38 = .ok (.dup, 1) := by decide +kernel
theorem dX9_must_39 : decode cX9_must 39 = .ok (.getfield 214, 3) := by decide +kernel
theorem dX9_must_42 : decode cX9_must 42 = .ok (.dup_x1, 1) := by decide +kernel
theorem dX9_must_43 : decode cX9_must 43 = .ok (.iconst 1, 1) := by decide +kernel
theorem dX9_must_44 : decode cX9_must 44 = .ok (.iadd, 1) := by decide +kernel
theorem dX9_must_45 : decode cX9_must 45 = .ok (.putfield 214, 3) := by decide +kernel
theorem dX9_must_48 : decode cX9_must 48 = .ok (.iaload, 1) := by decide +kernel
theorem dX9_must_49 : decode cX9_must 49 = .ok (.ireturn, 1) := by decide +kernel
set_option maxRecDepth 20000 in
theorem ggX9_number_X9_must : GoodIn wsX9_number wsX9_must := goodIn_r _ [7, 8, 2, 1, 9, 10, 11, 6, 12, 13, 14, 15, 16, 17, 18, 19, 20, 21, 22, 23, 24, 25, 26, 27, 28, 29, 30, 31, 32] (by decide +kernel) (by decide +kernel)
set_option maxRecDepth 20000 in
theorem gX9_number_X9_must : GoodIn wsX9_number (wsV RX9 220 RX9 yX9_must wsX9_must) := goodIn_app (goodIn_of _ (by decide +kernel)) ggX9_number_X9_must
set_option maxRecDepth 20000 in
theorem ggX9_number_X9_sees : GoodIn wsX9_number wsX9_sees := goodIn_r _ [12, 8, 2, 13, 1, 14, 15, 6, 16, 17, 18, 19, 20, 21, 22, 23, 24, 25, 26, 27, 28, 29, 30, 31, 32] (by decide +kernel) (by decide +kernel)
set_option maxRecDepth 20000 in
theorem gX9_number_X9_sees : GoodIn wsX9_number (wsV RX9 217 RX9 yX9_sees wsX9_sees) := goodIn_app (goodIn_of _ (by decide +kernel)) ggX9_number_X9_sees
theorem dX9_number_0 : decode cX9_number 0 = .ok (.aload_n 0, 1) := by decide +kernel
theorem dX9_number_1 : decode cX9_number 1 = .ok (.bipush 32, 2) := by decide +kernel
theorem dX9_number_3 : decode cX9_number 3 = .ok (.bipush 32, 2) := by decide +kernel
theorem dX9_number_5 : decode cX9_number 5 = .ok (.invokevirtual 220, 3) := by decide +kernel
theorem dX9_number_8 : decode cX9_number 8 = .ok (.pop, 1) := by decide +kernel
theorem dX9_number_9 : decode cX9_number 9 = .ok (.aload_n 0, 1) := by decide +kernel
theorem dX9_number_10 : decode cX9_number 10 = .ok (.bipush 48, 2) := by decide +kernel
theorem dX9_number_12 : decode cX9_number 12 = .ok (.bipush 57, 2) := by decide +kernel
theorem dX9_number_14 : decode cX9_number 14 = .ok (.invokevirtual 220, 3) := by decide +kernel
theorem dX9_number_17 : decode cX9_number 17 = .ok (.bipush 48, 2) := by decide +kernel
theorem dX9_number_19 : decode cX9_number 19 = .ok (.isub, 1) := by decide +kernel
theorem dX9_number_20 : decode cX9_number 20 = .ok (.istore_n 1, 1) := by decide +kernel
theorem dX9_number_21 : decode cX9_number 21 = .ok (.iconst 0, 1) := by decide +kernel
theorem dX9_number_22 : decode cX9_number 22 = .ok (.istore_n 2, 1) := by decide +kernel
theorem dX9_number_23 : decode cX9_number 23 = .ok (.iload_n 2, 1) := by decide +kernel
theorem dX9_number_24 : decode cX9_number 24 = .ok (.iconst 2, 1) := by decide +kernel
theorem dX9_number_25 : decode cX9_number 25 = .ok (.if_icmp .ge 45, 3) := by decide +kernel
theorem dX9_number_28 : decode cX9_number 28 = .ok (.aload_n 0, 1) := by decide +kernel
theorem dX9_number_29 : decode cX9_number 29 = .ok (.bipush 48, 2) := by decide +kernel
theorem dX9_number_31 : decode cX9_number 31 = .ok (.bipush 57, 2) := by decide +kernel
theorem dX9_number_33 : decode cX9_number 33 = .ok (.invokevirtual 217, 3) := by decide +kernel
theorem dX9_number_36 : decode cX9_number 36 = .ok (.ifCond .eq 34, 3) := by decide +kernel
theorem dX9_number_39 : decode cX9_number 39 = .ok (.bipush 10, 2) := by decide +kernel
theorem dX9_number_41 : decode cX9_number 41 = .ok (.iload_n 1, 1) := by decide +kernel
theorem dX9_number_42 : decode cX9_number 42 = .ok (.imul, 1) := by decide +kernel
theorem dX9_number_43 : decode cX9_number 43 = .ok (.aload_n 0, 1) := by decide +kernel
theorem dX9_number_44 : decode cX9_number 44 = .ok (.getfield 25, 3) := by decide +kernel
theorem dX9_number_47 : decode cX9_number 47 = .ok (.aload_n 0, 1) := by decide +kernel
theorem dX9_number_48 : decode cX9_number 48 = .ok (.dup, 1) := by decide +kernel
theorem dX9_number_49 : decode cX9_number 49 = .ok (.getfield 214, 3) := by decide +kernel
theorem dX9_number_52 : decode cX9_number 52 = .ok (.dup_x1, 1) := by decide +kernel
theorem dX9_number_53 : decode cX9_number 53 = .ok (.iconst 1, 1) := by decide +kernel
theorem dX9_number_54 : decode cX9_number 54 = .ok (.iadd, 1) := by decide +kernel
theorem dX9_number_55 : decode cX9_number 55 = .ok (.putfield 214, 3) := by decide +kernel
theorem dX9_number_58 : decode cX9_number 58 = .ok (.iaload, 1) := by decide +kernel
theorem dX9_number_59 : decode cX9_number 59 = .ok (.iadd, 1) := by decide +kernel
theorem dX9_number_60 : decode cX9_number 60 = .ok (.bipush 48, 2) := by decide +kernel
theorem dX9_number_62 : decode cX9_number 62 = .ok (.isub, 1) := by decide +kernel
theorem dX9_number_63 : decode cX9_number 63 = .ok (.istore_n 1, 1) := by decide +kernel
theorem dX9_number_64 : decode cX9_number 64 = .ok (.iinc 2 1, 3) := by decide +kernel
theorem dX9_number_67 : decode cX9_number 67 = .ok (.goto (-44), 3) := by decide +kernel
theorem dX9_number_70 : decode cX9_number 70 = .ok (.iload_n 1, 1) := by decide +kernel
theorem dX9_number_71 : decode cX9_number 71 = .ok (.ireturn, 1) := by decide +kernel
set_option maxRecDepth 20000 in
theorem ggX9_nameHere_X9_must : GoodIn wsX9_nameHere wsX9_must := goodIn_r _ [7, 8, 2, 1, 9, 10, 11, 6, 12, 13, 14, 15, 16, 17, 18, 19, 20, 21, 22, 23, 24, 25, 26, 27, 28, 29, 30, 31, 32] (by decide +kernel) (by decide +kernel)
set_option maxRecDepth 20000 in
theorem gX9_nameHere_X9_must : GoodIn wsX9_nameHere (wsV RX9 220 RX9 yX9_must wsX9_must) := goodIn_app (goodIn_of _ (by decide +kernel)) ggX9_nameHere_X9_must
set_option maxRecDepth 20000 in
theorem ggX9_nameHere_X9_sees : GoodIn wsX9_nameHere wsX9_sees := goodIn_r _ [12, 8, 2, 13, 1, 14, 15, 6, 16, 17, 18, 19, 20, 21, 22, 23, 24, 25, 26, 27, 28, 29, 30, 31, 32] (by decide +kernel) (by decide +kernel)
set_option maxRecDepth 20000 in
theorem gX9_nameHere_X9_sees : GoodIn wsX9_nameHere (wsV RX9 217 RX9 yX9_sees wsX9_sees) := goodIn_app (goodIn_of _ (by decide +kernel)) ggX9_nameHere_X9_sees
theorem dX9_nameHere_0 : decode cX9_nameHere 0 = .ok (.aload_n 0, 1) := by decide +kernel
theorem dX9_nameHere_1 : decode cX9_nameHere 1 = .ok (.bipush 32, 2) := by decide +kernel
theorem dX9_nameHere_3 : decode cX9_nameHere 3 = .ok (.bipush 32, 2) := by decide +kernel
theorem dX9_nameHere_5 : decode cX9_nameHere 5 = .ok (.invokevirtual 220, 3) := by decide +kernel
theorem dX9_nameHere_8 : decode cX9_nameHere 8 = .ok (.pop, 1) := by decide +kernel
theorem dX9_nameHere_9 : decode cX9_nameHere 9 = .ok (.aload_n 0, 1) := by decide +kernel
theorem dX9_nameHere_10 : decode cX9_nameHere 10 = .ok (.bipush 97, 2) := by decide +kernel
theorem dX9_nameHere_12 : decode cX9_nameHere 12 = .ok (.bipush 122, 2) := by decide +kernel
theorem dX9_nameHere_14 : decode cX9_nameHere 14 = .ok (.invokevirtual 220, 3) := by decide +kernel
theorem dX9_nameHere_17 : decode cX9_nameHere 17 = .ok (.bipush 97, 2) := by decide +kernel
theorem dX9_nameHere_19 : decode cX9_nameHere 19 = .ok (.isub, 1) := by decide +kernel
theorem dX9_nameHere_20 : decode cX9_nameHere 20 = .ok (.iconst 1, 1) := by decide +kernel
theorem dX9_nameHere_21 : decode cX9_nameHere 21 = .ok (.iadd, 1) := by decide +kernel
theorem dX9_nameHere_22 : decode cX9_nameHere 22 = .ok (.istore_n 1, 1) := by decide +kernel
theorem dX9_nameHere_23 : decode cX9_nameHere 23 = .ok (.iconst 0, 1) := by decide +kernel
theorem dX9_nameHere_24 : decode cX9_nameHere 24 = .ok (.istore_n 2, 1) := by decide +kernel
theorem dX9_nameHere_25 : decode cX9_nameHere 25 = .ok (.iload_n 2, 1) := by decide +kernel
theorem dX9_nameHere_26 : decode cX9_nameHere 26 = .ok (.iconst 2, 1) := by decide +kernel
theorem dX9_nameHere_27 : decode cX9_nameHere 27 = .ok (.if_icmp .ge 47, 3) := by decide +kernel
theorem dX9_nameHere_30 : decode cX9_nameHere 30 = .ok (.aload_n 0, 1) := by decide +kernel
theorem dX9_nameHere_31 : decode cX9_nameHere 31 = .ok (.bipush 97, 2) := by decide +kernel
theorem dX9_nameHere_33 : decode cX9_nameHere 33 = .ok (.bipush 122, 2) := by decide +kernel
theorem dX9_nameHere_35 : decode cX9_nameHere 35 = .ok (.invokevirtual 217, 3) := by decide +kernel
theorem dX9_nameHere_38 : decode cX9_nameHere 38 = .ok (.ifCond .eq 36, 3) := by decide +kernel
theorem dX9_nameHere_41 : decode cX9_nameHere 41 = .ok (.bipush 27, 2) := by decide +kernel
theorem dX9_nameHere_43 : decode cX9_nameHere 43 = .ok (.iload_n 1, 1) := by decide +kernel
theorem dX9_nameHere_44 : decode cX9_nameHere 44 = .ok (.imul, 1) := by decide +kernel
theorem dX9_nameHere_45 : decode cX9_nameHere 45 = .ok (.aload_n 0, 1) := by decide +kernel
theorem dX9_nameHere_46 : decode cX9_nameHere 46 = .ok (.getfield 25, 3) := by decide +kernel
theorem dX9_nameHere_49 : decode cX9_nameHere 49 = .ok (.aload_n 0, 1) := by decide +kernel
theorem dX9_nameHere_50 : decode cX9_nameHere 50 = .ok (.dup, 1) := by decide +kernel
theorem dX9_nameHere_51 : decode cX9_nameHere 51 = .ok (.getfield 214, 3) := by decide +kernel
theorem dX9_nameHere_54 : decode cX9_nameHere 54 = .ok (.dup_x1, 1) := by decide +kernel
theorem dX9_nameHere_55 : decode cX9_nameHere 55 = .ok (.iconst 1, 1) := by decide +kernel
theorem dX9_nameHere_56 : decode cX9_nameHere 56 = .ok (.iadd, 1) := by decide +kernel
theorem dX9_nameHere_57 : decode cX9_nameHere 57 = .ok (.putfield 214, 3) := by decide +kernel
theorem dX9_nameHere_60 : decode cX9_nameHere 60 = .ok (.iaload, 1) := by decide +kernel
theorem dX9_nameHere_61 : decode cX9_nameHere 61 = .ok (.iadd, 1) := by decide +kernel
theorem dX9_nameHere_62 : decode cX9_nameHere 62 = .ok (.bipush 97, 2) := by decide +kernel
theorem dX9_nameHere_64 : decode cX9_nameHere 64 = .ok (.isub, 1) := by decide +kernel
theorem dX9_nameHere_65 : decode cX9_nameHere 65 = .ok (.iconst 1, 1) := by decide +kernel
theorem dX9_nameHere_66 : decode cX9_nameHere 66 = .ok (.iadd, 1) := by decide +kernel
theorem dX9_nameHere_67 : decode cX9_nameHere 67 = .ok (.istore_n 1, 1) := by decide +kernel
theorem dX9_nameHere_68 : decode cX9_nameHere 68 = .ok (.iinc 2 1, 3) := by decide +kernel
theorem dX9_nameHere_71 : decode cX9_nameHere 71 = .ok (.goto (-46), 3) := by decide +kernel
theorem dX9_nameHere_74 : decode cX9_nameHere 74 = .ok (.iload_n 1, 1) := by decide +kernel
theorem dX9_nameHere_75 : decode cX9_nameHere 75 = .ok (.ireturn, 1) := by decide +kernel
theorem dX9_partsOf_0 : decode cX9_partsOf 0 = .ok (.iload_n 0, 1) := by decide +kernel
theorem dX9_partsOf_1 : decode cX9_partsOf 1 = .ok (.tableswitch 107 99 119 #[99, 105, 107, 107, 103, 107, 107, 107, 105, 101, 107, 107, 107, 103, 107, 105, 103, 105, 103, 107, 101], 99) := by decide +kernel
theorem dX9_partsOf_100 : decode cX9_partsOf 100 = .ok (.iconst 4, 1) := by decide +kernel
theorem dX9_partsOf_101 : decode cX9_partsOf 101 = .ok (.ireturn, 1) := by decide +kernel
theorem dX9_partsOf_102 : decode cX9_partsOf 102 = .ok (.iconst 3, 1) := by decide +kernel
theorem dX9_partsOf_103 : decode cX9_partsOf 103 = .ok (.ireturn, 1) := by decide +kernel
theorem dX9_partsOf_104 : decode cX9_partsOf 104 = .ok (.iconst 2, 1) := by decide +kernel
theorem dX9_partsOf_105 : decode cX9_partsOf 105 = .ok (.ireturn, 1) := by decide +kernel
theorem dX9_partsOf_106 : decode cX9_partsOf 106 = .ok (.iconst 1, 1) := by decide +kernel
theorem dX9_partsOf_107 : decode cX9_partsOf 107 = .ok (.ireturn, 1) := by decide +kernel
theorem dX9_partsOf_108 : decode cX9_partsOf 108 = .ok (.bipush (-2), 2) := by decide +kernel
theorem dX9_partsOf_110 : decode cX9_partsOf 110 = .ok (.ireturn, 1) := by decide +kernel
set_option maxRecDepth 20000 in
theorem ggX9_line_X9_partsOf : GoodIn wsX9_line wsX9_partsOf := goodIn_r _ [9] (by decide +kernel) (by decide +kernel)
set_option maxRecDepth 20000 in
theorem gX9_line_X9_partsOf : GoodIn wsX9_line (va_wsS RX9 223 yX9_partsOf wsX9_partsOf) := goodIn_app (goodIn_of _ (by decide +kernel)) ggX9_line_X9_partsOf
set_option maxRecDepth 20000 in
theorem ggX9_line_X9_nameHere : GoodIn wsX9_line wsX9_nameHere := goodIn_r _ [13, 4, 2, 14, 15, 16, 8, 17, 1, 18, 19, 20, 21, 3, 22, 23, 24, 29, 30, 31, 32, 33, 34, 35, 36, 37, 38, 39, 40, 41, 42, 43, 44] (by decide +kernel) (by decide +kernel)
set_option maxRecDepth 20000 in
theorem gX9_line_X9_nameHere : GoodIn wsX9_line (wsV RX9 226 RX9 yX9_nameHere wsX9_nameHere) := goodIn_app (goodIn_of _ (by decide +kernel)) ggX9_line_X9_nameHere
set_option maxRecDepth 20000 in
theorem ggX9_line_X9_number : GoodIn wsX9_line wsX9_number := goodIn_r _ [28, 4, 2, 14, 15, 16, 8, 17, 1, 18, 19, 20, 21, 3, 22, 23, 24, 29, 30, 31, 32, 33, 34, 35, 36, 37, 38, 39, 40, 41, 42, 43, 44] (by decide +kernel) (by decide +kernel)
set_option maxRecDepth 20000 in
theorem gX9_line_X9_number : GoodIn wsX9_line (wsV RX9 229 RX9 yX9_number wsX9_number) := goodIn_app (goodIn_of _ (by decide +kernel)) ggX9_line_X9_number
theorem dX9_line_0 : decode cX9_line 0 = .ok (.aload_n 0, 1) := by decide +kernel
theorem dX9_line_1 : decode cX9_line 1 = .ok (.getfield 211, 3) := by decide +kernel
theorem dX9_line_4 : decode cX9_line 4 = .ok (.ifCond .ge 26, 3) := by decide +kernel
theorem dX9_line_7 : decode cX9_line 7 = .ok (.aload_n 0, 1) := by decide +kernel
theorem dX9_line_8 : decode cX9_line 8 = .ok (.getfield 214, 3) := by decide +kernel
theorem dX9_line_11 : decode cX9_line 11 = .ok (.aload_n 0, 1) := by decide +kernel
theorem dX9_line_12 : decode cX9_line 12 = .ok (.getfield 208, 3) := by decide +kernel
theorem dX9_line_15 : decode cX9_line 15 = .ok (.if_icmp .ge 15, 3) := by decide +kernel
theorem dX9_line_18 : decode cX9_line 18 = .ok (.aload_n 0, 1) := by decide +kernel
theorem dX9_line_19 : decode cX9_line 19 = .ok (.getfield 25, 3) := by decide +kernel
theorem dX9_line_22 : decode cX9_line 22 = .ok (.aload_n 0, 1) := by decide +kernel
theorem dX9_line_23 : decode cX9_line 23 = .ok (.getfield 214, 3) := by decide +kernel
theorem dX9_line_26 : decode cX9_line 26 = .ok (.iaload, 1) := by decide +kernel
theorem dX9_line_27 : decode cX9_line 27 = .ok (.goto 4, 3) := by decide +kernel
theorem dX9_line_30 : decode cX9_line 30 = .ok (.iconst 0, 1) := by decide +kernel
theorem dX9_line_31 : decode cX9_line 31 = .ok (.istore_n 1, 1) := by decide +kernel
theorem dX9_line_32 : decode cX9_line 32 = .ok (.iload_n 1, 1) := by decide +kernel
theorem dX9_line_33 : decode cX9_line 33 = .ok (.invokestatic 223, 3) := by decide +kernel
theorem dX9_line_36 : decode cX9_line 36 = .ok (.istore_n 2, 1) := by decide +kernel
theorem dX9_line_37 : decode cX9_line 37 = .ok (.iload_n 2, 1) := by decide +kernel
theorem dX9_line_38 : decode cX9_line 38 = .ok (.ifCond .ge 27, 3) := by decide +kernel
theorem dX9_line_41 : decode cX9_line 41 = .ok (.aload_n 0, 1) := by decide +kernel
theorem dX9_line_42 : decode cX9_line 42 = .ok (.aload_n 0, 1) := by decide +kernel
theorem dX9_line_43 : decode cX9_line 43 = .ok (.getfield 211, 3) := by decide +kernel
theorem dX9_line_46 : decode cX9_line 46 = .ok (.ifCond .ge 10, 3) := by decide +kernel
theorem dX9_line_49 : decode cX9_line 49 = .ok (.aload_n 0, 1) := by decide +kernel
theorem dX9_line_50 : decode cX9_line 50 = .ok (.getfield 214, 3) := by decide +kernel
theorem dX9_line_53 : decode cX9_line 53 = .ok (.goto 7, 3) := by decide +kernel
theorem dX9_line_56 : decode cX9_line 56 = .ok (.aload_n 0, 1) := by decide +kernel
theorem dX9_line_57 : decode cX9_line 57 = .ok (.getfield 211, 3) := by decide +kernel
theorem dX9_line_60 : decode cX9_line 60 = .ok (.putfield 211, 3) := by decide +kernel
theorem dX9_line_63 : decode cX9_line 63 = .ok (.iconst 0, 1) := by decide +kernel
theorem dX9_line_64 : decode cX9_line 64 = .ok (.ireturn, 1) := by decide +kernel
theorem dX9_line_65 : decode cX9_line 65 = .ok (.aload_n 0, 1) := by decide +kernel
theorem dX9_line_66 : decode cX9_line 66 = .ok (.dup, 1) := by decide +kernel
theorem dX9_line_67 : decode cX9_line 67 = .ok (.getfield 214, 3) := by decide +kernel
theorem dX9_line_70 : decode cX9_line 70 = .ok (.iconst 1, 1) := by decide +kernel
theorem dX9_line_71 : decode cX9_line 71 = .ok (.iadd, 1) := by decide +kernel
theorem dX9_line_72 : decode cX9_line 72 = .ok (.putfield 214, 3) := by decide +kernel
theorem dX9_line_75 : decode cX9_line 75 = .ok (.iconst 0, 1) := by decide +kernel
theorem dX9_line_76 : decode cX9_line 76 = .ok (.istore_n 3, 1) := by decide +kernel
theorem dX9_line_77 : decode cX9_line 77 = .ok (.iload_n 3, 1) := by decide +kernel
theorem dX9_line_78 : decode cX9_line 78 = .ok (.iload_n 2, 1) := by decide +kernel
theorem dX9_line_79 : decode cX9_line 79 = .ok (.if_icmp .ge 36, 3) := by decide +kernel
theorem dX9_line_82 : decode cX9_line 82 = .ok (.aload_n 0, 1) := by decide +kernel
theorem dX9_line_83 : decode cX9_line 83 = .ok (.getfield 42, 3) := by decide +kernel
theorem dX9_line_86 : decode cX9_line 86 = .ok (.iload_n 3, 1) := by decide +kernel
theorem dX9_line_87 : decode cX9_line 87 = .ok (.iload_n 1, 1) := by decide +kernel
theorem dX9_line_88 : decode cX9_line 88 = .ok (.bipush 112, 2) := by decide +kernel
theorem dX9_line_90 : decode cX9_line 90 = .ok (.if_icmp .ne 14, 3) := by decide +kernel
theorem dX9_line_93 : decode cX9_line 93 = .ok (.iload_n 3, 1) := by decide +kernel
theorem dX9_line_94 : decode cX9_line 94 = .ok (.ifCond .ne 10, 3) := by decide +kernel
theorem dX9_line_97 : decode cX9_line 97 = .ok (.aload_n 0, 1) := by decide +kernel
theorem dX9_line_98 : decode cX9_line 98 = .ok (.invokevirtual 226, 3) := by decide +kernel
theorem dX9_line_101 : decode cX9_line 101 = .ok (.goto 7, 3) := by decide +kernel
theorem dX9_line_104 : decode cX9_line 104 = .ok (.aload_n 0, 1) := by decide +kernel
theorem dX9_line_105 : decode cX9_line 105 = .ok (.invokevirtual 229, 3) := by decide +kernel
theorem dX9_line_108 : decode cX9_line 108 = .ok (.iastore, 1) := by decide +kernel
theorem dX9_line_109 : decode cX9_line 109 = .ok (.iinc 3 1, 3) := by decide +kernel
theorem dX9_line_112 : decode cX9_line 112 = .ok (.goto (-35), 3) := by decide +kernel
theorem dX9_line_115 : decode cX9_line 115 = .ok (.iload_n 1, 1) := by decide +kernel
theorem dX9_line_116 : decode cX9_line 116 = .ok (.ireturn, 1) := by decide +kernel
set_option maxRecDepth 20000 in
theorem ggX9_isForm_X9_line : GoodIn wsX9_isForm wsX9_line := goodIn_r _ [8, 2, 1, 3, 9, 10, 11, 12, 7, 13, 14, 15, 16, 17, 18, 19, 20, 21, 22, 23, 24, 25, 26, 27, 28, 29, 30, 31, 32, 33, 34, 35, 36, 37, 38, 39, 40, 41, 42, 43, 44, 45, 46, 47, 48] (by decide +kernel) (by decide +kernel)
set_option maxRecDepth 20000 in
theorem gX9_isForm_X9_line : GoodIn wsX9_isForm (wsV RX9 232 RX9 yX9_line wsX9_line) := goodIn_app (goodIn_of _ (by decide +kernel)) ggX9_isForm_X9_line
set_option maxRecDepth 20000 in
theorem ggX9_isForm_X9_must : GoodIn wsX9_isForm wsX9_must := goodIn_r _ [21, 2, 1, 9, 22, 23, 24, 7, 25, 3, 26, 27, 28, 33, 34, 35, 36, 37, 38, 39, 40, 41, 42, 43, 44, 45, 46, 47, 48] (by decide +kernel) (by decide +kernel)
set_option maxRecDepth 20000 in
theorem gX9_isForm_X9_must : GoodIn wsX9_isForm (wsV RX9 220 RX9 yX9_must wsX9_must) := goodIn_app (goodIn_of _ (by decide +kernel)) ggX9_isForm_X9_must
theorem dX9_isForm_0 : decode cX9_isForm 0 = .ok (.aload_n 0, 1) := by decide +kernel
theorem dX9_isForm_1 : decode cX9_isForm 1 = .ok (.iconst 0, 1) := by decide +kernel
theorem dX9_isForm_2 : decode cX9_isForm 2 = .ok (.putfield 214, 3) := by decide +kernel
theorem dX9_isForm_5 : decode cX9_isForm 5 = .ok (.aload_n 0, 1) := by decide +kernel
theorem dX9_isForm_6 : decode cX9_isForm 6 = .ok (.iconst (-1), 1) := by decide +kernel
theorem dX9_isForm_7 : decode cX9_isForm 7 = .ok (.putfield 211, 3) := by decide +kernel
theorem dX9_isForm_10 : decode cX9_isForm 10 = .ok (.aload_n 0, 1) := by decide +kernel
theorem dX9_isForm_11 : decode cX9_isForm 11 = .ok (.invokevirtual 232, 3) := by decide +kernel
theorem dX9_isForm_14 : decode cX9_isForm 14 = .ok (.pop, 1) := by decide +kernel
theorem dX9_isForm_15 : decode cX9_isForm 15 = .ok (.aload_n 0, 1) := by decide +kernel
theorem dX9_isForm_16 : decode cX9_isForm 16 = .ok (.getfield 211, 3) := by decide +kernel
theorem dX9_isForm_19 : decode cX9_isForm 19 = .ok (.ifCond .ge 31, 3) := by decide +kernel
theorem dX9_isForm_22 : decode cX9_isForm 22 = .ok (.aload_n 0, 1) := by decide +kernel
theorem dX9_isForm_23 : decode cX9_isForm 23 = .ok (.getfield 214, 3) := by decide +kernel
theorem dX9_isForm_26 : decode cX9_isForm 26 = .ok (.aload_n 0, 1) := by decide +kernel
theorem dX9_isForm_27 : decode cX9_isForm 27 = .ok (.getfield 208, 3) := by decide +kernel
theorem dX9_isForm_30 : decode cX9_isForm 30 = .ok (.if_icmp .ge 20, 3) := by decide +kernel
theorem dX9_isForm_33 : decode cX9_isForm 33 = .ok (.aload_n 0, 1) := by decide +kernel
theorem dX9_isForm_34 : decode cX9_isForm 34 = .ok (.bipush 59, 2) := by decide +kernel
theorem dX9_isForm_36 : decode cX9_isForm 36 = .ok (.bipush 59, 2) := by decide +kernel
theorem dX9_isForm_38 : decode cX9_isForm 38 = .ok (.invokevirtual 220, 3) := by decide +kernel
theorem dX9_isForm_41 : decode cX9_isForm 41 = .ok (.pop, 1) := by decide +kernel
theorem dX9_isForm_42 : decode cX9_isForm 42 = .ok (.aload_n 0, 1) := by decide +kernel
theorem dX9_isForm_43 : decode cX9_isForm 43 = .ok (.invokevirtual 232, 3) := by decide +kernel
theorem dX9_isForm_46 : decode cX9_isForm 46 = .ok (.pop, 1) := by decide +kernel
theorem dX9_isForm_47 : decode cX9_isForm 47 = .ok (.goto (-32), 3) := by decide +kernel
theorem dX9_isForm_50 : decode cX9_isForm 50 = .ok (.aload_n 0, 1) := by decide +kernel
theorem dX9_isForm_51 : decode cX9_isForm 51 = .ok (.getfield 211, 3) := by decide +kernel
theorem dX9_isForm_54 : decode cX9_isForm 54 = .ok (.ifCond .ge 7, 3) := by decide +kernel
theorem dX9_isForm_57 : decode cX9_isForm 57 = .ok (.iconst 1, 1) := by decide +kernel
theorem dX9_isForm_58 : decode cX9_isForm 58 = .ok (.goto 4, 3) := by decide +kernel
theorem dX9_isForm_61 : decode cX9_isForm 61 = .ok (.iconst 0, 1) := by decide +kernel
theorem dX9_isForm_62 : decode cX9_isForm 62 = .ok (.ireturn, 1) := by decide +kernel
set_option maxRecDepth 20000 in
theorem ggX9_does_X9_person : GoodIn wsX9_does wsX9_person := goodIn_r _ [6, 7, 8, 9, 5, 10, 11, 12, 13, 14, 15, 16, 17, 18, 19, 20, 21, 199, 200, 201, 202, 203, 204, 205, 206, 207, 208, 209, 210, 211, 212, 213, 214] (by decide +kernel) (by decide +kernel)
set_option maxRecDepth 20000 in
theorem gX9_does_X9_person : GoodIn wsX9_does (wsV RX9 235 RX9 yX9_person wsX9_person) := goodIn_app (goodIn_of _ (by decide +kernel)) ggX9_does_X9_person
set_option maxRecDepth 20000 in
theorem ggX9_does_X9_tool : GoodIn wsX9_does wsX9_tool := goodIn_r _ [25, 7, 11, 12, 5, 13, 26, 27, 28, 29, 18, 19, 20, 21, 30, 31, 32, 33, 34, 35, 36, 37, 38, 39, 40, 41, 42, 43, 44, 45, 199, 200, 201, 202, 203, 204, 205, 206, 207, 208, 209, 210, 211, 212, 213, 214] (by decide +kernel) (by decide +kernel)
set_option maxRecDepth 20000 in
theorem gX9_does_X9_tool : GoodIn wsX9_does (wsV RX9 238 RX9 yX9_tool wsX9_tool) := goodIn_app (goodIn_of _ (by decide +kernel)) ggX9_does_X9_tool
set_option maxRecDepth 20000 in
theorem ggX9_does_X9_wish : GoodIn wsX9_does wsX9_wish := goodIn_r _ [49, 50, 51, 52, 5, 53, 7, 11, 12, 13, 54, 55, 56, 57, 14, 15, 16, 17, 18, 19, 20, 21, 199, 200, 201, 202, 203, 204, 205, 206, 207, 208, 209, 210, 211, 212, 213, 214] (by decide +kernel) (by decide +kernel)
set_option maxRecDepth 20000 in
theorem gX9_does_X9_wish : GoodIn wsX9_does (wsV RX9 241 RX9 yX9_wish wsX9_wish) := goodIn_app (goodIn_of _ (by decide +kernel)) ggX9_does_X9_wish
set_option maxRecDepth 20000 in
theorem ggX9_does_X9_lease : GoodIn wsX9_does wsX9_lease := goodIn_r _ [61, 50, 51, 52, 5, 53, 7, 11, 12, 13, 54, 55, 56, 57, 42, 43, 44, 45, 38, 39, 40, 41, 62, 63, 64, 65, 66, 67, 68, 69, 14, 15, 16, 17, 70, 71, 72, 73, 18, 19, 20, 21, 26, 27, 28, 29, 74, 75, 76, 77, 34, 35, 36, 37, 199, 200, 201, 202, 203, 204, 205, 206, 207, 208, 209, 210, 211, 212, 213, 214] (by decide +kernel) (by decide +kernel)
set_option maxRecDepth 20000 in
theorem gX9_does_X9_lease : GoodIn wsX9_does (wsV RX9 244 RX9 yX9_lease wsX9_lease) := goodIn_app (goodIn_of _ (by decide +kernel)) ggX9_does_X9_lease
set_option maxRecDepth 20000 in
theorem ggX9_does_X9_in : GoodIn wsX9_does wsX9_in := goodIn_r _ [13] (by decide +kernel) (by decide +kernel)
set_option maxRecDepth 20000 in
theorem gX9_does_X9_in : GoodIn wsX9_does (va_wsS RX9 45 yX9_in wsX9_in) := goodIn_app (goodIn_of _ (by decide +kernel)) ggX9_does_X9_in
set_option maxRecDepth 20000 in
theorem ggX9_does_X9_claim : GoodIn wsX9_does wsX9_claim := goodIn_r _ [81, 7, 50, 51, 52, 5, 53, 11, 12, 13, 54, 55, 56, 57, 82, 83, 84, 85, 38, 39, 40, 41, 26, 27, 28, 29, 86, 87, 88, 89, 90, 91, 92, 93, 94, 95, 96, 97, 199, 200, 201, 202, 203, 204, 205, 206, 207, 208, 209, 210, 211, 212, 213, 214] (by decide +kernel) (by decide +kernel)
set_option maxRecDepth 20000 in
theorem gX9_does_X9_claim : GoodIn wsX9_does (wsV RX9 247 RX9 yX9_claim wsX9_claim) := goodIn_app (goodIn_of _ (by decide +kernel)) ggX9_does_X9_claim
set_option maxRecDepth 20000 in
theorem ggX9_does_X9_returned : GoodIn wsX9_does wsX9_returned := goodIn_r _ [101, 7, 54, 55, 56, 5, 57, 11, 12, 13, 42, 43, 44, 45, 38, 39, 40, 41, 102, 103, 104, 105, 106, 107, 108, 109, 110, 111, 112, 113, 114, 115, 116, 117, 118, 119, 30, 31, 32, 33, 34, 35, 36, 37, 26, 27, 28, 29, 120, 121, 122, 123, 14, 15, 16, 17, 18, 19, 20, 21, 124, 125, 126, 127, 128, 129, 130, 131, 132, 133, 134, 135, 136, 137, 138, 139, 140, 141, 142, 143, 144, 145, 146, 86, 87, 88, 89, 90, 91, 92, 93, 94, 95, 96, 97, 66, 67, 68, 69, 147, 148, 149, 150, 70, 71, 72, 73, 74, 75, 76, 77, 199, 200, 201, 202, 203, 204, 205, 206, 207, 208, 209, 210, 211, 212, 213, 214] (by decide +kernel) (by decide +kernel)
set_option maxRecDepth 20000 in
theorem gX9_does_X9_returned : GoodIn wsX9_does (wsV RX9 250 RX9 yX9_returned wsX9_returned) := goodIn_app (goodIn_of _ (by decide +kernel)) ggX9_does_X9_returned
set_option maxRecDepth 20000 in
theorem ggX9_does_X9_pass : GoodIn wsX9_does wsX9_pass := goodIn_r _ [154, 54, 55, 56, 5, 57, 7, 11, 12, 13, 50, 51, 52, 53, 38, 39, 40, 41, 42, 43, 44, 45, 155, 156, 157, 158, 14, 15, 16, 17, 62, 63, 64, 65, 159, 160, 161, 162, 18, 19, 20, 21, 131, 132, 133, 134, 26, 27, 28, 29, 74, 75, 76, 77, 34, 35, 36, 37, 199, 200, 201, 202, 203, 204, 205, 206, 207, 208, 209, 210, 211, 212, 213, 214] (by decide +kernel) (by decide +kernel)
set_option maxRecDepth 20000 in
theorem gX9_does_X9_pass : GoodIn wsX9_does (wsV RX9 253 RX9 yX9_pass wsX9_pass) := goodIn_app (goodIn_of _ (by decide +kernel)) ggX9_does_X9_pass
set_option maxRecDepth 20000 in
theorem ggX9_does_X9_swap : GoodIn wsX9_does wsX9_swap := goodIn_r _ [166, 7, 167, 54, 55, 56, 5, 57, 11, 12, 13, 168, 169, 170, 171, 42, 43, 44, 45, 38, 39, 40, 41, 172, 173, 174, 175, 176, 177, 178, 179, 14, 15, 16, 17, 180, 181, 182, 183, 184, 185, 186, 155, 156, 157, 158, 159, 160, 161, 162, 18, 19, 20, 21, 131, 132, 133, 134, 26, 27, 28, 29, 74, 75, 76, 77, 34, 35, 36, 37, 62, 63, 64, 65, 199, 200, 201, 202, 203, 204, 205, 206, 207, 208, 209, 210, 211, 212, 213, 214] (by decide +kernel) (by decide +kernel)
set_option maxRecDepth 20000 in
theorem gX9_does_X9_swap : GoodIn wsX9_does (wsV RX9 256 RX9 yX9_swap wsX9_swap) := goodIn_app (goodIn_of _ (by decide +kernel)) ggX9_does_X9_swap
set_option maxRecDepth 20000 in
theorem ggX9_does_X9_use : GoodIn wsX9_does wsX9_use := goodIn_r _ [190, 54, 55, 56, 5, 57, 7, 11, 12, 13, 42, 43, 44, 45, 38, 39, 40, 41, 124, 125, 126, 26, 27, 28, 29, 199, 200, 201, 202, 203, 204, 205, 206, 207, 208, 209, 210, 211, 212, 213, 214] (by decide +kernel) (by decide +kernel)
set_option maxRecDepth 20000 in
theorem gX9_does_X9_use : GoodIn wsX9_does (wsV RX9 259 RX9 yX9_use wsX9_use) := goodIn_app (goodIn_of _ (by decide +kernel)) ggX9_does_X9_use
set_option maxRecDepth 20000 in
theorem ggX9_does_X9_look : GoodIn wsX9_does wsX9_look := goodIn_r _ [194, 54, 55, 56, 5, 57, 7, 11, 12, 13, 102, 103, 104, 105, 106, 107, 108, 109, 110, 111, 38, 39, 40, 41, 112, 113, 114, 115, 116, 117, 118, 119, 30, 31, 32, 33, 34, 35, 36, 37, 26, 27, 28, 29, 42, 43, 44, 45, 120, 121, 122, 123, 14, 15, 16, 17, 18, 19, 20, 21, 124, 125, 126, 199, 200, 201, 202, 203, 204, 205, 206, 207, 208, 209, 210, 211, 212, 213, 214] (by decide +kernel) (by decide +kernel)
set_option maxRecDepth 20000 in
theorem gX9_does_X9_look : GoodIn wsX9_does (wsV RX9 262 RX9 yX9_look wsX9_look) := goodIn_app (goodIn_of _ (by decide +kernel)) ggX9_does_X9_look
set_option maxRecDepth 20000 in
theorem ggX9_does_X9_days : GoodIn wsX9_does wsX9_days := goodIn_r _ [198, 7, 11, 12, 5, 13, 199, 200, 201, 202, 203, 204, 205, 206, 207, 208, 209, 210, 211, 212, 213, 214] (by decide +kernel) (by decide +kernel)
set_option maxRecDepth 20000 in
theorem gX9_does_X9_days : GoodIn wsX9_does (wsV RX9 265 RX9 yX9_days wsX9_days) := goodIn_app (goodIn_of _ (by decide +kernel)) ggX9_does_X9_days
theorem dX9_does_0 : decode cX9_does 0 = .ok (.aload_n 0, 1) := by decide +kernel
theorem dX9_does_1 : decode cX9_does 1 = .ok (.getfield 42, 3) := by decide +kernel
theorem dX9_does_4 : decode cX9_does 4 = .ok (.iconst 0, 1) := by decide +kernel
theorem dX9_does_5 : decode cX9_does 5 = .ok (.iaload, 1) := by decide +kernel
theorem dX9_does_6 : decode cX9_does 6 = .ok (.istore_n 2, 1) := by decide +kernel
theorem dX9_does_7 : decode cX9_does 7 = .ok (.aload_n 0, 1) := by decide +kernel
theorem dX9_does_8 : decode cX9_does 8 = .ok (.getfield 42, 3) := by decide +kernel
theorem dX9_does_11 : decode cX9_does 11 = .ok (.iconst 1, 1) := by decide +kernel
theorem dX9_does_12 : decode cX9_does 12 = .ok (.iaload, 1) := by decide +kernel
theorem dX9_does_13 : decode cX9_does 13 = .ok (.istore_n 3, 1) := by decide +kernel
theorem dX9_does_14 : decode cX9_does 14 = .ok (.iload_n 1, 1) := by decide +kernel
theorem dX9_does_15 : decode cX9_does 15 = .ok (.tableswitch 226 99 119 #[136, 226, 226, 226, 199, 226, 226, 226, 220, 123, 226, 226, 226, 97, 226, 193, 206, 104, 213, 226, 110], 97) := by decide +kernel
theorem dX9_does_112 : decode cX9_does 112 = .ok (.aload_n 0, 1) := by decide +kernel
theorem dX9_does_113 : decode cX9_does 113 = .ok (.iload_n 2, 1) := by decide +kernel
theorem dX9_does_114 : decode cX9_does 114 = .ok (.iload_n 3, 1) := by decide +kernel
theorem dX9_does_115 : decode cX9_does 115 = .ok (.invokevirtual 235, 3) := by decide +kernel
theorem dX9_does_118 : decode cX9_does 118 = .ok (.ireturn, 1) := by decide +kernel
theorem dX9_does_119 : decode cX9_does 119 = .ok (.aload_n 0, 1) := by decide +kernel
theorem dX9_does_120 : decode cX9_does 120 = .ok (.iload_n 2, 1) := by decide +kernel
theorem dX9_does_121 : decode cX9_does 121 = .ok (.invokevirtual 238, 3) := by decide +kernel
theorem dX9_does_124 : decode cX9_does 124 = .ok (.ireturn, 1) := by decide +kernel
theorem dX9_does_125 : decode cX9_does 125 = .ok (.aload_n 0, 1) := by decide +kernel
theorem dX9_does_126 : decode cX9_does 126 = .ok (.iload_n 2, 1) := by decide +kernel
theorem dX9_does_127 : decode cX9_does 127 = .ok (.iload_n 3, 1) := by decide +kernel
theorem dX9_does_128 : decode cX9_does 128 = .ok (.aload_n 0, 1) := by decide +kernel
theorem dX9_does_129 : decode cX9_does 129 = .ok (.getfield 42, 3) := by decide +kernel
theorem dX9_does_132 : decode cX9_does 132 = .ok (.iconst 2, 1) := by decide +kernel
theorem dX9_does_133 : decode cX9_does 133 = .ok (.iaload, 1) := by decide +kernel
theorem dX9_does_134 : decode cX9_does 134 = .ok (.invokevirtual 241, 3) := by decide +kernel
theorem dX9_does_137 : decode cX9_does 137 = .ok (.ireturn, 1) := by decide +kernel
theorem dX9_does_138 : decode cX9_does 138 = .ok (.aload_n 0, 1) := by decide +kernel
theorem dX9_does_139 : decode cX9_does 139 = .ok (.iload_n 2, 1) := by decide +kernel
theorem dX9_does_140 : decode cX9_does 140 = .ok (.iload_n 3, 1) := by decide +kernel
theorem dX9_does_141 : decode cX9_does 141 = .ok (.aload_n 0, 1) := by decide +kernel
theorem dX9_does_142 : decode cX9_does 142 = .ok (.getfield 42, 3) := by decide +kernel
theorem dX9_does_145 : decode cX9_does 145 = .ok (.iconst 2, 1) := by decide +kernel
theorem dX9_does_146 : decode cX9_does 146 = .ok (.iaload, 1) := by decide +kernel
theorem dX9_does_147 : decode cX9_does 147 = .ok (.invokevirtual 244, 3) := by decide +kernel
theorem dX9_does_150 : decode cX9_does 150 = .ok (.ireturn, 1) := by decide +kernel
theorem dX9_does_151 : decode cX9_does 151 = .ok (.aload_n 0, 1) := by decide +kernel
theorem dX9_does_152 : decode cX9_does 152 = .ok (.getfield 42, 3) := by decide +kernel
theorem dX9_does_155 : decode cX9_does 155 = .ok (.iconst 2, 1) := by decide +kernel
theorem dX9_does_156 : decode cX9_does 156 = .ok (.iaload, 1) := by decide +kernel
theorem dX9_does_157 : decode cX9_does 157 = .ok (.iconst 0, 1) := by decide +kernel
theorem dX9_does_158 : decode cX9_does 158 = .ok (.bipush 9, 2) := by decide +kernel
theorem dX9_does_160 : decode cX9_does 160 = .ok (.invokestatic 45, 3) := by decide +kernel
theorem dX9_does_163 : decode cX9_does 163 = .ok (.ifCond .eq 43, 3) := by decide +kernel
theorem dX9_does_166 : decode cX9_does 166 = .ok (.aload_n 0, 1) := by decide +kernel
theorem dX9_does_167 : decode cX9_does 167 = .ok (.getfield 42, 3) := by decide +kernel
theorem dX9_does_170 : decode cX9_does 170 = .ok (.iconst 3, 1) := by decide +kernel
theorem dX9_does_171 : decode cX9_does 171 = .ok (.iaload, 1) := by decide +kernel
theorem dX9_does_172 : decode cX9_does 172 = .ok (.iconst 1, 1) := by decide +kernel
theorem dX9_does_173 : decode cX9_does 173 = .ok (.bipush 30, 2) := by decide +kernel
theorem dX9_does_175 : decode cX9_does 175 = .ok (.invokestatic 45, 3) := by decide +kernel
theorem dX9_does_178 : decode cX9_does 178 = .ok (.ifCond .eq 28, 3) := by decide +kernel
theorem dX9_does_181 : decode cX9_does 181 = .ok (.aload_n 0, 1) := by decide +kernel
theorem dX9_does_182 : decode cX9_does 182 = .ok (.iload_n 2, 1) := by decide +kernel
theorem dX9_does_183 : decode cX9_does 183 = .ok (.iload_n 3, 1) := by decide +kernel
theorem dX9_does_184 : decode cX9_does 184 = .ok (.bipush 100, 2) := by decide +kernel
theorem dX9_does_186 : decode cX9_does 186 = .ok (.aload_n 0, 1) := by decide +kernel
theorem dX9_does_187 : decode cX9_does 187 = .ok (.getfield 42, 3) := by decide +kernel
theorem dX9_does_190 : decode cX9_does 190 = .ok (.iconst 2, 1) := by decide +kernel
theorem dX9_does_191 : decode cX9_does 191 = .ok (.iaload, 1) := by decide +kernel
theorem dX9_does_192 : decode cX9_does 192 = .ok (.imul, 1) := by decide +kernel
theorem dX9_does_193 : decode cX9_does 193 = .ok (.aload_n 0, 1) := by decide +kernel
theorem dX9_does_194 : decode cX9_does 194 = .ok (.getfield 42, 3) := by decide +kernel
theorem dX9_does_197 : decode cX9_does 197 = .ok (.iconst 3, 1) := by decide +kernel
theorem dX9_does_198 : decode cX9_does 198 = .ok (.iaload, 1) := by decide +kernel
theorem dX9_does_199 : decode cX9_does 199 = .ok (.iadd, 1) := by decide +kernel
theorem dX9_does_200 : decode cX9_does 200 = .ok (.invokevirtual 247, 3) := by decide +kernel
theorem dX9_does_203 : decode cX9_does 203 = .ok (.goto 4, 3) := by decide +kernel
theorem dX9_does_206 : decode cX9_does 206 = .ok (.iconst (-1), 1) := by decide +kernel
theorem dX9_does_207 : decode cX9_does 207 = .ok (.ireturn, 1) := by decide +kernel
theorem dX9_does_208 : decode cX9_does 208 = .ok (.aload_n 0, 1) := by decide +kernel
theorem dX9_does_209 : decode cX9_does 209 = .ok (.iload_n 2, 1) := by decide +kernel
theorem dX9_does_210 : decode cX9_does 210 = .ok (.invokevirtual 250, 3) := by decide +kernel
theorem dX9_does_213 : decode cX9_does 213 = .ok (.ireturn, 1) := by decide +kernel
theorem dX9_does_214 : decode cX9_does 214 = .ok (.aload_n 0, 1) := by decide +kernel
theorem dX9_does_215 : decode cX9_does 215 = .ok (.iload_n 2, 1) := by decide +kernel
theorem dX9_does_216 : decode cX9_does 216 = .ok (.iload_n 3, 1) := by decide +kernel
theorem dX9_does_217 : decode cX9_does 217 = .ok (.invokevirtual 253, 3) := by decide +kernel
theorem dX9_does_220 : decode cX9_does 220 = .ok (.ireturn, 1) := by decide +kernel
theorem dX9_does_221 : decode cX9_does 221 = .ok (.aload_n 0, 1) := by decide +kernel
theorem dX9_does_222 : decode cX9_does 222 = .ok (.iload_n 2, 1) := by decide +kernel
theorem dX9_does_223 : decode cX9_does 223 = .ok (.iload_n 3, 1) := by decide +kernel
theorem dX9_does_224 : decode cX9_does 224 = .ok (.invokevirtual 256, 3) := by decide +kernel
theorem dX9_does_227 : decode cX9_does 227 = .ok (.ireturn, 1) := by decide +kernel
theorem dX9_does_228 : decode cX9_does 228 = .ok (.aload_n 0, 1) := by decide +kernel
theorem dX9_does_229 : decode cX9_does 229 = .ok (.iload_n 2, 1) := by decide +kernel
theorem dX9_does_230 : decode cX9_does 230 = .ok (.iload_n 3, 1) := by decide +kernel
theorem dX9_does_231 : decode cX9_does 231 = .ok (.invokevirtual 259, 3) := by decide +kernel
theorem dX9_does_234 : decode cX9_does 234 = .ok (.ireturn, 1) := by decide +kernel
theorem dX9_does_235 : decode cX9_does 235 = .ok (.aload_n 0, 1) := by decide +kernel
theorem dX9_does_236 : decode cX9_does 236 = .ok (.iload_n 2, 1) := by decide +kernel
theorem dX9_does_237 : decode cX9_does 237 = .ok (.invokevirtual 262, 3) := by decide +kernel
theorem dX9_does_240 : decode cX9_does 240 = .ok (.ireturn, 1) := by decide +kernel
theorem dX9_does_241 : decode cX9_does 241 = .ok (.aload_n 0, 1) := by decide +kernel
theorem dX9_does_242 : decode cX9_does 242 = .ok (.iload_n 2, 1) := by decide +kernel
theorem dX9_does_243 : decode cX9_does 243 = .ok (.invokevirtual 265, 3) := by decide +kernel
theorem dX9_does_246 : decode cX9_does 246 = .ok (.ireturn, 1) := by decide +kernel
set_option maxRecDepth 20000 in
theorem ggX9_script_X9_isForm : GoodIn wsX9_script wsX9_isForm := goodIn_r _ [10, 5, 2, 1, 11, 12, 13, 9, 14, 15, 16, 17, 18, 19, 20, 21, 22, 23, 24, 25, 26, 27, 28, 29, 30, 31, 32, 33, 34, 35, 36, 37, 38, 235, 236, 237, 238, 239, 240, 241, 242, 243, 244, 245, 246, 247, 248, 249, 250] (by decide +kernel) (by decide +kernel)
set_option maxRecDepth 20000 in
theorem gX9_script_X9_isForm : GoodIn wsX9_script (wsV RX9 268 RX9 yX9_isForm wsX9_isForm) := goodIn_app (goodIn_of _ (by decide +kernel)) ggX9_script_X9_isForm
set_option maxRecDepth 20000 in
theorem ggX9_script_X9_take : GoodIn wsX9_script wsX9_take := goodIn_r _ [41] (by decide +kernel) (by decide +kernel)
set_option maxRecDepth 20000 in
theorem gX9_script_X9_take : GoodIn wsX9_script (va_wsS RX9 185 yX9_take wsX9_take) := goodIn_app (goodIn_of _ (by decide +kernel)) ggX9_script_X9_take
set_option maxRecDepth 20000 in
theorem ggX9_script_X9_line : GoodIn wsX9_script wsX9_line := goodIn_r _ [14, 2, 5, 1, 15, 16, 17, 18, 9, 19, 20, 21, 22, 23, 24, 25, 26, 27, 28, 29, 30, 31, 32, 33, 34, 35, 36, 37, 38, 235, 236, 237, 238, 239, 240, 241, 242, 243, 244, 245, 246, 247, 248, 249, 250] (by decide +kernel) (by decide +kernel)
set_option maxRecDepth 20000 in
theorem gX9_script_X9_line : GoodIn wsX9_script (wsV RX9 232 RX9 yX9_line wsX9_line) := goodIn_app (goodIn_of _ (by decide +kernel)) ggX9_script_X9_line
set_option maxRecDepth 20000 in
theorem ggX9_script_X9_does : GoodIn wsX9_script wsX9_does := goodIn_r _ [45, 16, 46, 47, 48, 9, 49, 3, 50, 51, 52, 32, 33, 34, 53, 54, 55, 56, 57, 58, 59, 60, 61, 62, 63, 64, 65, 66, 67, 68, 69, 70, 71, 72, 73, 74, 75, 76, 77, 78, 79, 80, 81, 82, 83, 84, 85, 86, 87, 88, 89, 90, 91, 92, 93, 94, 95, 96, 97, 98, 99, 100, 101, 102, 103, 104, 105, 106, 107, 108, 109, 110, 111, 112, 113, 114, 115, 116, 117, 118, 119, 120, 121, 122, 123, 124, 125, 126, 127, 128, 129, 130, 131, 132, 133, 134, 135, 136, 137, 138, 139, 140, 141, 142, 143, 144, 145, 146, 147, 148, 149, 150, 151, 152, 153, 154, 155, 156, 157, 158, 159, 160, 161, 162, 163, 164, 165, 166, 167, 168, 169, 170, 171, 172, 173, 174, 175, 176, 177, 178, 179, 180, 181, 182, 183, 184, 185, 186, 187, 188, 189, 190, 191, 192, 193, 194, 195, 196, 197, 198, 199, 200, 201, 202, 203, 204, 205, 206, 207, 208, 209, 210, 211, 212, 213, 214, 215, 216, 217, 218, 39, 40, 41, 219, 220, 221, 222, 223, 224, 225, 226, 227, 228, 229, 230, 231, 232, 233, 234, 235, 236, 237, 238, 239, 240, 241, 242, 243, 244, 245, 246, 247, 248, 249, 250] (by decide +kernel) (by decide +kernel)
set_option maxRecDepth 20000 in
theorem gX9_script_X9_does : GoodIn wsX9_script (wsV RX9 272 RX9 yX9_does wsX9_does) := goodIn_app (goodIn_of _ (by decide +kernel)) ggX9_script_X9_does
theorem dX9_script_0 : decode cX9_script 0 = .ok (.aload_n 0, 1) := by decide +kernel
theorem dX9_script_1 : decode cX9_script 1 = .ok (.invokevirtual 268, 3) := by decide +kernel
theorem dX9_script_4 : decode cX9_script 4 = .ok (.ifCond .ne 17, 3) := by decide +kernel
theorem dX9_script_7 : decode cX9_script 7 = .ok (.aload_n 0, 1) := by decide +kernel
theorem dX9_script_8 : decode cX9_script 8 = .ok (.iconst 0, 1) := by decide +kernel
theorem dX9_script_9 : decode cX9_script 9 = .ok (.putfield 208, 3) := by decide +kernel
theorem dX9_script_12 : decode cX9_script 12 = .ok (.sipush (-1000), 3) := by decide +kernel
theorem dX9_script_15 : decode cX9_script 15 = .ok (.aload_n 0, 1) := by decide +kernel
theorem dX9_script_16 : decode cX9_script 16 = .ok (.getfield 211, 3) := by decide +kernel
theorem dX9_script_19 : decode cX9_script 19 = .ok (.isub, 1) := by decide +kernel
theorem dX9_script_20 : decode cX9_script 20 = .ok (.ireturn, 1) := by decide +kernel
theorem dX9_script_21 : decode cX9_script 21 = .ok (.aload_n 0, 1) := by decide +kernel
theorem dX9_script_22 : decode cX9_script 22 = .ok (.getfield 9, 3) := by decide +kernel
theorem dX9_script_25 : decode cX9_script 25 = .ok (.aload_n 0, 1) := by decide +kernel
theorem dX9_script_26 : decode cX9_script 26 = .ok (.getfield 16, 3) := by decide +kernel
theorem dX9_script_29 : decode cX9_script 29 = .ok (.invokestatic 185, 3) := by decide +kernel
theorem dX9_script_32 : decode cX9_script 32 = .ok (.aload_n 0, 1) := by decide +kernel
theorem dX9_script_33 : decode cX9_script 33 = .ok (.iconst 0, 1) := by decide +kernel
theorem dX9_script_34 : decode cX9_script 34 = .ok (.putfield 214, 3) := by decide +kernel
theorem dX9_script_37 : decode cX9_script 37 = .ok (.iconst 0, 1) := by decide +kernel
theorem dX9_script_38 : decode cX9_script 38 = .ok (.istore_n 1, 1) := by decide +kernel
theorem dX9_script_39 : decode cX9_script 39 = .ok (.iconst 1, 1) := by decide +kernel
theorem dX9_script_40 : decode cX9_script 40 = .ok (.istore_n 2, 1) := by decide +kernel
theorem dX9_script_41 : decode cX9_script 41 = .ok (.iload_n 2, 1) := by decide +kernel
theorem dX9_script_42 : decode cX9_script 42 = .ok (.ifCond .eq 55, 3) := by decide +kernel
theorem dX9_script_45 : decode cX9_script 45 = .ok (.aload_n 0, 1) := by decide +kernel
theorem dX9_script_46 : decode cX9_script 46 = .ok (.getfield 214, 3) := by decide +kernel
theorem dX9_script_49 : decode cX9_script 49 = .ok (.aload_n 0, 1) := by decide +kernel
theorem dX9_script_50 : decode cX9_script 50 = .ok (.getfield 208, 3) := by decide +kernel
theorem dX9_script_53 : decode cX9_script 53 = .ok (.if_icmp .ge 44, 3) := by decide +kernel
theorem dX9_script_56 : decode cX9_script 56 = .ok (.aload_n 0, 1) := by decide +kernel
theorem dX9_script_57 : decode cX9_script 57 = .ok (.dup, 1) := by decide +kernel
theorem dX9_script_58 : decode cX9_script 58 = .ok (.getfield 214, 3) := by decide +kernel
theorem dX9_script_61 : decode cX9_script 61 = .ok (.iload_n 1, 1) := by decide +kernel
theorem dX9_script_62 : decode cX9_script 62 = .ok (.ifCond .le 7, 3) := by decide +kernel
theorem dX9_script_65 : decode cX9_script 65 = .ok (.iconst 1, 1) := by decide +kernel
theorem dX9_script_66 : decode cX9_script 66 = .ok (.goto 4, 3) := by decide +kernel
theorem dX9_script_69 : decode cX9_script 69 = .ok (.iconst 0, 1) := by decide +kernel
theorem dX9_script_70 : decode cX9_script 70 = .ok (.iadd, 1) := by decide +kernel
theorem dX9_script_71 : decode cX9_script 71 = .ok (.putfield 214, 3) := by decide +kernel
theorem dX9_script_74 : decode cX9_script 74 = .ok (.aload_n 0, 1) := by decide +kernel
theorem dX9_script_75 : decode cX9_script 75 = .ok (.aload_n 0, 1) := by decide +kernel
theorem dX9_script_76 : decode cX9_script 76 = .ok (.invokevirtual 232, 3) := by decide +kernel
theorem dX9_script_79 : decode cX9_script 79 = .ok (.invokevirtual 272, 3) := by decide +kernel
theorem dX9_script_82 : decode cX9_script 82 = .ok (.ifCond .lt 7, 3) := by decide +kernel
theorem dX9_script_85 : decode cX9_script 85 = .ok (.iconst 1, 1) := by decide +kernel
theorem dX9_script_86 : decode cX9_script 86 = .ok (.goto 4, 3) := by decide +kernel
theorem dX9_script_89 : decode cX9_script 89 = .ok (.iconst 0, 1) := by decide +kernel
theorem dX9_script_90 : decode cX9_script 90 = .ok (.istore_n 2, 1) := by decide +kernel
theorem dX9_script_91 : decode cX9_script 91 = .ok (.iinc 1 1, 3) := by decide +kernel
theorem dX9_script_94 : decode cX9_script 94 = .ok (.goto (-53), 3) := by decide +kernel
theorem dX9_script_97 : decode cX9_script 97 = .ok (.aload_n 0, 1) := by decide +kernel
theorem dX9_script_98 : decode cX9_script 98 = .ok (.iconst 0, 1) := by decide +kernel
theorem dX9_script_99 : decode cX9_script 99 = .ok (.putfield 208, 3) := by decide +kernel
theorem dX9_script_102 : decode cX9_script 102 = .ok (.iload_n 2, 1) := by decide +kernel
theorem dX9_script_103 : decode cX9_script 103 = .ok (.ifCond .ne 22, 3) := by decide +kernel
theorem dX9_script_106 : decode cX9_script 106 = .ok (.aload_n 0, 1) := by decide +kernel
theorem dX9_script_107 : decode cX9_script 107 = .ok (.getfield 16, 3) := by decide +kernel
theorem dX9_script_110 : decode cX9_script 110 = .ok (.aload_n 0, 1) := by decide +kernel
theorem dX9_script_111 : decode cX9_script 111 = .ok (.getfield 9, 3) := by decide +kernel
theorem dX9_script_114 : decode cX9_script 114 = .ok (.invokestatic 185, 3) := by decide +kernel
theorem dX9_script_117 : decode cX9_script 117 = .ok (.sipush (-2000), 3) := by decide +kernel
theorem dX9_script_120 : decode cX9_script 120 = .ok (.iload_n 1, 1) := by decide +kernel
theorem dX9_script_121 : decode cX9_script 121 = .ok (.iconst 1, 1) := by decide +kernel
theorem dX9_script_122 : decode cX9_script 122 = .ok (.isub, 1) := by decide +kernel
theorem dX9_script_123 : decode cX9_script 123 = .ok (.isub, 1) := by decide +kernel
theorem dX9_script_124 : decode cX9_script 124 = .ok (.ireturn, 1) := by decide +kernel
theorem dX9_script_125 : decode cX9_script 125 = .ok (.iload_n 1, 1) := by decide +kernel
theorem dX9_script_126 : decode cX9_script 126 = .ok (.ireturn, 1) := by decide +kernel
set_option maxRecDepth 20000 in
theorem ggX9_image_X9_take : GoodIn wsX9_image wsX9_take := goodIn_r _ [7] (by decide +kernel) (by decide +kernel)
set_option maxRecDepth 20000 in
theorem gX9_image_X9_take : GoodIn wsX9_image (va_wsS RX9 185 yX9_take wsX9_take) := goodIn_app (goodIn_of _ (by decide +kernel)) ggX9_image_X9_take
theorem dX9_image_0 : decode cX9_image 0 = .ok (.aload_n 0, 1) := by decide +kernel
theorem dX9_image_1 : decode cX9_image 1 = .ok (.getfield 9, 3) := by decide +kernel
theorem dX9_image_4 : decode cX9_image 4 = .ok (.aload_n 0, 1) := by decide +kernel
theorem dX9_image_5 : decode cX9_image 5 = .ok (.getfield 19, 3) := by decide +kernel
theorem dX9_image_8 : decode cX9_image 8 = .ok (.invokestatic 185, 3) := by decide +kernel
theorem dX9_image_11 : decode cX9_image 11 = .ok (.aload_n 0, 1) := by decide +kernel
theorem dX9_image_12 : decode cX9_image 12 = .ok (.iconst 1, 1) := by decide +kernel
theorem dX9_image_13 : decode cX9_image 13 = .ok (.putfield 275, 3) := by decide +kernel
theorem dX9_image_16 : decode cX9_image 16 = .ok (.aload_n 0, 1) := by decide +kernel
theorem dX9_image_17 : decode cX9_image 17 = .ok (.getfield 9, 3) := by decide +kernel
theorem dX9_image_20 : decode cX9_image 20 = .ok (.sipush 1082, 3) := by decide +kernel
theorem dX9_image_23 : decode cX9_image 23 = .ok (.iaload, 1) := by decide +kernel
theorem dX9_image_24 : decode cX9_image 24 = .ok (.ireturn, 1) := by decide +kernel
set_option maxRecDepth 20000 in
theorem ggX9_back_X9_take : GoodIn wsX9_back wsX9_take := goodIn_r _ [9] (by decide +kernel) (by decide +kernel)
set_option maxRecDepth 20000 in
theorem gX9_back_X9_take : GoodIn wsX9_back (va_wsS RX9 185 yX9_take wsX9_take) := goodIn_app (goodIn_of _ (by decide +kernel)) ggX9_back_X9_take
set_option maxRecDepth 20000 in
theorem ggX9_back_X9_isPerson : GoodIn wsX9_back wsX9_isPerson := goodIn_r _ [13, 3, 14, 15, 8, 16, 21, 22, 23, 24, 25, 26, 27, 28, 29, 30, 31, 32, 33, 34, 35, 36] (by decide +kernel) (by decide +kernel)
set_option maxRecDepth 20000 in
theorem gX9_back_X9_isPerson : GoodIn wsX9_back (wsV RX9 75 RX9 yX9_isPerson wsX9_isPerson) := goodIn_app (goodIn_of _ (by decide +kernel)) ggX9_back_X9_isPerson
set_option maxRecDepth 20000 in
theorem ggX9_back_X9_isTool : GoodIn wsX9_back wsX9_isTool := goodIn_r _ [20, 3, 14, 15, 8, 16, 21, 22, 23, 24, 25, 26, 27, 28, 29, 30, 31, 32, 33, 34, 35, 36] (by decide +kernel) (by decide +kernel)
set_option maxRecDepth 20000 in
theorem gX9_back_X9_isTool : GoodIn wsX9_back (wsV RX9 78 RX9 yX9_isTool wsX9_isTool) := goodIn_app (goodIn_of _ (by decide +kernel)) ggX9_back_X9_isTool
theorem dX9_back_0 : decode cX9_back 0 = .ok (.aload_n 0, 1) := by decide +kernel
theorem dX9_back_1 : decode cX9_back 1 = .ok (.getfield 275, 3) := by decide +kernel
theorem dX9_back_4 : decode cX9_back 4 = .ok (.ifCond .ne 6, 3) := by decide +kernel
theorem dX9_back_7 : decode cX9_back 7 = .ok (.bipush (-5), 2) := by decide +kernel
theorem dX9_back_9 : decode cX9_back 9 = .ok (.ireturn, 1) := by decide +kernel
theorem dX9_back_10 : decode cX9_back 10 = .ok (.aload_n 0, 1) := by decide +kernel
theorem dX9_back_11 : decode cX9_back 11 = .ok (.getfield 19, 3) := by decide +kernel
theorem dX9_back_14 : decode cX9_back 14 = .ok (.aload_n 0, 1) := by decide +kernel
theorem dX9_back_15 : decode cX9_back 15 = .ok (.getfield 9, 3) := by decide +kernel
theorem dX9_back_18 : decode cX9_back 18 = .ok (.invokestatic 185, 3) := by decide +kernel
theorem dX9_back_21 : decode cX9_back 21 = .ok (.iconst 0, 1) := by decide +kernel
theorem dX9_back_22 : decode cX9_back 22 = .ok (.istore_n 1, 1) := by decide +kernel
theorem dX9_back_23 : decode cX9_back 23 = .ok (.iload_n 1, 1) := by decide +kernel
theorem dX9_back_24 : decode cX9_back 24 = .ok (.bipush 6, 2) := by decide +kernel
theorem dX9_back_26 : decode cX9_back 26 = .ok (.if_icmp .ge 81, 3) := by decide +kernel
theorem dX9_back_29 : decode cX9_back 29 = .ok (.aload_n 0, 1) := by decide +kernel
theorem dX9_back_30 : decode cX9_back 30 = .ok (.getfield 28, 3) := by decide +kernel
theorem dX9_back_33 : decode cX9_back 33 = .ok (.iload_n 1, 1) := by decide +kernel
theorem dX9_back_34 : decode cX9_back 34 = .ok (.iaload, 1) := by decide +kernel
theorem dX9_back_35 : decode cX9_back 35 = .ok (.iconst 1, 1) := by decide +kernel
theorem dX9_back_36 : decode cX9_back 36 = .ok (.if_icmp .ne 16, 3) := by decide +kernel
theorem dX9_back_39 : decode cX9_back 39 = .ok (.aload_n 0, 1) := by decide +kernel
theorem dX9_back_40 : decode cX9_back 40 = .ok (.aload_n 0, 1) := by decide +kernel
theorem dX9_back_41 : decode cX9_back 41 = .ok (.getfield 31, 3) := by decide +kernel
theorem dX9_back_44 : decode cX9_back 44 = .ok (.iload_n 1, 1) := by decide +kernel
theorem dX9_back_45 : decode cX9_back 45 = .ok (.iaload, 1) := by decide +kernel
theorem dX9_back_46 : decode cX9_back 46 = .ok (.invokevirtual 75, 3) := by decide +kernel
theorem dX9_back_49 : decode cX9_back 49 = .ok (.ifCond .eq 26, 3) := by decide +kernel
theorem dX9_back_52 : decode cX9_back 52 = .ok (.aload_n 0, 1) := by decide +kernel
theorem dX9_back_53 : decode cX9_back 53 = .ok (.getfield 28, 3) := by decide +kernel
theorem dX9_back_56 : decode cX9_back 56 = .ok (.iload_n 1, 1) := by decide +kernel
theorem dX9_back_57 : decode cX9_back 57 = .ok (.iaload, 1) := by decide +kernel
theorem dX9_back_58 : decode cX9_back 58 = .ok (.iconst 2, 1) := by decide +kernel
theorem dX9_back_59 : decode cX9_back 59 = .ok (.if_icmp .ne 20, 3) := by decide +kernel
theorem dX9_back_62 : decode cX9_back 62 = .ok (.aload_n 0, 1) := by decide +kernel
theorem dX9_back_63 : decode cX9_back 63 = .ok (.aload_n 0, 1) := by decide +kernel
theorem dX9_back_64 : decode cX9_back 64 = .ok (.getfield 31, 3) := by decide +kernel
theorem dX9_back_67 : decode cX9_back 67 = .ok (.iload_n 1, 1) := by decide +kernel
theorem dX9_back_68 : decode cX9_back 68 = .ok (.iaload, 1) := by decide +kernel
theorem dX9_back_69 : decode cX9_back 69 = .ok (.invokevirtual 78, 3) := by decide +kernel
theorem dX9_back_72 : decode cX9_back 72 = .ok (.ifCond .ne 7, 3) := by decide +kernel
theorem dX9_back_75 : decode cX9_back 75 = .ok (.iconst 1, 1) := by decide +kernel
theorem dX9_back_76 : decode cX9_back 76 = .ok (.goto 4, 3) := by decide +kernel
theorem dX9_back_79 : decode cX9_back 79 = .ok (.iconst 0, 1) := by decide +kernel
theorem dX9_back_80 : decode cX9_back 80 = .ok (.istore_n 2, 1) := by decide +kernel
theorem dX9_back_81 : decode cX9_back 81 = .ok (.aload_n 0, 1) := by decide +kernel
theorem dX9_back_82 : decode cX9_back 82 = .ok (.getfield 28, 3) := by decide +kernel
theorem dX9_back_85 : decode cX9_back 85 = .ok (.iload_n 1, 1) := by decide +kernel
theorem dX9_back_86 : decode cX9_back 86 = .ok (.iload_n 2, 1) := by decide +kernel
theorem dX9_back_87 : decode cX9_back 87 = .ok (.ifCond .eq 7, 3) := by decide +kernel
theorem dX9_back_90 : decode cX9_back 90 = .ok (.iconst 0, 1) := by decide +kernel
theorem dX9_back_91 : decode cX9_back 91 = .ok (.goto 9, 3) := by decide +kernel
theorem dX9_back_94 : decode cX9_back 94 = .ok (.aload_n 0, 1) := by decide +kernel
theorem dX9_back_95 : decode cX9_back 95 = .ok (.getfield 28, 3) := by decide +kernel
theorem dX9_back_98 : decode cX9_back 98 = .ok (.iload_n 1, 1) := by decide +kernel
theorem dX9_back_99 : decode cX9_back 99 = .ok (.iaload, 1) := by decide +kernel
theorem dX9_back_100 : decode cX9_back 100 = .ok (.iastore, 1) := by decide +kernel
theorem dX9_back_101 : decode cX9_back 101 = .ok (.iinc 1 1, 3) := by decide +kernel
theorem dX9_back_104 : decode cX9_back 104 = .ok (.goto (-81), 3) := by decide +kernel
theorem dX9_back_107 : decode cX9_back 107 = .ok (.aload_n 0, 1) := by decide +kernel
theorem dX9_back_108 : decode cX9_back 108 = .ok (.getfield 9, 3) := by decide +kernel
theorem dX9_back_111 : decode cX9_back 111 = .ok (.sipush 1082, 3) := by decide +kernel
theorem dX9_back_114 : decode cX9_back 114 = .ok (.iaload, 1) := by decide +kernel
theorem dX9_back_115 : decode cX9_back 115 = .ok (.ireturn, 1) := by decide +kernel
set_option maxRecDepth 20000 in
theorem ggX9_hold_X9_isHolder : GoodIn wsX9_hold wsX9_isHolder := goodIn_r _ [7, 8, 9, 6, 10] (by decide +kernel) (by decide +kernel)
set_option maxRecDepth 20000 in
theorem gX9_hold_X9_isHolder : GoodIn wsX9_hold (wsV RX9 205 RX9 yX9_isHolder wsX9_isHolder) := goodIn_app (goodIn_of _ (by decide +kernel)) ggX9_hold_X9_isHolder
set_option maxRecDepth 20000 in
theorem ggX9_hold_X9_in : GoodIn wsX9_hold wsX9_in := goodIn_r _ [10] (by decide +kernel) (by decide +kernel)
set_option maxRecDepth 20000 in
theorem gX9_hold_X9_in : GoodIn wsX9_hold (va_wsS RX9 45 yX9_in wsX9_in) := goodIn_app (goodIn_of _ (by decide +kernel)) ggX9_hold_X9_in
set_option maxRecDepth 20000 in
theorem ggX9_hold_X9_isPerson : GoodIn wsX9_hold wsX9_isPerson := goodIn_r _ [14, 15, 8, 9, 6, 10, 20, 21, 22, 23, 24, 25, 26, 27, 28, 29, 30, 31, 32, 33, 34, 35] (by decide +kernel) (by decide +kernel)
set_option maxRecDepth 20000 in
theorem gX9_hold_X9_isPerson : GoodIn wsX9_hold (wsV RX9 75 RX9 yX9_isPerson wsX9_isPerson) := goodIn_app (goodIn_of _ (by decide +kernel)) ggX9_hold_X9_isPerson
set_option maxRecDepth 20000 in
theorem ggX9_hold_X9_isTool : GoodIn wsX9_hold wsX9_isTool := goodIn_r _ [19, 15, 8, 9, 6, 10, 20, 21, 22, 23, 24, 25, 26, 27, 28, 29, 30, 31, 32, 33, 34, 35] (by decide +kernel) (by decide +kernel)
set_option maxRecDepth 20000 in
theorem gX9_hold_X9_isTool : GoodIn wsX9_hold (wsV RX9 78 RX9 yX9_isTool wsX9_isTool) := goodIn_app (goodIn_of _ (by decide +kernel)) ggX9_hold_X9_isTool
theorem dX9_hold_0 : decode cX9_hold 0 = .ok (.aload_n 0, 1) := by decide +kernel
theorem dX9_hold_1 : decode cX9_hold 1 = .ok (.iload_n 1, 1) := by decide +kernel
theorem dX9_hold_2 : decode cX9_hold 2 = .ok (.invokevirtual 205, 3) := by decide +kernel
theorem dX9_hold_5 : decode cX9_hold 5 = .ok (.ifCond .eq 38, 3) := by decide +kernel
theorem dX9_hold_8 : decode cX9_hold 8 = .ok (.iload_n 2, 1) := by decide +kernel
theorem dX9_hold_9 : decode cX9_hold 9 = .ok (.iconst 0, 1) := by decide +kernel
theorem dX9_hold_10 : decode cX9_hold 10 = .ok (.iconst 2, 1) := by decide +kernel
theorem dX9_hold_11 : decode cX9_hold 11 = .ok (.invokestatic 45, 3) := by decide +kernel
theorem dX9_hold_14 : decode cX9_hold 14 = .ok (.ifCond .eq 29, 3) := by decide +kernel
theorem dX9_hold_17 : decode cX9_hold 17 = .ok (.iload_n 2, 1) := by decide +kernel
theorem dX9_hold_18 : decode cX9_hold 18 = .ok (.iconst 1, 1) := by decide +kernel
theorem dX9_hold_19 : decode cX9_hold 19 = .ok (.if_icmp .ne 11, 3) := by decide +kernel
theorem dX9_hold_22 : decode cX9_hold 22 = .ok (.aload_n 0, 1) := by decide +kernel
theorem dX9_hold_23 : decode cX9_hold 23 = .ok (.iload_n 3, 1) := by decide +kernel
theorem dX9_hold_24 : decode cX9_hold 24 = .ok (.invokevirtual 75, 3) := by decide +kernel
theorem dX9_hold_27 : decode cX9_hold 27 = .ok (.ifCond .eq 16, 3) := by decide +kernel
theorem dX9_hold_30 : decode cX9_hold 30 = .ok (.iload_n 2, 1) := by decide +kernel
theorem dX9_hold_31 : decode cX9_hold 31 = .ok (.iconst 2, 1) := by decide +kernel
theorem dX9_hold_32 : decode cX9_hold 32 = .ok (.if_icmp .ne 13, 3) := by decide +kernel
theorem dX9_hold_35 : decode cX9_hold 35 = .ok (.aload_n 0, 1) := by decide +kernel
theorem dX9_hold_36 : decode cX9_hold 36 = .ok (.iload_n 3, 1) := by decide +kernel
theorem dX9_hold_37 : decode cX9_hold 37 = .ok (.invokevirtual 78, 3) := by decide +kernel
theorem dX9_hold_40 : decode cX9_hold 40 = .ok (.ifCond .ne 5, 3) := by decide +kernel
theorem dX9_hold_43 : decode cX9_hold 43 = .ok (.iconst (-1), 1) := by decide +kernel
theorem dX9_hold_44 : decode cX9_hold 44 = .ok (.ireturn, 1) := by decide +kernel
theorem dX9_hold_45 : decode cX9_hold 45 = .ok (.aload_n 0, 1) := by decide +kernel
theorem dX9_hold_46 : decode cX9_hold 46 = .ok (.getfield 28, 3) := by decide +kernel
theorem dX9_hold_49 : decode cX9_hold 49 = .ok (.iload_n 1, 1) := by decide +kernel
theorem dX9_hold_50 : decode cX9_hold 50 = .ok (.iload_n 2, 1) := by decide +kernel
theorem dX9_hold_51 : decode cX9_hold 51 = .ok (.iastore, 1) := by decide +kernel
theorem dX9_hold_52 : decode cX9_hold 52 = .ok (.aload_n 0, 1) := by decide +kernel
theorem dX9_hold_53 : decode cX9_hold 53 = .ok (.getfield 31, 3) := by decide +kernel
theorem dX9_hold_56 : decode cX9_hold 56 = .ok (.iload_n 1, 1) := by decide +kernel
theorem dX9_hold_57 : decode cX9_hold 57 = .ok (.iload_n 3, 1) := by decide +kernel
theorem dX9_hold_58 : decode cX9_hold 58 = .ok (.iastore, 1) := by decide +kernel
theorem dX9_hold_59 : decode cX9_hold 59 = .ok (.iconst 1, 1) := by decide +kernel
theorem dX9_hold_60 : decode cX9_hold 60 = .ok (.ireturn, 1) := by decide +kernel
set_option maxRecDepth 20000 in
theorem ggX9_row_X9_isHolder : GoodIn wsX9_row wsX9_isHolder := goodIn_r _ [8, 9, 10, 7, 11] (by decide +kernel) (by decide +kernel)
set_option maxRecDepth 20000 in
theorem gX9_row_X9_isHolder : GoodIn wsX9_row (wsV RX9 205 RX9 yX9_isHolder wsX9_isHolder) := goodIn_app (goodIn_of _ (by decide +kernel)) ggX9_row_X9_isHolder
theorem dX9_row_0 : decode cX9_row 0 = .ok (.aload_n 0, 1) := by decide +kernel
theorem dX9_row_1 : decode cX9_row 1 = .ok (.iload_n 1, 1) := by decide +kernel
theorem dX9_row_2 : decode cX9_row 2 = .ok (.invokevirtual 205, 3) := by decide +kernel
theorem dX9_row_5 : decode cX9_row 5 = .ok (.ifCond .eq 9, 3) := by decide +kernel
theorem dX9_row_8 : decode cX9_row 8 = .ok (.iload_n 2, 1) := by decide +kernel
theorem dX9_row_9 : decode cX9_row 9 = .ok (.bipush 60, 2) := by decide +kernel
theorem dX9_row_11 : decode cX9_row 11 = .ok (.if_icmp .le 5, 3) := by decide +kernel
theorem dX9_row_14 : decode cX9_row 14 = .ok (.iconst (-1), 1) := by decide +kernel
theorem dX9_row_15 : decode cX9_row 15 = .ok (.ireturn, 1) := by decide +kernel
theorem dX9_row_16 : decode cX9_row 16 = .ok (.iload_n 2, 1) := by decide +kernel
theorem dX9_row_17 : decode cX9_row 17 = .ok (.ifCond .ge 6, 3) := by decide +kernel
theorem dX9_row_20 : decode cX9_row 20 = .ok (.bipush (-14), 2) := by decide +kernel
theorem dX9_row_22 : decode cX9_row 22 = .ok (.ireturn, 1) := by decide +kernel
theorem dX9_row_23 : decode cX9_row 23 = .ok (.aload_n 0, 1) := by decide +kernel
theorem dX9_row_24 : decode cX9_row 24 = .ok (.getfield 28, 3) := by decide +kernel
theorem dX9_row_27 : decode cX9_row 27 = .ok (.iload_n 1, 1) := by decide +kernel
theorem dX9_row_28 : decode cX9_row 28 = .ok (.iconst 3, 1) := by decide +kernel
theorem dX9_row_29 : decode cX9_row 29 = .ok (.iastore, 1) := by decide +kernel
theorem dX9_row_30 : decode cX9_row 30 = .ok (.aload_n 0, 1) := by decide +kernel
theorem dX9_row_31 : decode cX9_row 31 = .ok (.getfield 34, 3) := by decide +kernel
theorem dX9_row_34 : decode cX9_row 34 = .ok (.iload_n 1, 1) := by decide +kernel
theorem dX9_row_35 : decode cX9_row 35 = .ok (.iload_n 2, 1) := by decide +kernel
theorem dX9_row_36 : decode cX9_row 36 = .ok (.iastore, 1) := by decide +kernel
theorem dX9_row_37 : decode cX9_row 37 = .ok (.iconst 0, 1) := by decide +kernel
theorem dX9_row_38 : decode cX9_row 38 = .ok (.istore_n 3, 1) := by decide +kernel
theorem dX9_row_39 : decode cX9_row 39 = .ok (.iload_n 3, 1) := by decide +kernel
theorem dX9_row_40 : decode cX9_row 40 = .ok (.bipush 60, 2) := by decide +kernel
theorem dX9_row_42 : decode cX9_row 42 = .ok (.if_icmp .ge 18, 3) := by decide +kernel
theorem dX9_row_45 : decode cX9_row 45 = .ok (.aload_n 0, 1) := by decide +kernel
theorem dX9_row_46 : decode cX9_row 46 = .ok (.getfield 39, 3) := by decide +kernel
theorem dX9_row_49 : decode cX9_row 49 = .ok (.iload_n 1, 1) := by decide +kernel
theorem dX9_row_50 : decode cX9_row 50 = .ok (.aaload, 1) := by decide +kernel
theorem dX9_row_51 : decode cX9_row 51 = .ok (.iload_n 3, 1) := by decide +kernel
theorem dX9_row_52 : decode cX9_row 52 = .ok (.iconst 0, 1) := by decide +kernel
theorem dX9_row_53 : decode cX9_row 53 = .ok (.iastore, 1) := by decide +kernel
theorem dX9_row_54 : decode cX9_row 54 = .ok (.iinc 3 1, 3) := by decide +kernel
theorem dX9_row_57 : decode cX9_row 57 = .ok (.goto (-18), 3) := by decide +kernel
theorem dX9_row_60 : decode cX9_row 60 = .ok (.iconst 1, 1) := by decide +kernel
theorem dX9_row_61 : decode cX9_row 61 = .ok (.ireturn, 1) := by decide +kernel
set_option maxRecDepth 20000 in
theorem ggX9_put_X9_isHolder : GoodIn wsX9_put wsX9_isHolder := goodIn_r _ [9, 10, 11, 8, 12] (by decide +kernel) (by decide +kernel)
set_option maxRecDepth 20000 in
theorem gX9_put_X9_isHolder : GoodIn wsX9_put (wsV RX9 205 RX9 yX9_isHolder wsX9_isHolder) := goodIn_app (goodIn_of _ (by decide +kernel)) ggX9_put_X9_isHolder
set_option maxRecDepth 20000 in
theorem ggX9_put_X9_in : GoodIn wsX9_put wsX9_in := goodIn_r _ [12] (by decide +kernel) (by decide +kernel)
set_option maxRecDepth 20000 in
theorem gX9_put_X9_in : GoodIn wsX9_put (va_wsS RX9 45 yX9_in wsX9_in) := goodIn_app (goodIn_of _ (by decide +kernel)) ggX9_put_X9_in
theorem dX9_put_0 : decode cX9_put 0 = .ok (.aload_n 0, 1) := by decide +kernel
theorem dX9_put_1 : decode cX9_put 1 = .ok (.iload_n 1, 1) := by decide +kernel
theorem dX9_put_2 : decode cX9_put 2 = .ok (.invokevirtual 205, 3) := by decide +kernel
theorem dX9_put_5 : decode cX9_put 5 = .ok (.ifCond .eq 29, 3) := by decide +kernel
theorem dX9_put_8 : decode cX9_put 8 = .ok (.aload_n 0, 1) := by decide +kernel
theorem dX9_put_9 : decode cX9_put 9 = .ok (.getfield 28, 3) := by decide +kernel
theorem dX9_put_12 : decode cX9_put 12 = .ok (.iload_n 1, 1) := by decide +kernel
theorem dX9_put_13 : decode cX9_put 13 = .ok (.iaload, 1) := by decide +kernel
theorem dX9_put_14 : decode cX9_put 14 = .ok (.iconst 3, 1) := by decide +kernel
theorem dX9_put_15 : decode cX9_put 15 = .ok (.if_icmp .ne 19, 3) := by decide +kernel
theorem dX9_put_18 : decode cX9_put 18 = .ok (.iload_n 2, 1) := by decide +kernel
theorem dX9_put_19 : decode cX9_put 19 = .ok (.iconst 0, 1) := by decide +kernel
theorem dX9_put_20 : decode cX9_put 20 = .ok (.aload_n 0, 1) := by decide +kernel
theorem dX9_put_21 : decode cX9_put 21 = .ok (.getfield 34, 3) := by decide +kernel
theorem dX9_put_24 : decode cX9_put 24 = .ok (.iload_n 1, 1) := by decide +kernel
theorem dX9_put_25 : decode cX9_put 25 = .ok (.iaload, 1) := by decide +kernel
theorem dX9_put_26 : decode cX9_put 26 = .ok (.iconst 1, 1) := by decide +kernel
theorem dX9_put_27 : decode cX9_put 27 = .ok (.isub, 1) := by decide +kernel
theorem dX9_put_28 : decode cX9_put 28 = .ok (.invokestatic 45, 3) := by decide +kernel
theorem dX9_put_31 : decode cX9_put 31 = .ok (.ifCond .ne 7, 3) := by decide +kernel
theorem dX9_put_34 : decode cX9_put 34 = .ok (.ldc_w 279, 3) := by decide +kernel
theorem dX9_put_37 : decode cX9_put 37 = .ok (.ireturn, 1) := by decide +kernel
theorem dX9_put_38 : decode cX9_put 38 = .ok (.aload_n 0, 1) := by decide +kernel
theorem dX9_put_39 : decode cX9_put 39 = .ok (.getfield 39, 3) := by decide +kernel
theorem dX9_put_42 : decode cX9_put 42 = .ok (.iload_n 1, 1) := by decide +kernel
theorem dX9_put_43 : decode cX9_put 43 = .ok (.aaload, 1) := by decide +kernel
theorem dX9_put_44 : decode cX9_put 44 = .ok (.iload_n 2, 1) := by decide +kernel
theorem dX9_put_45 : decode cX9_put 45 = .ok (.iaload, 1) := by decide +kernel
theorem dX9_put_46 : decode cX9_put 46 = .ok (.istore 4, 2) := by decide +kernel
theorem dX9_put_48 : decode cX9_put 48 = .ok (.aload_n 0, 1) := by decide +kernel
theorem dX9_put_49 : decode cX9_put 49 = .ok (.getfield 39, 3) := by decide +kernel
theorem dX9_put_52 : decode cX9_put 52 = .ok (.iload_n 1, 1) := by decide +kernel
theorem dX9_put_53 : decode cX9_put 53 = .ok (.aaload, 1) := by decide +kernel
theorem dX9_put_54 : decode cX9_put 54 = .ok (.iload_n 2, 1) := by decide +kernel
theorem dX9_put_55 : decode cX9_put 55 = .ok (.iload_n 3, 1) := by decide +kernel
theorem dX9_put_56 : decode cX9_put 56 = .ok (.iastore, 1) := by decide +kernel
theorem dX9_put_57 : decode cX9_put 57 = .ok (.iload 4, 2) := by decide +kernel
theorem dX9_put_59 : decode cX9_put 59 = .ok (.ireturn, 1) := by decide +kernel
set_option maxRecDepth 20000 in
theorem ggX9_tells_X9_isHolder : GoodIn wsX9_tells wsX9_isHolder := goodIn_r _ [7, 8, 9, 6, 10] (by decide +kernel) (by decide +kernel)
set_option maxRecDepth 20000 in
theorem gX9_tells_X9_isHolder : GoodIn wsX9_tells (wsV RX9 205 RX9 yX9_isHolder wsX9_isHolder) := goodIn_app (goodIn_of _ (by decide +kernel)) ggX9_tells_X9_isHolder
set_option maxRecDepth 20000 in
theorem ggX9_tells_X9_in : GoodIn wsX9_tells wsX9_in := goodIn_r _ [10] (by decide +kernel) (by decide +kernel)
set_option maxRecDepth 20000 in
theorem gX9_tells_X9_in : GoodIn wsX9_tells (va_wsS RX9 45 yX9_in wsX9_in) := goodIn_app (goodIn_of _ (by decide +kernel)) ggX9_tells_X9_in
set_option maxRecDepth 20000 in
theorem ggX9_tells_X9_isOut : GoodIn wsX9_tells wsX9_isOut := goodIn_r _ [14, 15, 16, 17, 6, 18, 19, 24, 25, 26, 27, 28, 29, 30, 31, 32, 33, 34, 35, 36, 37, 38, 39] (by decide +kernel) (by decide +kernel)
set_option maxRecDepth 20000 in
theorem gX9_tells_X9_isOut : GoodIn wsX9_tells (wsV RX9 100 RX9 yX9_isOut wsX9_isOut) := goodIn_app (goodIn_of _ (by decide +kernel)) ggX9_tells_X9_isOut
set_option maxRecDepth 20000 in
theorem ggX9_tells_X9_p : GoodIn wsX9_tells wsX9_p := goodIn_r _ [23, 19, 24, 25, 26, 27, 28, 29, 30, 31, 32, 33, 34, 35, 36, 37, 38, 39] (by decide +kernel) (by decide +kernel)
set_option maxRecDepth 20000 in
theorem gX9_tells_X9_p : GoodIn wsX9_tells (wsV RX9 53 RX9 yX9_p wsX9_p) := goodIn_app (goodIn_of _ (by decide +kernel)) ggX9_tells_X9_p
set_option maxRecDepth 20000 in
theorem ggX9_tells_X9_t : GoodIn wsX9_tells wsX9_t := goodIn_r _ [18, 19, 24, 25, 26, 27, 28, 29, 30, 31, 32, 33, 34, 35, 36, 37, 38, 39] (by decide +kernel) (by decide +kernel)
set_option maxRecDepth 20000 in
theorem gX9_tells_X9_t : GoodIn wsX9_tells (wsV RX9 81 RX9 yX9_t wsX9_t) := goodIn_app (goodIn_of _ (by decide +kernel)) ggX9_tells_X9_t
theorem dX9_tells_0 : decode cX9_tells 0 = .ok (.aload_n 0, 1) := by decide +kernel
theorem dX9_tells_1 : decode cX9_tells 1 = .ok (.iload_n 1, 1) := by decide +kernel
theorem dX9_tells_2 : decode cX9_tells 2 = .ok (.invokevirtual 205, 3) := by decide +kernel
theorem dX9_tells_5 : decode cX9_tells 5 = .ok (.ifCond .eq 12, 3) := by decide +kernel
theorem dX9_tells_8 : decode cX9_tells 8 = .ok (.iload_n 2, 1) := by decide +kernel
theorem dX9_tells_9 : decode cX9_tells 9 = .ok (.iconst 0, 1) := by decide +kernel
theorem dX9_tells_10 : decode cX9_tells 10 = .ok (.iconst 3, 1) := by decide +kernel
theorem dX9_tells_11 : decode cX9_tells 11 = .ok (.invokestatic 45, 3) := by decide +kernel
theorem dX9_tells_14 : decode cX9_tells 14 = .ok (.ifCond .ne 5, 3) := by decide +kernel
theorem dX9_tells_17 : decode cX9_tells 17 = .ok (.iconst (-1), 1) := by decide +kernel
theorem dX9_tells_18 : decode cX9_tells 18 = .ok (.ireturn, 1) := by decide +kernel
theorem dX9_tells_19 : decode cX9_tells 19 = .ok (.aload_n 0, 1) := by decide +kernel
theorem dX9_tells_20 : decode cX9_tells 20 = .ok (.getfield 28, 3) := by decide +kernel
theorem dX9_tells_23 : decode cX9_tells 23 = .ok (.iload_n 1, 1) := by decide +kernel
theorem dX9_tells_24 : decode cX9_tells 24 = .ok (.iaload, 1) := by decide +kernel
theorem dX9_tells_25 : decode cX9_tells 25 = .ok (.ifCond .ne 6, 3) := by decide +kernel
theorem dX9_tells_28 : decode cX9_tells 28 = .ok (.bipush (-11), 2) := by decide +kernel
theorem dX9_tells_30 : decode cX9_tells 30 = .ok (.ireturn, 1) := by decide +kernel
theorem dX9_tells_31 : decode cX9_tells 31 = .ok (.aload_n 0, 1) := by decide +kernel
theorem dX9_tells_32 : decode cX9_tells 32 = .ok (.getfield 31, 3) := by decide +kernel
theorem dX9_tells_35 : decode cX9_tells 35 = .ok (.iload_n 1, 1) := by decide +kernel
theorem dX9_tells_36 : decode cX9_tells 36 = .ok (.iaload, 1) := by decide +kernel
theorem dX9_tells_37 : decode cX9_tells 37 = .ok (.istore_n 3, 1) := by decide +kernel
theorem dX9_tells_38 : decode cX9_tells 38 = .ok (.aload_n 0, 1) := by decide +kernel
theorem dX9_tells_39 : decode cX9_tells 39 = .ok (.getfield 28, 3) := by decide +kernel
theorem dX9_tells_42 : decode cX9_tells 42 = .ok (.iload_n 1, 1) := by decide +kernel
theorem dX9_tells_43 : decode cX9_tells 43 = .ok (.iaload, 1) := by decide +kernel
theorem dX9_tells_44 : decode cX9_tells 44 = .ok (.iconst 3, 1) := by decide +kernel
theorem dX9_tells_45 : decode cX9_tells 45 = .ok (.if_icmp .eq 54, 3) := by decide +kernel
theorem dX9_tells_48 : decode cX9_tells 48 = .ok (.iload_n 2, 1) := by decide +kernel
theorem dX9_tells_49 : decode cX9_tells 49 = .ok (.ifCond .eq 46, 3) := by decide +kernel
theorem dX9_tells_52 : decode cX9_tells 52 = .ok (.iload_n 2, 1) := by decide +kernel
theorem dX9_tells_53 : decode cX9_tells 53 = .ok (.iconst 1, 1) := by decide +kernel
theorem dX9_tells_54 : decode cX9_tells 54 = .ok (.if_icmp .ne 13, 3) := by decide +kernel
theorem dX9_tells_57 : decode cX9_tells 57 = .ok (.aload_n 0, 1) := by decide +kernel
theorem dX9_tells_58 : decode cX9_tells 58 = .ok (.getfield 28, 3) := by decide +kernel
theorem dX9_tells_61 : decode cX9_tells 61 = .ok (.iload_n 1, 1) := by decide +kernel
theorem dX9_tells_62 : decode cX9_tells 62 = .ok (.iaload, 1) := by decide +kernel
theorem dX9_tells_63 : decode cX9_tells 63 = .ok (.iconst 1, 1) := by decide +kernel
theorem dX9_tells_64 : decode cX9_tells 64 = .ok (.if_icmp .eq 31, 3) := by decide +kernel
theorem dX9_tells_67 : decode cX9_tells 67 = .ok (.iload_n 2, 1) := by decide +kernel
theorem dX9_tells_68 : decode cX9_tells 68 = .ok (.iconst 1, 1) := by decide +kernel
theorem dX9_tells_69 : decode cX9_tells 69 = .ok (.if_icmp .le 30, 3) := by decide +kernel
theorem dX9_tells_72 : decode cX9_tells 72 = .ok (.aload_n 0, 1) := by decide +kernel
theorem dX9_tells_73 : decode cX9_tells 73 = .ok (.getfield 28, 3) := by decide +kernel
theorem dX9_tells_76 : decode cX9_tells 76 = .ok (.iload_n 1, 1) := by decide +kernel
theorem dX9_tells_77 : decode cX9_tells 77 = .ok (.iaload, 1) := by decide +kernel
theorem dX9_tells_78 : decode cX9_tells 78 = .ok (.iconst 2, 1) := by decide +kernel
theorem dX9_tells_79 : decode cX9_tells 79 = .ok (.if_icmp .ne 20, 3) := by decide +kernel
theorem dX9_tells_82 : decode cX9_tells 82 = .ok (.iload_n 2, 1) := by decide +kernel
theorem dX9_tells_83 : decode cX9_tells 83 = .ok (.iconst 2, 1) := by decide +kernel
theorem dX9_tells_84 : decode cX9_tells 84 = .ok (.if_icmp .eq 11, 3) := by decide +kernel
theorem dX9_tells_87 : decode cX9_tells 87 = .ok (.aload_n 0, 1) := by decide +kernel
theorem dX9_tells_88 : decode cX9_tells 88 = .ok (.iload_n 3, 1) := by decide +kernel
theorem dX9_tells_89 : decode cX9_tells 89 = .ok (.invokevirtual 100, 3) := by decide +kernel
theorem dX9_tells_92 : decode cX9_tells 92 = .ok (.ifCond .eq 7, 3) := by decide +kernel
theorem dX9_tells_95 : decode cX9_tells 95 = .ok (.iconst 1, 1) := by decide +kernel
theorem dX9_tells_96 : decode cX9_tells 96 = .ok (.goto 4, 3) := by decide +kernel
theorem dX9_tells_99 : decode cX9_tells 99 = .ok (.iconst 0, 1) := by decide +kernel
theorem dX9_tells_100 : decode cX9_tells 100 = .ok (.istore 4, 2) := by decide +kernel
theorem dX9_tells_102 : decode cX9_tells 102 = .ok (.iload 4, 2) := by decide +kernel
theorem dX9_tells_104 : decode cX9_tells 104 = .ok (.ifCond .ne 6, 3) := by decide +kernel
theorem dX9_tells_107 : decode cX9_tells 107 = .ok (.bipush (-12), 2) := by decide +kernel
theorem dX9_tells_109 : decode cX9_tells 109 = .ok (.ireturn, 1) := by decide +kernel
theorem dX9_tells_110 : decode cX9_tells 110 = .ok (.iload_n 2, 1) := by decide +kernel
theorem dX9_tells_111 : decode cX9_tells 111 = .ok (.ifCond .ne 7, 3) := by decide +kernel
theorem dX9_tells_114 : decode cX9_tells 114 = .ok (.iload_n 3, 1) := by decide +kernel
theorem dX9_tells_115 : decode cX9_tells 115 = .ok (.goto 32, 3) := by decide +kernel
theorem dX9_tells_118 : decode cX9_tells 118 = .ok (.iload_n 2, 1) := by decide +kernel
theorem dX9_tells_119 : decode cX9_tells 119 = .ok (.iconst 1, 1) := by decide +kernel
theorem dX9_tells_120 : decode cX9_tells 120 = .ok (.if_icmp .ne 12, 3) := by decide +kernel
theorem dX9_tells_123 : decode cX9_tells 123 = .ok (.aload_n 0, 1) := by decide +kernel
theorem dX9_tells_124 : decode cX9_tells 124 = .ok (.iload_n 3, 1) := by decide +kernel
theorem dX9_tells_125 : decode cX9_tells 125 = .ok (.iconst 2, 1) := by decide +kernel
theorem dX9_tells_126 : decode cX9_tells 126 = .ok (.invokevirtual 53, 3) := by decide +kernel
theorem dX9_tells_129 : decode cX9_tells 129 = .ok (.goto 18, 3) := by decide +kernel
theorem dX9_tells_132 : decode cX9_tells 132 = .ok (.aload_n 0, 1) := by decide +kernel
theorem dX9_tells_133 : decode cX9_tells 133 = .ok (.iload_n 3, 1) := by decide +kernel
theorem dX9_tells_134 : decode cX9_tells 134 = .ok (.iload_n 2, 1) := by decide +kernel
theorem dX9_tells_135 : decode cX9_tells 135 = .ok (.iconst 2, 1) := by decide +kernel
theorem dX9_tells_136 : decode cX9_tells 136 = .ok (.if_icmp .ne 7, 3) := by decide +kernel
theorem dX9_tells_139 : decode cX9_tells 139 = .ok (.iconst 0, 1) := by decide +kernel
theorem dX9_tells_140 : decode cX9_tells 140 = .ok (.goto 4, 3) := by decide +kernel
theorem dX9_tells_143 : decode cX9_tells 143 = .ok (.iconst 2, 1) := by decide +kernel
theorem dX9_tells_144 : decode cX9_tells 144 = .ok (.invokevirtual 81, 3) := by decide +kernel
theorem dX9_tells_147 : decode cX9_tells 147 = .ok (.ireturn, 1) := by decide +kernel
set_option maxRecDepth 20000 in
theorem ggX9_count_X9_isOut : GoodIn wsX9_count wsX9_isOut := goodIn_r _ [8, 9, 10, 11, 7, 12, 1, 17, 18, 19, 20, 21, 22, 23, 24, 25, 26, 27, 28, 29, 30, 31, 32] (by decide +kernel) (by decide +kernel)
set_option maxRecDepth 20000 in
theorem gX9_count_X9_isOut : GoodIn wsX9_count (wsV RX9 100 RX9 yX9_isOut wsX9_isOut) := goodIn_app (goodIn_of _ (by decide +kernel)) ggX9_count_X9_isOut
set_option maxRecDepth 20000 in
theorem ggX9_count_X9_t : GoodIn wsX9_count wsX9_t := goodIn_r _ [12, 1, 17, 18, 19, 20, 21, 22, 23, 24, 25, 26, 27, 28, 29, 30, 31, 32] (by decide +kernel) (by decide +kernel)
set_option maxRecDepth 20000 in
theorem gX9_count_X9_t : GoodIn wsX9_count (wsV RX9 81 RX9 yX9_t wsX9_t) := goodIn_app (goodIn_of _ (by decide +kernel)) ggX9_count_X9_t
set_option maxRecDepth 20000 in
theorem ggX9_count_X9_p : GoodIn wsX9_count wsX9_p := goodIn_r _ [16, 1, 17, 18, 19, 20, 21, 22, 23, 24, 25, 26, 27, 28, 29, 30, 31, 32] (by decide +kernel) (by decide +kernel)
set_option maxRecDepth 20000 in
theorem gX9_count_X9_p : GoodIn wsX9_count (wsV RX9 53 RX9 yX9_p wsX9_p) := goodIn_app (goodIn_of _ (by decide +kernel)) ggX9_count_X9_p
theorem dX9_count_0 : decode cX9_count 0 = .ok (.iconst 0, 1) := by decide +kernel
theorem dX9_count_1 : decode cX9_count 1 = .ok (.istore_n 2, 1) := by decide +kernel
theorem dX9_count_2 : decode cX9_count 2 = .ok (.iload_n 1, 1) := by decide +kernel
theorem dX9_count_3 : decode cX9_count 3 = .ok (.tableswitch 224 0 8 #[49, 58, 67, 105, 137, 146, 155, 186, 191], 49) := by decide +kernel
theorem dX9_count_52 : decode cX9_count 52 = .ok (.aload_n 0, 1) := by decide +kernel
theorem dX9_count_53 : decode cX9_count 53 = .ok (.getfield 9, 3) := by decide +kernel
theorem dX9_count_56 : decode cX9_count 56 = .ok (.sipush 1080, 3) := by decide +kernel
theorem dX9_count_59 : decode cX9_count 59 = .ok (.iaload, 1) := by decide +kernel
theorem dX9_count_60 : decode cX9_count 60 = .ok (.ireturn, 1) := by decide +kernel
theorem dX9_count_61 : decode cX9_count 61 = .ok (.aload_n 0, 1) := by decide +kernel
theorem dX9_count_62 : decode cX9_count 62 = .ok (.getfield 9, 3) := by decide +kernel
theorem dX9_count_65 : decode cX9_count 65 = .ok (.sipush 1081, 3) := by decide +kernel
theorem dX9_count_68 : decode cX9_count 68 = .ok (.iaload, 1) := by decide +kernel
theorem dX9_count_69 : decode cX9_count 69 = .ok (.ireturn, 1) := by decide +kernel
theorem dX9_count_70 : decode cX9_count 70 = .ok (.iconst 0, 1) := by decide +kernel
theorem dX9_count_71 : decode cX9_count 71 = .ok (.istore_n 3, 1) := by decide +kernel
theorem dX9_count_72 : decode cX9_count 72 = .ok (.iload_n 3, 1) := by decide +kernel
theorem dX9_count_73 : decode cX9_count 73 = .ok (.aload_n 0, 1) := by decide +kernel
theorem dX9_count_74 : decode cX9_count 74 = .ok (.getfield 9, 3) := by decide +kernel
theorem dX9_count_77 : decode cX9_count 77 = .ok (.sipush 1081, 3) := by decide +kernel
theorem dX9_count_80 : decode cX9_count 80 = .ok (.iaload, 1) := by decide +kernel
theorem dX9_count_81 : decode cX9_count 81 = .ok (.if_icmp .ge 25, 3) := by decide +kernel
theorem dX9_count_84 : decode cX9_count 84 = .ok (.iload_n 2, 1) := by decide +kernel
theorem dX9_count_85 : decode cX9_count 85 = .ok (.aload_n 0, 1) := by decide +kernel
theorem dX9_count_86 : decode cX9_count 86 = .ok (.iload_n 3, 1) := by decide +kernel
theorem dX9_count_87 : decode cX9_count 87 = .ok (.invokevirtual 100, 3) := by decide +kernel
theorem dX9_count_90 : decode cX9_count 90 = .ok (.ifCond .eq 7, 3) := by decide +kernel
theorem dX9_count_93 : decode cX9_count 93 = .ok (.iconst 1, 1) := by decide +kernel
theorem dX9_count_94 : decode cX9_count 94 = .ok (.goto 4, 3) := by decide +kernel
theorem dX9_count_97 : decode cX9_count 97 = .ok (.iconst 0, 1) := by decide +kernel
theorem dX9_count_98 : decode cX9_count 98 = .ok (.iadd, 1) := by decide +kernel
theorem dX9_count_99 : decode cX9_count 99 = .ok (.istore_n 2, 1) := by decide +kernel
theorem dX9_count_100 : decode cX9_count 100 = .ok (.iinc 3 1, 3) := by decide +kernel
theorem dX9_count_103 : decode cX9_count 103 = .ok (.goto (-31), 3) := by decide +kernel
theorem dX9_count_106 : decode cX9_count 106 = .ok (.iload_n 2, 1) := by decide +kernel
theorem dX9_count_107 : decode cX9_count 107 = .ok (.ireturn, 1) := by decide +kernel
theorem dX9_count_108 : decode cX9_count 108 = .ok (.iconst 0, 1) := by decide +kernel
theorem dX9_count_109 : decode cX9_count 109 = .ok (.istore_n 3, 1) := by decide +kernel
theorem dX9_count_110 : decode cX9_count 110 = .ok (.iload_n 3, 1) := by decide +kernel
theorem dX9_count_111 : decode cX9_count 111 = .ok (.aload_n 0, 1) := by decide +kernel
theorem dX9_count_112 : decode cX9_count 112 = .ok (.getfield 9, 3) := by decide +kernel
theorem dX9_count_115 : decode cX9_count 115 = .ok (.sipush 1081, 3) := by decide +kernel
theorem dX9_count_118 : decode cX9_count 118 = .ok (.iaload, 1) := by decide +kernel
theorem dX9_count_119 : decode cX9_count 119 = .ok (.if_icmp .ge 19, 3) := by decide +kernel
theorem dX9_count_122 : decode cX9_count 122 = .ok (.iload_n 2, 1) := by decide +kernel
theorem dX9_count_123 : decode cX9_count 123 = .ok (.aload_n 0, 1) := by decide +kernel
theorem dX9_count_124 : decode cX9_count 124 = .ok (.iload_n 3, 1) := by decide +kernel
theorem dX9_count_125 : decode cX9_count 125 = .ok (.bipush 57, 2) := by decide +kernel
theorem dX9_count_127 : decode cX9_count 127 = .ok (.invokevirtual 81, 3) := by decide +kernel
theorem dX9_count_130 : decode cX9_count 130 = .ok (.iadd, 1) := by decide +kernel
theorem dX9_count_131 : decode cX9_count 131 = .ok (.istore_n 2, 1) := by decide +kernel
theorem dX9_count_132 : decode cX9_count 132 = .ok (.iinc 3 1, 3) := by decide +kernel
theorem dX9_count_135 : decode cX9_count 135 = .ok (.goto (-25), 3) := by decide +kernel
theorem dX9_count_138 : decode cX9_count 138 = .ok (.iload_n 2, 1) := by decide +kernel
theorem dX9_count_139 : decode cX9_count 139 = .ok (.ireturn, 1) := by decide +kernel
theorem dX9_count_140 : decode cX9_count 140 = .ok (.aload_n 0, 1) := by decide +kernel
theorem dX9_count_141 : decode cX9_count 141 = .ok (.getfield 9, 3) := by decide +kernel
theorem dX9_count_144 : decode cX9_count 144 = .ok (.sipush 1082, 3) := by decide +kernel
theorem dX9_count_147 : decode cX9_count 147 = .ok (.iaload, 1) := by decide +kernel
theorem dX9_count_148 : decode cX9_count 148 = .ok (.ireturn, 1) := by decide +kernel
theorem dX9_count_149 : decode cX9_count 149 = .ok (.aload_n 0, 1) := by decide +kernel
theorem dX9_count_150 : decode cX9_count 150 = .ok (.getfield 9, 3) := by decide +kernel
theorem dX9_count_153 : decode cX9_count 153 = .ok (.sipush 1083, 3) := by decide +kernel
theorem dX9_count_156 : decode cX9_count 156 = .ok (.iaload, 1) := by decide +kernel
theorem dX9_count_157 : decode cX9_count 157 = .ok (.ireturn, 1) := by decide +kernel
theorem dX9_count_158 : decode cX9_count 158 = .ok (.iconst 0, 1) := by decide +kernel
theorem dX9_count_159 : decode cX9_count 159 = .ok (.istore_n 3, 1) := by decide +kernel
theorem dX9_count_160 : decode cX9_count 160 = .ok (.iload_n 3, 1) := by decide +kernel
theorem dX9_count_161 : decode cX9_count 161 = .ok (.aload_n 0, 1) := by decide +kernel
theorem dX9_count_162 : decode cX9_count 162 = .ok (.getfield 9, 3) := by decide +kernel
theorem dX9_count_165 : decode cX9_count 165 = .ok (.sipush 1080, 3) := by decide +kernel
theorem dX9_count_168 : decode cX9_count 168 = .ok (.iaload, 1) := by decide +kernel
theorem dX9_count_169 : decode cX9_count 169 = .ok (.if_icmp .ge 18, 3) := by decide +kernel
theorem dX9_count_172 : decode cX9_count 172 = .ok (.iload_n 2, 1) := by decide +kernel
theorem dX9_count_173 : decode cX9_count 173 = .ok (.aload_n 0, 1) := by decide +kernel
theorem dX9_count_174 : decode cX9_count 174 = .ok (.iload_n 3, 1) := by decide +kernel
theorem dX9_count_175 : decode cX9_count 175 = .ok (.iconst 4, 1) := by decide +kernel
theorem dX9_count_176 : decode cX9_count 176 = .ok (.invokevirtual 53, 3) := by decide +kernel
theorem dX9_count_179 : decode cX9_count 179 = .ok (.iadd, 1) := by decide +kernel
theorem dX9_count_180 : decode cX9_count 180 = .ok (.istore_n 2, 1) := by decide +kernel
theorem dX9_count_181 : decode cX9_count 181 = .ok (.iinc 3 1, 3) := by decide +kernel
theorem dX9_count_184 : decode cX9_count 184 = .ok (.goto (-24), 3) := by decide +kernel
theorem dX9_count_187 : decode cX9_count 187 = .ok (.iload_n 2, 1) := by decide +kernel
theorem dX9_count_188 : decode cX9_count 188 = .ok (.ireturn, 1) := by decide +kernel
theorem dX9_count_189 : decode cX9_count 189 = .ok (.aload_n 0, 1) := by decide +kernel
theorem dX9_count_190 : decode cX9_count 190 = .ok (.getfield 208, 3) := by decide +kernel
theorem dX9_count_193 : decode cX9_count 193 = .ok (.ireturn, 1) := by decide +kernel
theorem dX9_count_194 : decode cX9_count 194 = .ok (.iconst 0, 1) := by decide +kernel
theorem dX9_count_195 : decode cX9_count 195 = .ok (.istore_n 3, 1) := by decide +kernel
theorem dX9_count_196 : decode cX9_count 196 = .ok (.iload_n 3, 1) := by decide +kernel
theorem dX9_count_197 : decode cX9_count 197 = .ok (.bipush 6, 2) := by decide +kernel
theorem dX9_count_199 : decode cX9_count 199 = .ok (.if_icmp .ge 26, 3) := by decide +kernel
theorem dX9_count_202 : decode cX9_count 202 = .ok (.iload_n 2, 1) := by decide +kernel
theorem dX9_count_203 : decode cX9_count 203 = .ok (.aload_n 0, 1) := by decide +kernel
theorem dX9_count_204 : decode cX9_count 204 = .ok (.getfield 28, 3) := by decide +kernel
theorem dX9_count_207 : decode cX9_count 207 = .ok (.iload_n 3, 1) := by decide +kernel
theorem dX9_count_208 : decode cX9_count 208 = .ok (.iaload, 1) := by decide +kernel
theorem dX9_count_209 : decode cX9_count 209 = .ok (.ifCond .eq 7, 3) := by decide +kernel
theorem dX9_count_212 : decode cX9_count 212 = .ok (.iconst 1, 1) := by decide +kernel
theorem dX9_count_213 : decode cX9_count 213 = .ok (.goto 4, 3) := by decide +kernel
theorem dX9_count_216 : decode cX9_count 216 = .ok (.iconst 0, 1) := by decide +kernel
theorem dX9_count_217 : decode cX9_count 217 = .ok (.iadd, 1) := by decide +kernel
theorem dX9_count_218 : decode cX9_count 218 = .ok (.istore_n 2, 1) := by decide +kernel
theorem dX9_count_219 : decode cX9_count 219 = .ok (.iinc 3 1, 3) := by decide +kernel
theorem dX9_count_222 : decode cX9_count 222 = .ok (.goto (-26), 3) := by decide +kernel
theorem dX9_count_225 : decode cX9_count 225 = .ok (.iload_n 2, 1) := by decide +kernel
theorem dX9_count_226 : decode cX9_count 226 = .ok (.ireturn, 1) := by decide +kernel
theorem dX9_count_227 : decode cX9_count 227 = .ok (.iconst (-1), 1) := by decide +kernel
theorem dX9_count_228 : decode cX9_count 228 = .ok (.ireturn, 1) := by decide +kernel
theorem dJ9_max_7cf53_0 : decode cJ9_max_7cf53 0 = .ok (.iload_n 0, 1) := by decide +kernel
theorem dJ9_max_7cf53_1 : decode cJ9_max_7cf53 1 = .ok (.iload_n 1, 1) := by decide +kernel
theorem dJ9_max_7cf53_2 : decode cJ9_max_7cf53 2 = .ok (.if_icmp .lt 7, 3) := by decide +kernel
theorem dJ9_max_7cf53_5 : decode cJ9_max_7cf53 5 = .ok (.iload_n 0, 1) := by decide +kernel
theorem dJ9_max_7cf53_6 : decode cJ9_max_7cf53 6 = .ok (.goto 4, 3) := by decide +kernel
theorem dJ9_max_7cf53_9 : decode cJ9_max_7cf53 9 = .ok (.iload_n 1, 1) := by decide +kernel
theorem dJ9_max_7cf53_10 : decode cJ9_max_7cf53 10 = .ok (.ireturn, 1) := by decide +kernel
theorem dJ9_min_7cf53_0 : decode cJ9_min_7cf53 0 = .ok (.iload_n 0, 1) := by decide +kernel
theorem dJ9_min_7cf53_1 : decode cJ9_min_7cf53 1 = .ok (.iload_n 1, 1) := by decide +kernel
theorem dJ9_min_7cf53_2 : decode cJ9_min_7cf53 2 = .ok (.if_icmp .gt 7, 3) := by decide +kernel
theorem dJ9_min_7cf53_5 : decode cJ9_min_7cf53 5 = .ok (.iload_n 0, 1) := by decide +kernel
theorem dJ9_min_7cf53_6 : decode cJ9_min_7cf53 6 = .ok (.goto 4, 3) := by decide +kernel
theorem dJ9_min_7cf53_9 : decode cJ9_min_7cf53 9 = .ok (.iload_n 1, 1) := by decide +kernel
theorem dJ9_min_7cf53_10 : decode cJ9_min_7cf53 10 = .ok (.ireturn, 1) := by decide +kernel
