theorem dX9_init_0 : decode cX9_init 0 = .ok (.aload_n 0, 1) := by decide +kernel
theorem dX9_init_1 : decode cX9_init 1 = .ok (.invokespecial 3, 3) := by decide +kernel
theorem dX9_init_4 : decode cX9_init 4 = .ok (.aload_n 0, 1) := by decide +kernel
theorem dX9_init_5 : decode cX9_init 5 = .ok (.sipush 1087, 3) := by decide +kernel
theorem dX9_init_8 : decode cX9_init 8 = .ok (.newarray .int, 2) := by decide +kernel
theorem dX9_init_10 : decode cX9_init 10 = .ok (.putfield 9, 3) := by decide +kernel
theorem dX9_init_13 : decode cX9_init 13 = .ok (.aload_n 0, 1) := by decide +kernel
theorem dX9_init_14 : decode cX9_init 14 = .ok (.sipush 1087, 3) := by decide +kernel
theorem dX9_init_17 : decode cX9_init 17 = .ok (.newarray .int, 2) := by decide +kernel
theorem dX9_init_19 : decode cX9_init 19 = .ok (.putfield 13, 3) := by decide +kernel
theorem dX9_init_22 : decode cX9_init 22 = .ok (.aload_n 0, 1) := by decide +kernel
theorem dX9_init_23 : decode cX9_init 23 = .ok (.sipush 1087, 3) := by decide +kernel
theorem dX9_init_26 : decode cX9_init 26 = .ok (.newarray .int, 2) := by decide +kernel
theorem dX9_init_28 : decode cX9_init 28 = .ok (.putfield 16, 3) := by decide +kernel
theorem dX9_init_31 : decode cX9_init 31 = .ok (.aload_n 0, 1) := by decide +kernel
theorem dX9_init_32 : decode cX9_init 32 = .ok (.sipush 1087, 3) := by decide +kernel
theorem dX9_init_35 : decode cX9_init 35 = .ok (.newarray .int, 2) := by decide +kernel
theorem dX9_init_37 : decode cX9_init 37 = .ok (.putfield 19, 3) := by decide +kernel
theorem dX9_init_40 : decode cX9_init 40 = .ok (.aload_n 0, 1) := by decide +kernel
theorem dX9_init_41 : decode cX9_init 41 = .ok (.bipush 12, 2) := by decide +kernel
theorem dX9_init_43 : decode cX9_init 43 = .ok (.newarray .int, 2) := by decide +kernel
theorem dX9_init_45 : decode cX9_init 45 = .ok (.putfield 22, 3) := by decide +kernel
theorem dX9_init_48 : decode cX9_init 48 = .ok (.aload_n 0, 1) := by decide +kernel
theorem dX9_init_49 : decode cX9_init 49 = .ok (.bipush 120, 2) := by decide +kernel
theorem dX9_init_51 : decode cX9_init 51 = .ok (.newarray .int, 2) := by decide +kernel
theorem dX9_init_53 : decode cX9_init 53 = .ok (.putfield 25, 3) := by decide +kernel
theorem dX9_init_56 : decode cX9_init 56 = .ok (.aload_n 0, 1) := by decide +kernel
theorem dX9_init_57 : decode cX9_init 57 = .ok (.bipush 6, 2) := by decide +kernel
theorem dX9_init_59 : decode cX9_init 59 = .ok (.newarray .int, 2) := by decide +kernel
theorem dX9_init_61 : decode cX9_init 61 = .ok (.putfield 28, 3) := by decide +kernel
theorem dX9_init_64 : decode cX9_init 64 = .ok (.aload_n 0, 1) := by decide +kernel
theorem dX9_init_65 : decode cX9_init 65 = .ok (.bipush 6, 2) := by decide +kernel
theorem dX9_init_67 : decode cX9_init 67 = .ok (.newarray .int, 2) := by decide +kernel
theorem dX9_init_69 : decode cX9_init 69 = .ok (.putfield 31, 3) := by decide +kernel
theorem dX9_init_72 : decode cX9_init 72 = .ok (.aload_n 0, 1) := by decide +kernel
theorem dX9_init_73 : decode cX9_init 73 = .ok (.bipush 6, 2) := by decide +kernel
theorem dX9_init_75 : decode cX9_init 75 = .ok (.newarray .int, 2) := by decide +kernel
theorem dX9_init_77 : decode cX9_init 77 = .ok (.putfield 34, 3) := by decide +kernel
theorem dX9_init_80 : decode cX9_init 80 = .ok (.aload_n 0, 1) := by decide +kernel
theorem dX9_init_81 : decode cX9_init 81 = .ok (.bipush 6, 2) := by decide +kernel
theorem dX9_init_83 : decode cX9_init 83 = .ok (.bipush 60, 2) := by decide +kernel
theorem dX9_init_85 : decode cX9_init 85 = .ok (.multianewarray 37 2, 4) := by decide +kernel
theorem dX9_init_89 : decode cX9_init 89 = .ok (.putfield 39, 3) := by decide +kernel
theorem dX9_init_92 : decode cX9_init 92 = .ok (.aload_n 0, 1) := by decide +kernel
theorem dX9_init_93 : decode cX9_init 93 = .ok (.iconst 4, 1) := by decide +kernel
theorem dX9_init_94 : decode cX9_init 94 = .ok (.newarray .int, 2) := by decide +kernel
theorem dX9_init_96 : decode cX9_init 96 = .ok (.putfield 42, 3) := by decide +kernel
theorem dX9_init_99 : decode cX9_init 99 = .ok (.return_, 1) := by decide +kernel
theorem dX9_in_0 : decode cX9_in 0 = .ok (.iload_n 0, 1) := by decide +kernel
theorem dX9_in_1 : decode cX9_in 1 = .ok (.iload_n 1, 1) := by decide +kernel
theorem dX9_in_2 : decode cX9_in 2 = .ok (.if_icmp .lt 12, 3) := by decide +kernel
theorem dX9_in_5 : decode cX9_in 5 = .ok (.iload_n 0, 1) := by decide +kernel
theorem dX9_in_6 : decode cX9_in 6 = .ok (.iload_n 2, 1) := by decide +kernel
theorem dX9_in_7 : decode cX9_in 7 = .ok (.if_icmp .gt 7, 3) := by decide +kernel
theorem dX9_in_10 : decode cX9_in 10 = .ok (.iconst 1, 1) := by decide +kernel
theorem dX9_in_11 : decode cX9_in 11 = .ok (.goto 4, 3) := by decide +kernel
theorem dX9_in_14 : decode cX9_in 14 = .ok (.iconst 0, 1) := by decide +kernel
theorem dX9_in_15 : decode cX9_in 15 = .ok (.ireturn, 1) := by decide +kernel
theorem dX9_take_0 : decode cX9_take 0 = .ok (.iconst 0, 1) := by decide +kernel
theorem dX9_take_1 : decode cX9_take 1 = .ok (.istore_n 2, 1) := by decide +kernel
theorem dX9_take_2 : decode cX9_take 2 = .ok (.iload_n 2, 1) := by decide +kernel
theorem dX9_take_3 : decode cX9_take 3 = .ok (.sipush 1087, 3) := by decide +kernel
theorem dX9_take_6 : decode cX9_take 6 = .ok (.if_icmp .ge 15, 3) := by decide +kernel
theorem dX9_take_9 : decode cX9_take 9 = .ok (.aload_n 1, 1) := by decide +kernel
theorem dX9_take_10 : decode cX9_take 10 = .ok (.iload_n 2, 1) := by decide +kernel
theorem dX9_take_11 : decode cX9_take 11 = .ok (.aload_n 0, 1) := by decide +kernel
theorem dX9_take_12 : decode cX9_take 12 = .ok (.iload_n 2, 1) := by decide +kernel
theorem dX9_take_13 : decode cX9_take 13 = .ok (.iaload, 1) := by decide +kernel
theorem dX9_take_14 : decode cX9_take 14 = .ok (.iastore, 1) := by decide +kernel
theorem dX9_take_15 : decode cX9_take 15 = .ok (.iinc 2 1, 3) := by decide +kernel
theorem dX9_take_18 : decode cX9_take 18 = .ok (.goto (-16), 3) := by decide +kernel
theorem dX9_take_21 : decode cX9_take 21 = .ok (.return_, 1) := by decide +kernel
set_option maxRecDepth 20000 in
theorem ggX9_isPerson_X9_in : GoodIn wsX9_isPerson wsX9_in := goodIn_r _ [5] (by decide +kernel) (by decide +kernel)
set_option maxRecDepth 20000 in
theorem gX9_isPerson_X9_in : GoodIn wsX9_isPerson (va_wsS RX9 45 yX9_in wsX9_in) := goodIn_app (goodIn_of _ (by decide +kernel)) ggX9_isPerson_X9_in
theorem dX9_isPerson_0 : decode cX9_isPerson 0 = .ok (.iload_n 1, 1) := by decide +kernel
theorem dX9_isPerson_1 : decode cX9_isPerson 1 = .ok (.iconst 0, 1) := by decide +kernel
theorem dX9_isPerson_2 : decode cX9_isPerson 2 = .ok (.aload_n 0, 1) := by decide +kernel
theorem dX9_isPerson_3 : decode cX9_isPerson 3 = .ok (.getfield 9, 3) := by decide +kernel
theorem dX9_isPerson_6 : decode cX9_isPerson 6 = .ok (.sipush 1080, 3) := by decide +kernel
theorem dX9_isPerson_9 : decode cX9_isPerson 9 = .ok (.iaload, 1) := by decide +kernel
theorem dX9_isPerson_10 : decode cX9_isPerson 10 = .ok (.iconst 1, 1) := by decide +kernel
theorem dX9_isPerson_11 : decode cX9_isPerson 11 = .ok (.isub, 1) := by decide +kernel
theorem dX9_isPerson_12 : decode cX9_isPerson 12 = .ok (.invokestatic 45, 3) := by decide +kernel
theorem dX9_isPerson_15 : decode cX9_isPerson 15 = .ok (.ireturn, 1) := by decide +kernel
set_option maxRecDepth 20000 in
theorem ggX9_isTool_X9_in : GoodIn wsX9_isTool wsX9_in := goodIn_r _ [5] (by decide +kernel) (by decide +kernel)
set_option maxRecDepth 20000 in
theorem gX9_isTool_X9_in : GoodIn wsX9_isTool (va_wsS RX9 45 yX9_in wsX9_in) := goodIn_app (goodIn_of _ (by decide +kernel)) ggX9_isTool_X9_in
theorem dX9_isTool_0 : decode cX9_isTool 0 = .ok (.iload_n 1, 1) := by decide +kernel
theorem dX9_isTool_1 : decode cX9_isTool 1 = .ok (.iconst 0, 1) := by decide +kernel
theorem dX9_isTool_2 : decode cX9_isTool 2 = .ok (.aload_n 0, 1) := by decide +kernel
theorem dX9_isTool_3 : decode cX9_isTool 3 = .ok (.getfield 9, 3) := by decide +kernel
theorem dX9_isTool_6 : decode cX9_isTool 6 = .ok (.sipush 1081, 3) := by decide +kernel
theorem dX9_isTool_9 : decode cX9_isTool 9 = .ok (.iaload, 1) := by decide +kernel
theorem dX9_isTool_10 : decode cX9_isTool 10 = .ok (.iconst 1, 1) := by decide +kernel
theorem dX9_isTool_11 : decode cX9_isTool 11 = .ok (.isub, 1) := by decide +kernel
theorem dX9_isTool_12 : decode cX9_isTool 12 = .ok (.invokestatic 45, 3) := by decide +kernel
theorem dX9_isTool_15 : decode cX9_isTool 15 = .ok (.ireturn, 1) := by decide +kernel
theorem dX9_p_0 : decode cX9_p 0 = .ok (.aload_n 0, 1) := by decide +kernel
theorem dX9_p_1 : decode cX9_p 1 = .ok (.getfield 9, 3) := by decide +kernel
theorem dX9_p_4 : decode cX9_p 4 = .ok (.iload_n 1, 1) := by decide +kernel
theorem dX9_p_5 : decode cX9_p 5 = .ok (.bipush 15, 2) := by decide +kernel
theorem dX9_p_7 : decode cX9_p 7 = .ok (.imul, 1) := by decide +kernel
theorem dX9_p_8 : decode cX9_p 8 = .ok (.iload_n 2, 1) := by decide +kernel
theorem dX9_p_9 : decode cX9_p 9 = .ok (.iadd, 1) := by decide +kernel
theorem dX9_p_10 : decode cX9_p 10 = .ok (.iaload, 1) := by decide +kernel
theorem dX9_p_11 : decode cX9_p 11 = .ok (.ireturn, 1) := by decide +kernel
theorem dX9_setP_0 : decode cX9_setP 0 = .ok (.aload_n 0, 1) := by decide +kernel
theorem dX9_setP_1 : decode cX9_setP 1 = .ok (.getfield 9, 3) := by decide +kernel
theorem dX9_setP_4 : decode cX9_setP 4 = .ok (.iload_n 1, 1) := by decide +kernel
theorem dX9_setP_5 : decode cX9_setP 5 = .ok (.bipush 15, 2) := by decide +kernel
theorem dX9_setP_7 : decode cX9_setP 7 = .ok (.imul, 1) := by decide +kernel
theorem dX9_setP_8 : decode cX9_setP 8 = .ok (.iload_n 2, 1) := by decide +kernel
theorem dX9_setP_9 : decode cX9_setP 9 = .ok (.iadd, 1) := by decide +kernel
theorem dX9_setP_10 : decode cX9_setP 10 = .ok (.iload_n 3, 1) := by decide +kernel
theorem dX9_setP_11 : decode cX9_setP 11 = .ok (.iastore, 1) := by decide +kernel
theorem dX9_setP_12 : decode cX9_setP 12 = .ok (.return_, 1) := by decide +kernel
theorem dX9_t_0 : decode cX9_t 0 = .ok (.aload_n 0, 1) := by decide +kernel
theorem dX9_t_1 : decode cX9_t 1 = .ok (.getfield 9, 3) := by decide +kernel
theorem dX9_t_4 : decode cX9_t 4 = .ok (.sipush 180, 3) := by decide +kernel
theorem dX9_t_7 : decode cX9_t 7 = .ok (.iload_n 1, 1) := by decide +kernel
theorem dX9_t_8 : decode cX9_t 8 = .ok (.bipush 90, 2) := by decide +kernel
theorem dX9_t_10 : decode cX9_t 10 = .ok (.imul, 1) := by decide +kernel
theorem dX9_t_11 : decode cX9_t 11 = .ok (.iadd, 1) := by decide +kernel
theorem dX9_t_12 : decode cX9_t 12 = .ok (.iload_n 2, 1) := by decide +kernel
theorem dX9_t_13 : decode cX9_t 13 = .ok (.iadd, 1) := by decide +kernel
theorem dX9_t_14 : decode cX9_t 14 = .ok (.iaload, 1) := by decide +kernel
theorem dX9_t_15 : decode cX9_t 15 = .ok (.ireturn, 1) := by decide +kernel
theorem dX9_setT_0 : decode cX9_setT 0 = .ok (.aload_n 0, 1) := by decide +kernel
theorem dX9_setT_1 : decode cX9_setT 1 = .ok (.getfield 9, 3) := by decide +kernel
theorem dX9_setT_4 : decode cX9_setT 4 = .ok (.sipush 180, 3) := by decide +kernel
theorem dX9_setT_7 : decode cX9_setT 7 = .ok (.iload_n 1, 1) := by decide +kernel
theorem dX9_setT_8 : decode cX9_setT 8 = .ok (.bipush 90, 2) := by decide +kernel
theorem dX9_setT_10 : decode cX9_setT 10 = .ok (.imul, 1) := by decide +kernel
theorem dX9_setT_11 : decode cX9_setT 11 = .ok (.iadd, 1) := by decide +kernel
theorem dX9_setT_12 : decode cX9_setT 12 = .ok (.iload_n 2, 1) := by decide +kernel
theorem dX9_setT_13 : decode cX9_setT 13 = .ok (.iadd, 1) := by decide +kernel
theorem dX9_setT_14 : decode cX9_setT 14 = .ok (.iload_n 3, 1) := by decide +kernel
theorem dX9_setT_15 : decode cX9_setT 15 = .ok (.iastore, 1) := by decide +kernel
theorem dX9_setT_16 : decode cX9_setT 16 = .ok (.return_, 1) := by decide +kernel
theorem dX9_cut_0 : decode cX9_cut 0 = .ok (.iload_n 0, 1) := by decide +kernel
theorem dX9_cut_1 : decode cX9_cut 1 = .ok (.iload_n 1, 1) := by decide +kernel
theorem dX9_cut_2 : decode cX9_cut 2 = .ok (.if_icmp .ge 7, 3) := by decide +kernel
theorem dX9_cut_5 : decode cX9_cut 5 = .ok (.iload_n 1, 1) := by decide +kernel
theorem dX9_cut_6 : decode cX9_cut 6 = .ok (.goto 13, 3) := by decide +kernel
theorem dX9_cut_9 : decode cX9_cut 9 = .ok (.iload_n 0, 1) := by decide +kernel
theorem dX9_cut_10 : decode cX9_cut 10 = .ok (.iload_n 2, 1) := by decide +kernel
theorem dX9_cut_11 : decode cX9_cut 11 = .ok (.if_icmp .le 7, 3) := by decide +kernel
theorem dX9_cut_14 : decode cX9_cut 14 = .ok (.iload_n 2, 1) := by decide +kernel
theorem dX9_cut_15 : decode cX9_cut 15 = .ok (.goto 4, 3) := by decide +kernel
theorem dX9_cut_18 : decode cX9_cut 18 = .ok (.iload_n 0, 1) := by decide +kernel
theorem dX9_cut_19 : decode cX9_cut 19 = .ok (.ireturn, 1) := by decide +kernel
set_option maxRecDepth 20000 in
theorem ggX9_isName_X9_in : GoodIn wsX9_isName wsX9_in := goodIn_r _ [4] (by decide +kernel) (by decide +kernel)
set_option maxRecDepth 20000 in
theorem gX9_isName_X9_in : GoodIn wsX9_isName (va_wsS RX9 45 yX9_in wsX9_in) := goodIn_app (goodIn_of _ (by decide +kernel)) ggX9_isName_X9_in
theorem dX9_isName_0 : decode cX9_isName 0 = .ok (.iload_n 0, 1) := by decide +kernel
theorem dX9_isName_1 : decode cX9_isName 1 = .ok (.iconst 1, 1) := by decide +kernel
theorem dX9_isName_2 : decode cX9_isName 2 = .ok (.sipush 19682, 3) := by decide +kernel
theorem dX9_isName_5 : decode cX9_isName 5 = .ok (.invokestatic 45, 3) := by decide +kernel
theorem dX9_isName_8 : decode cX9_isName 8 = .ok (.ifCond .ne 5, 3) := by decide +kernel
theorem dX9_isName_11 : decode cX9_isName 11 = .ok (.iconst 0, 1) := by decide +kernel
theorem dX9_isName_12 : decode cX9_isName 12 = .ok (.ireturn, 1) := by decide +kernel
theorem dX9_isName_13 : decode cX9_isName 13 = .ok (.iload_n 0, 1) := by decide +kernel
theorem dX9_isName_14 : decode cX9_isName 14 = .ok (.istore_n 1, 1) := by decide +kernel
theorem dX9_isName_15 : decode cX9_isName 15 = .ok (.iload_n 1, 1) := by decide +kernel
theorem dX9_isName_16 : decode cX9_isName 16 = .ok (.ifCond .le 20, 3) := by decide +kernel
theorem dX9_isName_19 : decode cX9_isName 19 = .ok (.iload_n 1, 1) := by decide +kernel
theorem dX9_isName_20 : decode cX9_isName 20 = .ok (.bipush 27, 2) := by decide +kernel
theorem dX9_isName_22 : decode cX9_isName 22 = .ok (.irem, 1) := by decide +kernel
theorem dX9_isName_23 : decode cX9_isName 23 = .ok (.ifCond .ne 5, 3) := by decide +kernel
theorem dX9_isName_26 : decode cX9_isName 26 = .ok (.iconst 0, 1) := by decide +kernel
theorem dX9_isName_27 : decode cX9_isName 27 = .ok (.ireturn, 1) := by decide +kernel
theorem dX9_isName_28 : decode cX9_isName 28 = .ok (.iload_n 1, 1) := by decide +kernel
theorem dX9_isName_29 : decode cX9_isName 29 = .ok (.bipush 27, 2) := by decide +kernel
theorem dX9_isName_31 : decode cX9_isName 31 = .ok (.idiv, 1) := by decide +kernel
theorem dX9_isName_32 : decode cX9_isName 32 = .ok (.istore_n 1, 1) := by decide +kernel
theorem dX9_isName_33 : decode cX9_isName 33 = .ok (.goto (-18), 3) := by decide +kernel
theorem dX9_isName_36 : decode cX9_isName 36 = .ok (.iconst 1, 1) := by decide +kernel
theorem dX9_isName_37 : decode cX9_isName 37 = .ok (.ireturn, 1) := by decide +kernel
set_option maxRecDepth 20000 in
theorem ggX9_person_X9_isName : GoodIn wsX9_person wsX9_isName := goodIn_r _ [5, 6, 7, 4, 8] (by decide +kernel) (by decide +kernel)
set_option maxRecDepth 20000 in
theorem gX9_person_X9_isName : GoodIn wsX9_person (va_wsS RX9 49 yX9_isName wsX9_isName) := goodIn_app (goodIn_of _ (by decide +kernel)) ggX9_person_X9_isName
set_option maxRecDepth 20000 in
theorem ggX9_person_X9_in : GoodIn wsX9_person wsX9_in := goodIn_r _ [8] (by decide +kernel) (by decide +kernel)
set_option maxRecDepth 20000 in
theorem gX9_person_X9_in : GoodIn wsX9_person (va_wsS RX9 45 yX9_in wsX9_in) := goodIn_app (goodIn_of _ (by decide +kernel)) ggX9_person_X9_in
set_option maxRecDepth 20000 in
theorem ggX9_person_X9_p : GoodIn wsX9_person wsX9_p := goodIn_r _ [12, 1, 17, 18, 19, 20, 21, 22, 23, 24, 25, 26, 27, 28, 29, 30, 31, 32] (by decide +kernel) (by decide +kernel)
set_option maxRecDepth 20000 in
theorem gX9_person_X9_p : GoodIn wsX9_person (wsV RX9 53 RX9 yX9_p wsX9_p) := goodIn_app (goodIn_of _ (by decide +kernel)) ggX9_person_X9_p
set_option maxRecDepth 20000 in
theorem ggX9_person_X9_setP : GoodIn wsX9_person wsX9_setP := goodIn_r _ [16, 1, 17, 18, 19, 20, 21, 22, 23, 24, 25, 26, 27, 28, 29, 30, 31, 32] (by decide +kernel) (by decide +kernel)
set_option maxRecDepth 20000 in
theorem gX9_person_X9_setP : GoodIn wsX9_person (wsV RX9 57 RX9 yX9_setP wsX9_setP) := goodIn_app (goodIn_of _ (by decide +kernel)) ggX9_person_X9_setP
theorem dX9_person_0 : decode cX9_person 0 = .ok (.iload_n 1, 1) := by decide +kernel
theorem dX9_person_1 : decode cX9_person 1 = .ok (.invokestatic 49, 3) := by decide +kernel
theorem dX9_person_4 : decode cX9_person 4 = .ok (.ifCond .eq 14, 3) := by decide +kernel
theorem dX9_person_7 : decode cX9_person 7 = .ok (.iload_n 2, 1) := by decide +kernel
theorem dX9_person_8 : decode cX9_person 8 = .ok (.iconst 0, 1) := by decide +kernel
theorem dX9_person_9 : decode cX9_person 9 = .ok (.sipush 9999, 3) := by decide +kernel
theorem dX9_person_12 : decode cX9_person 12 = .ok (.invokestatic 45, 3) := by decide +kernel
theorem dX9_person_15 : decode cX9_person 15 = .ok (.ifCond .ne 5, 3) := by decide +kernel
theorem dX9_person_18 : decode cX9_person 18 = .ok (.iconst (-1), 1) := by decide +kernel
theorem dX9_person_19 : decode cX9_person 19 = .ok (.ireturn, 1) := by decide +kernel
theorem dX9_person_20 : decode cX9_person 20 = .ok (.iconst 0, 1) := by decide +kernel
theorem dX9_person_21 : decode cX9_person 21 = .ok (.istore_n 3, 1) := by decide +kernel
theorem dX9_person_22 : decode cX9_person 22 = .ok (.iload_n 3, 1) := by decide +kernel
theorem dX9_person_23 : decode cX9_person 23 = .ok (.aload_n 0, 1) := by decide +kernel
theorem dX9_person_24 : decode cX9_person 24 = .ok (.getfield 9, 3) := by decide +kernel
theorem dX9_person_27 : decode cX9_person 27 = .ok (.sipush 1080, 3) := by decide +kernel
theorem dX9_person_30 : decode cX9_person 30 = .ok (.iaload, 1) := by decide +kernel
theorem dX9_person_31 : decode cX9_person 31 = .ok (.if_icmp .ge 22, 3) := by decide +kernel
theorem dX9_person_34 : decode cX9_person 34 = .ok (.aload_n 0, 1) := by decide +kernel
theorem dX9_person_35 : decode cX9_person 35 = .ok (.iload_n 3, 1) := by decide +kernel
theorem dX9_person_36 : decode cX9_person 36 = .ok (.iconst 0, 1) := by decide +kernel
theorem dX9_person_37 : decode cX9_person 37 = .ok (.invokevirtual 53, 3) := by decide +kernel
theorem dX9_person_40 : decode cX9_person 40 = .ok (.iload_n 1, 1) := by decide +kernel
theorem dX9_person_41 : decode cX9_person 41 = .ok (.if_icmp .ne 6, 3) := by decide +kernel
theorem dX9_person_44 : decode cX9_person 44 = .ok (.bipush (-5), 2) := by decide +kernel
theorem dX9_person_46 : decode cX9_person 46 = .ok (.ireturn, 1) := by decide +kernel
theorem dX9_person_47 : decode cX9_person 47 = .ok (.iinc 3 1, 3) := by decide +kernel
theorem dX9_person_50 : decode cX9_person 50 = .ok (.goto (-28), 3) := by decide +kernel
theorem dX9_person_53 : decode cX9_person 53 = .ok (.aload_n 0, 1) := by decide +kernel
theorem dX9_person_54 : decode cX9_person 54 = .ok (.getfield 9, 3) := by decide +kernel
theorem dX9_person_57 : decode cX9_person 57 = .ok (.sipush 1080, 3) := by decide +kernel
theorem dX9_person_60 : decode cX9_person 60 = .ok (.iaload, 1) := by decide +kernel
theorem dX9_person_61 : decode cX9_person 61 = .ok (.bipush 12, 2) := by decide +kernel
theorem dX9_person_63 : decode cX9_person 63 = .ok (.if_icmp .ne 6, 3) := by decide +kernel
theorem dX9_person_66 : decode cX9_person 66 = .ok (.bipush (-3), 2) := by decide +kernel
theorem dX9_person_68 : decode cX9_person 68 = .ok (.ireturn, 1) := by decide +kernel
theorem dX9_person_69 : decode cX9_person 69 = .ok (.aload_n 0, 1) := by decide +kernel
theorem dX9_person_70 : decode cX9_person 70 = .ok (.getfield 9, 3) := by decide +kernel
theorem dX9_person_73 : decode cX9_person 73 = .ok (.sipush 1080, 3) := by decide +kernel
theorem dX9_person_76 : decode cX9_person 76 = .ok (.dup2, 1) := by decide +kernel
theorem dX9_person_77 : decode cX9_person 77 = .ok (.iaload, 1) := by decide +kernel
theorem dX9_person_78 : decode cX9_person 78 = .ok (.dup_x2, 1) := by decide +kernel
theorem dX9_person_79 : decode cX9_person 79 = .ok (.iconst 1, 1) := by decide +kernel
theorem dX9_person_80 : decode cX9_person 80 = .ok (.iadd, 1) := by decide +kernel
theorem dX9_person_81 : decode cX9_person 81 = .ok (.iastore, 1) := by decide +kernel
theorem dX9_person_82 : decode cX9_person 82 = .ok (.istore_n 3, 1) := by decide +kernel
theorem dX9_person_83 : decode cX9_person 83 = .ok (.iconst 0, 1) := by decide +kernel
theorem dX9_person_84 : decode cX9_person 84 = .ok (.istore 4, 2) := by decide +kernel
theorem dX9_person_86 : decode cX9_person 86 = .ok (.iload 4, 2) := by decide +kernel
theorem dX9_person_88 : decode cX9_person 88 = .ok (.bipush 15, 2) := by decide +kernel
theorem dX9_person_90 : decode cX9_person 90 = .ok (.if_icmp .ge 17, 3) := by decide +kernel
theorem dX9_person_93 : decode cX9_person 93 = .ok (.aload_n 0, 1) := by decide +kernel
theorem dX9_person_94 : decode cX9_person 94 = .ok (.iload_n 3, 1) := by decide +kernel
theorem dX9_person_95 : decode cX9_person 95 = .ok (.iload 4, 2) := by decide +kernel
theorem dX9_person_97 : decode cX9_person 97 = .ok (.iconst 0, 1) := by decide +kernel
theorem dX9_person_98 : decode cX9_person 98 = .ok (.invokevirtual 57, 3) := by decide +kernel
theorem dX9_person_101 : decode cX9_person 101 = .ok (.iinc 4 1, 3) := by decide +kernel
theorem dX9_person_104 : decode cX9_person 104 = .ok (.goto (-18), 3) := by decide +kernel
theorem dX9_person_107 : decode cX9_person 107 = .ok (.aload_n 0, 1) := by decide +kernel
theorem dX9_person_108 : decode cX9_person 108 = .ok (.iload_n 3, 1) := by decide +kernel
theorem dX9_person_109 : decode cX9_person 109 = .ok (.iconst 0, 1) := by decide +kernel
theorem dX9_person_110 : decode cX9_person 110 = .ok (.iload_n 1, 1) := by decide +kernel
theorem dX9_person_111 : decode cX9_person 111 = .ok (.invokevirtual 57, 3) := by decide +kernel
theorem dX9_person_114 : decode cX9_person 114 = .ok (.aload_n 0, 1) := by decide +kernel
theorem dX9_person_115 : decode cX9_person 115 = .ok (.iload_n 3, 1) := by decide +kernel
theorem dX9_person_116 : decode cX9_person 116 = .ok (.iconst 1, 1) := by decide +kernel
theorem dX9_person_117 : decode cX9_person 117 = .ok (.iload_n 2, 1) := by decide +kernel
theorem dX9_person_118 : decode cX9_person 118 = .ok (.invokevirtual 57, 3) := by decide +kernel
theorem dX9_person_121 : decode cX9_person 121 = .ok (.aload_n 0, 1) := by decide +kernel
theorem dX9_person_122 : decode cX9_person 122 = .ok (.iload_n 3, 1) := by decide +kernel
theorem dX9_person_123 : decode cX9_person 123 = .ok (.iconst 2, 1) := by decide +kernel
theorem dX9_person_124 : decode cX9_person 124 = .ok (.bipush 50, 2) := by decide +kernel
theorem dX9_person_126 : decode cX9_person 126 = .ok (.invokevirtual 57, 3) := by decide +kernel
theorem dX9_person_129 : decode cX9_person 129 = .ok (.iload_n 3, 1) := by decide +kernel
theorem dX9_person_130 : decode cX9_person 130 = .ok (.ireturn, 1) := by decide +kernel
theorem dX9_spread_0 : decode cX9_spread 0 = .ok (.iload_n 0, 1) := by decide +kernel
theorem dX9_spread_1 : decode cX9_spread 1 = .ok (.bipush 27, 2) := by decide +kernel
theorem dX9_spread_3 : decode cX9_spread 3 = .ok (.if_icmp .ge 11, 3) := by decide +kernel
theorem dX9_spread_6 : decode cX9_spread 6 = .ok (.iload_n 0, 1) := by decide +kernel
theorem dX9_spread_7 : decode cX9_spread 7 = .ok (.sipush 729, 3) := by decide +kernel
theorem dX9_spread_10 : decode cX9_spread 10 = .ok (.imul, 1) := by decide +kernel
theorem dX9_spread_11 : decode cX9_spread 11 = .ok (.goto 18, 3) := by decide +kernel
theorem dX9_spread_14 : decode cX9_spread 14 = .ok (.iload_n 0, 1) := by decide +kernel
theorem dX9_spread_15 : decode cX9_spread 15 = .ok (.sipush 729, 3) := by decide +kernel
theorem dX9_spread_18 : decode cX9_spread 18 = .ok (.if_icmp .ge 10, 3) := by decide +kernel
theorem dX9_spread_21 : decode cX9_spread 21 = .ok (.iload_n 0, 1) := by decide +kernel
theorem dX9_spread_22 : decode cX9_spread 22 = .ok (.bipush 27, 2) := by decide +kernel
theorem dX9_spread_24 : decode cX9_spread 24 = .ok (.imul, 1) := by decide +kernel
theorem dX9_spread_25 : decode cX9_spread 25 = .ok (.goto 4, 3) := by decide +kernel
theorem dX9_spread_28 : decode cX9_spread 28 = .ok (.iload_n 0, 1) := by decide +kernel
theorem dX9_spread_29 : decode cX9_spread 29 = .ok (.ireturn, 1) := by decide +kernel
set_option maxRecDepth 20000 in
theorem ggX9_isAhead_X9_p : GoodIn wsX9_isAhead wsX9_p := goodIn_r _ [5, 6, 10, 11, 12, 13, 14, 15, 16, 17, 18, 19, 20, 21, 22, 23, 24, 25] (by decide +kernel) (by decide +kernel)
set_option maxRecDepth 20000 in
theorem gX9_isAhead_X9_p : GoodIn wsX9_isAhead (wsV RX9 53 RX9 yX9_p wsX9_p) := goodIn_app (goodIn_of _ (by decide +kernel)) ggX9_isAhead_X9_p
set_option maxRecDepth 20000 in
theorem ggX9_isAhead_X9_spread : GoodIn wsX9_isAhead wsX9_spread := goodIn_r _ [9] (by decide +kernel) (by decide +kernel)
set_option maxRecDepth 20000 in
theorem gX9_isAhead_X9_spread : GoodIn wsX9_isAhead (va_wsS RX9 61 yX9_spread wsX9_spread) := goodIn_app (goodIn_of _ (by decide +kernel)) ggX9_isAhead_X9_spread
theorem dX9_isAhead_0 : decode cX9_isAhead 0 = .ok (.aload_n 0, 1) := by decide +kernel
theorem dX9_isAhead_1 : decode cX9_isAhead 1 = .ok (.iload_n 1, 1) := by decide +kernel
theorem dX9_isAhead_2 : decode cX9_isAhead 2 = .ok (.iconst 2, 1) := by decide +kernel
theorem dX9_isAhead_3 : decode cX9_isAhead 3 = .ok (.invokevirtual 53, 3) := by decide +kernel
theorem dX9_isAhead_6 : decode cX9_isAhead 6 = .ok (.aload_n 0, 1) := by decide +kernel
theorem dX9_isAhead_7 : decode cX9_isAhead 7 = .ok (.iload_n 2, 1) := by decide +kernel
theorem dX9_isAhead_8 : decode cX9_isAhead 8 = .ok (.iconst 2, 1) := by decide +kernel
theorem dX9_isAhead_9 : decode cX9_isAhead 9 = .ok (.invokevirtual 53, 3) := by decide +kernel
theorem dX9_isAhead_12 : decode cX9_isAhead 12 = .ok (.if_icmp .eq 24, 3) := by decide +kernel
theorem dX9_isAhead_15 : decode cX9_isAhead 15 = .ok (.aload_n 0, 1) := by decide +kernel
theorem dX9_isAhead_16 : decode cX9_isAhead 16 = .ok (.iload_n 1, 1) := by decide +kernel
theorem dX9_isAhead_17 : decode cX9_isAhead 17 = .ok (.iconst 2, 1) := by decide +kernel
theorem dX9_isAhead_18 : decode cX9_isAhead 18 = .ok (.invokevirtual 53, 3) := by decide +kernel
theorem dX9_isAhead_21 : decode cX9_isAhead 21 = .ok (.aload_n 0, 1) := by decide +kernel
theorem dX9_isAhead_22 : decode cX9_isAhead 22 = .ok (.iload_n 2, 1) := by decide +kernel
theorem dX9_isAhead_23 : decode cX9_isAhead 23 = .ok (.iconst 2, 1) := by decide +kernel
theorem dX9_isAhead_24 : decode cX9_isAhead 24 = .ok (.invokevirtual 53, 3) := by decide +kernel
theorem dX9_isAhead_27 : decode cX9_isAhead 27 = .ok (.if_icmp .le 7, 3) := by decide +kernel
theorem dX9_isAhead_30 : decode cX9_isAhead 30 = .ok (.iconst 1, 1) := by decide +kernel
theorem dX9_isAhead_31 : decode cX9_isAhead 31 = .ok (.goto 4, 3) := by decide +kernel
theorem dX9_isAhead_34 : decode cX9_isAhead 34 = .ok (.iconst 0, 1) := by decide +kernel
theorem dX9_isAhead_35 : decode cX9_isAhead 35 = .ok (.ireturn, 1) := by decide +kernel
theorem dX9_isAhead_36 : decode cX9_isAhead 36 = .ok (.aload_n 0, 1) := by decide +kernel
theorem dX9_isAhead_37 : decode cX9_isAhead 37 = .ok (.iload_n 1, 1) := by decide +kernel
theorem dX9_isAhead_38 : decode cX9_isAhead 38 = .ok (.iconst 3, 1) := by decide +kernel
theorem dX9_isAhead_39 : decode cX9_isAhead 39 = .ok (.invokevirtual 53, 3) := by decide +kernel
theorem dX9_isAhead_42 : decode cX9_isAhead 42 = .ok (.aload_n 0, 1) := by decide +kernel
theorem dX9_isAhead_43 : decode cX9_isAhead 43 = .ok (.iload_n 2, 1) := by decide +kernel
theorem dX9_isAhead_44 : decode cX9_isAhead 44 = .ok (.iconst 3, 1) := by decide +kernel
theorem dX9_isAhead_45 : decode cX9_isAhead 45 = .ok (.invokevirtual 53, 3) := by decide +kernel
theorem dX9_isAhead_48 : decode cX9_isAhead 48 = .ok (.if_icmp .eq 24, 3) := by decide +kernel
theorem dX9_isAhead_51 : decode cX9_isAhead 51 = .ok (.aload_n 0, 1) := by decide +kernel
theorem dX9_isAhead_52 : decode cX9_isAhead 52 = .ok (.iload_n 1, 1) := by decide +kernel
theorem dX9_isAhead_53 : decode cX9_isAhead 53 = .ok (.iconst 3, 1) := by decide +kernel
theorem dX9_isAhead_54 : decode cX9_isAhead 54 = .ok (.invokevirtual 53, 3) := by decide +kernel
theorem dX9_isAhead_57 : decode cX9_isAhead 57 = .ok (.aload_n 0, 1) := by decide +kernel
theorem dX9_isAhead_58 : decode cX9_isAhead 58 = .ok (.iload_n 2, 1) := by decide +kernel
theorem dX9_isAhead_59 : decode cX9_isAhead 59 = .ok (.iconst 3, 1) := by decide +kernel
theorem dX9_isAhead_60 : decode cX9_isAhead 60 = .ok (.invokevirtual 53, 3) := by decide +kernel
theorem dX9_isAhead_63 : decode cX9_isAhead 63 = .ok (.if_icmp .ge 7, 3) := by decide +kernel
theorem dX9_isAhead_66 : decode cX9_isAhead 66 = .ok (.iconst 1, 1) := by decide +kernel
theorem dX9_isAhead_67 : decode cX9_isAhead 67 = .ok (.goto 4, 3) := by decide +kernel
theorem dX9_isAhead_70 : decode cX9_isAhead 70 = .ok (.iconst 0, 1) := by decide +kernel
theorem dX9_isAhead_71 : decode cX9_isAhead 71 = .ok (.ireturn, 1) := by decide +kernel
theorem dX9_isAhead_72 : decode cX9_isAhead 72 = .ok (.aload_n 0, 1) := by decide +kernel
theorem dX9_isAhead_73 : decode cX9_isAhead 73 = .ok (.iload_n 1, 1) := by decide +kernel
theorem dX9_isAhead_74 : decode cX9_isAhead 74 = .ok (.iconst 0, 1) := by decide +kernel
theorem dX9_isAhead_75 : decode cX9_isAhead 75 = .ok (.invokevirtual 53, 3) := by decide +kernel
theorem dX9_isAhead_78 : decode cX9_isAhead 78 = .ok (.invokestatic 61, 3) := by decide +kernel
theorem dX9_isAhead_81 : decode cX9_isAhead 81 = .ok (.aload_n 0, 1) := by decide +kernel
theorem dX9_isAhead_82 : decode cX9_isAhead 82 = .ok (.iload_n 2, 1) := by decide +kernel
theorem dX9_isAhead_83 : decode cX9_isAhead 83 = .ok (.iconst 0, 1) := by decide +kernel
theorem dX9_isAhead_84 : decode cX9_isAhead 84 = .ok (.invokevirtual 53, 3) := by decide +kernel
theorem dX9_isAhead_87 : decode cX9_isAhead 87 = .ok (.invokestatic 61, 3) := by decide +kernel
theorem dX9_isAhead_90 : decode cX9_isAhead 90 = .ok (.if_icmp .ge 7, 3) := by decide +kernel
theorem dX9_isAhead_93 : decode cX9_isAhead 93 = .ok (.iconst 1, 1) := by decide +kernel
theorem dX9_isAhead_94 : decode cX9_isAhead 94 = .ok (.goto 4, 3) := by decide +kernel
theorem dX9_isAhead_97 : decode cX9_isAhead 97 = .ok (.iconst 0, 1) := by decide +kernel
theorem dX9_isAhead_98 : decode cX9_isAhead 98 = .ok (.ireturn, 1) := by decide +kernel
set_option maxRecDepth 20000 in
theorem ggX9_rankOf_X9_isAhead : GoodIn wsX9_rankOf wsX9_isAhead := goodIn_r _ [6, 7, 8, 9, 5, 10, 1, 11, 12, 13, 14, 15, 16, 17, 18, 19, 20, 21, 22, 23, 24, 25, 26, 27, 28, 29] (by decide +kernel) (by decide +kernel)
set_option maxRecDepth 20000 in
theorem gX9_rankOf_X9_isAhead : GoodIn wsX9_rankOf (wsV RX9 65 RX9 yX9_isAhead wsX9_isAhead) := goodIn_app (goodIn_of _ (by decide +kernel)) ggX9_rankOf_X9_isAhead
theorem dX9_rankOf_0 : decode cX9_rankOf 0 = .ok (.iconst 0, 1) := by decide +kernel
theorem dX9_rankOf_1 : decode cX9_rankOf 1 = .ok (.istore_n 2, 1) := by decide +kernel
theorem dX9_rankOf_2 : decode cX9_rankOf 2 = .ok (.iconst 0, 1) := by decide +kernel
theorem dX9_rankOf_3 : decode cX9_rankOf 3 = .ok (.istore_n 3, 1) := by decide +kernel
theorem dX9_rankOf_4 : decode cX9_rankOf 4 = .ok (.iload_n 3, 1) := by decide +kernel
theorem dX9_rankOf_5 : decode cX9_rankOf 5 = .ok (.aload_n 0, 1) := by decide +kernel
theorem dX9_rankOf_6 : decode cX9_rankOf 6 = .ok (.getfield 9, 3) := by decide +kernel
theorem dX9_rankOf_9 : decode cX9_rankOf 9 = .ok (.sipush 1080, 3) := by decide +kernel
theorem dX9_rankOf_12 : decode cX9_rankOf 12 = .ok (.iaload, 1) := by decide +kernel
theorem dX9_rankOf_13 : decode cX9_rankOf 13 = .ok (.if_icmp .ge 31, 3) := by decide +kernel
theorem dX9_rankOf_16 : decode cX9_rankOf 16 = .ok (.iload_n 2, 1) := by decide +kernel
theorem dX9_rankOf_17 : decode cX9_rankOf 17 = .ok (.iload_n 3, 1) := by decide +kernel
theorem dX9_rankOf_18 : decode cX9_rankOf 18 = .ok (.iload_n 1, 1) := by decide +kernel
theorem dX9_rankOf_19 : decode cX9_rankOf 19 = .ok (.if_icmp .eq 16, 3) := by decide +kernel
theorem dX9_rankOf_22 : decode cX9_rankOf 22 = .ok (.aload_n 0, 1) := by decide +kernel
theorem dX9_rankOf_23 : decode cX9_rankOf 23 = .ok (.iload_n 3, 1) := by decide +kernel
theorem dX9_rankOf_24 : decode cX9_rankOf 24 = .ok (.iload_n 1, 1) := by decide +kernel
theorem dX9_rankOf_25 : decode cX9_rankOf 25 = .ok (.invokevirtual 65, 3) := by decide +kernel
theorem dX9_rankOf_28 : decode cX9_rankOf 28 = .ok (.ifCond .eq 7, 3) := by decide +kernel
theorem dX9_rankOf_31 : decode cX9_rankOf 31 = .ok (.iconst 1, 1) := by decide +kernel
theorem dX9_rankOf_32 : decode cX9_rankOf 32 = .ok (.goto 4, 3) := by decide +kernel
theorem dX9_rankOf_35 : decode cX9_rankOf 35 = .ok (.iconst 0, 1) := by decide +kernel
theorem dX9_rankOf_36 : decode cX9_rankOf 36 = .ok (.iadd, 1) := by decide +kernel
theorem dX9_rankOf_37 : decode cX9_rankOf 37 = .ok (.istore_n 2, 1) := by decide +kernel
theorem dX9_rankOf_38 : decode cX9_rankOf 38 = .ok (.iinc 3 1, 3) := by decide +kernel
theorem dX9_rankOf_41 : decode cX9_rankOf 41 = .ok (.goto (-37), 3) := by decide +kernel
theorem dX9_rankOf_44 : decode cX9_rankOf 44 = .ok (.iload_n 2, 1) := by decide +kernel
theorem dX9_rankOf_45 : decode cX9_rankOf 45 = .ok (.ireturn, 1) := by decide +kernel
set_option maxRecDepth 20000 in
theorem ggX9_rankedAt_X9_rankOf : GoodIn wsX9_rankedAt wsX9_rankOf := goodIn_r _ [6, 1, 7, 8, 9, 5, 10, 11, 12, 13, 14, 15, 16, 17, 18, 19, 20, 21, 22, 23, 24, 25, 26, 27, 28, 29, 30, 31, 32, 33] (by decide +kernel) (by decide +kernel)
set_option maxRecDepth 20000 in
theorem gX9_rankedAt_X9_rankOf : GoodIn wsX9_rankedAt (wsV RX9 69 RX9 yX9_rankOf wsX9_rankOf) := goodIn_app (goodIn_of _ (by decide +kernel)) ggX9_rankedAt_X9_rankOf
theorem dX9_rankedAt_0 : decode cX9_rankedAt 0 = .ok (.iconst 0, 1) := by decide +kernel
theorem dX9_rankedAt_1 : decode cX9_rankedAt 1 = .ok (.istore_n 2, 1) := by decide +kernel
theorem dX9_rankedAt_2 : decode cX9_rankedAt 2 = .ok (.iload_n 2, 1) := by decide +kernel
theorem dX9_rankedAt_3 : decode cX9_rankedAt 3 = .ok (.aload_n 0, 1) := by decide +kernel
theorem dX9_rankedAt_4 : decode cX9_rankedAt 4 = .ok (.getfield 9, 3) := by decide +kernel
theorem dX9_rankedAt_7 : decode cX9_rankedAt 7 = .ok (.sipush 1080, 3) := by decide +kernel
theorem dX9_rankedAt_10 : decode cX9_rankedAt 10 = .ok (.iaload, 1) := by decide +kernel
theorem dX9_rankedAt_11 : decode cX9_rankedAt 11 = .ok (.if_icmp .ge 20, 3) := by decide +kernel
theorem dX9_rankedAt_14 : decode cX9_rankedAt 14 = .ok (.aload_n 0, 1) := by decide +kernel
theorem dX9_rankedAt_15 : decode cX9_rankedAt 15 = .ok (.iload_n 2, 1) := by decide +kernel
theorem dX9_rankedAt_16 : decode cX9_rankedAt 16 = .ok (.invokevirtual 69, 3) := by decide +kernel
theorem dX9_rankedAt_19 : decode cX9_rankedAt 19 = .ok (.iload_n 1, 1) := by decide +kernel
theorem dX9_rankedAt_20 : decode cX9_rankedAt 20 = .ok (.if_icmp .ne 5, 3) := by decide +kernel
theorem dX9_rankedAt_23 : decode cX9_rankedAt 23 = .ok (.iload_n 2, 1) := by decide +kernel
theorem dX9_rankedAt_24 : decode cX9_rankedAt 24 = .ok (.ireturn, 1) := by decide +kernel
theorem dX9_rankedAt_25 : decode cX9_rankedAt 25 = .ok (.iinc 2 1, 3) := by decide +kernel
theorem dX9_rankedAt_28 : decode cX9_rankedAt 28 = .ok (.goto (-26), 3) := by decide +kernel
theorem dX9_rankedAt_31 : decode cX9_rankedAt 31 = .ok (.bipush (-2), 2) := by decide +kernel
theorem dX9_rankedAt_33 : decode cX9_rankedAt 33 = .ok (.ireturn, 1) := by decide +kernel
set_option maxRecDepth 20000 in
theorem ggX9_ranked_X9_rankedAt : GoodIn wsX9_ranked wsX9_rankedAt := goodIn_r _ [5, 6, 7, 8, 9, 4, 10, 11, 12, 13, 14, 15, 16, 17, 18, 19, 20, 21, 22, 23, 24, 25, 26, 27, 28, 29, 30, 31, 32, 33, 34, 35, 36, 37] (by decide +kernel) (by decide +kernel)
set_option maxRecDepth 20000 in
theorem gX9_ranked_X9_rankedAt : GoodIn wsX9_ranked (wsV RX9 72 RX9 yX9_rankedAt wsX9_rankedAt) := goodIn_app (goodIn_of _ (by decide +kernel)) ggX9_ranked_X9_rankedAt
theorem dX9_ranked_0 : decode cX9_ranked 0 = .ok (.iload_n 1, 1) := by decide +kernel
theorem dX9_ranked_1 : decode cX9_ranked 1 = .ok (.ifCond .ge 7, 3) := by decide +kernel
theorem dX9_ranked_4 : decode cX9_ranked 4 = .ok (.iconst (-1), 1) := by decide +kernel
theorem dX9_ranked_5 : decode cX9_ranked 5 = .ok (.goto 8, 3) := by decide +kernel
theorem dX9_ranked_8 : decode cX9_ranked 8 = .ok (.aload_n 0, 1) := by decide +kernel
theorem dX9_ranked_9 : decode cX9_ranked 9 = .ok (.iload_n 1, 1) := by decide +kernel
theorem dX9_ranked_10 : decode cX9_ranked 10 = .ok (.invokevirtual 72, 3) := by decide +kernel
theorem dX9_ranked_13 : decode cX9_ranked 13 = .ok (.ireturn, 1) := by decide +kernel
set_option maxRecDepth 20000 in
theorem ggX9_fund_X9_isPerson : GoodIn wsX9_fund wsX9_isPerson := goodIn_r _ [6, 1, 7, 8, 5, 9, 18, 19, 20, 21, 22, 23, 24, 25, 26, 27, 28, 29, 30, 31, 32, 33] (by decide +kernel) (by decide +kernel)
set_option maxRecDepth 20000 in
theorem gX9_fund_X9_isPerson : GoodIn wsX9_fund (wsV RX9 75 RX9 yX9_isPerson wsX9_isPerson) := goodIn_app (goodIn_of _ (by decide +kernel)) ggX9_fund_X9_isPerson
set_option maxRecDepth 20000 in
theorem ggX9_fund_X9_in : GoodIn wsX9_fund wsX9_in := goodIn_r _ [9] (by decide +kernel) (by decide +kernel)
set_option maxRecDepth 20000 in
theorem gX9_fund_X9_in : GoodIn wsX9_fund (va_wsS RX9 45 yX9_in wsX9_in) := goodIn_app (goodIn_of _ (by decide +kernel)) ggX9_fund_X9_in
set_option maxRecDepth 20000 in
theorem ggX9_fund_X9_p : GoodIn wsX9_fund wsX9_p := goodIn_r _ [13, 1, 18, 19, 20, 21, 22, 23, 24, 25, 26, 27, 28, 29, 30, 31, 32, 33] (by decide +kernel) (by decide +kernel)
set_option maxRecDepth 20000 in
theorem gX9_fund_X9_p : GoodIn wsX9_fund (wsV RX9 53 RX9 yX9_p wsX9_p) := goodIn_app (goodIn_of _ (by decide +kernel)) ggX9_fund_X9_p
set_option maxRecDepth 20000 in
theorem ggX9_fund_X9_setP : GoodIn wsX9_fund wsX9_setP := goodIn_r _ [17, 1, 18, 19, 20, 21, 22, 23, 24, 25, 26, 27, 28, 29, 30, 31, 32, 33] (by decide +kernel) (by decide +kernel)
set_option maxRecDepth 20000 in
theorem gX9_fund_X9_setP : GoodIn wsX9_fund (wsV RX9 57 RX9 yX9_setP wsX9_setP) := goodIn_app (goodIn_of _ (by decide +kernel)) ggX9_fund_X9_setP
theorem dX9_fund_0 : decode cX9_fund 0 = .ok (.aload_n 0, 1) := by decide +kernel
theorem dX9_fund_1 : decode cX9_fund 1 = .ok (.iload_n 1, 1) := by decide +kernel
theorem dX9_fund_2 : decode cX9_fund 2 = .ok (.invokevirtual 75, 3) := by decide +kernel
theorem dX9_fund_5 : decode cX9_fund 5 = .ok (.ifCond .eq 14, 3) := by decide +kernel
theorem dX9_fund_8 : decode cX9_fund 8 = .ok (.iload_n 2, 1) := by decide +kernel
theorem dX9_fund_9 : decode cX9_fund 9 = .ok (.iconst 1, 1) := by decide +kernel
theorem dX9_fund_10 : decode cX9_fund 10 = .ok (.sipush 999, 3) := by decide +kernel
theorem dX9_fund_13 : decode cX9_fund 13 = .ok (.invokestatic 45, 3) := by decide +kernel
theorem dX9_fund_16 : decode cX9_fund 16 = .ok (.ifCond .ne 5, 3) := by decide +kernel
theorem dX9_fund_19 : decode cX9_fund 19 = .ok (.iconst (-1), 1) := by decide +kernel
theorem dX9_fund_20 : decode cX9_fund 20 = .ok (.ireturn, 1) := by decide +kernel
theorem dX9_fund_21 : decode cX9_fund 21 = .ok (.aload_n 0, 1) := by decide +kernel
theorem dX9_fund_22 : decode cX9_fund 22 = .ok (.iload_n 1, 1) := by decide +kernel
theorem dX9_fund_23 : decode cX9_fund 23 = .ok (.iconst 4, 1) := by decide +kernel
theorem dX9_fund_24 : decode cX9_fund 24 = .ok (.invokevirtual 53, 3) := by decide +kernel
theorem dX9_fund_27 : decode cX9_fund 27 = .ok (.iload_n 2, 1) := by decide +kernel
theorem dX9_fund_28 : decode cX9_fund 28 = .ok (.if_icmp .ge 12, 3) := by decide +kernel
theorem dX9_fund_31 : decode cX9_fund 31 = .ok (.aload_n 0, 1) := by decide +kernel
theorem dX9_fund_32 : decode cX9_fund 32 = .ok (.iload_n 1, 1) := by decide +kernel
theorem dX9_fund_33 : decode cX9_fund 33 = .ok (.iconst 4, 1) := by decide +kernel
theorem dX9_fund_34 : decode cX9_fund 34 = .ok (.invokevirtual 53, 3) := by decide +kernel
theorem dX9_fund_37 : decode cX9_fund 37 = .ok (.goto 4, 3) := by decide +kernel
theorem dX9_fund_40 : decode cX9_fund 40 = .ok (.iload_n 2, 1) := by decide +kernel
theorem dX9_fund_41 : decode cX9_fund 41 = .ok (.istore_n 3, 1) := by decide +kernel
theorem dX9_fund_42 : decode cX9_fund 42 = .ok (.aload_n 0, 1) := by decide +kernel
theorem dX9_fund_43 : decode cX9_fund 43 = .ok (.iload_n 1, 1) := by decide +kernel
theorem dX9_fund_44 : decode cX9_fund 44 = .ok (.iconst 1, 1) := by decide +kernel
theorem dX9_fund_45 : decode cX9_fund 45 = .ok (.invokevirtual 53, 3) := by decide +kernel
theorem dX9_fund_48 : decode cX9_fund 48 = .ok (.iload_n 2, 1) := by decide +kernel
theorem dX9_fund_49 : decode cX9_fund 49 = .ok (.iadd, 1) := by decide +kernel
theorem dX9_fund_50 : decode cX9_fund 50 = .ok (.iload_n 3, 1) := by decide +kernel
theorem dX9_fund_51 : decode cX9_fund 51 = .ok (.isub, 1) := by decide +kernel
theorem dX9_fund_52 : decode cX9_fund 52 = .ok (.istore 4, 2) := by decide +kernel
theorem dX9_fund_54 : decode cX9_fund 54 = .ok (.iload 4, 2) := by decide +kernel
theorem dX9_fund_56 : decode cX9_fund 56 = .ok (.sipush 9999, 3) := by decide +kernel
theorem dX9_fund_59 : decode cX9_fund 59 = .ok (.if_icmp .le 6, 3) := by decide +kernel
theorem dX9_fund_62 : decode cX9_fund 62 = .ok (.bipush (-5), 2) := by decide +kernel
theorem dX9_fund_64 : decode cX9_fund 64 = .ok (.ireturn, 1) := by decide +kernel
theorem dX9_fund_65 : decode cX9_fund 65 = .ok (.aload_n 0, 1) := by decide +kernel
theorem dX9_fund_66 : decode cX9_fund 66 = .ok (.iload_n 1, 1) := by decide +kernel
theorem dX9_fund_67 : decode cX9_fund 67 = .ok (.iconst 4, 1) := by decide +kernel
theorem dX9_fund_68 : decode cX9_fund 68 = .ok (.aload_n 0, 1) := by decide +kernel
theorem dX9_fund_69 : decode cX9_fund 69 = .ok (.iload_n 1, 1) := by decide +kernel
theorem dX9_fund_70 : decode cX9_fund 70 = .ok (.iconst 4, 1) := by decide +kernel
theorem dX9_fund_71 : decode cX9_fund 71 = .ok (.invokevirtual 53, 3) := by decide +kernel
theorem dX9_fund_74 : decode cX9_fund 74 = .ok (.iload_n 3, 1) := by decide +kernel
theorem dX9_fund_75 : decode cX9_fund 75 = .ok (.isub, 1) := by decide +kernel
theorem dX9_fund_76 : decode cX9_fund 76 = .ok (.invokevirtual 57, 3) := by decide +kernel
theorem dX9_fund_79 : decode cX9_fund 79 = .ok (.aload_n 0, 1) := by decide +kernel
theorem dX9_fund_80 : decode cX9_fund 80 = .ok (.getfield 9, 3) := by decide +kernel
theorem dX9_fund_83 : decode cX9_fund 83 = .ok (.sipush 1083, 3) := by decide +kernel
theorem dX9_fund_86 : decode cX9_fund 86 = .ok (.dup2, 1) := by decide +kernel
theorem dX9_fund_87 : decode cX9_fund 87 = .ok (.iaload, 1) := by decide +kernel
theorem dX9_fund_88 : decode cX9_fund 88 = .ok (.iload_n 3, 1) := by decide +kernel
theorem dX9_fund_89 : decode cX9_fund 89 = .ok (.iadd, 1) := by decide +kernel
theorem dX9_fund_90 : decode cX9_fund 90 = .ok (.iastore, 1) := by decide +kernel
theorem dX9_fund_91 : decode cX9_fund 91 = .ok (.aload_n 0, 1) := by decide +kernel
theorem dX9_fund_92 : decode cX9_fund 92 = .ok (.iload_n 1, 1) := by decide +kernel
theorem dX9_fund_93 : decode cX9_fund 93 = .ok (.iconst 1, 1) := by decide +kernel
theorem dX9_fund_94 : decode cX9_fund 94 = .ok (.iload 4, 2) := by decide +kernel
theorem dX9_fund_96 : decode cX9_fund 96 = .ok (.invokevirtual 57, 3) := by decide +kernel
theorem dX9_fund_99 : decode cX9_fund 99 = .ok (.iload 4, 2) := by decide +kernel
theorem dX9_fund_101 : decode cX9_fund 101 = .ok (.ireturn, 1) := by decide +kernel
set_option maxRecDepth 20000 in
theorem ggX9_wish_X9_isPerson : GoodIn wsX9_wish wsX9_isPerson := goodIn_r _ [5, 6, 7, 8, 4, 9, 22, 23, 24, 25, 26, 27, 28, 29, 30, 31, 32, 33, 34, 35, 36, 37] (by decide +kernel) (by decide +kernel)
set_option maxRecDepth 20000 in
theorem gX9_wish_X9_isPerson : GoodIn wsX9_wish (wsV RX9 75 RX9 yX9_isPerson wsX9_isPerson) := goodIn_app (goodIn_of _ (by decide +kernel)) ggX9_wish_X9_isPerson
set_option maxRecDepth 20000 in
theorem ggX9_wish_X9_isTool : GoodIn wsX9_wish wsX9_isTool := goodIn_r _ [13, 6, 7, 8, 4, 9, 22, 23, 24, 25, 26, 27, 28, 29, 30, 31, 32, 33, 34, 35, 36, 37] (by decide +kernel) (by decide +kernel)
set_option maxRecDepth 20000 in
theorem gX9_wish_X9_isTool : GoodIn wsX9_wish (wsV RX9 78 RX9 yX9_isTool wsX9_isTool) := goodIn_app (goodIn_of _ (by decide +kernel)) ggX9_wish_X9_isTool
set_option maxRecDepth 20000 in
theorem ggX9_wish_X9_in : GoodIn wsX9_wish wsX9_in := goodIn_r _ [9] (by decide +kernel) (by decide +kernel)
set_option maxRecDepth 20000 in
theorem gX9_wish_X9_in : GoodIn wsX9_wish (va_wsS RX9 45 yX9_in wsX9_in) := goodIn_app (goodIn_of _ (by decide +kernel)) ggX9_wish_X9_in
set_option maxRecDepth 20000 in
theorem ggX9_wish_X9_p : GoodIn wsX9_wish wsX9_p := goodIn_r _ [17, 6, 22, 23, 24, 25, 26, 27, 28, 29, 30, 31, 32, 33, 34, 35, 36, 37] (by decide +kernel) (by decide +kernel)
set_option maxRecDepth 20000 in
theorem gX9_wish_X9_p : GoodIn wsX9_wish (wsV RX9 53 RX9 yX9_p wsX9_p) := goodIn_app (goodIn_of _ (by decide +kernel)) ggX9_wish_X9_p
set_option maxRecDepth 20000 in
theorem ggX9_wish_X9_setP : GoodIn wsX9_wish wsX9_setP := goodIn_r _ [21, 6, 22, 23, 24, 25, 26, 27, 28, 29, 30, 31, 32, 33, 34, 35, 36, 37] (by decide +kernel) (by decide +kernel)
set_option maxRecDepth 20000 in
theorem gX9_wish_X9_setP : GoodIn wsX9_wish (wsV RX9 57 RX9 yX9_setP wsX9_setP) := goodIn_app (goodIn_of _ (by decide +kernel)) ggX9_wish_X9_setP
theorem dX9_wish_0 : decode cX9_wish 0 = .ok (.aload_n 0, 1) := by decide +kernel
theorem dX9_wish_1 : decode cX9_wish 1 = .ok (.iload_n 1, 1) := by decide +kernel
theorem dX9_wish_2 : decode cX9_wish 2 = .ok (.invokevirtual 75, 3) := by decide +kernel
theorem dX9_wish_5 : decode cX9_wish 5 = .ok (.ifCond .eq 21, 3) := by decide +kernel
theorem dX9_wish_8 : decode cX9_wish 8 = .ok (.aload_n 0, 1) := by decide +kernel
theorem dX9_wish_9 : decode cX9_wish 9 = .ok (.iload_n 2, 1) := by decide +kernel
theorem dX9_wish_10 : decode cX9_wish 10 = .ok (.invokevirtual 78, 3) := by decide +kernel
theorem dX9_wish_13 : decode cX9_wish 13 = .ok (.ifCond .eq 13, 3) := by decide +kernel
theorem dX9_wish_16 : decode cX9_wish 16 = .ok (.iload_n 3, 1) := by decide +kernel
theorem dX9_wish_17 : decode cX9_wish 17 = .ok (.iconst 0, 1) := by decide +kernel
theorem dX9_wish_18 : decode cX9_wish 18 = .ok (.bipush 9, 2) := by decide +kernel
theorem dX9_wish_20 : decode cX9_wish 20 = .ok (.invokestatic 45, 3) := by decide +kernel
theorem dX9_wish_23 : decode cX9_wish 23 = .ok (.ifCond .ne 5, 3) := by decide +kernel
theorem dX9_wish_26 : decode cX9_wish 26 = .ok (.iconst (-1), 1) := by decide +kernel
theorem dX9_wish_27 : decode cX9_wish 27 = .ok (.ireturn, 1) := by decide +kernel
theorem dX9_wish_28 : decode cX9_wish 28 = .ok (.aload_n 0, 1) := by decide +kernel
theorem dX9_wish_29 : decode cX9_wish 29 = .ok (.iload_n 1, 1) := by decide +kernel
theorem dX9_wish_30 : decode cX9_wish 30 = .ok (.iconst 5, 1) := by decide +kernel
theorem dX9_wish_31 : decode cX9_wish 31 = .ok (.iload_n 2, 1) := by decide +kernel
theorem dX9_wish_32 : decode cX9_wish 32 = .ok (.iadd, 1) := by decide +kernel
theorem dX9_wish_33 : decode cX9_wish 33 = .ok (.invokevirtual 53, 3) := by decide +kernel
theorem dX9_wish_36 : decode cX9_wish 36 = .ok (.istore 4, 2) := by decide +kernel
theorem dX9_wish_38 : decode cX9_wish 38 = .ok (.aload_n 0, 1) := by decide +kernel
theorem dX9_wish_39 : decode cX9_wish 39 = .ok (.iload_n 1, 1) := by decide +kernel
theorem dX9_wish_40 : decode cX9_wish 40 = .ok (.iconst 5, 1) := by decide +kernel
theorem dX9_wish_41 : decode cX9_wish 41 = .ok (.iload_n 2, 1) := by decide +kernel
theorem dX9_wish_42 : decode cX9_wish 42 = .ok (.iadd, 1) := by decide +kernel
theorem dX9_wish_43 : decode cX9_wish 43 = .ok (.iload_n 3, 1) := by decide +kernel
theorem dX9_wish_44 : decode cX9_wish 44 = .ok (.invokevirtual 57, 3) := by decide +kernel
theorem dX9_wish_47 : decode cX9_wish 47 = .ok (.iload 4, 2) := by decide +kernel
theorem dX9_wish_49 : decode cX9_wish 49 = .ok (.ireturn, 1) := by decide +kernel
set_option maxRecDepth 20000 in
theorem ggX9_toolsOf_X9_t : GoodIn wsX9_toolsOf wsX9_t := goodIn_r _ [6, 1, 7, 8, 9, 10, 11, 12, 13, 14, 15, 16, 17, 18, 19, 20, 21, 22] (by decide +kernel) (by decide +kernel)
set_option maxRecDepth 20000 in
theorem gX9_toolsOf_X9_t : GoodIn wsX9_toolsOf (wsV RX9 81 RX9 yX9_t wsX9_t) := goodIn_app (goodIn_of _ (by decide +kernel)) ggX9_toolsOf_X9_t
theorem dX9_toolsOf_0 : decode cX9_toolsOf 0 = .ok (.iconst 0, 1) := by decide +kernel
theorem dX9_toolsOf_1 : decode cX9_toolsOf 1 = .ok (.istore_n 2, 1) := by decide +kernel
theorem dX9_toolsOf_2 : decode cX9_toolsOf 2 = .ok (.iconst 0, 1) := by decide +kernel
theorem dX9_toolsOf_3 : decode cX9_toolsOf 3 = .ok (.istore_n 3, 1) := by decide +kernel
theorem dX9_toolsOf_4 : decode cX9_toolsOf 4 = .ok (.iload_n 3, 1) := by decide +kernel
theorem dX9_toolsOf_5 : decode cX9_toolsOf 5 = .ok (.aload_n 0, 1) := by decide +kernel
theorem dX9_toolsOf_6 : decode cX9_toolsOf 6 = .ok (.getfield 9, 3) := by decide +kernel
theorem dX9_toolsOf_9 : decode cX9_toolsOf 9 = .ok (.sipush 1081, 3) := by decide +kernel
theorem dX9_toolsOf_12 : decode cX9_toolsOf 12 = .ok (.iaload, 1) := by decide +kernel
theorem dX9_toolsOf_13 : decode cX9_toolsOf 13 = .ok (.if_icmp .ge 27, 3) := by decide +kernel
theorem dX9_toolsOf_16 : decode cX9_toolsOf 16 = .ok (.iload_n 2, 1) := by decide +kernel
theorem dX9_toolsOf_17 : decode cX9_toolsOf 17 = .ok (.aload_n 0, 1) := by decide +kernel
theorem dX9_toolsOf_18 : decode cX9_toolsOf 18 = .ok (.iload_n 3, 1) := by decide +kernel
theorem dX9_toolsOf_19 : decode cX9_toolsOf 19 = .ok (.iconst 2, 1) := by decide +kernel
theorem dX9_toolsOf_20 : decode cX9_toolsOf 20 = .ok (.invokevirtual 81, 3) := by decide +kernel
theorem dX9_toolsOf_23 : decode cX9_toolsOf 23 = .ok (.iload_n 1, 1) := by decide +kernel
theorem dX9_toolsOf_24 : decode cX9_toolsOf 24 = .ok (.if_icmp .ne 7, 3) := by decide +kernel
theorem dX9_toolsOf_27 : decode cX9_toolsOf 27 = .ok (.iconst 1, 1) := by decide +kernel
theorem dX9_toolsOf_28 : decode cX9_toolsOf 28 = .ok (.goto 4, 3) := by decide +kernel
theorem dX9_toolsOf_31 : decode cX9_toolsOf 31 = .ok (.iconst 0, 1) := by decide +kernel
theorem dX9_toolsOf_32 : decode cX9_toolsOf 32 = .ok (.iadd, 1) := by decide +kernel
theorem dX9_toolsOf_33 : decode cX9_toolsOf 33 = .ok (.istore_n 2, 1) := by decide +kernel
theorem dX9_toolsOf_34 : decode cX9_toolsOf 34 = .ok (.iinc 3 1, 3) := by decide +kernel
theorem dX9_toolsOf_37 : decode cX9_toolsOf 37 = .ok (.goto (-33), 3) := by decide +kernel
theorem dX9_toolsOf_40 : decode cX9_toolsOf 40 = .ok (.iload_n 2, 1) := by decide +kernel
theorem dX9_toolsOf_41 : decode cX9_toolsOf 41 = .ok (.ireturn, 1) := by decide +kernel
set_option maxRecDepth 20000 in
theorem ggX9_claimsOf_X9_claimOn : GoodIn wsX9_claimsOf wsX9_claimOn := goodIn_r _ [6, 7, 8, 9, 5, 10, 1, 11, 12, 13, 14, 15, 16, 17, 18, 19, 20, 21, 22, 23, 24, 25, 26] (by decide +kernel) (by decide +kernel)
set_option maxRecDepth 20000 in
theorem gX9_claimsOf_X9_claimOn : GoodIn wsX9_claimsOf (wsV RX9 84 RX9 yX9_claimOn wsX9_claimOn) := goodIn_app (goodIn_of _ (by decide +kernel)) ggX9_claimsOf_X9_claimOn
theorem dX9_claimsOf_0 : decode cX9_claimsOf 0 = .ok (.iconst 0, 1) := by decide +kernel
theorem dX9_claimsOf_1 : decode cX9_claimsOf 1 = .ok (.istore_n 2, 1) := by decide +kernel
theorem dX9_claimsOf_2 : decode cX9_claimsOf 2 = .ok (.iconst 0, 1) := by decide +kernel
theorem dX9_claimsOf_3 : decode cX9_claimsOf 3 = .ok (.istore_n 3, 1) := by decide +kernel
theorem dX9_claimsOf_4 : decode cX9_claimsOf 4 = .ok (.iload_n 3, 1) := by decide +kernel
theorem dX9_claimsOf_5 : decode cX9_claimsOf 5 = .ok (.aload_n 0, 1) := by decide +kernel
theorem dX9_claimsOf_6 : decode cX9_claimsOf 6 = .ok (.getfield 9, 3) := by decide +kernel
theorem dX9_claimsOf_9 : decode cX9_claimsOf 9 = .ok (.sipush 1081, 3) := by decide +kernel
theorem dX9_claimsOf_12 : decode cX9_claimsOf 12 = .ok (.iaload, 1) := by decide +kernel
theorem dX9_claimsOf_13 : decode cX9_claimsOf 13 = .ok (.if_icmp .ge 26, 3) := by decide +kernel
theorem dX9_claimsOf_16 : decode cX9_claimsOf 16 = .ok (.iload_n 2, 1) := by decide +kernel
theorem dX9_claimsOf_17 : decode cX9_claimsOf 17 = .ok (.aload_n 0, 1) := by decide +kernel
theorem dX9_claimsOf_18 : decode cX9_claimsOf 18 = .ok (.iload_n 3, 1) := by decide +kernel
theorem dX9_claimsOf_19 : decode cX9_claimsOf 19 = .ok (.iload_n 1, 1) := by decide +kernel
theorem dX9_claimsOf_20 : decode cX9_claimsOf 20 = .ok (.invokevirtual 84, 3) := by decide +kernel
theorem dX9_claimsOf_23 : decode cX9_claimsOf 23 = .ok (.ifCond .lt 7, 3) := by decide +kernel
theorem dX9_claimsOf_26 : decode cX9_claimsOf 26 = .ok (.iconst 1, 1) := by decide +kernel
theorem dX9_claimsOf_27 : decode cX9_claimsOf 27 = .ok (.goto 4, 3) := by decide +kernel
theorem dX9_claimsOf_30 : decode cX9_claimsOf 30 = .ok (.iconst 0, 1) := by decide +kernel
theorem dX9_claimsOf_31 : decode cX9_claimsOf 31 = .ok (.iadd, 1) := by decide +kernel
theorem dX9_claimsOf_32 : decode cX9_claimsOf 32 = .ok (.istore_n 2, 1) := by decide +kernel
theorem dX9_claimsOf_33 : decode cX9_claimsOf 33 = .ok (.iinc 3 1, 3) := by decide +kernel
theorem dX9_claimsOf_36 : decode cX9_claimsOf 36 = .ok (.goto (-32), 3) := by decide +kernel
theorem dX9_claimsOf_39 : decode cX9_claimsOf 39 = .ok (.iload_n 2, 1) := by decide +kernel
theorem dX9_claimsOf_40 : decode cX9_claimsOf 40 = .ok (.ireturn, 1) := by decide +kernel
set_option maxRecDepth 20000 in
theorem ggX9_personOf_X9_isPerson : GoodIn wsX9_personOf wsX9_isPerson := goodIn_r _ [5, 6, 7, 8, 4, 9, 41, 42, 43, 44, 45, 46, 47, 48, 49, 50, 51, 52, 53, 54, 55, 56] (by decide +kernel) (by decide +kernel)
set_option maxRecDepth 20000 in
theorem gX9_personOf_X9_isPerson : GoodIn wsX9_personOf (wsV RX9 75 RX9 yX9_isPerson wsX9_isPerson) := goodIn_app (goodIn_of _ (by decide +kernel)) ggX9_personOf_X9_isPerson
set_option maxRecDepth 20000 in
theorem ggX9_personOf_X9_in : GoodIn wsX9_personOf wsX9_in := goodIn_r _ [9] (by decide +kernel) (by decide +kernel)
set_option maxRecDepth 20000 in
theorem gX9_personOf_X9_in : GoodIn wsX9_personOf (va_wsS RX9 45 yX9_in wsX9_in) := goodIn_app (goodIn_of _ (by decide +kernel)) ggX9_personOf_X9_in
set_option maxRecDepth 20000 in
theorem ggX9_personOf_X9_p : GoodIn wsX9_personOf wsX9_p := goodIn_r _ [13, 6, 41, 42, 43, 44, 45, 46, 47, 48, 49, 50, 51, 52, 53, 54, 55, 56] (by decide +kernel) (by decide +kernel)
set_option maxRecDepth 20000 in
theorem gX9_personOf_X9_p : GoodIn wsX9_personOf (wsV RX9 53 RX9 yX9_p wsX9_p) := goodIn_app (goodIn_of _ (by decide +kernel)) ggX9_personOf_X9_p
set_option maxRecDepth 20000 in
theorem ggX9_personOf_X9_toolsOf : GoodIn wsX9_personOf wsX9_toolsOf := goodIn_r _ [17, 6, 18, 19, 20, 4, 21, 41, 42, 43, 44, 45, 46, 47, 48, 49, 50, 51, 52, 53, 54, 55, 56] (by decide +kernel) (by decide +kernel)
set_option maxRecDepth 20000 in
theorem gX9_personOf_X9_toolsOf : GoodIn wsX9_personOf (wsV RX9 87 RX9 yX9_toolsOf wsX9_toolsOf) := goodIn_app (goodIn_of _ (by decide +kernel)) ggX9_personOf_X9_toolsOf
set_option maxRecDepth 20000 in
theorem ggX9_personOf_X9_rankOf : GoodIn wsX9_personOf wsX9_rankOf := goodIn_r _ [25, 6, 26, 27, 28, 4, 29, 10, 11, 12, 13, 30, 31, 32, 41, 42, 43, 44, 45, 46, 47, 48, 49, 50, 51, 52, 53, 54, 55, 56] (by decide +kernel) (by decide +kernel)
set_option maxRecDepth 20000 in
theorem gX9_personOf_X9_rankOf : GoodIn wsX9_personOf (wsV RX9 69 RX9 yX9_rankOf wsX9_rankOf) := goodIn_app (goodIn_of _ (by decide +kernel)) ggX9_personOf_X9_rankOf
set_option maxRecDepth 20000 in
theorem ggX9_personOf_X9_claimsOf : GoodIn wsX9_personOf wsX9_claimsOf := goodIn_r _ [36, 6, 37, 38, 39, 4, 40, 18, 19, 20, 21, 41, 42, 43, 44, 45, 46, 47, 48, 49, 50, 51, 52, 53, 54, 55, 56] (by decide +kernel) (by decide +kernel)
set_option maxRecDepth 20000 in
theorem gX9_personOf_X9_claimsOf : GoodIn wsX9_personOf (wsV RX9 90 RX9 yX9_claimsOf wsX9_claimsOf) := goodIn_app (goodIn_of _ (by decide +kernel)) ggX9_personOf_X9_claimsOf
theorem dX9_personOf_0 : decode cX9_personOf 0 = .ok (.aload_n 0, 1) := by decide +kernel
theorem dX9_personOf_1 : decode cX9_personOf 1 = .ok (.iload_n 1, 1) := by decide +kernel
theorem dX9_personOf_2 : decode cX9_personOf 2 = .ok (.invokevirtual 75, 3) := by decide +kernel
theorem dX9_personOf_5 : decode cX9_personOf 5 = .ok (.ifCond .eq 13, 3) := by decide +kernel
theorem dX9_personOf_8 : decode cX9_personOf 8 = .ok (.iload_n 2, 1) := by decide +kernel
theorem dX9_personOf_9 : decode cX9_personOf 9 = .ok (.iconst 0, 1) := by decide +kernel
theorem dX9_personOf_10 : decode cX9_personOf 10 = .ok (.bipush 7, 2) := by decide +kernel
theorem dX9_personOf_12 : decode cX9_personOf 12 = .ok (.invokestatic 45, 3) := by decide +kernel
theorem dX9_personOf_15 : decode cX9_personOf 15 = .ok (.ifCond .ne 5, 3) := by decide +kernel
theorem dX9_personOf_18 : decode cX9_personOf 18 = .ok (.iconst (-1), 1) := by decide +kernel
theorem dX9_personOf_19 : decode cX9_personOf 19 = .ok (.ireturn, 1) := by decide +kernel
theorem dX9_personOf_20 : decode cX9_personOf 20 = .ok (.iload_n 2, 1) := by decide +kernel
theorem dX9_personOf_21 : decode cX9_personOf 21 = .ok (.iconst 5, 1) := by decide +kernel
theorem dX9_personOf_22 : decode cX9_personOf 22 = .ok (.if_icmp .ge 12, 3) := by decide +kernel
theorem dX9_personOf_25 : decode cX9_personOf 25 = .ok (.aload_n 0, 1) := by decide +kernel
theorem dX9_personOf_26 : decode cX9_personOf 26 = .ok (.iload_n 1, 1) := by decide +kernel
theorem dX9_personOf_27 : decode cX9_personOf 27 = .ok (.iload_n 2, 1) := by decide +kernel
theorem dX9_personOf_28 : decode cX9_personOf 28 = .ok (.invokevirtual 53, 3) := by decide +kernel
theorem dX9_personOf_31 : decode cX9_personOf 31 = .ok (.goto 35, 3) := by decide +kernel
theorem dX9_personOf_34 : decode cX9_personOf 34 = .ok (.iload_n 2, 1) := by decide +kernel
theorem dX9_personOf_35 : decode cX9_personOf 35 = .ok (.iconst 5, 1) := by decide +kernel
theorem dX9_personOf_36 : decode cX9_personOf 36 = .ok (.if_icmp .ne 11, 3) := by decide +kernel
theorem dX9_personOf_39 : decode cX9_personOf 39 = .ok (.aload_n 0, 1) := by decide +kernel
theorem dX9_personOf_40 : decode cX9_personOf 40 = .ok (.iload_n 1, 1) := by decide +kernel
theorem dX9_personOf_41 : decode cX9_personOf 41 = .ok (.invokevirtual 87, 3) := by decide +kernel
theorem dX9_personOf_44 : decode cX9_personOf 44 = .ok (.goto 22, 3) := by decide +kernel
theorem dX9_personOf_47 : decode cX9_personOf 47 = .ok (.iload_n 2, 1) := by decide +kernel
theorem dX9_personOf_48 : decode cX9_personOf 48 = .ok (.bipush 6, 2) := by decide +kernel
theorem dX9_personOf_50 : decode cX9_personOf 50 = .ok (.if_icmp .ne 11, 3) := by decide +kernel
theorem dX9_personOf_53 : decode cX9_personOf 53 = .ok (.aload_n 0, 1) := by decide +kernel
theorem dX9_personOf_54 : decode cX9_personOf 54 = .ok (.iload_n 1, 1) := by decide +kernel
theorem dX9_personOf_55 : decode cX9_personOf 55 = .ok (.invokevirtual 69, 3) := by decide +kernel
theorem dX9_personOf_58 : decode cX9_personOf 58 = .ok (.goto 8, 3) := by decide +kernel
theorem dX9_personOf_61 : decode cX9_personOf 61 = .ok (.aload_n 0, 1) := by decide +kernel
theorem dX9_personOf_62 : decode cX9_personOf 62 = .ok (.iload_n 1, 1) := by decide +kernel
theorem dX9_personOf_63 : decode cX9_personOf 63 = .ok (.invokevirtual 90, 3) := by decide +kernel
theorem dX9_personOf_66 : decode cX9_personOf 66 = .ok (.ireturn, 1) := by decide +kernel
set_option maxRecDepth 20000 in
theorem ggX9_tool_X9_in : GoodIn wsX9_tool wsX9_in := goodIn_r _ [5] (by decide +kernel) (by decide +kernel)
set_option maxRecDepth 20000 in
theorem gX9_tool_X9_in : GoodIn wsX9_tool (va_wsS RX9 45 yX9_in wsX9_in) := goodIn_app (goodIn_of _ (by decide +kernel)) ggX9_tool_X9_in
set_option maxRecDepth 20000 in
theorem ggX9_tool_X9_setT : GoodIn wsX9_tool wsX9_setT := goodIn_r _ [9, 1, 30, 31, 32, 33, 34, 35, 36, 37, 38, 39, 40, 41, 42, 43, 44, 45] (by decide +kernel) (by decide +kernel)
set_option maxRecDepth 20000 in
theorem gX9_tool_X9_setT : GoodIn wsX9_tool (wsV RX9 93 RX9 yX9_setT wsX9_setT) := goodIn_app (goodIn_of _ (by decide +kernel)) ggX9_tool_X9_setT
set_option maxRecDepth 20000 in
theorem ggX9_tool_X9_setP : GoodIn wsX9_tool wsX9_setP := goodIn_r _ [13, 1, 30, 31, 32, 33, 34, 35, 36, 37, 38, 39, 40, 41, 42, 43, 44, 45] (by decide +kernel) (by decide +kernel)
set_option maxRecDepth 20000 in
theorem gX9_tool_X9_setP : GoodIn wsX9_tool (wsV RX9 57 RX9 yX9_setP wsX9_setP) := goodIn_app (goodIn_of _ (by decide +kernel)) ggX9_tool_X9_setP
set_option maxRecDepth 20000 in
theorem ggX9_tool_X9_seesNow : GoodIn wsX9_tool wsX9_seesNow := goodIn_r _ [17, 1, 18, 19, 20, 4, 21, 22, 23, 24, 25, 6, 7, 8, 9, 26, 27, 28, 29, 30, 31, 32, 33, 34, 35, 36, 37, 38, 39, 40, 41, 42, 43, 44, 45] (by decide +kernel) (by decide +kernel)
set_option maxRecDepth 20000 in
theorem gX9_tool_X9_seesNow : GoodIn wsX9_tool (wsV RX9 96 RX9 yX9_seesNow wsX9_seesNow) := goodIn_app (goodIn_of _ (by decide +kernel)) ggX9_tool_X9_seesNow
theorem dX9_tool_0 : decode cX9_tool 0 = .ok (.iload_n 1, 1) := by decide +kernel
theorem dX9_tool_1 : decode cX9_tool 1 = .ok (.iconst 1, 1) := by decide +kernel
theorem dX9_tool_2 : decode cX9_tool 2 = .ok (.bipush 99, 2) := by decide +kernel
theorem dX9_tool_4 : decode cX9_tool 4 = .ok (.invokestatic 45, 3) := by decide +kernel
theorem dX9_tool_7 : decode cX9_tool 7 = .ok (.ifCond .ne 5, 3) := by decide +kernel
theorem dX9_tool_10 : decode cX9_tool 10 = .ok (.iconst (-1), 1) := by decide +kernel
theorem dX9_tool_11 : decode cX9_tool 11 = .ok (.ireturn, 1) := by decide +kernel
theorem dX9_tool_12 : decode cX9_tool 12 = .ok (.aload_n 0, 1) := by decide +kernel
theorem dX9_tool_13 : decode cX9_tool 13 = .ok (.getfield 9, 3) := by decide +kernel
theorem dX9_tool_16 : decode cX9_tool 16 = .ok (.sipush 1081, 3) := by decide +kernel
theorem dX9_tool_19 : decode cX9_tool 19 = .ok (.iaload, 1) := by decide +kernel
theorem dX9_tool_20 : decode cX9_tool 20 = .ok (.bipush 10, 2) := by decide +kernel
theorem dX9_tool_22 : decode cX9_tool 22 = .ok (.if_icmp .ne 6, 3) := by decide +kernel
theorem dX9_tool_25 : decode cX9_tool 25 = .ok (.bipush (-3), 2) := by decide +kernel
theorem dX9_tool_27 : decode cX9_tool 27 = .ok (.ireturn, 1) := by decide +kernel
theorem dX9_tool_28 : decode cX9_tool 28 = .ok (.aload_n 0, 1) := by decide +kernel
theorem dX9_tool_29 : decode cX9_tool 29 = .ok (.getfield 9, 3) := by decide +kernel
theorem dX9_tool_32 : decode cX9_tool 32 = .ok (.sipush 1081, 3) := by decide +kernel
theorem dX9_tool_35 : decode cX9_tool 35 = .ok (.dup2, 1) := by decide +kernel
theorem dX9_tool_36 : decode cX9_tool 36 = .ok (.iaload, 1) := by decide +kernel
theorem dX9_tool_37 : decode cX9_tool 37 = .ok (.dup_x2, 1) := by decide +kernel
theorem dX9_tool_38 : decode cX9_tool 38 = .ok (.iconst 1, 1) := by decide +kernel
theorem dX9_tool_39 : decode cX9_tool 39 = .ok (.iadd, 1) := by decide +kernel
theorem dX9_tool_40 : decode cX9_tool 40 = .ok (.iastore, 1) := by decide +kernel
theorem dX9_tool_41 : decode cX9_tool 41 = .ok (.istore_n 2, 1) := by decide +kernel
theorem dX9_tool_42 : decode cX9_tool 42 = .ok (.iconst 0, 1) := by decide +kernel
theorem dX9_tool_43 : decode cX9_tool 43 = .ok (.istore_n 3, 1) := by decide +kernel
theorem dX9_tool_44 : decode cX9_tool 44 = .ok (.iload_n 3, 1) := by decide +kernel
theorem dX9_tool_45 : decode cX9_tool 45 = .ok (.bipush 90, 2) := by decide +kernel
theorem dX9_tool_47 : decode cX9_tool 47 = .ok (.if_icmp .ge 16, 3) := by decide +kernel
theorem dX9_tool_50 : decode cX9_tool 50 = .ok (.aload_n 0, 1) := by decide +kernel
theorem dX9_tool_51 : decode cX9_tool 51 = .ok (.iload_n 2, 1) := by decide +kernel
theorem dX9_tool_52 : decode cX9_tool 52 = .ok (.iload_n 3, 1) := by decide +kernel
theorem dX9_tool_53 : decode cX9_tool 53 = .ok (.iconst 0, 1) := by decide +kernel
theorem dX9_tool_54 : decode cX9_tool 54 = .ok (.invokevirtual 93, 3) := by decide +kernel
theorem dX9_tool_57 : decode cX9_tool 57 = .ok (.iinc 3 1, 3) := by decide +kernel
theorem dX9_tool_60 : decode cX9_tool 60 = .ok (.goto (-16), 3) := by decide +kernel
theorem dX9_tool_63 : decode cX9_tool 63 = .ok (.iconst 0, 1) := by decide +kernel
theorem dX9_tool_64 : decode cX9_tool 64 = .ok (.istore_n 3, 1) := by decide +kernel
theorem dX9_tool_65 : decode cX9_tool 65 = .ok (.iload_n 3, 1) := by decide +kernel
theorem dX9_tool_66 : decode cX9_tool 66 = .ok (.bipush 12, 2) := by decide +kernel
theorem dX9_tool_68 : decode cX9_tool 68 = .ok (.if_icmp .ge 18, 3) := by decide +kernel
theorem dX9_tool_71 : decode cX9_tool 71 = .ok (.aload_n 0, 1) := by decide +kernel
theorem dX9_tool_72 : decode cX9_tool 72 = .ok (.iload_n 3, 1) := by decide +kernel
theorem dX9_tool_73 : decode cX9_tool 73 = .ok (.iconst 5, 1) := by decide +kernel
theorem dX9_tool_74 : decode cX9_tool 74 = .ok (.iload_n 2, 1) := by decide +kernel
theorem dX9_tool_75 : decode cX9_tool 75 = .ok (.iadd, 1) := by decide +kernel
theorem dX9_tool_76 : decode cX9_tool 76 = .ok (.iconst 0, 1) := by decide +kernel
theorem dX9_tool_77 : decode cX9_tool 77 = .ok (.invokevirtual 57, 3) := by decide +kernel
theorem dX9_tool_80 : decode cX9_tool 80 = .ok (.iinc 3 1, 3) := by decide +kernel
theorem dX9_tool_83 : decode cX9_tool 83 = .ok (.goto (-18), 3) := by decide +kernel
theorem dX9_tool_86 : decode cX9_tool 86 = .ok (.aload_n 0, 1) := by decide +kernel
theorem dX9_tool_87 : decode cX9_tool 87 = .ok (.iload_n 2, 1) := by decide +kernel
theorem dX9_tool_88 : decode cX9_tool 88 = .ok (.iconst 0, 1) := by decide +kernel
theorem dX9_tool_89 : decode cX9_tool 89 = .ok (.iload_n 1, 1) := by decide +kernel
theorem dX9_tool_90 : decode cX9_tool 90 = .ok (.invokevirtual 93, 3) := by decide +kernel
theorem dX9_tool_93 : decode cX9_tool 93 = .ok (.aload_n 0, 1) := by decide +kernel
theorem dX9_tool_94 : decode cX9_tool 94 = .ok (.iload_n 2, 1) := by decide +kernel
theorem dX9_tool_95 : decode cX9_tool 95 = .ok (.iconst 2, 1) := by decide +kernel
theorem dX9_tool_96 : decode cX9_tool 96 = .ok (.iconst (-1), 1) := by decide +kernel
theorem dX9_tool_97 : decode cX9_tool 97 = .ok (.invokevirtual 93, 3) := by decide +kernel
theorem dX9_tool_100 : decode cX9_tool 100 = .ok (.aload_n 0, 1) := by decide +kernel
theorem dX9_tool_101 : decode cX9_tool 101 = .ok (.iload_n 2, 1) := by decide +kernel
theorem dX9_tool_102 : decode cX9_tool 102 = .ok (.invokevirtual 96, 3) := by decide +kernel
theorem dX9_tool_105 : decode cX9_tool 105 = .ok (.iload_n 2, 1) := by decide +kernel
theorem dX9_tool_106 : decode cX9_tool 106 = .ok (.ireturn, 1) := by decide +kernel
set_option maxRecDepth 20000 in
theorem ggX9_isOut_X9_t : GoodIn wsX9_isOut wsX9_t := goodIn_r _ [5, 6, 7, 8, 9, 10, 11, 12, 13, 14, 15, 16, 17, 18, 19, 20, 21, 22] (by decide +kernel) (by decide +kernel)
set_option maxRecDepth 20000 in
theorem gX9_isOut_X9_t : GoodIn wsX9_isOut (wsV RX9 81 RX9 yX9_t wsX9_t) := goodIn_app (goodIn_of _ (by decide +kernel)) ggX9_isOut_X9_t
theorem dX9_isOut_0 : decode cX9_isOut 0 = .ok (.aload_n 0, 1) := by decide +kernel
theorem dX9_isOut_1 : decode cX9_isOut 1 = .ok (.iload_n 1, 1) := by decide +kernel
theorem dX9_isOut_2 : decode cX9_isOut 2 = .ok (.iconst 2, 1) := by decide +kernel
theorem dX9_isOut_3 : decode cX9_isOut 3 = .ok (.invokevirtual 81, 3) := by decide +kernel
theorem dX9_isOut_6 : decode cX9_isOut 6 = .ok (.ifCond .lt 7, 3) := by decide +kernel
theorem dX9_isOut_9 : decode cX9_isOut 9 = .ok (.iconst 1, 1) := by decide +kernel
theorem dX9_isOut_10 : decode cX9_isOut 10 = .ok (.goto 4, 3) := by decide +kernel
theorem dX9_isOut_13 : decode cX9_isOut 13 = .ok (.iconst 0, 1) := by decide +kernel
theorem dX9_isOut_14 : decode cX9_isOut 14 = .ok (.ireturn, 1) := by decide +kernel
set_option maxRecDepth 20000 in
theorem ggX9_toolOf_X9_isTool : GoodIn wsX9_toolOf wsX9_isTool := goodIn_r _ [5, 6, 7, 8, 4, 9, 18, 19, 20, 21, 22, 23, 24, 25, 26, 27, 28, 29, 30, 31, 32, 33] (by decide +kernel) (by decide +kernel)
set_option maxRecDepth 20000 in
theorem gX9_toolOf_X9_isTool : GoodIn wsX9_toolOf (wsV RX9 78 RX9 yX9_isTool wsX9_isTool) := goodIn_app (goodIn_of _ (by decide +kernel)) ggX9_toolOf_X9_isTool
set_option maxRecDepth 20000 in
theorem ggX9_toolOf_X9_in : GoodIn wsX9_toolOf wsX9_in := goodIn_r _ [9] (by decide +kernel) (by decide +kernel)
set_option maxRecDepth 20000 in
theorem gX9_toolOf_X9_in : GoodIn wsX9_toolOf (va_wsS RX9 45 yX9_in wsX9_in) := goodIn_app (goodIn_of _ (by decide +kernel)) ggX9_toolOf_X9_in
set_option maxRecDepth 20000 in
theorem ggX9_toolOf_X9_isOut : GoodIn wsX9_toolOf wsX9_isOut := goodIn_r _ [13, 14, 15, 16, 4, 17, 6, 18, 19, 20, 21, 22, 23, 24, 25, 26, 27, 28, 29, 30, 31, 32, 33] (by decide +kernel) (by decide +kernel)
set_option maxRecDepth 20000 in
theorem gX9_toolOf_X9_isOut : GoodIn wsX9_toolOf (wsV RX9 100 RX9 yX9_isOut wsX9_isOut) := goodIn_app (goodIn_of _ (by decide +kernel)) ggX9_toolOf_X9_isOut
set_option maxRecDepth 20000 in
theorem ggX9_toolOf_X9_t : GoodIn wsX9_toolOf wsX9_t := goodIn_r _ [17, 6, 18, 19, 20, 21, 22, 23, 24, 25, 26, 27, 28, 29, 30, 31, 32, 33] (by decide +kernel) (by decide +kernel)
set_option maxRecDepth 20000 in
theorem gX9_toolOf_X9_t : GoodIn wsX9_toolOf (wsV RX9 81 RX9 yX9_t wsX9_t) := goodIn_app (goodIn_of _ (by decide +kernel)) ggX9_toolOf_X9_t
theorem dX9_toolOf_0 : decode cX9_toolOf 0 = .ok (.aload_n 0, 1) := by decide +kernel
theorem dX9_toolOf_1 : decode cX9_toolOf 1 = .ok (.iload_n 1, 1) := by decide +kernel
theorem dX9_toolOf_2 : decode cX9_toolOf 2 = .ok (.invokevirtual 78, 3) := by decide +kernel
theorem dX9_toolOf_5 : decode cX9_toolOf 5 = .ok (.ifCond .eq 13, 3) := by decide +kernel
theorem dX9_toolOf_8 : decode cX9_toolOf 8 = .ok (.iload_n 2, 1) := by decide +kernel
theorem dX9_toolOf_9 : decode cX9_toolOf 9 = .ok (.iconst 0, 1) := by decide +kernel
theorem dX9_toolOf_10 : decode cX9_toolOf 10 = .ok (.bipush 8, 2) := by decide +kernel
theorem dX9_toolOf_12 : decode cX9_toolOf 12 = .ok (.invokestatic 45, 3) := by decide +kernel
theorem dX9_toolOf_15 : decode cX9_toolOf 15 = .ok (.ifCond .ne 5, 3) := by decide +kernel
theorem dX9_toolOf_18 : decode cX9_toolOf 18 = .ok (.iconst (-1), 1) := by decide +kernel
theorem dX9_toolOf_19 : decode cX9_toolOf 19 = .ok (.ireturn, 1) := by decide +kernel
theorem dX9_toolOf_20 : decode cX9_toolOf 20 = .ok (.iload_n 2, 1) := by decide +kernel
theorem dX9_toolOf_21 : decode cX9_toolOf 21 = .ok (.tableswitch 87 2 8 #[43, 43, 43, 87, 63, 71, 79], 43) := by decide +kernel
theorem dX9_toolOf_64 : decode cX9_toolOf 64 = .ok (.aload_n 0, 1) := by decide +kernel
theorem dX9_toolOf_65 : decode cX9_toolOf 65 = .ok (.iload_n 1, 1) := by decide +kernel
theorem dX9_toolOf_66 : decode cX9_toolOf 66 = .ok (.invokevirtual 100, 3) := by decide +kernel
theorem dX9_toolOf_69 : decode cX9_toolOf 69 = .ok (.ifCond .eq 12, 3) := by decide +kernel
theorem dX9_toolOf_72 : decode cX9_toolOf 72 = .ok (.aload_n 0, 1) := by decide +kernel
theorem dX9_toolOf_73 : decode cX9_toolOf 73 = .ok (.iload_n 1, 1) := by decide +kernel
theorem dX9_toolOf_74 : decode cX9_toolOf 74 = .ok (.iload_n 2, 1) := by decide +kernel
theorem dX9_toolOf_75 : decode cX9_toolOf 75 = .ok (.invokevirtual 81, 3) := by decide +kernel
theorem dX9_toolOf_78 : decode cX9_toolOf 78 = .ok (.goto 5, 3) := by decide +kernel
theorem dX9_toolOf_81 : decode cX9_toolOf 81 = .ok (.bipush (-2), 2) := by decide +kernel
theorem dX9_toolOf_83 : decode cX9_toolOf 83 = .ok (.ireturn, 1) := by decide +kernel
theorem dX9_toolOf_84 : decode cX9_toolOf 84 = .ok (.aload_n 0, 1) := by decide +kernel
theorem dX9_toolOf_85 : decode cX9_toolOf 85 = .ok (.iload_n 1, 1) := by decide +kernel
theorem dX9_toolOf_86 : decode cX9_toolOf 86 = .ok (.bipush 57, 2) := by decide +kernel
theorem dX9_toolOf_88 : decode cX9_toolOf 88 = .ok (.invokevirtual 81, 3) := by decide +kernel
theorem dX9_toolOf_91 : decode cX9_toolOf 91 = .ok (.ireturn, 1) := by decide +kernel
theorem dX9_toolOf_92 : decode cX9_toolOf 92 = .ok (.aload_n 0, 1) := by decide +kernel
theorem dX9_toolOf_93 : decode cX9_toolOf 93 = .ok (.iload_n 1, 1) := by decide +kernel
theorem dX9_toolOf_94 : decode cX9_toolOf 94 = .ok (.bipush 6, 2) := by decide +kernel
theorem dX9_toolOf_96 : decode cX9_toolOf 96 = .ok (.invokevirtual 81, 3) := by decide +kernel
theorem dX9_toolOf_99 : decode cX9_toolOf 99 = .ok (.ireturn, 1) := by decide +kernel
theorem dX9_toolOf_100 : decode cX9_toolOf 100 = .ok (.aload_n 0, 1) := by decide +kernel
theorem dX9_toolOf_101 : decode cX9_toolOf 101 = .ok (.iload_n 1, 1) := by decide +kernel
theorem dX9_toolOf_102 : decode cX9_toolOf 102 = .ok (.bipush 32, 2) := by decide +kernel
theorem dX9_toolOf_104 : decode cX9_toolOf 104 = .ok (.invokevirtual 81, 3) := by decide +kernel
theorem dX9_toolOf_107 : decode cX9_toolOf 107 = .ok (.ireturn, 1) := by decide +kernel
theorem dX9_toolOf_108 : decode cX9_toolOf 108 = .ok (.aload_n 0, 1) := by decide +kernel
theorem dX9_toolOf_109 : decode cX9_toolOf 109 = .ok (.iload_n 1, 1) := by decide +kernel
theorem dX9_toolOf_110 : decode cX9_toolOf 110 = .ok (.iload_n 2, 1) := by decide +kernel
theorem dX9_toolOf_111 : decode cX9_toolOf 111 = .ok (.invokevirtual 81, 3) := by decide +kernel
theorem dX9_toolOf_114 : decode cX9_toolOf 114 = .ok (.ireturn, 1) := by decide +kernel
set_option maxRecDepth 20000 in
theorem ggX9_link_X9_isTool : GoodIn wsX9_link wsX9_isTool := goodIn_r _ [5, 6, 7, 8, 4, 9, 14, 15, 16, 17, 18, 19, 20, 21, 22, 23, 24, 25, 26, 27, 28, 29] (by decide +kernel) (by decide +kernel)
set_option maxRecDepth 20000 in
theorem gX9_link_X9_isTool : GoodIn wsX9_link (wsV RX9 78 RX9 yX9_isTool wsX9_isTool) := goodIn_app (goodIn_of _ (by decide +kernel)) ggX9_link_X9_isTool
set_option maxRecDepth 20000 in
theorem ggX9_link_X9_in : GoodIn wsX9_link wsX9_in := goodIn_r _ [9] (by decide +kernel) (by decide +kernel)
set_option maxRecDepth 20000 in
theorem gX9_link_X9_in : GoodIn wsX9_link (va_wsS RX9 45 yX9_in wsX9_in) := goodIn_app (goodIn_of _ (by decide +kernel)) ggX9_link_X9_in
set_option maxRecDepth 20000 in
theorem ggX9_link_X9_t : GoodIn wsX9_link wsX9_t := goodIn_r _ [13, 6, 14, 15, 16, 17, 18, 19, 20, 21, 22, 23, 24, 25, 26, 27, 28, 29] (by decide +kernel) (by decide +kernel)
set_option maxRecDepth 20000 in
theorem gX9_link_X9_t : GoodIn wsX9_link (wsV RX9 81 RX9 yX9_t wsX9_t) := goodIn_app (goodIn_of _ (by decide +kernel)) ggX9_link_X9_t
theorem dX9_link_0 : decode cX9_link 0 = .ok (.aload_n 0, 1) := by decide +kernel
theorem dX9_link_1 : decode cX9_link 1 = .ok (.iload_n 1, 1) := by decide +kernel
theorem dX9_link_2 : decode cX9_link 2 = .ok (.invokevirtual 78, 3) := by decide +kernel
theorem dX9_link_5 : decode cX9_link 5 = .ok (.ifCond .eq 16, 3) := by decide +kernel
theorem dX9_link_8 : decode cX9_link 8 = .ok (.iload_n 2, 1) := by decide +kernel
theorem dX9_link_9 : decode cX9_link 9 = .ok (.ifCond .lt 12, 3) := by decide +kernel
theorem dX9_link_12 : decode cX9_link 12 = .ok (.iload_n 3, 1) := by decide +kernel
theorem dX9_link_13 : decode cX9_link 13 = .ok (.iconst 0, 1) := by decide +kernel
theorem dX9_link_14 : decode cX9_link 14 = .ok (.iconst 2, 1) := by decide +kernel
theorem dX9_link_15 : decode cX9_link 15 = .ok (.invokestatic 45, 3) := by decide +kernel
theorem dX9_link_18 : decode cX9_link 18 = .ok (.ifCond .ne 5, 3) := by decide +kernel
theorem dX9_link_21 : decode cX9_link 21 = .ok (.iconst (-1), 1) := by decide +kernel
theorem dX9_link_22 : decode cX9_link 22 = .ok (.ireturn, 1) := by decide +kernel
theorem dX9_link_23 : decode cX9_link 23 = .ok (.iload_n 2, 1) := by decide +kernel
theorem dX9_link_24 : decode cX9_link 24 = .ok (.aload_n 0, 1) := by decide +kernel
theorem dX9_link_25 : decode cX9_link 25 = .ok (.iload_n 1, 1) := by decide +kernel
theorem dX9_link_26 : decode cX9_link 26 = .ok (.bipush 6, 2) := by decide +kernel
theorem dX9_link_28 : decode cX9_link 28 = .ok (.invokevirtual 81, 3) := by decide +kernel
theorem dX9_link_31 : decode cX9_link 31 = .ok (.if_icmp .ge 19, 3) := by decide +kernel
theorem dX9_link_34 : decode cX9_link 34 = .ok (.aload_n 0, 1) := by decide +kernel
theorem dX9_link_35 : decode cX9_link 35 = .ok (.iload_n 1, 1) := by decide +kernel
theorem dX9_link_36 : decode cX9_link 36 = .ok (.bipush 8, 2) := by decide +kernel
theorem dX9_link_38 : decode cX9_link 38 = .ok (.iconst 3, 1) := by decide +kernel
theorem dX9_link_39 : decode cX9_link 39 = .ok (.iload_n 2, 1) := by decide +kernel
theorem dX9_link_40 : decode cX9_link 40 = .ok (.imul, 1) := by decide +kernel
theorem dX9_link_41 : decode cX9_link 41 = .ok (.iadd, 1) := by decide +kernel
theorem dX9_link_42 : decode cX9_link 42 = .ok (.iload_n 3, 1) := by decide +kernel
theorem dX9_link_43 : decode cX9_link 43 = .ok (.iadd, 1) := by decide +kernel
theorem dX9_link_44 : decode cX9_link 44 = .ok (.invokevirtual 81, 3) := by decide +kernel
theorem dX9_link_47 : decode cX9_link 47 = .ok (.goto 5, 3) := by decide +kernel
theorem dX9_link_50 : decode cX9_link 50 = .ok (.bipush (-2), 2) := by decide +kernel
theorem dX9_link_52 : decode cX9_link 52 = .ok (.ireturn, 1) := by decide +kernel
set_option maxRecDepth 20000 in
theorem ggX9_seen_X9_isTool : GoodIn wsX9_seen wsX9_isTool := goodIn_r _ [5, 6, 7, 8, 4, 9, 14, 15, 16, 17, 18, 19, 20, 21, 22, 23, 24, 25, 26, 27, 28, 29] (by decide +kernel) (by decide +kernel)
set_option maxRecDepth 20000 in
theorem gX9_seen_X9_isTool : GoodIn wsX9_seen (wsV RX9 78 RX9 yX9_isTool wsX9_isTool) := goodIn_app (goodIn_of _ (by decide +kernel)) ggX9_seen_X9_isTool
set_option maxRecDepth 20000 in
theorem ggX9_seen_X9_in : GoodIn wsX9_seen wsX9_in := goodIn_r _ [9] (by decide +kernel) (by decide +kernel)
set_option maxRecDepth 20000 in
theorem gX9_seen_X9_in : GoodIn wsX9_seen (va_wsS RX9 45 yX9_in wsX9_in) := goodIn_app (goodIn_of _ (by decide +kernel)) ggX9_seen_X9_in
set_option maxRecDepth 20000 in
theorem ggX9_seen_X9_t : GoodIn wsX9_seen wsX9_t := goodIn_r _ [13, 6, 14, 15, 16, 17, 18, 19, 20, 21, 22, 23, 24, 25, 26, 27, 28, 29] (by decide +kernel) (by decide +kernel)
set_option maxRecDepth 20000 in
theorem gX9_seen_X9_t : GoodIn wsX9_seen (wsV RX9 81 RX9 yX9_t wsX9_t) := goodIn_app (goodIn_of _ (by decide +kernel)) ggX9_seen_X9_t
theorem dX9_seen_0 : decode cX9_seen 0 = .ok (.aload_n 0, 1) := by decide +kernel
theorem dX9_seen_1 : decode cX9_seen 1 = .ok (.iload_n 1, 1) := by decide +kernel
theorem dX9_seen_2 : decode cX9_seen 2 = .ok (.invokevirtual 78, 3) := by decide +kernel
theorem dX9_seen_5 : decode cX9_seen 5 = .ok (.ifCond .eq 16, 3) := by decide +kernel
theorem dX9_seen_8 : decode cX9_seen 8 = .ok (.iload_n 2, 1) := by decide +kernel
theorem dX9_seen_9 : decode cX9_seen 9 = .ok (.ifCond .lt 12, 3) := by decide +kernel
theorem dX9_seen_12 : decode cX9_seen 12 = .ok (.iload_n 3, 1) := by decide +kernel
theorem dX9_seen_13 : decode cX9_seen 13 = .ok (.iconst 0, 1) := by decide +kernel
theorem dX9_seen_14 : decode cX9_seen 14 = .ok (.iconst 1, 1) := by decide +kernel
theorem dX9_seen_15 : decode cX9_seen 15 = .ok (.invokestatic 45, 3) := by decide +kernel
theorem dX9_seen_18 : decode cX9_seen 18 = .ok (.ifCond .ne 5, 3) := by decide +kernel
theorem dX9_seen_21 : decode cX9_seen 21 = .ok (.iconst (-1), 1) := by decide +kernel
theorem dX9_seen_22 : decode cX9_seen 22 = .ok (.ireturn, 1) := by decide +kernel
theorem dX9_seen_23 : decode cX9_seen 23 = .ok (.iload_n 2, 1) := by decide +kernel
theorem dX9_seen_24 : decode cX9_seen 24 = .ok (.aload_n 0, 1) := by decide +kernel
theorem dX9_seen_25 : decode cX9_seen 25 = .ok (.iload_n 1, 1) := by decide +kernel
theorem dX9_seen_26 : decode cX9_seen 26 = .ok (.bipush 32, 2) := by decide +kernel
theorem dX9_seen_28 : decode cX9_seen 28 = .ok (.invokevirtual 81, 3) := by decide +kernel
theorem dX9_seen_31 : decode cX9_seen 31 = .ok (.if_icmp .ge 19, 3) := by decide +kernel
theorem dX9_seen_34 : decode cX9_seen 34 = .ok (.aload_n 0, 1) := by decide +kernel
theorem dX9_seen_35 : decode cX9_seen 35 = .ok (.iload_n 1, 1) := by decide +kernel
theorem dX9_seen_36 : decode cX9_seen 36 = .ok (.bipush 33, 2) := by decide +kernel
theorem dX9_seen_38 : decode cX9_seen 38 = .ok (.iconst 4, 1) := by decide +kernel
theorem dX9_seen_39 : decode cX9_seen 39 = .ok (.iload_n 2, 1) := by decide +kernel
theorem dX9_seen_40 : decode cX9_seen 40 = .ok (.imul, 1) := by decide +kernel
theorem dX9_seen_41 : decode cX9_seen 41 = .ok (.iadd, 1) := by decide +kernel
theorem dX9_seen_42 : decode cX9_seen 42 = .ok (.iload_n 3, 1) := by decide +kernel
theorem dX9_seen_43 : decode cX9_seen 43 = .ok (.iadd, 1) := by decide +kernel
theorem dX9_seen_44 : decode cX9_seen 44 = .ok (.invokevirtual 81, 3) := by decide +kernel
theorem dX9_seen_47 : decode cX9_seen 47 = .ok (.goto 5, 3) := by decide +kernel
theorem dX9_seen_50 : decode cX9_seen 50 = .ok (.bipush (-2), 2) := by decide +kernel
theorem dX9_seen_52 : decode cX9_seen 52 = .ok (.ireturn, 1) := by decide +kernel
set_option maxRecDepth 20000 in
theorem ggX9_placeFor_X9_t : GoodIn wsX9_placeFor wsX9_t := goodIn_r _ [5, 6, 11, 12, 13, 14, 15, 16, 17, 18, 19, 20, 21, 22, 23, 24, 25, 26] (by decide +kernel) (by decide +kernel)
set_option maxRecDepth 20000 in
theorem gX9_placeFor_X9_t : GoodIn wsX9_placeFor (wsV RX9 81 RX9 yX9_t wsX9_t) := goodIn_app (goodIn_of _ (by decide +kernel)) ggX9_placeFor_X9_t
set_option maxRecDepth 20000 in
theorem ggX9_placeFor_X9_setT : GoodIn wsX9_placeFor wsX9_setT := goodIn_r _ [10, 6, 11, 12, 13, 14, 15, 16, 17, 18, 19, 20, 21, 22, 23, 24, 25, 26] (by decide +kernel) (by decide +kernel)
set_option maxRecDepth 20000 in
theorem gX9_placeFor_X9_setT : GoodIn wsX9_placeFor (wsV RX9 93 RX9 yX9_setT wsX9_setT) := goodIn_app (goodIn_of _ (by decide +kernel)) ggX9_placeFor_X9_setT
theorem dX9_placeFor_0 : decode cX9_placeFor 0 = .ok (.aload_n 0, 1) := by decide +kernel
theorem dX9_placeFor_1 : decode cX9_placeFor 1 = .ok (.iload_n 1, 1) := by decide +kernel
theorem dX9_placeFor_2 : decode cX9_placeFor 2 = .ok (.iload_n 2, 1) := by decide +kernel
theorem dX9_placeFor_3 : decode cX9_placeFor 3 = .ok (.invokevirtual 81, 3) := by decide +kernel
theorem dX9_placeFor_6 : decode cX9_placeFor 6 = .ok (.istore 6, 2) := by decide +kernel
theorem dX9_placeFor_8 : decode cX9_placeFor 8 = .ok (.iload 6, 2) := by decide +kernel
theorem dX9_placeFor_10 : decode cX9_placeFor 10 = .ok (.iload 5, 2) := by decide +kernel
theorem dX9_placeFor_12 : decode cX9_placeFor 12 = .ok (.if_icmp .ne 48, 3) := by decide +kernel
theorem dX9_placeFor_15 : decode cX9_placeFor 15 = .ok (.iconst 0, 1) := by decide +kernel
theorem dX9_placeFor_16 : decode cX9_placeFor 16 = .ok (.istore 7, 2) := by decide +kernel
theorem dX9_placeFor_18 : decode cX9_placeFor 18 = .ok (.iload 7, 2) := by decide +kernel
theorem dX9_placeFor_20 : decode cX9_placeFor 20 = .ok (.iload 4, 2) := by decide +kernel
theorem dX9_placeFor_22 : decode cX9_placeFor 22 = .ok (.iload 5, 2) := by decide +kernel
theorem dX9_placeFor_24 : decode cX9_placeFor 24 = .ok (.iconst 1, 1) := by decide +kernel
theorem dX9_placeFor_25 : decode cX9_placeFor 25 = .ok (.isub, 1) := by decide +kernel
theorem dX9_placeFor_26 : decode cX9_placeFor 26 = .ok (.imul, 1) := by decide +kernel
theorem dX9_placeFor_27 : decode cX9_placeFor 27 = .ok (.if_icmp .ge 30, 3) := by decide +kernel
theorem dX9_placeFor_30 : decode cX9_placeFor 30 = .ok (.aload_n 0, 1) := by decide +kernel
theorem dX9_placeFor_31 : decode cX9_placeFor 31 = .ok (.iload_n 1, 1) := by decide +kernel
theorem dX9_placeFor_32 : decode cX9_placeFor 32 = .ok (.iload_n 3, 1) := by decide +kernel
theorem dX9_placeFor_33 : decode cX9_placeFor 33 = .ok (.iload 7, 2) := by decide +kernel
theorem dX9_placeFor_35 : decode cX9_placeFor 35 = .ok (.iadd, 1) := by decide +kernel
theorem dX9_placeFor_36 : decode cX9_placeFor 36 = .ok (.aload_n 0, 1) := by decide +kernel
theorem dX9_placeFor_37 : decode cX9_placeFor 37 = .ok (.iload_n 1, 1) := by decide +kernel
theorem dX9_placeFor_38 : decode cX9_placeFor 38 = .ok (.iload_n 3, 1) := by decide +kernel
theorem dX9_placeFor_39 : decode cX9_placeFor 39 = .ok (.iload 7, 2) := by decide +kernel
theorem dX9_placeFor_41 : decode cX9_placeFor 41 = .ok (.iadd, 1) := by decide +kernel
theorem dX9_placeFor_42 : decode cX9_placeFor 42 = .ok (.iload 4, 2) := by decide +kernel
theorem dX9_placeFor_44 : decode cX9_placeFor 44 = .ok (.iadd, 1) := by decide +kernel
theorem dX9_placeFor_45 : decode cX9_placeFor 45 = .ok (.invokevirtual 81, 3) := by decide +kernel
theorem dX9_placeFor_48 : decode cX9_placeFor 48 = .ok (.invokevirtual 93, 3) := by decide +kernel
theorem dX9_placeFor_51 : decode cX9_placeFor 51 = .ok (.iinc 7 1, 3) := by decide +kernel
theorem dX9_placeFor_54 : decode cX9_placeFor 54 = .ok (.goto (-36), 3) := by decide +kernel
theorem dX9_placeFor_57 : decode cX9_placeFor 57 = .ok (.iinc 6 (-1), 3) := by decide +kernel
theorem dX9_placeFor_60 : decode cX9_placeFor 60 = .ok (.aload_n 0, 1) := by decide +kernel
theorem dX9_placeFor_61 : decode cX9_placeFor 61 = .ok (.iload_n 1, 1) := by decide +kernel
theorem dX9_placeFor_62 : decode cX9_placeFor 62 = .ok (.iload_n 2, 1) := by decide +kernel
theorem dX9_placeFor_63 : decode cX9_placeFor 63 = .ok (.iload 6, 2) := by decide +kernel
theorem dX9_placeFor_65 : decode cX9_placeFor 65 = .ok (.iconst 1, 1) := by decide +kernel
theorem dX9_placeFor_66 : decode cX9_placeFor 66 = .ok (.iadd, 1) := by decide +kernel
theorem dX9_placeFor_67 : decode cX9_placeFor 67 = .ok (.invokevirtual 93, 3) := by decide +kernel
theorem dX9_placeFor_70 : decode cX9_placeFor 70 = .ok (.iload_n 3, 1) := by decide +kernel
theorem dX9_placeFor_71 : decode cX9_placeFor 71 = .ok (.iload 4, 2) := by decide +kernel
theorem dX9_placeFor_73 : decode cX9_placeFor 73 = .ok (.iload 6, 2) := by decide +kernel
theorem dX9_placeFor_75 : decode cX9_placeFor 75 = .ok (.imul, 1) := by decide +kernel
theorem dX9_placeFor_76 : decode cX9_placeFor 76 = .ok (.iadd, 1) := by decide +kernel
theorem dX9_placeFor_77 : decode cX9_placeFor 77 = .ok (.ireturn, 1) := by decide +kernel
set_option maxRecDepth 20000 in
theorem ggX9_begins_X9_placeFor : GoodIn wsX9_begins wsX9_placeFor := goodIn_r _ [6, 7, 8, 9, 5, 10, 1, 11, 12, 13, 14, 15, 16, 17, 18, 19, 20, 21, 22, 23, 24, 25, 26, 27, 28, 29, 30] (by decide +kernel) (by decide +kernel)
set_option maxRecDepth 20000 in
theorem gX9_begins_X9_placeFor : GoodIn wsX9_begins (wsV RX9 103 RX9 yX9_placeFor wsX9_placeFor) := goodIn_app (goodIn_of _ (by decide +kernel)) ggX9_begins_X9_placeFor
set_option maxRecDepth 20000 in
theorem ggX9_begins_X9_setT : GoodIn wsX9_begins wsX9_setT := goodIn_r _ [14, 1, 15, 16, 17, 18, 19, 20, 21, 22, 23, 24, 25, 26, 27, 28, 29, 30] (by decide +kernel) (by decide +kernel)
set_option maxRecDepth 20000 in
theorem gX9_begins_X9_setT : GoodIn wsX9_begins (wsV RX9 93 RX9 yX9_setT wsX9_setT) := goodIn_app (goodIn_of _ (by decide +kernel)) ggX9_begins_X9_setT
set_option maxRecDepth 20000 in
theorem ggX9_begins_X9_t : GoodIn wsX9_begins wsX9_t := goodIn_r _ [10, 1, 15, 16, 17, 18, 19, 20, 21, 22, 23, 24, 25, 26, 27, 28, 29, 30] (by decide +kernel) (by decide +kernel)
set_option maxRecDepth 20000 in
theorem gX9_begins_X9_t : GoodIn wsX9_begins (wsV RX9 81 RX9 yX9_t wsX9_t) := goodIn_app (goodIn_of _ (by decide +kernel)) ggX9_begins_X9_t
theorem dX9_begins_0 : decode cX9_begins 0 = .ok (.aload_n 0, 1) := by decide +kernel
theorem dX9_begins_1 : decode cX9_begins 1 = .ok (.iload_n 1, 1) := by decide +kernel
theorem dX9_begins_2 : decode cX9_begins 2 = .ok (.bipush 6, 2) := by decide +kernel
theorem dX9_begins_4 : decode cX9_begins 4 = .ok (.bipush 8, 2) := by decide +kernel
theorem dX9_begins_6 : decode cX9_begins 6 = .ok (.iconst 3, 1) := by decide +kernel
theorem dX9_begins_7 : decode cX9_begins 7 = .ok (.bipush 8, 2) := by decide +kernel
theorem dX9_begins_9 : decode cX9_begins 9 = .ok (.invokevirtual 103, 3) := by decide +kernel
theorem dX9_begins_12 : decode cX9_begins 12 = .ok (.istore_n 3, 1) := by decide +kernel
theorem dX9_begins_13 : decode cX9_begins 13 = .ok (.aload_n 0, 1) := by decide +kernel
theorem dX9_begins_14 : decode cX9_begins 14 = .ok (.iload_n 1, 1) := by decide +kernel
theorem dX9_begins_15 : decode cX9_begins 15 = .ok (.iload_n 3, 1) := by decide +kernel
theorem dX9_begins_16 : decode cX9_begins 16 = .ok (.iload_n 2, 1) := by decide +kernel
theorem dX9_begins_17 : decode cX9_begins 17 = .ok (.invokevirtual 93, 3) := by decide +kernel
theorem dX9_begins_20 : decode cX9_begins 20 = .ok (.aload_n 0, 1) := by decide +kernel
theorem dX9_begins_21 : decode cX9_begins 21 = .ok (.iload_n 1, 1) := by decide +kernel
theorem dX9_begins_22 : decode cX9_begins 22 = .ok (.iload_n 3, 1) := by decide +kernel
theorem dX9_begins_23 : decode cX9_begins 23 = .ok (.iconst 1, 1) := by decide +kernel
theorem dX9_begins_24 : decode cX9_begins 24 = .ok (.iadd, 1) := by decide +kernel
theorem dX9_begins_25 : decode cX9_begins 25 = .ok (.aload_n 0, 1) := by decide +kernel
theorem dX9_begins_26 : decode cX9_begins 26 = .ok (.getfield 9, 3) := by decide +kernel
theorem dX9_begins_29 : decode cX9_begins 29 = .ok (.sipush 1082, 3) := by decide +kernel
theorem dX9_begins_32 : decode cX9_begins 32 = .ok (.iaload, 1) := by decide +kernel
theorem dX9_begins_33 : decode cX9_begins 33 = .ok (.invokevirtual 93, 3) := by decide +kernel
theorem dX9_begins_36 : decode cX9_begins 36 = .ok (.aload_n 0, 1) := by decide +kernel
theorem dX9_begins_37 : decode cX9_begins 37 = .ok (.iload_n 1, 1) := by decide +kernel
theorem dX9_begins_38 : decode cX9_begins 38 = .ok (.iload_n 3, 1) := by decide +kernel
theorem dX9_begins_39 : decode cX9_begins 39 = .ok (.iconst 2, 1) := by decide +kernel
theorem dX9_begins_40 : decode cX9_begins 40 = .ok (.iadd, 1) := by decide +kernel
theorem dX9_begins_41 : decode cX9_begins 41 = .ok (.bipush (-2), 2) := by decide +kernel
theorem dX9_begins_43 : decode cX9_begins 43 = .ok (.invokevirtual 93, 3) := by decide +kernel
theorem dX9_begins_46 : decode cX9_begins 46 = .ok (.aload_n 0, 1) := by decide +kernel
theorem dX9_begins_47 : decode cX9_begins 47 = .ok (.iload_n 1, 1) := by decide +kernel
theorem dX9_begins_48 : decode cX9_begins 48 = .ok (.bipush 7, 2) := by decide +kernel
theorem dX9_begins_50 : decode cX9_begins 50 = .ok (.aload_n 0, 1) := by decide +kernel
theorem dX9_begins_51 : decode cX9_begins 51 = .ok (.iload_n 1, 1) := by decide +kernel
theorem dX9_begins_52 : decode cX9_begins 52 = .ok (.bipush 7, 2) := by decide +kernel
theorem dX9_begins_54 : decode cX9_begins 54 = .ok (.invokevirtual 81, 3) := by decide +kernel
theorem dX9_begins_57 : decode cX9_begins 57 = .ok (.iconst 1, 1) := by decide +kernel
theorem dX9_begins_58 : decode cX9_begins 58 = .ok (.iadd, 1) := by decide +kernel
theorem dX9_begins_59 : decode cX9_begins 59 = .ok (.invokevirtual 93, 3) := by decide +kernel
theorem dX9_begins_62 : decode cX9_begins 62 = .ok (.aload_n 0, 1) := by decide +kernel
theorem dX9_begins_63 : decode cX9_begins 63 = .ok (.iload_n 1, 1) := by decide +kernel
theorem dX9_begins_64 : decode cX9_begins 64 = .ok (.iconst 2, 1) := by decide +kernel
theorem dX9_begins_65 : decode cX9_begins 65 = .ok (.iload_n 2, 1) := by decide +kernel
theorem dX9_begins_66 : decode cX9_begins 66 = .ok (.invokevirtual 93, 3) := by decide +kernel
theorem dX9_begins_69 : decode cX9_begins 69 = .ok (.aload_n 0, 1) := by decide +kernel
theorem dX9_begins_70 : decode cX9_begins 70 = .ok (.iload_n 1, 1) := by decide +kernel
theorem dX9_begins_71 : decode cX9_begins 71 = .ok (.iconst 3, 1) := by decide +kernel
theorem dX9_begins_72 : decode cX9_begins 72 = .ok (.aload_n 0, 1) := by decide +kernel
theorem dX9_begins_73 : decode cX9_begins 73 = .ok (.getfield 9, 3) := by decide +kernel
theorem dX9_begins_76 : decode cX9_begins 76 = .ok (.sipush 1082, 3) := by decide +kernel
theorem dX9_begins_79 : decode cX9_begins 79 = .ok (.iaload, 1) := by decide +kernel
theorem dX9_begins_80 : decode cX9_begins 80 = .ok (.invokevirtual 93, 3) := by decide +kernel
theorem dX9_begins_83 : decode cX9_begins 83 = .ok (.return_, 1) := by decide +kernel
set_option maxRecDepth 20000 in
theorem ggX9_ends_X9_t : GoodIn wsX9_ends wsX9_t := goodIn_r _ [6, 1, 11, 12, 13, 14, 15, 16, 17, 18, 19, 20, 21, 22, 23, 24, 25, 26] (by decide +kernel) (by decide +kernel)
set_option maxRecDepth 20000 in
theorem gX9_ends_X9_t : GoodIn wsX9_ends (wsV RX9 81 RX9 yX9_t wsX9_t) := goodIn_app (goodIn_of _ (by decide +kernel)) ggX9_ends_X9_t
set_option maxRecDepth 20000 in
theorem ggX9_ends_X9_setT : GoodIn wsX9_ends wsX9_setT := goodIn_r _ [10, 1, 11, 12, 13, 14, 15, 16, 17, 18, 19, 20, 21, 22, 23, 24, 25, 26] (by decide +kernel) (by decide +kernel)
set_option maxRecDepth 20000 in
theorem gX9_ends_X9_setT : GoodIn wsX9_ends (wsV RX9 93 RX9 yX9_setT wsX9_setT) := goodIn_app (goodIn_of _ (by decide +kernel)) ggX9_ends_X9_setT
theorem dX9_ends_0 : decode cX9_ends 0 = .ok (.aload_n 0, 1) := by decide +kernel
theorem dX9_ends_1 : decode cX9_ends 1 = .ok (.iload_n 1, 1) := by decide +kernel
theorem dX9_ends_2 : decode cX9_ends 2 = .ok (.bipush 8, 2) := by decide +kernel
theorem dX9_ends_4 : decode cX9_ends 4 = .ok (.iconst 3, 1) := by decide +kernel
theorem dX9_ends_5 : decode cX9_ends 5 = .ok (.aload_n 0, 1) := by decide +kernel
theorem dX9_ends_6 : decode cX9_ends 6 = .ok (.iload_n 1, 1) := by decide +kernel
theorem dX9_ends_7 : decode cX9_ends 7 = .ok (.bipush 6, 2) := by decide +kernel
theorem dX9_ends_9 : decode cX9_ends 9 = .ok (.invokevirtual 81, 3) := by decide +kernel
theorem dX9_ends_12 : decode cX9_ends 12 = .ok (.iconst 1, 1) := by decide +kernel
theorem dX9_ends_13 : decode cX9_ends 13 = .ok (.isub, 1) := by decide +kernel
theorem dX9_ends_14 : decode cX9_ends 14 = .ok (.imul, 1) := by decide +kernel
theorem dX9_ends_15 : decode cX9_ends 15 = .ok (.iadd, 1) := by decide +kernel
theorem dX9_ends_16 : decode cX9_ends 16 = .ok (.iconst 2, 1) := by decide +kernel
theorem dX9_ends_17 : decode cX9_ends 17 = .ok (.iadd, 1) := by decide +kernel
theorem dX9_ends_18 : decode cX9_ends 18 = .ok (.aload_n 0, 1) := by decide +kernel
theorem dX9_ends_19 : decode cX9_ends 19 = .ok (.getfield 9, 3) := by decide +kernel
theorem dX9_ends_22 : decode cX9_ends 22 = .ok (.sipush 1082, 3) := by decide +kernel
theorem dX9_ends_25 : decode cX9_ends 25 = .ok (.iaload, 1) := by decide +kernel
theorem dX9_ends_26 : decode cX9_ends 26 = .ok (.invokevirtual 93, 3) := by decide +kernel
theorem dX9_ends_29 : decode cX9_ends 29 = .ok (.aload_n 0, 1) := by decide +kernel
theorem dX9_ends_30 : decode cX9_ends 30 = .ok (.iload_n 1, 1) := by decide +kernel
theorem dX9_ends_31 : decode cX9_ends 31 = .ok (.iconst 2, 1) := by decide +kernel
theorem dX9_ends_32 : decode cX9_ends 32 = .ok (.iconst (-1), 1) := by decide +kernel
theorem dX9_ends_33 : decode cX9_ends 33 = .ok (.invokevirtual 93, 3) := by decide +kernel
theorem dX9_ends_36 : decode cX9_ends 36 = .ok (.return_, 1) := by decide +kernel
set_option maxRecDepth 20000 in
theorem ggX9_seesNow_X9_placeFor : GoodIn wsX9_seesNow wsX9_placeFor := goodIn_r _ [6, 7, 8, 9, 5, 10, 1, 11, 12, 13, 14, 19, 20, 21, 22, 23, 24, 25, 26, 27, 28, 29, 30, 31, 32, 33, 34] (by decide +kernel) (by decide +kernel)
set_option maxRecDepth 20000 in
theorem gX9_seesNow_X9_placeFor : GoodIn wsX9_seesNow (wsV RX9 103 RX9 yX9_placeFor wsX9_placeFor) := goodIn_app (goodIn_of _ (by decide +kernel)) ggX9_seesNow_X9_placeFor
set_option maxRecDepth 20000 in
theorem ggX9_seesNow_X9_setT : GoodIn wsX9_seesNow wsX9_setT := goodIn_r _ [14, 1, 19, 20, 21, 22, 23, 24, 25, 26, 27, 28, 29, 30, 31, 32, 33, 34] (by decide +kernel) (by decide +kernel)
set_option maxRecDepth 20000 in
theorem gX9_seesNow_X9_setT : GoodIn wsX9_seesNow (wsV RX9 93 RX9 yX9_setT wsX9_setT) := goodIn_app (goodIn_of _ (by decide +kernel)) ggX9_seesNow_X9_setT
set_option maxRecDepth 20000 in
theorem ggX9_seesNow_X9_t : GoodIn wsX9_seesNow wsX9_t := goodIn_r _ [10, 1, 19, 20, 21, 22, 23, 24, 25, 26, 27, 28, 29, 30, 31, 32, 33, 34] (by decide +kernel) (by decide +kernel)
set_option maxRecDepth 20000 in
theorem gX9_seesNow_X9_t : GoodIn wsX9_seesNow (wsV RX9 81 RX9 yX9_t wsX9_t) := goodIn_app (goodIn_of _ (by decide +kernel)) ggX9_seesNow_X9_t
set_option maxRecDepth 20000 in
theorem ggX9_seesNow_X9_isOut : GoodIn wsX9_seesNow wsX9_isOut := goodIn_r _ [18, 7, 8, 9, 5, 10, 1, 19, 20, 21, 22, 23, 24, 25, 26, 27, 28, 29, 30, 31, 32, 33, 34] (by decide +kernel) (by decide +kernel)
set_option maxRecDepth 20000 in
theorem gX9_seesNow_X9_isOut : GoodIn wsX9_seesNow (wsV RX9 100 RX9 yX9_isOut wsX9_isOut) := goodIn_app (goodIn_of _ (by decide +kernel)) ggX9_seesNow_X9_isOut
theorem dX9_seesNow_0 : decode cX9_seesNow 0 = .ok (.aload_n 0, 1) := by decide +kernel
theorem dX9_seesNow_1 : decode cX9_seesNow 1 = .ok (.iload_n 1, 1) := by decide +kernel
theorem dX9_seesNow_2 : decode cX9_seesNow 2 = .ok (.bipush 32, 2) := by decide +kernel
theorem dX9_seesNow_4 : decode cX9_seesNow 4 = .ok (.bipush 33, 2) := by decide +kernel
theorem dX9_seesNow_6 : decode cX9_seesNow 6 = .ok (.iconst 4, 1) := by decide +kernel
theorem dX9_seesNow_7 : decode cX9_seesNow 7 = .ok (.bipush 6, 2) := by decide +kernel
theorem dX9_seesNow_9 : decode cX9_seesNow 9 = .ok (.invokevirtual 103, 3) := by decide +kernel
theorem dX9_seesNow_12 : decode cX9_seesNow 12 = .ok (.istore_n 2, 1) := by decide +kernel
theorem dX9_seesNow_13 : decode cX9_seesNow 13 = .ok (.aload_n 0, 1) := by decide +kernel
theorem dX9_seesNow_14 : decode cX9_seesNow 14 = .ok (.iload_n 1, 1) := by decide +kernel
theorem dX9_seesNow_15 : decode cX9_seesNow 15 = .ok (.iload_n 2, 1) := by decide +kernel
theorem dX9_seesNow_16 : decode cX9_seesNow 16 = .ok (.aload_n 0, 1) := by decide +kernel
theorem dX9_seesNow_17 : decode cX9_seesNow 17 = .ok (.getfield 9, 3) := by decide +kernel
theorem dX9_seesNow_20 : decode cX9_seesNow 20 = .ok (.sipush 1082, 3) := by decide +kernel
theorem dX9_seesNow_23 : decode cX9_seesNow 23 = .ok (.iaload, 1) := by decide +kernel
theorem dX9_seesNow_24 : decode cX9_seesNow 24 = .ok (.invokevirtual 93, 3) := by decide +kernel
theorem dX9_seesNow_27 : decode cX9_seesNow 27 = .ok (.aload_n 0, 1) := by decide +kernel
theorem dX9_seesNow_28 : decode cX9_seesNow 28 = .ok (.iload_n 1, 1) := by decide +kernel
theorem dX9_seesNow_29 : decode cX9_seesNow 29 = .ok (.iload_n 2, 1) := by decide +kernel
theorem dX9_seesNow_30 : decode cX9_seesNow 30 = .ok (.iconst 1, 1) := by decide +kernel
theorem dX9_seesNow_31 : decode cX9_seesNow 31 = .ok (.iadd, 1) := by decide +kernel
theorem dX9_seesNow_32 : decode cX9_seesNow 32 = .ok (.aload_n 0, 1) := by decide +kernel
theorem dX9_seesNow_33 : decode cX9_seesNow 33 = .ok (.iload_n 1, 1) := by decide +kernel
theorem dX9_seesNow_34 : decode cX9_seesNow 34 = .ok (.iconst 1, 1) := by decide +kernel
theorem dX9_seesNow_35 : decode cX9_seesNow 35 = .ok (.invokevirtual 81, 3) := by decide +kernel
theorem dX9_seesNow_38 : decode cX9_seesNow 38 = .ok (.invokevirtual 93, 3) := by decide +kernel
theorem dX9_seesNow_41 : decode cX9_seesNow 41 = .ok (.aload_n 0, 1) := by decide +kernel
theorem dX9_seesNow_42 : decode cX9_seesNow 42 = .ok (.iload_n 1, 1) := by decide +kernel
theorem dX9_seesNow_43 : decode cX9_seesNow 43 = .ok (.iload_n 2, 1) := by decide +kernel
theorem dX9_seesNow_44 : decode cX9_seesNow 44 = .ok (.iconst 2, 1) := by decide +kernel
theorem dX9_seesNow_45 : decode cX9_seesNow 45 = .ok (.iadd, 1) := by decide +kernel
theorem dX9_seesNow_46 : decode cX9_seesNow 46 = .ok (.aload_n 0, 1) := by decide +kernel
theorem dX9_seesNow_47 : decode cX9_seesNow 47 = .ok (.iload_n 1, 1) := by decide +kernel
theorem dX9_seesNow_48 : decode cX9_seesNow 48 = .ok (.bipush 7, 2) := by decide +kernel
theorem dX9_seesNow_50 : decode cX9_seesNow 50 = .ok (.invokevirtual 81, 3) := by decide +kernel
theorem dX9_seesNow_53 : decode cX9_seesNow 53 = .ok (.invokevirtual 93, 3) := by decide +kernel
theorem dX9_seesNow_56 : decode cX9_seesNow 56 = .ok (.aload_n 0, 1) := by decide +kernel
theorem dX9_seesNow_57 : decode cX9_seesNow 57 = .ok (.iload_n 1, 1) := by decide +kernel
theorem dX9_seesNow_58 : decode cX9_seesNow 58 = .ok (.iload_n 2, 1) := by decide +kernel
theorem dX9_seesNow_59 : decode cX9_seesNow 59 = .ok (.iconst 3, 1) := by decide +kernel
theorem dX9_seesNow_60 : decode cX9_seesNow 60 = .ok (.iadd, 1) := by decide +kernel
theorem dX9_seesNow_61 : decode cX9_seesNow 61 = .ok (.aload_n 0, 1) := by decide +kernel
theorem dX9_seesNow_62 : decode cX9_seesNow 62 = .ok (.iload_n 1, 1) := by decide +kernel
theorem dX9_seesNow_63 : decode cX9_seesNow 63 = .ok (.invokevirtual 100, 3) := by decide +kernel
theorem dX9_seesNow_66 : decode cX9_seesNow 66 = .ok (.ifCond .eq 7, 3) := by decide +kernel
theorem dX9_seesNow_69 : decode cX9_seesNow 69 = .ok (.iconst 1, 1) := by decide +kernel
theorem dX9_seesNow_70 : decode cX9_seesNow 70 = .ok (.goto 4, 3) := by decide +kernel
theorem dX9_seesNow_73 : decode cX9_seesNow 73 = .ok (.iconst 0, 1) := by decide +kernel
theorem dX9_seesNow_74 : decode cX9_seesNow 74 = .ok (.invokevirtual 93, 3) := by decide +kernel
theorem dX9_seesNow_77 : decode cX9_seesNow 77 = .ok (.return_, 1) := by decide +kernel
set_option maxRecDepth 20000 in
theorem ggX9_claimOn_X9_t : GoodIn wsX9_claimOn wsX9_t := goodIn_r _ [5, 6, 7, 8, 9, 10, 11, 12, 13, 14, 15, 16, 17, 18, 19, 20, 21, 22] (by decide +kernel) (by decide +kernel)
set_option maxRecDepth 20000 in
theorem gX9_claimOn_X9_t : GoodIn wsX9_claimOn (wsV RX9 81 RX9 yX9_t wsX9_t) := goodIn_app (goodIn_of _ (by decide +kernel)) ggX9_claimOn_X9_t
theorem dX9_claimOn_0 : decode cX9_claimOn 0 = .ok (.iconst 0, 1) := by decide +kernel
theorem dX9_claimOn_1 : decode cX9_claimOn 1 = .ok (.istore_n 3, 1) := by decide +kernel
theorem dX9_claimOn_2 : decode cX9_claimOn 2 = .ok (.iload_n 3, 1) := by decide +kernel
theorem dX9_claimOn_3 : decode cX9_claimOn 3 = .ok (.aload_n 0, 1) := by decide +kernel
theorem dX9_claimOn_4 : decode cX9_claimOn 4 = .ok (.iload_n 1, 1) := by decide +kernel
theorem dX9_claimOn_5 : decode cX9_claimOn 5 = .ok (.bipush 57, 2) := by decide +kernel
theorem dX9_claimOn_7 : decode cX9_claimOn 7 = .ok (.invokevirtual 81, 3) := by decide +kernel
theorem dX9_claimOn_10 : decode cX9_claimOn 10 = .ok (.if_icmp .ge 26, 3) := by decide +kernel
theorem dX9_claimOn_13 : decode cX9_claimOn 13 = .ok (.aload_n 0, 1) := by decide +kernel
theorem dX9_claimOn_14 : decode cX9_claimOn 14 = .ok (.iload_n 1, 1) := by decide +kernel
theorem dX9_claimOn_15 : decode cX9_claimOn 15 = .ok (.bipush 58, 2) := by decide +kernel
theorem dX9_claimOn_17 : decode cX9_claimOn 17 = .ok (.iconst 4, 1) := by decide +kernel
theorem dX9_claimOn_18 : decode cX9_claimOn 18 = .ok (.iload_n 3, 1) := by decide +kernel
theorem dX9_claimOn_19 : decode cX9_claimOn 19 = .ok (.imul, 1) := by decide +kernel
theorem dX9_claimOn_20 : decode cX9_claimOn 20 = .ok (.iadd, 1) := by decide +kernel
theorem dX9_claimOn_21 : decode cX9_claimOn 21 = .ok (.invokevirtual 81, 3) := by decide +kernel
theorem dX9_claimOn_24 : decode cX9_claimOn 24 = .ok (.iload_n 2, 1) := by decide +kernel
theorem dX9_claimOn_25 : decode cX9_claimOn 25 = .ok (.if_icmp .ne 5, 3) := by decide +kernel
theorem dX9_claimOn_28 : decode cX9_claimOn 28 = .ok (.iload_n 3, 1) := by decide +kernel
theorem dX9_claimOn_29 : decode cX9_claimOn 29 = .ok (.ireturn, 1) := by decide +kernel
theorem dX9_claimOn_30 : decode cX9_claimOn 30 = .ok (.iinc 3 1, 3) := by decide +kernel
theorem dX9_claimOn_33 : decode cX9_claimOn 33 = .ok (.goto (-31), 3) := by decide +kernel
theorem dX9_claimOn_36 : decode cX9_claimOn 36 = .ok (.bipush (-2), 2) := by decide +kernel
theorem dX9_claimOn_38 : decode cX9_claimOn 38 = .ok (.ireturn, 1) := by decide +kernel
set_option maxRecDepth 20000 in
theorem ggX9_c_X9_t : GoodIn wsX9_c wsX9_t := goodIn_r _ [5, 6, 7, 8, 9, 10, 11, 12, 13, 14, 15, 16, 17, 18, 19, 20, 21, 22] (by decide +kernel) (by decide +kernel)
set_option maxRecDepth 20000 in
theorem gX9_c_X9_t : GoodIn wsX9_c (wsV RX9 81 RX9 yX9_t wsX9_t) := goodIn_app (goodIn_of _ (by decide +kernel)) ggX9_c_X9_t
theorem dX9_c_0 : decode cX9_c 0 = .ok (.aload_n 0, 1) := by decide +kernel
theorem dX9_c_1 : decode cX9_c 1 = .ok (.iload_n 1, 1) := by decide +kernel
theorem dX9_c_2 : decode cX9_c 2 = .ok (.bipush 58, 2) := by decide +kernel
theorem dX9_c_4 : decode cX9_c 4 = .ok (.iconst 4, 1) := by decide +kernel
theorem dX9_c_5 : decode cX9_c 5 = .ok (.iload_n 2, 1) := by decide +kernel
theorem dX9_c_6 : decode cX9_c 6 = .ok (.imul, 1) := by decide +kernel
theorem dX9_c_7 : decode cX9_c 7 = .ok (.iadd, 1) := by decide +kernel
theorem dX9_c_8 : decode cX9_c 8 = .ok (.iload_n 3, 1) := by decide +kernel
theorem dX9_c_9 : decode cX9_c 9 = .ok (.iadd, 1) := by decide +kernel
theorem dX9_c_10 : decode cX9_c 10 = .ok (.invokevirtual 81, 3) := by decide +kernel
theorem dX9_c_13 : decode cX9_c 13 = .ok (.ireturn, 1) := by decide +kernel
set_option maxRecDepth 20000 in
theorem ggX9_goesAhead_X9_c : GoodIn wsX9_goesAhead wsX9_c := goodIn_r _ [5, 6, 7, 8, 4, 9, 10, 11, 12, 13, 14, 15, 16, 17, 18, 19, 20, 21, 22, 23, 24, 25, 26] (by decide +kernel) (by decide +kernel)
set_option maxRecDepth 20000 in
theorem gX9_goesAhead_X9_c : GoodIn wsX9_goesAhead (wsV RX9 107 RX9 yX9_c wsX9_c) := goodIn_app (goodIn_of _ (by decide +kernel)) ggX9_goesAhead_X9_c
theorem dX9_goesAhead_0 : decode cX9_goesAhead 0 = .ok (.aload_n 0, 1) := by decide +kernel
theorem dX9_goesAhead_1 : decode cX9_goesAhead 1 = .ok (.iload_n 1, 1) := by decide +kernel
theorem dX9_goesAhead_2 : decode cX9_goesAhead 2 = .ok (.iload_n 2, 1) := by decide +kernel
theorem dX9_goesAhead_3 : decode cX9_goesAhead 3 = .ok (.iconst 1, 1) := by decide +kernel
theorem dX9_goesAhead_4 : decode cX9_goesAhead 4 = .ok (.invokevirtual 107, 3) := by decide +kernel
theorem dX9_goesAhead_7 : decode cX9_goesAhead 7 = .ok (.aload_n 0, 1) := by decide +kernel
theorem dX9_goesAhead_8 : decode cX9_goesAhead 8 = .ok (.iload_n 1, 1) := by decide +kernel
theorem dX9_goesAhead_9 : decode cX9_goesAhead 9 = .ok (.iload_n 3, 1) := by decide +kernel
theorem dX9_goesAhead_10 : decode cX9_goesAhead 10 = .ok (.iconst 1, 1) := by decide +kernel
theorem dX9_goesAhead_11 : decode cX9_goesAhead 11 = .ok (.invokevirtual 107, 3) := by decide +kernel
theorem dX9_goesAhead_14 : decode cX9_goesAhead 14 = .ok (.if_icmp .eq 26, 3) := by decide +kernel
theorem dX9_goesAhead_17 : decode cX9_goesAhead 17 = .ok (.aload_n 0, 1) := by decide +kernel
theorem dX9_goesAhead_18 : decode cX9_goesAhead 18 = .ok (.iload_n 1, 1) := by decide +kernel
theorem dX9_goesAhead_19 : decode cX9_goesAhead 19 = .ok (.iload_n 2, 1) := by decide +kernel
theorem dX9_goesAhead_20 : decode cX9_goesAhead 20 = .ok (.iconst 1, 1) := by decide +kernel
theorem dX9_goesAhead_21 : decode cX9_goesAhead 21 = .ok (.invokevirtual 107, 3) := by decide +kernel
theorem dX9_goesAhead_24 : decode cX9_goesAhead 24 = .ok (.aload_n 0, 1) := by decide +kernel
theorem dX9_goesAhead_25 : decode cX9_goesAhead 25 = .ok (.iload_n 1, 1) := by decide +kernel
theorem dX9_goesAhead_26 : decode cX9_goesAhead 26 = .ok (.iload_n 3, 1) := by decide +kernel
theorem dX9_goesAhead_27 : decode cX9_goesAhead 27 = .ok (.iconst 1, 1) := by decide +kernel
theorem dX9_goesAhead_28 : decode cX9_goesAhead 28 = .ok (.invokevirtual 107, 3) := by decide +kernel
theorem dX9_goesAhead_31 : decode cX9_goesAhead 31 = .ok (.if_icmp .le 7, 3) := by decide +kernel
theorem dX9_goesAhead_34 : decode cX9_goesAhead 34 = .ok (.iconst 1, 1) := by decide +kernel
theorem dX9_goesAhead_35 : decode cX9_goesAhead 35 = .ok (.goto 4, 3) := by decide +kernel
theorem dX9_goesAhead_38 : decode cX9_goesAhead 38 = .ok (.iconst 0, 1) := by decide +kernel
theorem dX9_goesAhead_39 : decode cX9_goesAhead 39 = .ok (.ireturn, 1) := by decide +kernel
theorem dX9_goesAhead_40 : decode cX9_goesAhead 40 = .ok (.aload_n 0, 1) := by decide +kernel
theorem dX9_goesAhead_41 : decode cX9_goesAhead 41 = .ok (.iload_n 1, 1) := by decide +kernel
theorem dX9_goesAhead_42 : decode cX9_goesAhead 42 = .ok (.iload_n 2, 1) := by decide +kernel
theorem dX9_goesAhead_43 : decode cX9_goesAhead 43 = .ok (.iconst 3, 1) := by decide +kernel
theorem dX9_goesAhead_44 : decode cX9_goesAhead 44 = .ok (.invokevirtual 107, 3) := by decide +kernel
theorem dX9_goesAhead_47 : decode cX9_goesAhead 47 = .ok (.aload_n 0, 1) := by decide +kernel
theorem dX9_goesAhead_48 : decode cX9_goesAhead 48 = .ok (.iload_n 1, 1) := by decide +kernel
theorem dX9_goesAhead_49 : decode cX9_goesAhead 49 = .ok (.iload_n 3, 1) := by decide +kernel
theorem dX9_goesAhead_50 : decode cX9_goesAhead 50 = .ok (.iconst 3, 1) := by decide +kernel
theorem dX9_goesAhead_51 : decode cX9_goesAhead 51 = .ok (.invokevirtual 107, 3) := by decide +kernel
theorem dX9_goesAhead_54 : decode cX9_goesAhead 54 = .ok (.if_icmp .eq 28, 3) := by decide +kernel
theorem dX9_goesAhead_57 : decode cX9_goesAhead 57 = .ok (.aload_n 0, 1) := by decide +kernel
theorem dX9_goesAhead_58 : decode cX9_goesAhead 58 = .ok (.iload_n 1, 1) := by decide +kernel
theorem dX9_goesAhead_59 : decode cX9_goesAhead 59 = .ok (.iload_n 2, 1) := by decide +kernel
theorem dX9_goesAhead_60 : decode cX9_goesAhead 60 = .ok (.iconst 3, 1) := by decide +kernel
theorem dX9_goesAhead_61 : decode cX9_goesAhead 61 = .ok (.invokevirtual 107, 3) := by decide +kernel
theorem dX9_goesAhead_64 : decode cX9_goesAhead 64 = .ok (.aload_n 0, 1) := by decide +kernel
theorem dX9_goesAhead_65 : decode cX9_goesAhead 65 = .ok (.iload_n 1, 1) := by decide +kernel
theorem dX9_goesAhead_66 : decode cX9_goesAhead 66 = .ok (.iload_n 3, 1) := by decide +kernel
theorem dX9_goesAhead_67 : decode cX9_goesAhead 67 = .ok (.iconst 3, 1) := by decide +kernel
theorem dX9_goesAhead_68 : decode cX9_goesAhead 68 = .ok (.invokevirtual 107, 3) := by decide +kernel
theorem dX9_goesAhead_71 : decode cX9_goesAhead 71 = .ok (.if_icmp .ge 7, 3) := by decide +kernel
theorem dX9_goesAhead_74 : decode cX9_goesAhead 74 = .ok (.iconst 1, 1) := by decide +kernel
theorem dX9_goesAhead_75 : decode cX9_goesAhead 75 = .ok (.goto 29, 3) := by decide +kernel
theorem dX9_goesAhead_78 : decode cX9_goesAhead 78 = .ok (.iconst 0, 1) := by decide +kernel
theorem dX9_goesAhead_79 : decode cX9_goesAhead 79 = .ok (.goto 25, 3) := by decide +kernel
theorem dX9_goesAhead_82 : decode cX9_goesAhead 82 = .ok (.aload_n 0, 1) := by decide +kernel
theorem dX9_goesAhead_83 : decode cX9_goesAhead 83 = .ok (.iload_n 1, 1) := by decide +kernel
theorem dX9_goesAhead_84 : decode cX9_goesAhead 84 = .ok (.iload_n 2, 1) := by decide +kernel
theorem dX9_goesAhead_85 : decode cX9_goesAhead 85 = .ok (.iconst 0, 1) := by decide +kernel
theorem dX9_goesAhead_86 : decode cX9_goesAhead 86 = .ok (.invokevirtual 107, 3) := by decide +kernel
theorem dX9_goesAhead_89 : decode cX9_goesAhead 89 = .ok (.aload_n 0, 1) := by decide +kernel
theorem dX9_goesAhead_90 : decode cX9_goesAhead 90 = .ok (.iload_n 1, 1) := by decide +kernel
theorem dX9_goesAhead_91 : decode cX9_goesAhead 91 = .ok (.iload_n 3, 1) := by decide +kernel
theorem dX9_goesAhead_92 : decode cX9_goesAhead 92 = .ok (.iconst 0, 1) := by decide +kernel
theorem dX9_goesAhead_93 : decode cX9_goesAhead 93 = .ok (.invokevirtual 107, 3) := by decide +kernel
theorem dX9_goesAhead_96 : decode cX9_goesAhead 96 = .ok (.if_icmp .ge 7, 3) := by decide +kernel
theorem dX9_goesAhead_99 : decode cX9_goesAhead 99 = .ok (.iconst 1, 1) := by decide +kernel
theorem dX9_goesAhead_100 : decode cX9_goesAhead 100 = .ok (.goto 4, 3) := by decide +kernel
theorem dX9_goesAhead_103 : decode cX9_goesAhead 103 = .ok (.iconst 0, 1) := by decide +kernel
theorem dX9_goesAhead_104 : decode cX9_goesAhead 104 = .ok (.ireturn, 1) := by decide +kernel
set_option maxRecDepth 20000 in
theorem ggX9_placeOn_X9_t : GoodIn wsX9_placeOn wsX9_t := goodIn_r _ [5, 6, 15, 16, 17, 18, 19, 20, 21, 22, 23, 24, 25, 26, 27, 28, 29, 30] (by decide +kernel) (by decide +kernel)
set_option maxRecDepth 20000 in
theorem gX9_placeOn_X9_t : GoodIn wsX9_placeOn (wsV RX9 81 RX9 yX9_t wsX9_t) := goodIn_app (goodIn_of _ (by decide +kernel)) ggX9_placeOn_X9_t
set_option maxRecDepth 20000 in
theorem ggX9_placeOn_X9_goesAhead : GoodIn wsX9_placeOn wsX9_goesAhead := goodIn_r _ [10, 11, 12, 13, 4, 14, 1, 2, 3, 5, 6, 15, 16, 17, 18, 19, 20, 21, 22, 23, 24, 25, 26, 27, 28, 29, 30] (by decide +kernel) (by decide +kernel)
set_option maxRecDepth 20000 in
theorem gX9_placeOn_X9_goesAhead : GoodIn wsX9_placeOn (wsV RX9 111 RX9 yX9_goesAhead wsX9_goesAhead) := goodIn_app (goodIn_of _ (by decide +kernel)) ggX9_placeOn_X9_goesAhead
theorem dX9_placeOn_0 : decode cX9_placeOn 0 = .ok (.iconst 0, 1) := by decide +kernel
theorem dX9_placeOn_1 : decode cX9_placeOn 1 = .ok (.istore_n 3, 1) := by decide +kernel
theorem dX9_placeOn_2 : decode cX9_placeOn 2 = .ok (.iconst 0, 1) := by decide +kernel
theorem dX9_placeOn_3 : decode cX9_placeOn 3 = .ok (.istore 4, 2) := by decide +kernel
theorem dX9_placeOn_5 : decode cX9_placeOn 5 = .ok (.iload 4, 2) := by decide +kernel
theorem dX9_placeOn_7 : decode cX9_placeOn 7 = .ok (.aload_n 0, 1) := by decide +kernel
theorem dX9_placeOn_8 : decode cX9_placeOn 8 = .ok (.iload_n 1, 1) := by decide +kernel
theorem dX9_placeOn_9 : decode cX9_placeOn 9 = .ok (.bipush 57, 2) := by decide +kernel
theorem dX9_placeOn_11 : decode cX9_placeOn 11 = .ok (.invokevirtual 81, 3) := by decide +kernel
theorem dX9_placeOn_14 : decode cX9_placeOn 14 = .ok (.if_icmp .ge 34, 3) := by decide +kernel
theorem dX9_placeOn_17 : decode cX9_placeOn 17 = .ok (.iload_n 3, 1) := by decide +kernel
theorem dX9_placeOn_18 : decode cX9_placeOn 18 = .ok (.iload 4, 2) := by decide +kernel
theorem dX9_placeOn_20 : decode cX9_placeOn 20 = .ok (.iload_n 2, 1) := by decide +kernel
theorem dX9_placeOn_21 : decode cX9_placeOn 21 = .ok (.if_icmp .eq 18, 3) := by decide +kernel
theorem dX9_placeOn_24 : decode cX9_placeOn 24 = .ok (.aload_n 0, 1) := by decide +kernel
theorem dX9_placeOn_25 : decode cX9_placeOn 25 = .ok (.iload_n 1, 1) := by decide +kernel
theorem dX9_placeOn_26 : decode cX9_placeOn 26 = .ok (.iload 4, 2) := by decide +kernel
theorem dX9_placeOn_28 : decode cX9_placeOn 28 = .ok (.iload_n 2, 1) := by decide +kernel
theorem dX9_placeOn_29 : decode cX9_placeOn 29 = .ok (.invokevirtual 111, 3) := by decide +kernel
theorem dX9_placeOn_32 : decode cX9_placeOn 32 = .ok (.ifCond .eq 7, 3) := by decide +kernel
theorem dX9_placeOn_35 : decode cX9_placeOn 35 = .ok (.iconst 1, 1) := by decide +kernel
theorem dX9_placeOn_36 : decode cX9_placeOn 36 = .ok (.goto 4, 3) := by decide +kernel
theorem dX9_placeOn_39 : decode cX9_placeOn 39 = .ok (.iconst 0, 1) := by decide +kernel
theorem dX9_placeOn_40 : decode cX9_placeOn 40 = .ok (.iadd, 1) := by decide +kernel
theorem dX9_placeOn_41 : decode cX9_placeOn 41 = .ok (.istore_n 3, 1) := by decide +kernel
theorem dX9_placeOn_42 : decode cX9_placeOn 42 = .ok (.iinc 4 1, 3) := by decide +kernel
theorem dX9_placeOn_45 : decode cX9_placeOn 45 = .ok (.goto (-40), 3) := by decide +kernel
theorem dX9_placeOn_48 : decode cX9_placeOn 48 = .ok (.iload_n 3, 1) := by decide +kernel
theorem dX9_placeOn_49 : decode cX9_placeOn 49 = .ok (.ireturn, 1) := by decide +kernel
set_option maxRecDepth 20000 in
theorem ggX9_claimAt_X9_t : GoodIn wsX9_claimAt wsX9_t := goodIn_r _ [5, 6, 19, 20, 21, 22, 23, 24, 25, 26, 27, 28, 29, 30, 31, 32, 33, 34] (by decide +kernel) (by decide +kernel)
set_option maxRecDepth 20000 in
theorem gX9_claimAt_X9_t : GoodIn wsX9_claimAt (wsV RX9 81 RX9 yX9_t wsX9_t) := goodIn_app (goodIn_of _ (by decide +kernel)) ggX9_claimAt_X9_t
set_option maxRecDepth 20000 in
theorem ggX9_claimAt_X9_placeOn : GoodIn wsX9_claimAt wsX9_placeOn := goodIn_r _ [10, 1, 2, 3, 4, 5, 6, 11, 12, 13, 14, 15, 16, 17, 18, 19, 20, 21, 22, 23, 24, 25, 26, 27, 28, 29, 30, 31, 32, 33, 34] (by decide +kernel) (by decide +kernel)
set_option maxRecDepth 20000 in
theorem gX9_claimAt_X9_placeOn : GoodIn wsX9_claimAt (wsV RX9 114 RX9 yX9_placeOn wsX9_placeOn) := goodIn_app (goodIn_of _ (by decide +kernel)) ggX9_claimAt_X9_placeOn
theorem dX9_claimAt_0 : decode cX9_claimAt 0 = .ok (.iconst 0, 1) := by decide +kernel
theorem dX9_claimAt_1 : decode cX9_claimAt 1 = .ok (.istore_n 3, 1) := by decide +kernel
theorem dX9_claimAt_2 : decode cX9_claimAt 2 = .ok (.iload_n 3, 1) := by decide +kernel
theorem dX9_claimAt_3 : decode cX9_claimAt 3 = .ok (.aload_n 0, 1) := by decide +kernel
theorem dX9_claimAt_4 : decode cX9_claimAt 4 = .ok (.iload_n 1, 1) := by decide +kernel
theorem dX9_claimAt_5 : decode cX9_claimAt 5 = .ok (.bipush 57, 2) := by decide +kernel
theorem dX9_claimAt_7 : decode cX9_claimAt 7 = .ok (.invokevirtual 81, 3) := by decide +kernel
theorem dX9_claimAt_10 : decode cX9_claimAt 10 = .ok (.if_icmp .ge 21, 3) := by decide +kernel
theorem dX9_claimAt_13 : decode cX9_claimAt 13 = .ok (.aload_n 0, 1) := by decide +kernel
theorem dX9_claimAt_14 : decode cX9_claimAt 14 = .ok (.iload_n 1, 1) := by decide +kernel
theorem dX9_claimAt_15 : decode cX9_claimAt 15 = .ok (.iload_n 3, 1) := by decide +kernel
theorem dX9_claimAt_16 : decode cX9_claimAt 16 = .ok (.invokevirtual 114, 3) := by decide +kernel
theorem dX9_claimAt_19 : decode cX9_claimAt 19 = .ok (.iload_n 2, 1) := by decide +kernel
theorem dX9_claimAt_20 : decode cX9_claimAt 20 = .ok (.if_icmp .ne 5, 3) := by decide +kernel
theorem dX9_claimAt_23 : decode cX9_claimAt 23 = .ok (.iload_n 3, 1) := by decide +kernel
theorem dX9_claimAt_24 : decode cX9_claimAt 24 = .ok (.ireturn, 1) := by decide +kernel
theorem dX9_claimAt_25 : decode cX9_claimAt 25 = .ok (.iinc 3 1, 3) := by decide +kernel
theorem dX9_claimAt_28 : decode cX9_claimAt 28 = .ok (.goto (-26), 3) := by decide +kernel
theorem dX9_claimAt_31 : decode cX9_claimAt 31 = .ok (.bipush (-2), 2) := by decide +kernel
theorem dX9_claimAt_33 : decode cX9_claimAt 33 = .ok (.ireturn, 1) := by decide +kernel
set_option maxRecDepth 20000 in
theorem ggX9_claimOf_X9_isTool : GoodIn wsX9_claimOf wsX9_isTool := goodIn_r _ [5, 6, 7, 8, 4, 9, 30, 31, 32, 33, 34, 35, 36, 37, 38, 39, 40, 41, 42, 43, 44, 45] (by decide +kernel) (by decide +kernel)
set_option maxRecDepth 20000 in
theorem gX9_claimOf_X9_isTool : GoodIn wsX9_claimOf (wsV RX9 78 RX9 yX9_isTool wsX9_isTool) := goodIn_app (goodIn_of _ (by decide +kernel)) ggX9_claimOf_X9_isTool
set_option maxRecDepth 20000 in
theorem ggX9_claimOf_X9_in : GoodIn wsX9_claimOf wsX9_in := goodIn_r _ [9] (by decide +kernel) (by decide +kernel)
set_option maxRecDepth 20000 in
theorem gX9_claimOf_X9_in : GoodIn wsX9_claimOf (va_wsS RX9 45 yX9_in wsX9_in) := goodIn_app (goodIn_of _ (by decide +kernel)) ggX9_claimOf_X9_in
set_option maxRecDepth 20000 in
theorem ggX9_claimOf_X9_claimAt : GoodIn wsX9_claimOf wsX9_claimAt := goodIn_r _ [13, 14, 15, 16, 4, 17, 6, 18, 19, 20, 21, 22, 23, 24, 25, 26, 27, 28, 29, 30, 31, 32, 33, 34, 35, 36, 37, 38, 39, 40, 41, 42, 43, 44, 45] (by decide +kernel) (by decide +kernel)
set_option maxRecDepth 20000 in
theorem gX9_claimOf_X9_claimAt : GoodIn wsX9_claimOf (wsV RX9 117 RX9 yX9_claimAt wsX9_claimAt) := goodIn_app (goodIn_of _ (by decide +kernel)) ggX9_claimOf_X9_claimAt
set_option maxRecDepth 20000 in
theorem ggX9_claimOf_X9_c : GoodIn wsX9_claimOf wsX9_c := goodIn_r _ [29, 14, 15, 16, 4, 17, 6, 30, 31, 32, 33, 34, 35, 36, 37, 38, 39, 40, 41, 42, 43, 44, 45] (by decide +kernel) (by decide +kernel)
set_option maxRecDepth 20000 in
theorem gX9_claimOf_X9_c : GoodIn wsX9_claimOf (wsV RX9 107 RX9 yX9_c wsX9_c) := goodIn_app (goodIn_of _ (by decide +kernel)) ggX9_claimOf_X9_c
theorem dX9_claimOf_0 : decode cX9_claimOf 0 = .ok (.aload_n 0, 1) := by decide +kernel
theorem dX9_claimOf_1 : decode cX9_claimOf 1 = .ok (.iload_n 1, 1) := by decide +kernel
theorem dX9_claimOf_2 : decode cX9_claimOf 2 = .ok (.invokevirtual 78, 3) := by decide +kernel
theorem dX9_claimOf_5 : decode cX9_claimOf 5 = .ok (.ifCond .eq 16, 3) := by decide +kernel
theorem dX9_claimOf_8 : decode cX9_claimOf 8 = .ok (.iload_n 2, 1) := by decide +kernel
theorem dX9_claimOf_9 : decode cX9_claimOf 9 = .ok (.ifCond .lt 12, 3) := by decide +kernel
theorem dX9_claimOf_12 : decode cX9_claimOf 12 = .ok (.iload_n 3, 1) := by decide +kernel
theorem dX9_claimOf_13 : decode cX9_claimOf 13 = .ok (.iconst 0, 1) := by decide +kernel
theorem dX9_claimOf_14 : decode cX9_claimOf 14 = .ok (.iconst 3, 1) := by decide +kernel
theorem dX9_claimOf_15 : decode cX9_claimOf 15 = .ok (.invokestatic 45, 3) := by decide +kernel
theorem dX9_claimOf_18 : decode cX9_claimOf 18 = .ok (.ifCond .ne 5, 3) := by decide +kernel
theorem dX9_claimOf_21 : decode cX9_claimOf 21 = .ok (.iconst (-1), 1) := by decide +kernel
theorem dX9_claimOf_22 : decode cX9_claimOf 22 = .ok (.ireturn, 1) := by decide +kernel
theorem dX9_claimOf_23 : decode cX9_claimOf 23 = .ok (.aload_n 0, 1) := by decide +kernel
theorem dX9_claimOf_24 : decode cX9_claimOf 24 = .ok (.iload_n 1, 1) := by decide +kernel
theorem dX9_claimOf_25 : decode cX9_claimOf 25 = .ok (.iload_n 2, 1) := by decide +kernel
theorem dX9_claimOf_26 : decode cX9_claimOf 26 = .ok (.invokevirtual 117, 3) := by decide +kernel
theorem dX9_claimOf_29 : decode cX9_claimOf 29 = .ok (.istore 4, 2) := by decide +kernel
theorem dX9_claimOf_31 : decode cX9_claimOf 31 = .ok (.iload 4, 2) := by decide +kernel
theorem dX9_claimOf_33 : decode cX9_claimOf 33 = .ok (.ifCond .ge 8, 3) := by decide +kernel
theorem dX9_claimOf_36 : decode cX9_claimOf 36 = .ok (.bipush (-2), 2) := by decide +kernel
theorem dX9_claimOf_38 : decode cX9_claimOf 38 = .ok (.goto 11, 3) := by decide +kernel
theorem dX9_claimOf_41 : decode cX9_claimOf 41 = .ok (.aload_n 0, 1) := by decide +kernel
theorem dX9_claimOf_42 : decode cX9_claimOf 42 = .ok (.iload_n 1, 1) := by decide +kernel
theorem dX9_claimOf_43 : decode cX9_claimOf 43 = .ok (.iload 4, 2) := by decide +kernel
theorem dX9_claimOf_45 : decode cX9_claimOf 45 = .ok (.iload_n 3, 1) := by decide +kernel
theorem dX9_claimOf_46 : decode cX9_claimOf 46 = .ok (.invokevirtual 107, 3) := by decide +kernel
theorem dX9_claimOf_49 : decode cX9_claimOf 49 = .ok (.ireturn, 1) := by decide +kernel
set_option maxRecDepth 20000 in
theorem ggX9_claim_X9_isPerson : GoodIn wsX9_claim wsX9_isPerson := goodIn_r _ [6, 1, 7, 8, 5, 9, 38, 39, 40, 41, 42, 43, 44, 45, 46, 47, 48, 49, 50, 51, 52, 53] (by decide +kernel) (by decide +kernel)
set_option maxRecDepth 20000 in
theorem gX9_claim_X9_isPerson : GoodIn wsX9_claim (wsV RX9 75 RX9 yX9_isPerson wsX9_isPerson) := goodIn_app (goodIn_of _ (by decide +kernel)) ggX9_claim_X9_isPerson
set_option maxRecDepth 20000 in
theorem ggX9_claim_X9_isTool : GoodIn wsX9_claim wsX9_isTool := goodIn_r _ [13, 1, 7, 8, 5, 9, 38, 39, 40, 41, 42, 43, 44, 45, 46, 47, 48, 49, 50, 51, 52, 53] (by decide +kernel) (by decide +kernel)
set_option maxRecDepth 20000 in
theorem gX9_claim_X9_isTool : GoodIn wsX9_claim (wsV RX9 78 RX9 yX9_isTool wsX9_isTool) := goodIn_app (goodIn_of _ (by decide +kernel)) ggX9_claim_X9_isTool
set_option maxRecDepth 20000 in
theorem ggX9_claim_X9_in : GoodIn wsX9_claim wsX9_in := goodIn_r _ [9] (by decide +kernel) (by decide +kernel)
set_option maxRecDepth 20000 in
theorem gX9_claim_X9_in : GoodIn wsX9_claim (va_wsS RX9 45 yX9_in wsX9_in) := goodIn_app (goodIn_of _ (by decide +kernel)) ggX9_claim_X9_in
set_option maxRecDepth 20000 in
theorem ggX9_claim_X9_claimOn : GoodIn wsX9_claim wsX9_claimOn := goodIn_r _ [17, 18, 19, 20, 5, 21, 1, 38, 39, 40, 41, 42, 43, 44, 45, 46, 47, 48, 49, 50, 51, 52, 53] (by decide +kernel) (by decide +kernel)
set_option maxRecDepth 20000 in
theorem gX9_claim_X9_claimOn : GoodIn wsX9_claim (wsV RX9 84 RX9 yX9_claimOn wsX9_claimOn) := goodIn_app (goodIn_of _ (by decide +kernel)) ggX9_claim_X9_claimOn
set_option maxRecDepth 20000 in
theorem ggX9_claim_X9_t : GoodIn wsX9_claim wsX9_t := goodIn_r _ [21, 1, 38, 39, 40, 41, 42, 43, 44, 45, 46, 47, 48, 49, 50, 51, 52, 53] (by decide +kernel) (by decide +kernel)
set_option maxRecDepth 20000 in
theorem gX9_claim_X9_t : GoodIn wsX9_claim (wsV RX9 81 RX9 yX9_t wsX9_t) := goodIn_app (goodIn_of _ (by decide +kernel)) ggX9_claim_X9_t
set_option maxRecDepth 20000 in
theorem ggX9_claim_X9_setT : GoodIn wsX9_claim wsX9_setT := goodIn_r _ [25, 1, 38, 39, 40, 41, 42, 43, 44, 45, 46, 47, 48, 49, 50, 51, 52, 53] (by decide +kernel) (by decide +kernel)
set_option maxRecDepth 20000 in
theorem gX9_claim_X9_setT : GoodIn wsX9_claim (wsV RX9 93 RX9 yX9_setT wsX9_setT) := goodIn_app (goodIn_of _ (by decide +kernel)) ggX9_claim_X9_setT
set_option maxRecDepth 20000 in
theorem ggX9_claim_X9_placeOn : GoodIn wsX9_claim wsX9_placeOn := goodIn_r _ [29, 18, 19, 20, 5, 21, 1, 30, 31, 32, 33, 34, 35, 36, 37, 38, 39, 40, 41, 42, 43, 44, 45, 46, 47, 48, 49, 50, 51, 52, 53] (by decide +kernel) (by decide +kernel)
set_option maxRecDepth 20000 in
theorem gX9_claim_X9_placeOn : GoodIn wsX9_claim (wsV RX9 114 RX9 yX9_placeOn wsX9_placeOn) := goodIn_app (goodIn_of _ (by decide +kernel)) ggX9_claim_X9_placeOn
theorem dX9_claim_0 : decode cX9_claim 0 = .ok (.aload_n 0, 1) := by decide +kernel
theorem dX9_claim_1 : decode cX9_claim 1 = .ok (.iload_n 1, 1) := by decide +kernel
theorem dX9_claim_2 : decode cX9_claim 2 = .ok (.invokevirtual 75, 3) := by decide +kernel
theorem dX9_claim_5 : decode cX9_claim 5 = .ok (.ifCond .eq 35, 3) := by decide +kernel
theorem dX9_claim_8 : decode cX9_claim 8 = .ok (.aload_n 0, 1) := by decide +kernel
theorem dX9_claim_9 : decode cX9_claim 9 = .ok (.iload_n 2, 1) := by decide +kernel
theorem dX9_claim_10 : decode cX9_claim 10 = .ok (.invokevirtual 78, 3) := by decide +kernel
theorem dX9_claim_13 : decode cX9_claim 13 = .ok (.ifCond .eq 27, 3) := by decide +kernel
theorem dX9_claim_16 : decode cX9_claim 16 = .ok (.iload_n 3, 1) := by decide +kernel
theorem dX9_claim_17 : decode cX9_claim 17 = .ok (.iconst 0, 1) := by decide +kernel
theorem dX9_claim_18 : decode cX9_claim 18 = .ok (.sipush 999, 3) := by decide +kernel
theorem dX9_claim_21 : decode cX9_claim 21 = .ok (.invokestatic 45, 3) := by decide +kernel
theorem dX9_claim_24 : decode cX9_claim 24 = .ok (.ifCond .eq 16, 3) := by decide +kernel
theorem dX9_claim_27 : decode cX9_claim 27 = .ok (.iload_n 3, 1) := by decide +kernel
theorem dX9_claim_28 : decode cX9_claim 28 = .ok (.bipush 100, 2) := by decide +kernel
theorem dX9_claim_30 : decode cX9_claim 30 = .ok (.irem, 1) := by decide +kernel
theorem dX9_claim_31 : decode cX9_claim 31 = .ok (.iconst 1, 1) := by decide +kernel
theorem dX9_claim_32 : decode cX9_claim 32 = .ok (.bipush 30, 2) := by decide +kernel
theorem dX9_claim_34 : decode cX9_claim 34 = .ok (.invokestatic 45, 3) := by decide +kernel
theorem dX9_claim_37 : decode cX9_claim 37 = .ok (.ifCond .ne 5, 3) := by decide +kernel
theorem dX9_claim_40 : decode cX9_claim 40 = .ok (.iconst (-1), 1) := by decide +kernel
theorem dX9_claim_41 : decode cX9_claim 41 = .ok (.ireturn, 1) := by decide +kernel
theorem dX9_claim_42 : decode cX9_claim 42 = .ok (.aload_n 0, 1) := by decide +kernel
theorem dX9_claim_43 : decode cX9_claim 43 = .ok (.iload_n 2, 1) := by decide +kernel
theorem dX9_claim_44 : decode cX9_claim 44 = .ok (.iload_n 1, 1) := by decide +kernel
theorem dX9_claim_45 : decode cX9_claim 45 = .ok (.invokevirtual 84, 3) := by decide +kernel
theorem dX9_claim_48 : decode cX9_claim 48 = .ok (.ifCond .ge 13, 3) := by decide +kernel
theorem dX9_claim_51 : decode cX9_claim 51 = .ok (.aload_n 0, 1) := by decide +kernel
theorem dX9_claim_52 : decode cX9_claim 52 = .ok (.iload_n 2, 1) := by decide +kernel
theorem dX9_claim_53 : decode cX9_claim 53 = .ok (.iconst 2, 1) := by decide +kernel
theorem dX9_claim_54 : decode cX9_claim 54 = .ok (.invokevirtual 81, 3) := by decide +kernel
theorem dX9_claim_57 : decode cX9_claim 57 = .ok (.iload_n 1, 1) := by decide +kernel
theorem dX9_claim_58 : decode cX9_claim 58 = .ok (.if_icmp .ne 6, 3) := by decide +kernel
theorem dX9_claim_61 : decode cX9_claim 61 = .ok (.bipush (-5), 2) := by decide +kernel
theorem dX9_claim_63 : decode cX9_claim 63 = .ok (.ireturn, 1) := by decide +kernel
theorem dX9_claim_64 : decode cX9_claim 64 = .ok (.aload_n 0, 1) := by decide +kernel
theorem dX9_claim_65 : decode cX9_claim 65 = .ok (.iload_n 2, 1) := by decide +kernel
theorem dX9_claim_66 : decode cX9_claim 66 = .ok (.bipush 57, 2) := by decide +kernel
theorem dX9_claim_68 : decode cX9_claim 68 = .ok (.invokevirtual 81, 3) := by decide +kernel
theorem dX9_claim_71 : decode cX9_claim 71 = .ok (.bipush 8, 2) := by decide +kernel
theorem dX9_claim_73 : decode cX9_claim 73 = .ok (.if_icmp .ne 6, 3) := by decide +kernel
theorem dX9_claim_76 : decode cX9_claim 76 = .ok (.bipush (-3), 2) := by decide +kernel
theorem dX9_claim_78 : decode cX9_claim 78 = .ok (.ireturn, 1) := by decide +kernel
theorem dX9_claim_79 : decode cX9_claim 79 = .ok (.aload_n 0, 1) := by decide +kernel
theorem dX9_claim_80 : decode cX9_claim 80 = .ok (.iload_n 2, 1) := by decide +kernel
theorem dX9_claim_81 : decode cX9_claim 81 = .ok (.bipush 57, 2) := by decide +kernel
theorem dX9_claim_83 : decode cX9_claim 83 = .ok (.invokevirtual 81, 3) := by decide +kernel
theorem dX9_claim_86 : decode cX9_claim 86 = .ok (.istore 4, 2) := by decide +kernel
theorem dX9_claim_88 : decode cX9_claim 88 = .ok (.aload_n 0, 1) := by decide +kernel
theorem dX9_claim_89 : decode cX9_claim 89 = .ok (.iload_n 2, 1) := by decide +kernel
theorem dX9_claim_90 : decode cX9_claim 90 = .ok (.bipush 58, 2) := by decide +kernel
theorem dX9_claim_92 : decode cX9_claim 92 = .ok (.iconst 4, 1) := by decide +kernel
theorem dX9_claim_93 : decode cX9_claim 93 = .ok (.iload 4, 2) := by decide +kernel
theorem dX9_claim_95 : decode cX9_claim 95 = .ok (.imul, 1) := by decide +kernel
theorem dX9_claim_96 : decode cX9_claim 96 = .ok (.iadd, 1) := by decide +kernel
theorem dX9_claim_97 : decode cX9_claim 97 = .ok (.iload_n 1, 1) := by decide +kernel
theorem dX9_claim_98 : decode cX9_claim 98 = .ok (.invokevirtual 93, 3) := by decide +kernel
theorem dX9_claim_101 : decode cX9_claim 101 = .ok (.aload_n 0, 1) := by decide +kernel
theorem dX9_claim_102 : decode cX9_claim 102 = .ok (.iload_n 2, 1) := by decide +kernel
theorem dX9_claim_103 : decode cX9_claim 103 = .ok (.bipush 58, 2) := by decide +kernel
theorem dX9_claim_105 : decode cX9_claim 105 = .ok (.iconst 4, 1) := by decide +kernel
theorem dX9_claim_106 : decode cX9_claim 106 = .ok (.iload 4, 2) := by decide +kernel
theorem dX9_claim_108 : decode cX9_claim 108 = .ok (.imul, 1) := by decide +kernel
theorem dX9_claim_109 : decode cX9_claim 109 = .ok (.iadd, 1) := by decide +kernel
theorem dX9_claim_110 : decode cX9_claim 110 = .ok (.iconst 1, 1) := by decide +kernel
theorem dX9_claim_111 : decode cX9_claim 111 = .ok (.iadd, 1) := by decide +kernel
theorem dX9_claim_112 : decode cX9_claim 112 = .ok (.iload_n 3, 1) := by decide +kernel
theorem dX9_claim_113 : decode cX9_claim 113 = .ok (.bipush 100, 2) := by decide +kernel
theorem dX9_claim_115 : decode cX9_claim 115 = .ok (.idiv, 1) := by decide +kernel
theorem dX9_claim_116 : decode cX9_claim 116 = .ok (.invokevirtual 93, 3) := by decide +kernel
theorem dX9_claim_119 : decode cX9_claim 119 = .ok (.aload_n 0, 1) := by decide +kernel
theorem dX9_claim_120 : decode cX9_claim 120 = .ok (.iload_n 2, 1) := by decide +kernel
theorem dX9_claim_121 : decode cX9_claim 121 = .ok (.bipush 58, 2) := by decide +kernel
theorem dX9_claim_123 : decode cX9_claim 123 = .ok (.iconst 4, 1) := by decide +kernel
theorem dX9_claim_124 : decode cX9_claim 124 = .ok (.iload 4, 2) := by decide +kernel
theorem dX9_claim_126 : decode cX9_claim 126 = .ok (.imul, 1) := by decide +kernel
theorem dX9_claim_127 : decode cX9_claim 127 = .ok (.iadd, 1) := by decide +kernel
theorem dX9_claim_128 : decode cX9_claim 128 = .ok (.iconst 2, 1) := by decide +kernel
theorem dX9_claim_129 : decode cX9_claim 129 = .ok (.iadd, 1) := by decide +kernel
theorem dX9_claim_130 : decode cX9_claim 130 = .ok (.iload_n 3, 1) := by decide +kernel
theorem dX9_claim_131 : decode cX9_claim 131 = .ok (.bipush 100, 2) := by decide +kernel
theorem dX9_claim_133 : decode cX9_claim 133 = .ok (.irem, 1) := by decide +kernel
theorem dX9_claim_134 : decode cX9_claim 134 = .ok (.invokevirtual 93, 3) := by decide +kernel
theorem dX9_claim_137 : decode cX9_claim 137 = .ok (.aload_n 0, 1) := by decide +kernel
theorem dX9_claim_138 : decode cX9_claim 138 = .ok (.iload_n 2, 1) := by decide +kernel
theorem dX9_claim_139 : decode cX9_claim 139 = .ok (.bipush 58, 2) := by decide +kernel
theorem dX9_claim_141 : decode cX9_claim 141 = .ok (.iconst 4, 1) := by decide +kernel
theorem dX9_claim_142 : decode cX9_claim 142 = .ok (.iload 4, 2) := by decide +kernel
theorem dX9_claim_144 : decode cX9_claim 144 = .ok (.imul, 1) := by decide +kernel
theorem dX9_claim_145 : decode cX9_claim 145 = .ok (.iadd, 1) := by decide +kernel
theorem dX9_claim_146 : decode cX9_claim 146 = .ok (.iconst 3, 1) := by decide +kernel
theorem dX9_claim_147 : decode cX9_claim 147 = .ok (.iadd, 1) := by decide +kernel
theorem dX9_claim_148 : decode cX9_claim 148 = .ok (.aload_n 0, 1) := by decide +kernel
theorem dX9_claim_149 : decode cX9_claim 149 = .ok (.getfield 9, 3) := by decide +kernel
theorem dX9_claim_152 : decode cX9_claim 152 = .ok (.sipush 1082, 3) := by decide +kernel
theorem dX9_claim_155 : decode cX9_claim 155 = .ok (.iaload, 1) := by decide +kernel
theorem dX9_claim_156 : decode cX9_claim 156 = .ok (.invokevirtual 93, 3) := by decide +kernel
theorem dX9_claim_159 : decode cX9_claim 159 = .ok (.aload_n 0, 1) := by decide +kernel
theorem dX9_claim_160 : decode cX9_claim 160 = .ok (.iload_n 2, 1) := by decide +kernel
theorem dX9_claim_161 : decode cX9_claim 161 = .ok (.bipush 57, 2) := by decide +kernel
theorem dX9_claim_163 : decode cX9_claim 163 = .ok (.iload 4, 2) := by decide +kernel
theorem dX9_claim_165 : decode cX9_claim 165 = .ok (.iconst 1, 1) := by decide +kernel
theorem dX9_claim_166 : decode cX9_claim 166 = .ok (.iadd, 1) := by decide +kernel
theorem dX9_claim_167 : decode cX9_claim 167 = .ok (.invokevirtual 93, 3) := by decide +kernel
theorem dX9_claim_170 : decode cX9_claim 170 = .ok (.aload_n 0, 1) := by decide +kernel
theorem dX9_claim_171 : decode cX9_claim 171 = .ok (.iload_n 2, 1) := by decide +kernel
theorem dX9_claim_172 : decode cX9_claim 172 = .ok (.iload 4, 2) := by decide +kernel
theorem dX9_claim_174 : decode cX9_claim 174 = .ok (.invokevirtual 114, 3) := by decide +kernel
theorem dX9_claim_177 : decode cX9_claim 177 = .ok (.ireturn, 1) := by decide +kernel
set_option maxRecDepth 20000 in
theorem ggX9_claimGoes_X9_t : GoodIn wsX9_claimGoes wsX9_t := goodIn_r _ [5, 6, 15, 16, 17, 18, 19, 20, 21, 22, 23, 24, 25, 26, 27, 28, 29, 30] (by decide +kernel) (by decide +kernel)
set_option maxRecDepth 20000 in
theorem gX9_claimGoes_X9_t : GoodIn wsX9_claimGoes (wsV RX9 81 RX9 yX9_t wsX9_t) := goodIn_app (goodIn_of _ (by decide +kernel)) ggX9_claimGoes_X9_t
set_option maxRecDepth 20000 in
theorem ggX9_claimGoes_X9_c : GoodIn wsX9_claimGoes wsX9_c := goodIn_r _ [10, 1, 2, 3, 4, 5, 6, 15, 16, 17, 18, 19, 20, 21, 22, 23, 24, 25, 26, 27, 28, 29, 30] (by decide +kernel) (by decide +kernel)
set_option maxRecDepth 20000 in
theorem gX9_claimGoes_X9_c : GoodIn wsX9_claimGoes (wsV RX9 107 RX9 yX9_c wsX9_c) := goodIn_app (goodIn_of _ (by decide +kernel)) ggX9_claimGoes_X9_c
set_option maxRecDepth 20000 in
theorem ggX9_claimGoes_X9_setT : GoodIn wsX9_claimGoes wsX9_setT := goodIn_r _ [14, 6, 15, 16, 17, 18, 19, 20, 21, 22, 23, 24, 25, 26, 27, 28, 29, 30] (by decide +kernel) (by decide +kernel)
set_option maxRecDepth 20000 in
theorem gX9_claimGoes_X9_setT : GoodIn wsX9_claimGoes (wsV RX9 93 RX9 yX9_setT wsX9_setT) := goodIn_app (goodIn_of _ (by decide +kernel)) ggX9_claimGoes_X9_setT
theorem dX9_claimGoes_0 : decode cX9_claimGoes 0 = .ok (.aload_n 0, 1) := by decide +kernel
theorem dX9_claimGoes_1 : decode cX9_claimGoes 1 = .ok (.iload_n 1, 1) := by decide +kernel
theorem dX9_claimGoes_2 : decode cX9_claimGoes 2 = .ok (.bipush 57, 2) := by decide +kernel
theorem dX9_claimGoes_4 : decode cX9_claimGoes 4 = .ok (.invokevirtual 81, 3) := by decide +kernel
theorem dX9_claimGoes_7 : decode cX9_claimGoes 7 = .ok (.iconst 1, 1) := by decide +kernel
theorem dX9_claimGoes_8 : decode cX9_claimGoes 8 = .ok (.isub, 1) := by decide +kernel
theorem dX9_claimGoes_9 : decode cX9_claimGoes 9 = .ok (.istore_n 3, 1) := by decide +kernel
theorem dX9_claimGoes_10 : decode cX9_claimGoes 10 = .ok (.iconst 0, 1) := by decide +kernel
theorem dX9_claimGoes_11 : decode cX9_claimGoes 11 = .ok (.istore 4, 2) := by decide +kernel
theorem dX9_claimGoes_13 : decode cX9_claimGoes 13 = .ok (.iload 4, 2) := by decide +kernel
theorem dX9_claimGoes_15 : decode cX9_claimGoes 15 = .ok (.iconst 4, 1) := by decide +kernel
theorem dX9_claimGoes_16 : decode cX9_claimGoes 16 = .ok (.if_icmp .ge 31, 3) := by decide +kernel
theorem dX9_claimGoes_19 : decode cX9_claimGoes 19 = .ok (.aload_n 0, 1) := by decide +kernel
theorem dX9_claimGoes_20 : decode cX9_claimGoes 20 = .ok (.iload_n 1, 1) := by decide +kernel
theorem dX9_claimGoes_21 : decode cX9_claimGoes 21 = .ok (.bipush 58, 2) := by decide +kernel
theorem dX9_claimGoes_23 : decode cX9_claimGoes 23 = .ok (.iconst 4, 1) := by decide +kernel
theorem dX9_claimGoes_24 : decode cX9_claimGoes 24 = .ok (.iload_n 2, 1) := by decide +kernel
theorem dX9_claimGoes_25 : decode cX9_claimGoes 25 = .ok (.imul, 1) := by decide +kernel
theorem dX9_claimGoes_26 : decode cX9_claimGoes 26 = .ok (.iadd, 1) := by decide +kernel
theorem dX9_claimGoes_27 : decode cX9_claimGoes 27 = .ok (.iload 4, 2) := by decide +kernel
theorem dX9_claimGoes_29 : decode cX9_claimGoes 29 = .ok (.iadd, 1) := by decide +kernel
theorem dX9_claimGoes_30 : decode cX9_claimGoes 30 = .ok (.aload_n 0, 1) := by decide +kernel
theorem dX9_claimGoes_31 : decode cX9_claimGoes 31 = .ok (.iload_n 1, 1) := by decide +kernel
theorem dX9_claimGoes_32 : decode cX9_claimGoes 32 = .ok (.iload_n 3, 1) := by decide +kernel
theorem dX9_claimGoes_33 : decode cX9_claimGoes 33 = .ok (.iload 4, 2) := by decide +kernel
theorem dX9_claimGoes_35 : decode cX9_claimGoes 35 = .ok (.invokevirtual 107, 3) := by decide +kernel
theorem dX9_claimGoes_38 : decode cX9_claimGoes 38 = .ok (.invokevirtual 93, 3) := by decide +kernel
theorem dX9_claimGoes_41 : decode cX9_claimGoes 41 = .ok (.iinc 4 1, 3) := by decide +kernel
theorem dX9_claimGoes_44 : decode cX9_claimGoes 44 = .ok (.goto (-31), 3) := by decide +kernel
theorem dX9_claimGoes_47 : decode cX9_claimGoes 47 = .ok (.aload_n 0, 1) := by decide +kernel
theorem dX9_claimGoes_48 : decode cX9_claimGoes 48 = .ok (.iload_n 1, 1) := by decide +kernel
theorem dX9_claimGoes_49 : decode cX9_claimGoes 49 = .ok (.bipush 57, 2) := by decide +kernel
theorem dX9_claimGoes_51 : decode cX9_claimGoes 51 = .ok (.iload_n 3, 1) := by decide +kernel
theorem dX9_claimGoes_52 : decode cX9_claimGoes 52 = .ok (.invokevirtual 93, 3) := by decide +kernel
theorem dX9_claimGoes_55 : decode cX9_claimGoes 55 = .ok (.return_, 1) := by decide +kernel
set_option maxRecDepth 20000 in
theorem ggX9_waive_X9_isPerson : GoodIn wsX9_waive wsX9_isPerson := goodIn_r _ [5, 6, 7, 8, 4, 9, 34, 35, 36, 37, 38, 39, 40, 41, 42, 43, 44, 45, 46, 47, 48, 49] (by decide +kernel) (by decide +kernel)
set_option maxRecDepth 20000 in
theorem gX9_waive_X9_isPerson : GoodIn wsX9_waive (wsV RX9 75 RX9 yX9_isPerson wsX9_isPerson) := goodIn_app (goodIn_of _ (by decide +kernel)) ggX9_waive_X9_isPerson
set_option maxRecDepth 20000 in
theorem ggX9_waive_X9_isTool : GoodIn wsX9_waive wsX9_isTool := goodIn_r _ [13, 6, 7, 8, 4, 9, 34, 35, 36, 37, 38, 39, 40, 41, 42, 43, 44, 45, 46, 47, 48, 49] (by decide +kernel) (by decide +kernel)
set_option maxRecDepth 20000 in
theorem gX9_waive_X9_isTool : GoodIn wsX9_waive (wsV RX9 78 RX9 yX9_isTool wsX9_isTool) := goodIn_app (goodIn_of _ (by decide +kernel)) ggX9_waive_X9_isTool
set_option maxRecDepth 20000 in
theorem ggX9_waive_X9_claimOn : GoodIn wsX9_waive wsX9_claimOn := goodIn_r _ [17, 18, 19, 20, 4, 21, 6, 34, 35, 36, 37, 38, 39, 40, 41, 42, 43, 44, 45, 46, 47, 48, 49] (by decide +kernel) (by decide +kernel)
set_option maxRecDepth 20000 in
theorem gX9_waive_X9_claimOn : GoodIn wsX9_waive (wsV RX9 84 RX9 yX9_claimOn wsX9_claimOn) := goodIn_app (goodIn_of _ (by decide +kernel)) ggX9_waive_X9_claimOn
set_option maxRecDepth 20000 in
theorem ggX9_waive_X9_claimGoes : GoodIn wsX9_waive wsX9_claimGoes := goodIn_r _ [25, 18, 19, 20, 4, 21, 6, 26, 27, 28, 29, 30, 31, 32, 33, 34, 35, 36, 37, 38, 39, 40, 41, 42, 43, 44, 45, 46, 47, 48, 49] (by decide +kernel) (by decide +kernel)
set_option maxRecDepth 20000 in
theorem gX9_waive_X9_claimGoes : GoodIn wsX9_waive (wsV RX9 120 RX9 yX9_claimGoes wsX9_claimGoes) := goodIn_app (goodIn_of _ (by decide +kernel)) ggX9_waive_X9_claimGoes
set_option maxRecDepth 20000 in
theorem ggX9_waive_X9_t : GoodIn wsX9_waive wsX9_t := goodIn_r _ [21, 6, 34, 35, 36, 37, 38, 39, 40, 41, 42, 43, 44, 45, 46, 47, 48, 49] (by decide +kernel) (by decide +kernel)
set_option maxRecDepth 20000 in
theorem gX9_waive_X9_t : GoodIn wsX9_waive (wsV RX9 81 RX9 yX9_t wsX9_t) := goodIn_app (goodIn_of _ (by decide +kernel)) ggX9_waive_X9_t
theorem dX9_waive_0 : decode cX9_waive 0 = .ok (.aload_n 0, 1) := by decide +kernel
theorem dX9_waive_1 : decode cX9_waive 1 = .ok (.iload_n 1, 1) := by decide +kernel
theorem dX9_waive_2 : decode cX9_waive 2 = .ok (.invokevirtual 75, 3) := by decide +kernel
theorem dX9_waive_5 : decode cX9_waive 5 = .ok (.ifCond .eq 11, 3) := by decide +kernel
theorem dX9_waive_8 : decode cX9_waive 8 = .ok (.aload_n 0, 1) := by decide +kernel
theorem dX9_waive_9 : decode cX9_waive 9 = .ok (.iload_n 2, 1) := by decide +kernel
theorem dX9_waive_10 : decode cX9_waive 10 = .ok (.invokevirtual 78, 3) := by decide +kernel
theorem dX9_waive_13 : decode cX9_waive 13 = .ok (.ifCond .ne 5, 3) := by decide +kernel
theorem dX9_waive_16 : decode cX9_waive 16 = .ok (.iconst (-1), 1) := by decide +kernel
theorem dX9_waive_17 : decode cX9_waive 17 = .ok (.ireturn, 1) := by decide +kernel
theorem dX9_waive_18 : decode cX9_waive 18 = .ok (.aload_n 0, 1) := by decide +kernel
theorem dX9_waive_19 : decode cX9_waive 19 = .ok (.iload_n 2, 1) := by decide +kernel
theorem dX9_waive_20 : decode cX9_waive 20 = .ok (.iload_n 1, 1) := by decide +kernel
theorem dX9_waive_21 : decode cX9_waive 21 = .ok (.invokevirtual 84, 3) := by decide +kernel
theorem dX9_waive_24 : decode cX9_waive 24 = .ok (.istore_n 3, 1) := by decide +kernel
theorem dX9_waive_25 : decode cX9_waive 25 = .ok (.iload_n 3, 1) := by decide +kernel
theorem dX9_waive_26 : decode cX9_waive 26 = .ok (.ifCond .ge 6, 3) := by decide +kernel
theorem dX9_waive_29 : decode cX9_waive 29 = .ok (.bipush (-2), 2) := by decide +kernel
theorem dX9_waive_31 : decode cX9_waive 31 = .ok (.ireturn, 1) := by decide +kernel
theorem dX9_waive_32 : decode cX9_waive 32 = .ok (.aload_n 0, 1) := by decide +kernel
theorem dX9_waive_33 : decode cX9_waive 33 = .ok (.iload_n 2, 1) := by decide +kernel
theorem dX9_waive_34 : decode cX9_waive 34 = .ok (.iload_n 3, 1) := by decide +kernel
theorem dX9_waive_35 : decode cX9_waive 35 = .ok (.invokevirtual 120, 3) := by decide +kernel
theorem dX9_waive_38 : decode cX9_waive 38 = .ok (.aload_n 0, 1) := by decide +kernel
theorem dX9_waive_39 : decode cX9_waive 39 = .ok (.iload_n 2, 1) := by decide +kernel
theorem dX9_waive_40 : decode cX9_waive 40 = .ok (.bipush 57, 2) := by decide +kernel
theorem dX9_waive_42 : decode cX9_waive 42 = .ok (.invokevirtual 81, 3) := by decide +kernel
theorem dX9_waive_45 : decode cX9_waive 45 = .ok (.ireturn, 1) := by decide +kernel
theorem dX9_refused_0 : decode cX9_refused 0 = .ok (.aload_n 0, 1) := by decide +kernel
theorem dX9_refused_1 : decode cX9_refused 1 = .ok (.getfield 9, 3) := by decide +kernel
theorem dX9_refused_4 : decode cX9_refused 4 = .ok (.sipush 1084, 3) := by decide +kernel
theorem dX9_refused_7 : decode cX9_refused 7 = .ok (.iload_n 2, 1) := by decide +kernel
theorem dX9_refused_8 : decode cX9_refused 8 = .ok (.ifCond .ne 7, 3) := by decide +kernel
theorem dX9_refused_11 : decode cX9_refused 11 = .ok (.iconst 1, 1) := by decide +kernel
theorem dX9_refused_12 : decode cX9_refused 12 = .ok (.goto 4, 3) := by decide +kernel
theorem dX9_refused_15 : decode cX9_refused 15 = .ok (.iconst 2, 1) := by decide +kernel
theorem dX9_refused_16 : decode cX9_refused 16 = .ok (.iastore, 1) := by decide +kernel
theorem dX9_refused_17 : decode cX9_refused 17 = .ok (.aload_n 0, 1) := by decide +kernel
theorem dX9_refused_18 : decode cX9_refused 18 = .ok (.getfield 9, 3) := by decide +kernel
theorem dX9_refused_21 : decode cX9_refused 21 = .ok (.sipush 1085, 3) := by decide +kernel
theorem dX9_refused_24 : decode cX9_refused 24 = .ok (.iload_n 1, 1) := by decide +kernel
theorem dX9_refused_25 : decode cX9_refused 25 = .ok (.iastore, 1) := by decide +kernel
theorem dX9_refused_26 : decode cX9_refused 26 = .ok (.aload_n 0, 1) := by decide +kernel
theorem dX9_refused_27 : decode cX9_refused 27 = .ok (.getfield 9, 3) := by decide +kernel
theorem dX9_refused_30 : decode cX9_refused 30 = .ok (.sipush 1086, 3) := by decide +kernel
theorem dX9_refused_33 : decode cX9_refused 33 = .ok (.iload_n 2, 1) := by decide +kernel
theorem dX9_refused_34 : decode cX9_refused 34 = .ok (.iastore, 1) := by decide +kernel
theorem dX9_refused_35 : decode cX9_refused 35 = .ok (.bipush (-5), 2) := by decide +kernel
theorem dX9_refused_37 : decode cX9_refused 37 = .ok (.ireturn, 1) := by decide +kernel
theorem dX9_why_0 : decode cX9_why 0 = .ok (.iload_n 1, 1) := by decide +kernel
theorem dX9_why_1 : decode cX9_why 1 = .ok (.ifCond .ge 7, 3) := by decide +kernel
theorem dX9_why_4 : decode cX9_why 4 = .ok (.iconst (-1), 1) := by decide +kernel
theorem dX9_why_5 : decode cX9_why 5 = .ok (.goto 30, 3) := by decide +kernel
theorem dX9_why_8 : decode cX9_why 8 = .ok (.iload_n 1, 1) := by decide +kernel
theorem dX9_why_9 : decode cX9_why 9 = .ok (.aload_n 0, 1) := by decide +kernel
theorem dX9_why_10 : decode cX9_why 10 = .ok (.getfield 9, 3) := by decide +kernel
theorem dX9_why_13 : decode cX9_why 13 = .ok (.sipush 1084, 3) := by decide +kernel
theorem dX9_why_16 : decode cX9_why 16 = .ok (.iaload, 1) := by decide +kernel
theorem dX9_why_17 : decode cX9_why 17 = .ok (.if_icmp .ge 16, 3) := by decide +kernel
theorem dX9_why_20 : decode cX9_why 20 = .ok (.aload_n 0, 1) := by decide +kernel
theorem dX9_why_21 : decode cX9_why 21 = .ok (.getfield 9, 3) := by decide +kernel
theorem dX9_why_24 : decode cX9_why 24 = .ok (.sipush 1085, 3) := by decide +kernel
theorem dX9_why_27 : decode cX9_why 27 = .ok (.iload_n 1, 1) := by decide +kernel
theorem dX9_why_28 : decode cX9_why 28 = .ok (.iadd, 1) := by decide +kernel
theorem dX9_why_29 : decode cX9_why 29 = .ok (.iaload, 1) := by decide +kernel
theorem dX9_why_30 : decode cX9_why 30 = .ok (.goto 5, 3) := by decide +kernel
theorem dX9_why_33 : decode cX9_why 33 = .ok (.bipush (-2), 2) := by decide +kernel
theorem dX9_why_35 : decode cX9_why 35 = .ok (.ireturn, 1) := by decide +kernel
set_option maxRecDepth 20000 in
theorem ggX9_mayPay_X9_t : GoodIn wsX9_mayPay wsX9_t := goodIn_r _ [5, 6, 11, 12, 13, 14, 15, 16, 17, 18, 19, 20, 21, 22, 23, 24, 25, 26] (by decide +kernel) (by decide +kernel)
set_option maxRecDepth 20000 in
theorem gX9_mayPay_X9_t : GoodIn wsX9_mayPay (wsV RX9 81 RX9 yX9_t wsX9_t) := goodIn_app (goodIn_of _ (by decide +kernel)) ggX9_mayPay_X9_t
set_option maxRecDepth 20000 in
theorem ggX9_mayPay_X9_p : GoodIn wsX9_mayPay wsX9_p := goodIn_r _ [10, 6, 11, 12, 13, 14, 15, 16, 17, 18, 19, 20, 21, 22, 23, 24, 25, 26] (by decide +kernel) (by decide +kernel)
set_option maxRecDepth 20000 in
theorem gX9_mayPay_X9_p : GoodIn wsX9_mayPay (wsV RX9 53 RX9 yX9_p wsX9_p) := goodIn_app (goodIn_of _ (by decide +kernel)) ggX9_mayPay_X9_p
theorem dX9_mayPay_0 : decode cX9_mayPay 0 = .ok (.aload_n 0, 1) := by decide +kernel
theorem dX9_mayPay_1 : decode cX9_mayPay 1 = .ok (.iload_n 1, 1) := by decide +kernel
theorem dX9_mayPay_2 : decode cX9_mayPay 2 = .ok (.iconst 1, 1) := by decide +kernel
theorem dX9_mayPay_3 : decode cX9_mayPay 3 = .ok (.invokevirtual 81, 3) := by decide +kernel
theorem dX9_mayPay_6 : decode cX9_mayPay 6 = .ok (.bipush 9, 2) := by decide +kernel
theorem dX9_mayPay_8 : decode cX9_mayPay 8 = .ok (.if_icmp .ge 22, 3) := by decide +kernel
theorem dX9_mayPay_11 : decode cX9_mayPay 11 = .ok (.aload_n 0, 1) := by decide +kernel
theorem dX9_mayPay_12 : decode cX9_mayPay 12 = .ok (.iload_n 2, 1) := by decide +kernel
theorem dX9_mayPay_13 : decode cX9_mayPay 13 = .ok (.iconst 1, 1) := by decide +kernel
theorem dX9_mayPay_14 : decode cX9_mayPay 14 = .ok (.invokevirtual 53, 3) := by decide +kernel
theorem dX9_mayPay_17 : decode cX9_mayPay 17 = .ok (.aload_n 0, 1) := by decide +kernel
theorem dX9_mayPay_18 : decode cX9_mayPay 18 = .ok (.iload_n 1, 1) := by decide +kernel
theorem dX9_mayPay_19 : decode cX9_mayPay 19 = .ok (.iconst 0, 1) := by decide +kernel
theorem dX9_mayPay_20 : decode cX9_mayPay 20 = .ok (.invokevirtual 81, 3) := by decide +kernel
theorem dX9_mayPay_23 : decode cX9_mayPay 23 = .ok (.if_icmp .lt 7, 3) := by decide +kernel
theorem dX9_mayPay_26 : decode cX9_mayPay 26 = .ok (.iconst 1, 1) := by decide +kernel
theorem dX9_mayPay_27 : decode cX9_mayPay 27 = .ok (.goto 4, 3) := by decide +kernel
theorem dX9_mayPay_30 : decode cX9_mayPay 30 = .ok (.iconst 0, 1) := by decide +kernel
theorem dX9_mayPay_31 : decode cX9_mayPay 31 = .ok (.ireturn, 1) := by decide +kernel
set_option maxRecDepth 20000 in
theorem ggX9_leased_X9_p : GoodIn wsX9_leased wsX9_p := goodIn_r _ [6, 1, 27, 28, 29, 30, 31, 32, 33, 34, 35, 36, 37, 38, 39, 40, 41, 42] (by decide +kernel) (by decide +kernel)
set_option maxRecDepth 20000 in
theorem gX9_leased_X9_p : GoodIn wsX9_leased (wsV RX9 53 RX9 yX9_p wsX9_p) := goodIn_app (goodIn_of _ (by decide +kernel)) ggX9_leased_X9_p
set_option maxRecDepth 20000 in
theorem ggX9_leased_X9_t : GoodIn wsX9_leased wsX9_t := goodIn_r _ [10, 1, 27, 28, 29, 30, 31, 32, 33, 34, 35, 36, 37, 38, 39, 40, 41, 42] (by decide +kernel) (by decide +kernel)
set_option maxRecDepth 20000 in
theorem gX9_leased_X9_t : GoodIn wsX9_leased (wsV RX9 81 RX9 yX9_t wsX9_t) := goodIn_app (goodIn_of _ (by decide +kernel)) ggX9_leased_X9_t
set_option maxRecDepth 20000 in
theorem ggX9_leased_X9_setP : GoodIn wsX9_leased wsX9_setP := goodIn_r _ [14, 1, 27, 28, 29, 30, 31, 32, 33, 34, 35, 36, 37, 38, 39, 40, 41, 42] (by decide +kernel) (by decide +kernel)
set_option maxRecDepth 20000 in
theorem gX9_leased_X9_setP : GoodIn wsX9_leased (wsV RX9 57 RX9 yX9_setP wsX9_setP) := goodIn_app (goodIn_of _ (by decide +kernel)) ggX9_leased_X9_setP
set_option maxRecDepth 20000 in
theorem ggX9_leased_X9_setT : GoodIn wsX9_leased wsX9_setT := goodIn_r _ [18, 1, 27, 28, 29, 30, 31, 32, 33, 34, 35, 36, 37, 38, 39, 40, 41, 42] (by decide +kernel) (by decide +kernel)
set_option maxRecDepth 20000 in
theorem gX9_leased_X9_setT : GoodIn wsX9_leased (wsV RX9 93 RX9 yX9_setT wsX9_setT) := goodIn_app (goodIn_of _ (by decide +kernel)) ggX9_leased_X9_setT
set_option maxRecDepth 20000 in
theorem ggX9_leased_X9_begins : GoodIn wsX9_leased wsX9_begins := goodIn_r _ [22, 1, 23, 24, 25, 5, 26, 7, 8, 9, 10, 15, 16, 17, 18, 27, 28, 29, 30, 31, 32, 33, 34, 35, 36, 37, 38, 39, 40, 41, 42] (by decide +kernel) (by decide +kernel)
set_option maxRecDepth 20000 in
theorem gX9_leased_X9_begins : GoodIn wsX9_leased (wsV RX9 124 RX9 yX9_begins wsX9_begins) := goodIn_app (goodIn_of _ (by decide +kernel)) ggX9_leased_X9_begins
theorem dX9_leased_0 : decode cX9_leased 0 = .ok (.aload_n 0, 1) := by decide +kernel
theorem dX9_leased_1 : decode cX9_leased 1 = .ok (.iload_n 2, 1) := by decide +kernel
theorem dX9_leased_2 : decode cX9_leased 2 = .ok (.iconst 1, 1) := by decide +kernel
theorem dX9_leased_3 : decode cX9_leased 3 = .ok (.aload_n 0, 1) := by decide +kernel
theorem dX9_leased_4 : decode cX9_leased 4 = .ok (.iload_n 2, 1) := by decide +kernel
theorem dX9_leased_5 : decode cX9_leased 5 = .ok (.iconst 1, 1) := by decide +kernel
theorem dX9_leased_6 : decode cX9_leased 6 = .ok (.invokevirtual 53, 3) := by decide +kernel
theorem dX9_leased_9 : decode cX9_leased 9 = .ok (.aload_n 0, 1) := by decide +kernel
theorem dX9_leased_10 : decode cX9_leased 10 = .ok (.iload_n 1, 1) := by decide +kernel
theorem dX9_leased_11 : decode cX9_leased 11 = .ok (.iconst 0, 1) := by decide +kernel
theorem dX9_leased_12 : decode cX9_leased 12 = .ok (.invokevirtual 81, 3) := by decide +kernel
theorem dX9_leased_15 : decode cX9_leased 15 = .ok (.isub, 1) := by decide +kernel
theorem dX9_leased_16 : decode cX9_leased 16 = .ok (.invokevirtual 57, 3) := by decide +kernel
theorem dX9_leased_19 : decode cX9_leased 19 = .ok (.aload_n 0, 1) := by decide +kernel
theorem dX9_leased_20 : decode cX9_leased 20 = .ok (.iload_n 1, 1) := by decide +kernel
theorem dX9_leased_21 : decode cX9_leased 21 = .ok (.iconst 5, 1) := by decide +kernel
theorem dX9_leased_22 : decode cX9_leased 22 = .ok (.aload_n 0, 1) := by decide +kernel
theorem dX9_leased_23 : decode cX9_leased 23 = .ok (.iload_n 1, 1) := by decide +kernel
theorem dX9_leased_24 : decode cX9_leased 24 = .ok (.iconst 0, 1) := by decide +kernel
theorem dX9_leased_25 : decode cX9_leased 25 = .ok (.invokevirtual 81, 3) := by decide +kernel
theorem dX9_leased_28 : decode cX9_leased 28 = .ok (.invokevirtual 93, 3) := by decide +kernel
theorem dX9_leased_31 : decode cX9_leased 31 = .ok (.aload_n 0, 1) := by decide +kernel
theorem dX9_leased_32 : decode cX9_leased 32 = .ok (.iload_n 1, 1) := by decide +kernel
theorem dX9_leased_33 : decode cX9_leased 33 = .ok (.iconst 4, 1) := by decide +kernel
theorem dX9_leased_34 : decode cX9_leased 34 = .ok (.aload_n 0, 1) := by decide +kernel
theorem dX9_leased_35 : decode cX9_leased 35 = .ok (.getfield 9, 3) := by decide +kernel
theorem dX9_leased_38 : decode cX9_leased 38 = .ok (.sipush 1082, 3) := by decide +kernel
theorem dX9_leased_41 : decode cX9_leased 41 = .ok (.iaload, 1) := by decide +kernel
theorem dX9_leased_42 : decode cX9_leased 42 = .ok (.iload_n 3, 1) := by decide +kernel
theorem dX9_leased_43 : decode cX9_leased 43 = .ok (.iadd, 1) := by decide +kernel
theorem dX9_leased_44 : decode cX9_leased 44 = .ok (.invokevirtual 93, 3) := by decide +kernel
theorem dX9_leased_47 : decode cX9_leased 47 = .ok (.aload_n 0, 1) := by decide +kernel
theorem dX9_leased_48 : decode cX9_leased 48 = .ok (.iload_n 1, 1) := by decide +kernel
theorem dX9_leased_49 : decode cX9_leased 49 = .ok (.iload_n 2, 1) := by decide +kernel
theorem dX9_leased_50 : decode cX9_leased 50 = .ok (.invokevirtual 124, 3) := by decide +kernel
theorem dX9_leased_53 : decode cX9_leased 53 = .ok (.aload_n 0, 1) := by decide +kernel
theorem dX9_leased_54 : decode cX9_leased 54 = .ok (.getfield 9, 3) := by decide +kernel
theorem dX9_leased_57 : decode cX9_leased 57 = .ok (.sipush 1082, 3) := by decide +kernel
theorem dX9_leased_60 : decode cX9_leased 60 = .ok (.iaload, 1) := by decide +kernel
theorem dX9_leased_61 : decode cX9_leased 61 = .ok (.iload_n 3, 1) := by decide +kernel
theorem dX9_leased_62 : decode cX9_leased 62 = .ok (.iadd, 1) := by decide +kernel
theorem dX9_leased_63 : decode cX9_leased 63 = .ok (.ireturn, 1) := by decide +kernel
set_option maxRecDepth 20000 in
theorem ggX9_lease_X9_isPerson : GoodIn wsX9_lease wsX9_isPerson := goodIn_r _ [5, 6, 7, 8, 4, 9, 54, 55, 56, 57, 58, 59, 60, 61, 62, 63, 64, 65, 66, 67, 68, 69] (by decide +kernel) (by decide +kernel)
set_option maxRecDepth 20000 in
theorem gX9_lease_X9_isPerson : GoodIn wsX9_lease (wsV RX9 75 RX9 yX9_isPerson wsX9_isPerson) := goodIn_app (goodIn_of _ (by decide +kernel)) ggX9_lease_X9_isPerson
set_option maxRecDepth 20000 in
theorem ggX9_lease_X9_isTool : GoodIn wsX9_lease wsX9_isTool := goodIn_r _ [13, 6, 7, 8, 4, 9, 54, 55, 56, 57, 58, 59, 60, 61, 62, 63, 64, 65, 66, 67, 68, 69] (by decide +kernel) (by decide +kernel)
set_option maxRecDepth 20000 in
theorem gX9_lease_X9_isTool : GoodIn wsX9_lease (wsV RX9 78 RX9 yX9_isTool wsX9_isTool) := goodIn_app (goodIn_of _ (by decide +kernel)) ggX9_lease_X9_isTool
set_option maxRecDepth 20000 in
theorem ggX9_lease_X9_in : GoodIn wsX9_lease wsX9_in := goodIn_r _ [9] (by decide +kernel) (by decide +kernel)
set_option maxRecDepth 20000 in
theorem gX9_lease_X9_in : GoodIn wsX9_lease (va_wsS RX9 45 yX9_in wsX9_in) := goodIn_app (goodIn_of _ (by decide +kernel)) ggX9_lease_X9_in
set_option maxRecDepth 20000 in
theorem ggX9_lease_X9_isOut : GoodIn wsX9_lease wsX9_isOut := goodIn_r _ [17, 18, 19, 20, 4, 21, 6, 54, 55, 56, 57, 58, 59, 60, 61, 62, 63, 64, 65, 66, 67, 68, 69] (by decide +kernel) (by decide +kernel)
set_option maxRecDepth 20000 in
theorem gX9_lease_X9_isOut : GoodIn wsX9_lease (wsV RX9 100 RX9 yX9_isOut wsX9_isOut) := goodIn_app (goodIn_of _ (by decide +kernel)) ggX9_lease_X9_isOut
set_option maxRecDepth 20000 in
theorem ggX9_lease_X9_t : GoodIn wsX9_lease wsX9_t := goodIn_r _ [21, 6, 54, 55, 56, 57, 58, 59, 60, 61, 62, 63, 64, 65, 66, 67, 68, 69] (by decide +kernel) (by decide +kernel)
set_option maxRecDepth 20000 in
theorem gX9_lease_X9_t : GoodIn wsX9_lease (wsV RX9 81 RX9 yX9_t wsX9_t) := goodIn_app (goodIn_of _ (by decide +kernel)) ggX9_lease_X9_t
set_option maxRecDepth 20000 in
theorem ggX9_lease_X9_refused : GoodIn wsX9_lease wsX9_refused := goodIn_r _ [25, 6, 54, 55, 56, 57, 58, 59, 60, 61, 62, 63, 64, 65, 66, 67, 68, 69] (by decide +kernel) (by decide +kernel)
set_option maxRecDepth 20000 in
theorem gX9_lease_X9_refused : GoodIn wsX9_lease (wsV RX9 127 RX9 yX9_refused wsX9_refused) := goodIn_app (goodIn_of _ (by decide +kernel)) ggX9_lease_X9_refused
set_option maxRecDepth 20000 in
theorem ggX9_lease_X9_mayPay : GoodIn wsX9_lease wsX9_mayPay := goodIn_r _ [29, 18, 19, 20, 4, 21, 6, 30, 31, 32, 33, 54, 55, 56, 57, 58, 59, 60, 61, 62, 63, 64, 65, 66, 67, 68, 69] (by decide +kernel) (by decide +kernel)
set_option maxRecDepth 20000 in
theorem gX9_lease_X9_mayPay : GoodIn wsX9_lease (wsV RX9 130 RX9 yX9_mayPay wsX9_mayPay) := goodIn_app (goodIn_of _ (by decide +kernel)) ggX9_lease_X9_mayPay
set_option maxRecDepth 20000 in
theorem ggX9_lease_X9_leased : GoodIn wsX9_lease wsX9_leased := goodIn_r _ [37, 6, 30, 31, 32, 4, 33, 18, 19, 20, 21, 38, 39, 40, 41, 42, 43, 44, 45, 46, 47, 48, 49, 50, 51, 52, 53, 54, 55, 56, 57, 58, 59, 60, 61, 62, 63, 64, 65, 66, 67, 68, 69] (by decide +kernel) (by decide +kernel)
set_option maxRecDepth 20000 in
theorem gX9_lease_X9_leased : GoodIn wsX9_lease (wsV RX9 133 RX9 yX9_leased wsX9_leased) := goodIn_app (goodIn_of _ (by decide +kernel)) ggX9_lease_X9_leased
theorem dX9_lease_0 : decode cX9_lease 0 = .ok (.aload_n 0, 1) := by decide +kernel
theorem dX9_lease_1 : decode cX9_lease 1 = .ok (.iload_n 1, 1) := by decide +kernel
theorem dX9_lease_2 : decode cX9_lease 2 = .ok (.invokevirtual 75, 3) := by decide +kernel
theorem dX9_lease_5 : decode cX9_lease 5 = .ok (.ifCond .eq 21, 3) := by decide +kernel
theorem dX9_lease_8 : decode cX9_lease 8 = .ok (.aload_n 0, 1) := by decide +kernel
theorem dX9_lease_9 : decode cX9_lease 9 = .ok (.iload_n 2, 1) := by decide +kernel
theorem dX9_lease_10 : decode cX9_lease 10 = .ok (.invokevirtual 78, 3) := by decide +kernel
theorem dX9_lease_13 : decode cX9_lease 13 = .ok (.ifCond .eq 13, 3) := by decide +kernel
theorem dX9_lease_16 : decode cX9_lease 16 = .ok (.iload_n 3, 1) := by decide +kernel
theorem dX9_lease_17 : decode cX9_lease 17 = .ok (.iconst 1, 1) := by decide +kernel
theorem dX9_lease_18 : decode cX9_lease 18 = .ok (.bipush 30, 2) := by decide +kernel
theorem dX9_lease_20 : decode cX9_lease 20 = .ok (.invokestatic 45, 3) := by decide +kernel
theorem dX9_lease_23 : decode cX9_lease 23 = .ok (.ifCond .ne 5, 3) := by decide +kernel
theorem dX9_lease_26 : decode cX9_lease 26 = .ok (.iconst (-1), 1) := by decide +kernel
theorem dX9_lease_27 : decode cX9_lease 27 = .ok (.ireturn, 1) := by decide +kernel
theorem dX9_lease_28 : decode cX9_lease 28 = .ok (.aload_n 0, 1) := by decide +kernel
theorem dX9_lease_29 : decode cX9_lease 29 = .ok (.iload_n 2, 1) := by decide +kernel
theorem dX9_lease_30 : decode cX9_lease 30 = .ok (.invokevirtual 100, 3) := by decide +kernel
theorem dX9_lease_33 : decode cX9_lease 33 = .ok (.ifCond .ne 14, 3) := by decide +kernel
theorem dX9_lease_36 : decode cX9_lease 36 = .ok (.aload_n 0, 1) := by decide +kernel
theorem dX9_lease_37 : decode cX9_lease 37 = .ok (.iload_n 2, 1) := by decide +kernel
theorem dX9_lease_38 : decode cX9_lease 38 = .ok (.iconst 1, 1) := by decide +kernel
theorem dX9_lease_39 : decode cX9_lease 39 = .ok (.invokevirtual 81, 3) := by decide +kernel
theorem dX9_lease_42 : decode cX9_lease 42 = .ok (.bipush 9, 2) := by decide +kernel
theorem dX9_lease_44 : decode cX9_lease 44 = .ok (.if_icmp .ne 10, 3) := by decide +kernel
theorem dX9_lease_47 : decode cX9_lease 47 = .ok (.aload_n 0, 1) := by decide +kernel
theorem dX9_lease_48 : decode cX9_lease 48 = .ok (.iconst 1, 1) := by decide +kernel
theorem dX9_lease_49 : decode cX9_lease 49 = .ok (.iconst 0, 1) := by decide +kernel
theorem dX9_lease_50 : decode cX9_lease 50 = .ok (.invokevirtual 127, 3) := by decide +kernel
theorem dX9_lease_53 : decode cX9_lease 53 = .ok (.ireturn, 1) := by decide +kernel
theorem dX9_lease_54 : decode cX9_lease 54 = .ok (.aload_n 0, 1) := by decide +kernel
theorem dX9_lease_55 : decode cX9_lease 55 = .ok (.iload_n 2, 1) := by decide +kernel
theorem dX9_lease_56 : decode cX9_lease 56 = .ok (.iload_n 1, 1) := by decide +kernel
theorem dX9_lease_57 : decode cX9_lease 57 = .ok (.invokevirtual 130, 3) := by decide +kernel
theorem dX9_lease_60 : decode cX9_lease 60 = .ok (.ifCond .eq 13, 3) := by decide +kernel
theorem dX9_lease_63 : decode cX9_lease 63 = .ok (.aload_n 0, 1) := by decide +kernel
theorem dX9_lease_64 : decode cX9_lease 64 = .ok (.iload_n 2, 1) := by decide +kernel
theorem dX9_lease_65 : decode cX9_lease 65 = .ok (.iload_n 1, 1) := by decide +kernel
theorem dX9_lease_66 : decode cX9_lease 66 = .ok (.iload_n 3, 1) := by decide +kernel
theorem dX9_lease_67 : decode cX9_lease 67 = .ok (.invokevirtual 133, 3) := by decide +kernel
theorem dX9_lease_70 : decode cX9_lease 70 = .ok (.goto 9, 3) := by decide +kernel
theorem dX9_lease_73 : decode cX9_lease 73 = .ok (.aload_n 0, 1) := by decide +kernel
theorem dX9_lease_74 : decode cX9_lease 74 = .ok (.iconst 2, 1) := by decide +kernel
theorem dX9_lease_75 : decode cX9_lease 75 = .ok (.iconst 0, 1) := by decide +kernel
theorem dX9_lease_76 : decode cX9_lease 76 = .ok (.invokevirtual 127, 3) := by decide +kernel
theorem dX9_lease_79 : decode cX9_lease 79 = .ok (.ireturn, 1) := by decide +kernel
set_option maxRecDepth 20000 in
theorem ggX9_nextClaim_X9_t : GoodIn wsX9_nextClaim wsX9_t := goodIn_r _ [5, 6, 31, 32, 33, 34, 35, 36, 37, 38, 39, 40, 41, 42, 43, 44, 45, 46] (by decide +kernel) (by decide +kernel)
set_option maxRecDepth 20000 in
theorem gX9_nextClaim_X9_t : GoodIn wsX9_nextClaim (wsV RX9 81 RX9 yX9_t wsX9_t) := goodIn_app (goodIn_of _ (by decide +kernel)) ggX9_nextClaim_X9_t
set_option maxRecDepth 20000 in
theorem ggX9_nextClaim_X9_claimAt : GoodIn wsX9_nextClaim wsX9_claimAt := goodIn_r _ [10, 1, 2, 3, 4, 5, 6, 11, 12, 13, 14, 15, 16, 17, 18, 19, 20, 21, 22, 31, 32, 33, 34, 35, 36, 37, 38, 39, 40, 41, 42, 43, 44, 45, 46] (by decide +kernel) (by decide +kernel)
set_option maxRecDepth 20000 in
theorem gX9_nextClaim_X9_claimAt : GoodIn wsX9_nextClaim (wsV RX9 117 RX9 yX9_claimAt wsX9_claimAt) := goodIn_app (goodIn_of _ (by decide +kernel)) ggX9_nextClaim_X9_claimAt
set_option maxRecDepth 20000 in
theorem ggX9_nextClaim_X9_c : GoodIn wsX9_nextClaim wsX9_c := goodIn_r _ [22, 1, 2, 3, 4, 5, 6, 31, 32, 33, 34, 35, 36, 37, 38, 39, 40, 41, 42, 43, 44, 45, 46] (by decide +kernel) (by decide +kernel)
set_option maxRecDepth 20000 in
theorem gX9_nextClaim_X9_c : GoodIn wsX9_nextClaim (wsV RX9 107 RX9 yX9_c wsX9_c) := goodIn_app (goodIn_of _ (by decide +kernel)) ggX9_nextClaim_X9_c
set_option maxRecDepth 20000 in
theorem ggX9_nextClaim_X9_mayPay : GoodIn wsX9_nextClaim wsX9_mayPay := goodIn_r _ [26, 1, 2, 3, 4, 5, 6, 27, 28, 29, 30, 31, 32, 33, 34, 35, 36, 37, 38, 39, 40, 41, 42, 43, 44, 45, 46] (by decide +kernel) (by decide +kernel)
set_option maxRecDepth 20000 in
theorem gX9_nextClaim_X9_mayPay : GoodIn wsX9_nextClaim (wsV RX9 130 RX9 yX9_mayPay wsX9_mayPay) := goodIn_app (goodIn_of _ (by decide +kernel)) ggX9_nextClaim_X9_mayPay
theorem dX9_nextClaim_0 : decode cX9_nextClaim 0 = .ok (.iconst 0, 1) := by decide +kernel
theorem dX9_nextClaim_1 : decode cX9_nextClaim 1 = .ok (.istore_n 2, 1) := by decide +kernel
theorem dX9_nextClaim_2 : decode cX9_nextClaim 2 = .ok (.iload_n 2, 1) := by decide +kernel
theorem dX9_nextClaim_3 : decode cX9_nextClaim 3 = .ok (.aload_n 0, 1) := by decide +kernel
theorem dX9_nextClaim_4 : decode cX9_nextClaim 4 = .ok (.iload_n 1, 1) := by decide +kernel
theorem dX9_nextClaim_5 : decode cX9_nextClaim 5 = .ok (.bipush 57, 2) := by decide +kernel
theorem dX9_nextClaim_7 : decode cX9_nextClaim 7 = .ok (.invokevirtual 81, 3) := by decide +kernel
theorem dX9_nextClaim_10 : decode cX9_nextClaim 10 = .ok (.if_icmp .ge 33, 3) := by decide +kernel
theorem dX9_nextClaim_13 : decode cX9_nextClaim 13 = .ok (.aload_n 0, 1) := by decide +kernel
theorem dX9_nextClaim_14 : decode cX9_nextClaim 14 = .ok (.iload_n 1, 1) := by decide +kernel
theorem dX9_nextClaim_15 : decode cX9_nextClaim 15 = .ok (.iload_n 2, 1) := by decide +kernel
theorem dX9_nextClaim_16 : decode cX9_nextClaim 16 = .ok (.invokevirtual 117, 3) := by decide +kernel
theorem dX9_nextClaim_19 : decode cX9_nextClaim 19 = .ok (.istore_n 3, 1) := by decide +kernel
theorem dX9_nextClaim_20 : decode cX9_nextClaim 20 = .ok (.aload_n 0, 1) := by decide +kernel
theorem dX9_nextClaim_21 : decode cX9_nextClaim 21 = .ok (.iload_n 1, 1) := by decide +kernel
theorem dX9_nextClaim_22 : decode cX9_nextClaim 22 = .ok (.aload_n 0, 1) := by decide +kernel
theorem dX9_nextClaim_23 : decode cX9_nextClaim 23 = .ok (.iload_n 1, 1) := by decide +kernel
theorem dX9_nextClaim_24 : decode cX9_nextClaim 24 = .ok (.iload_n 3, 1) := by decide +kernel
theorem dX9_nextClaim_25 : decode cX9_nextClaim 25 = .ok (.iconst 0, 1) := by decide +kernel
theorem dX9_nextClaim_26 : decode cX9_nextClaim 26 = .ok (.invokevirtual 107, 3) := by decide +kernel
theorem dX9_nextClaim_29 : decode cX9_nextClaim 29 = .ok (.invokevirtual 130, 3) := by decide +kernel
theorem dX9_nextClaim_32 : decode cX9_nextClaim 32 = .ok (.ifCond .eq 5, 3) := by decide +kernel
theorem dX9_nextClaim_35 : decode cX9_nextClaim 35 = .ok (.iload_n 3, 1) := by decide +kernel
theorem dX9_nextClaim_36 : decode cX9_nextClaim 36 = .ok (.ireturn, 1) := by decide +kernel
theorem dX9_nextClaim_37 : decode cX9_nextClaim 37 = .ok (.iinc 2 1, 3) := by decide +kernel
theorem dX9_nextClaim_40 : decode cX9_nextClaim 40 = .ok (.goto (-38), 3) := by decide +kernel
theorem dX9_nextClaim_43 : decode cX9_nextClaim 43 = .ok (.bipush (-2), 2) := by decide +kernel
theorem dX9_nextClaim_45 : decode cX9_nextClaim 45 = .ok (.ireturn, 1) := by decide +kernel
set_option maxRecDepth 20000 in
theorem ggX9_offered_X9_nextClaim : GoodIn wsX9_offered wsX9_nextClaim := goodIn_r _ [5, 6, 7, 8, 4, 9, 10, 11, 12, 13, 14, 15, 16, 17, 18, 19, 20, 21, 22, 23, 24, 25, 26, 27, 28, 29, 30, 31, 32, 33, 34, 59, 60, 61, 62, 63, 64, 65, 66, 67, 68, 69, 70, 71, 72, 73, 74] (by decide +kernel) (by decide +kernel)
set_option maxRecDepth 20000 in
theorem gX9_offered_X9_nextClaim : GoodIn wsX9_offered (wsV RX9 136 RX9 yX9_nextClaim wsX9_nextClaim) := goodIn_app (goodIn_of _ (by decide +kernel)) ggX9_offered_X9_nextClaim
set_option maxRecDepth 20000 in
theorem ggX9_offered_X9_c : GoodIn wsX9_offered wsX9_c := goodIn_r _ [26, 6, 7, 8, 4, 9, 10, 59, 60, 61, 62, 63, 64, 65, 66, 67, 68, 69, 70, 71, 72, 73, 74] (by decide +kernel) (by decide +kernel)
set_option maxRecDepth 20000 in
theorem gX9_offered_X9_c : GoodIn wsX9_offered (wsV RX9 107 RX9 yX9_c wsX9_c) := goodIn_app (goodIn_of _ (by decide +kernel)) ggX9_offered_X9_c
set_option maxRecDepth 20000 in
theorem ggX9_offered_X9_claimGoes : GoodIn wsX9_offered wsX9_claimGoes := goodIn_r _ [38, 6, 7, 8, 4, 9, 10, 23, 24, 25, 26, 39, 40, 41, 42, 59, 60, 61, 62, 63, 64, 65, 66, 67, 68, 69, 70, 71, 72, 73, 74] (by decide +kernel) (by decide +kernel)
set_option maxRecDepth 20000 in
theorem gX9_offered_X9_claimGoes : GoodIn wsX9_offered (wsV RX9 120 RX9 yX9_claimGoes wsX9_claimGoes) := goodIn_app (goodIn_of _ (by decide +kernel)) ggX9_offered_X9_claimGoes
set_option maxRecDepth 20000 in
theorem ggX9_offered_X9_leased : GoodIn wsX9_offered wsX9_leased := goodIn_r _ [46, 10, 31, 32, 33, 4, 34, 6, 7, 8, 9, 47, 48, 49, 50, 39, 40, 41, 42, 51, 52, 53, 54, 55, 56, 57, 58, 59, 60, 61, 62, 63, 64, 65, 66, 67, 68, 69, 70, 71, 72, 73, 74] (by decide +kernel) (by decide +kernel)
set_option maxRecDepth 20000 in
theorem gX9_offered_X9_leased : GoodIn wsX9_offered (wsV RX9 133 RX9 yX9_leased wsX9_leased) := goodIn_app (goodIn_of _ (by decide +kernel)) ggX9_offered_X9_leased
theorem dX9_offered_0 : decode cX9_offered 0 = .ok (.aload_n 0, 1) := by decide +kernel
theorem dX9_offered_1 : decode cX9_offered 1 = .ok (.iload_n 1, 1) := by decide +kernel
theorem dX9_offered_2 : decode cX9_offered 2 = .ok (.invokevirtual 136, 3) := by decide +kernel
theorem dX9_offered_5 : decode cX9_offered 5 = .ok (.istore_n 2, 1) := by decide +kernel
theorem dX9_offered_6 : decode cX9_offered 6 = .ok (.iload_n 2, 1) := by decide +kernel
theorem dX9_offered_7 : decode cX9_offered 7 = .ok (.ifCond .lt 35, 3) := by decide +kernel
theorem dX9_offered_10 : decode cX9_offered 10 = .ok (.aload_n 0, 1) := by decide +kernel
theorem dX9_offered_11 : decode cX9_offered 11 = .ok (.iload_n 1, 1) := by decide +kernel
theorem dX9_offered_12 : decode cX9_offered 12 = .ok (.iload_n 2, 1) := by decide +kernel
theorem dX9_offered_13 : decode cX9_offered 13 = .ok (.iconst 0, 1) := by decide +kernel
theorem dX9_offered_14 : decode cX9_offered 14 = .ok (.invokevirtual 107, 3) := by decide +kernel
theorem dX9_offered_17 : decode cX9_offered 17 = .ok (.istore_n 3, 1) := by decide +kernel
theorem dX9_offered_18 : decode cX9_offered 18 = .ok (.aload_n 0, 1) := by decide +kernel
theorem dX9_offered_19 : decode cX9_offered 19 = .ok (.iload_n 1, 1) := by decide +kernel
theorem dX9_offered_20 : decode cX9_offered 20 = .ok (.iload_n 2, 1) := by decide +kernel
theorem dX9_offered_21 : decode cX9_offered 21 = .ok (.iconst 2, 1) := by decide +kernel
theorem dX9_offered_22 : decode cX9_offered 22 = .ok (.invokevirtual 107, 3) := by decide +kernel
theorem dX9_offered_25 : decode cX9_offered 25 = .ok (.istore 4, 2) := by decide +kernel
theorem dX9_offered_27 : decode cX9_offered 27 = .ok (.aload_n 0, 1) := by decide +kernel
theorem dX9_offered_28 : decode cX9_offered 28 = .ok (.iload_n 1, 1) := by decide +kernel
theorem dX9_offered_29 : decode cX9_offered 29 = .ok (.iload_n 2, 1) := by decide +kernel
theorem dX9_offered_30 : decode cX9_offered 30 = .ok (.invokevirtual 120, 3) := by decide +kernel
theorem dX9_offered_33 : decode cX9_offered 33 = .ok (.aload_n 0, 1) := by decide +kernel
theorem dX9_offered_34 : decode cX9_offered 34 = .ok (.iload_n 1, 1) := by decide +kernel
theorem dX9_offered_35 : decode cX9_offered 35 = .ok (.iload_n 3, 1) := by decide +kernel
theorem dX9_offered_36 : decode cX9_offered 36 = .ok (.iload 4, 2) := by decide +kernel
theorem dX9_offered_38 : decode cX9_offered 38 = .ok (.invokevirtual 133, 3) := by decide +kernel
theorem dX9_offered_41 : decode cX9_offered 41 = .ok (.pop, 1) := by decide +kernel
theorem dX9_offered_42 : decode cX9_offered 42 = .ok (.return_, 1) := by decide +kernel
set_option maxRecDepth 20000 in
theorem ggX9_blames_X9_t : GoodIn wsX9_blames wsX9_t := goodIn_r _ [7, 8, 9, 10, 11, 12, 13, 14, 15, 16, 17, 18, 19, 20, 21, 22, 23, 24] (by decide +kernel) (by decide +kernel)
set_option maxRecDepth 20000 in
theorem gX9_blames_X9_t : GoodIn wsX9_blames (wsV RX9 81 RX9 yX9_t wsX9_t) := goodIn_app (goodIn_of _ (by decide +kernel)) ggX9_blames_X9_t
theorem dX9_blames_0 : decode cX9_blames 0 = .ok (.bipush 33, 2) := by decide +kernel
theorem dX9_blames_2 : decode cX9_blames 2 = .ok (.iconst 4, 1) := by decide +kernel
theorem dX9_blames_3 : decode cX9_blames 3 = .ok (.aload_n 0, 1) := by decide +kernel
theorem dX9_blames_4 : decode cX9_blames 4 = .ok (.iload_n 1, 1) := by decide +kernel
theorem dX9_blames_5 : decode cX9_blames 5 = .ok (.bipush 32, 2) := by decide +kernel
theorem dX9_blames_7 : decode cX9_blames 7 = .ok (.invokevirtual 81, 3) := by decide +kernel
theorem dX9_blames_10 : decode cX9_blames 10 = .ok (.iconst 1, 1) := by decide +kernel
theorem dX9_blames_11 : decode cX9_blames 11 = .ok (.isub, 1) := by decide +kernel
theorem dX9_blames_12 : decode cX9_blames 12 = .ok (.imul, 1) := by decide +kernel
theorem dX9_blames_13 : decode cX9_blames 13 = .ok (.iadd, 1) := by decide +kernel
theorem dX9_blames_14 : decode cX9_blames 14 = .ok (.istore_n 2, 1) := by decide +kernel
theorem dX9_blames_15 : decode cX9_blames 15 = .ok (.aload_n 0, 1) := by decide +kernel
theorem dX9_blames_16 : decode cX9_blames 16 = .ok (.iload_n 1, 1) := by decide +kernel
theorem dX9_blames_17 : decode cX9_blames 17 = .ok (.iload_n 2, 1) := by decide +kernel
theorem dX9_blames_18 : decode cX9_blames 18 = .ok (.iconst 2, 1) := by decide +kernel
theorem dX9_blames_19 : decode cX9_blames 19 = .ok (.iadd, 1) := by decide +kernel
theorem dX9_blames_20 : decode cX9_blames 20 = .ok (.invokevirtual 81, 3) := by decide +kernel
theorem dX9_blames_23 : decode cX9_blames 23 = .ok (.aload_n 0, 1) := by decide +kernel
theorem dX9_blames_24 : decode cX9_blames 24 = .ok (.iload_n 1, 1) := by decide +kernel
theorem dX9_blames_25 : decode cX9_blames 25 = .ok (.iload_n 2, 1) := by decide +kernel
theorem dX9_blames_26 : decode cX9_blames 26 = .ok (.iconst 3, 1) := by decide +kernel
theorem dX9_blames_27 : decode cX9_blames 27 = .ok (.iadd, 1) := by decide +kernel
theorem dX9_blames_28 : decode cX9_blames 28 = .ok (.invokevirtual 81, 3) := by decide +kernel
theorem dX9_blames_31 : decode cX9_blames 31 = .ok (.isub, 1) := by decide +kernel
theorem dX9_blames_32 : decode cX9_blames 32 = .ok (.istore_n 3, 1) := by decide +kernel
theorem dX9_blames_33 : decode cX9_blames 33 = .ok (.aload_n 0, 1) := by decide +kernel
theorem dX9_blames_34 : decode cX9_blames 34 = .ok (.iload_n 1, 1) := by decide +kernel
theorem dX9_blames_35 : decode cX9_blames 35 = .ok (.bipush 7, 2) := by decide +kernel
theorem dX9_blames_37 : decode cX9_blames 37 = .ok (.invokevirtual 81, 3) := by decide +kernel
theorem dX9_blames_40 : decode cX9_blames 40 = .ok (.aload_n 0, 1) := by decide +kernel
theorem dX9_blames_41 : decode cX9_blames 41 = .ok (.iload_n 1, 1) := by decide +kernel
theorem dX9_blames_42 : decode cX9_blames 42 = .ok (.bipush 6, 2) := by decide +kernel
theorem dX9_blames_44 : decode cX9_blames 44 = .ok (.invokevirtual 81, 3) := by decide +kernel
theorem dX9_blames_47 : decode cX9_blames 47 = .ok (.isub, 1) := by decide +kernel
theorem dX9_blames_48 : decode cX9_blames 48 = .ok (.istore 4, 2) := by decide +kernel
theorem dX9_blames_50 : decode cX9_blames 50 = .ok (.aload_n 0, 1) := by decide +kernel
theorem dX9_blames_51 : decode cX9_blames 51 = .ok (.iconst 0, 1) := by decide +kernel
theorem dX9_blames_52 : decode cX9_blames 52 = .ok (.putfield 139, 3) := by decide +kernel
theorem dX9_blames_55 : decode cX9_blames 55 = .ok (.iload_n 3, 1) := by decide +kernel
theorem dX9_blames_56 : decode cX9_blames 56 = .ok (.iload 4, 2) := by decide +kernel
theorem dX9_blames_58 : decode cX9_blames 58 = .ok (.if_icmp .ge 8, 3) := by decide +kernel
theorem dX9_blames_61 : decode cX9_blames 61 = .ok (.iload 4, 2) := by decide +kernel
theorem dX9_blames_63 : decode cX9_blames 63 = .ok (.goto 4, 3) := by decide +kernel
theorem dX9_blames_66 : decode cX9_blames 66 = .ok (.iload_n 3, 1) := by decide +kernel
theorem dX9_blames_67 : decode cX9_blames 67 = .ok (.istore 5, 2) := by decide +kernel
theorem dX9_blames_69 : decode cX9_blames 69 = .ok (.iload 5, 2) := by decide +kernel
theorem dX9_blames_71 : decode cX9_blames 71 = .ok (.aload_n 0, 1) := by decide +kernel
theorem dX9_blames_72 : decode cX9_blames 72 = .ok (.iload_n 1, 1) := by decide +kernel
theorem dX9_blames_73 : decode cX9_blames 73 = .ok (.bipush 7, 2) := by decide +kernel
theorem dX9_blames_75 : decode cX9_blames 75 = .ok (.invokevirtual 81, 3) := by decide +kernel
theorem dX9_blames_78 : decode cX9_blames 78 = .ok (.if_icmp .ge 92, 3) := by decide +kernel
theorem dX9_blames_81 : decode cX9_blames 81 = .ok (.aload_n 0, 1) := by decide +kernel
theorem dX9_blames_82 : decode cX9_blames 82 = .ok (.iload_n 1, 1) := by decide +kernel
theorem dX9_blames_83 : decode cX9_blames 83 = .ok (.bipush 8, 2) := by decide +kernel
theorem dX9_blames_85 : decode cX9_blames 85 = .ok (.iconst 3, 1) := by decide +kernel
theorem dX9_blames_86 : decode cX9_blames 86 = .ok (.iload 5, 2) := by decide +kernel
theorem dX9_blames_88 : decode cX9_blames 88 = .ok (.iload 4, 2) := by decide +kernel
theorem dX9_blames_90 : decode cX9_blames 90 = .ok (.isub, 1) := by decide +kernel
theorem dX9_blames_91 : decode cX9_blames 91 = .ok (.imul, 1) := by decide +kernel
theorem dX9_blames_92 : decode cX9_blames 92 = .ok (.iadd, 1) := by decide +kernel
theorem dX9_blames_93 : decode cX9_blames 93 = .ok (.invokevirtual 81, 3) := by decide +kernel
theorem dX9_blames_96 : decode cX9_blames 96 = .ok (.istore 6, 2) := by decide +kernel
theorem dX9_blames_98 : decode cX9_blames 98 = .ok (.iconst 1, 1) := by decide +kernel
theorem dX9_blames_99 : decode cX9_blames 99 = .ok (.istore 7, 2) := by decide +kernel
theorem dX9_blames_101 : decode cX9_blames 101 = .ok (.iconst 0, 1) := by decide +kernel
theorem dX9_blames_102 : decode cX9_blames 102 = .ok (.istore 8, 2) := by decide +kernel
theorem dX9_blames_104 : decode cX9_blames 104 = .ok (.iload 8, 2) := by decide +kernel
theorem dX9_blames_106 : decode cX9_blames 106 = .ok (.aload_n 0, 1) := by decide +kernel
theorem dX9_blames_107 : decode cX9_blames 107 = .ok (.getfield 139, 3) := by decide +kernel
theorem dX9_blames_110 : decode cX9_blames 110 = .ok (.if_icmp .ge 31, 3) := by decide +kernel
theorem dX9_blames_113 : decode cX9_blames 113 = .ok (.iload 7, 2) := by decide +kernel
theorem dX9_blames_115 : decode cX9_blames 115 = .ok (.aload_n 0, 1) := by decide +kernel
theorem dX9_blames_116 : decode cX9_blames 116 = .ok (.getfield 22, 3) := by decide +kernel
theorem dX9_blames_119 : decode cX9_blames 119 = .ok (.iload 8, 2) := by decide +kernel
theorem dX9_blames_121 : decode cX9_blames 121 = .ok (.iaload, 1) := by decide +kernel
theorem dX9_blames_122 : decode cX9_blames 122 = .ok (.iload 6, 2) := by decide +kernel
theorem dX9_blames_124 : decode cX9_blames 124 = .ok (.if_icmp .eq 7, 3) := by decide +kernel
theorem dX9_blames_127 : decode cX9_blames 127 = .ok (.iconst 1, 1) := by decide +kernel
theorem dX9_blames_128 : decode cX9_blames 128 = .ok (.goto 4, 3) := by decide +kernel
theorem dX9_blames_131 : decode cX9_blames 131 = .ok (.iconst 0, 1) := by decide +kernel
theorem dX9_blames_132 : decode cX9_blames 132 = .ok (.iand, 1) := by decide +kernel
theorem dX9_blames_133 : decode cX9_blames 133 = .ok (.istore 7, 2) := by decide +kernel
theorem dX9_blames_135 : decode cX9_blames 135 = .ok (.iinc 8 1, 3) := by decide +kernel
theorem dX9_blames_138 : decode cX9_blames 138 = .ok (.goto (-34), 3) := by decide +kernel
theorem dX9_blames_141 : decode cX9_blames 141 = .ok (.iload 7, 2) := by decide +kernel
theorem dX9_blames_143 : decode cX9_blames 143 = .ok (.ifCond .eq 21, 3) := by decide +kernel
theorem dX9_blames_146 : decode cX9_blames 146 = .ok (.aload_n 0, 1) := by decide +kernel
theorem dX9_blames_147 : decode cX9_blames 147 = .ok (.getfield 22, 3) := by decide +kernel
theorem dX9_blames_150 : decode cX9_blames 150 = .ok (.aload_n 0, 1) := by decide +kernel
theorem dX9_blames_151 : decode cX9_blames 151 = .ok (.dup, 1) := by decide +kernel
theorem dX9_blames_152 : decode cX9_blames 152 = .ok (.getfield 139, 3) := by decide +kernel
theorem dX9_blames_155 : decode cX9_blames 155 = .ok (.dup_x1, 1) := by decide +kernel
theorem dX9_blames_156 : decode cX9_blames 156 = .ok (.iconst 1, 1) := by decide +kernel
theorem dX9_blames_157 : decode cX9_blames 157 = .ok (.iadd, 1) := by decide +kernel
theorem dX9_blames_158 : decode cX9_blames 158 = .ok (.putfield 139, 3) := by decide +kernel
theorem dX9_blames_161 : decode cX9_blames 161 = .ok (.iload 6, 2) := by decide +kernel
theorem dX9_blames_163 : decode cX9_blames 163 = .ok (.iastore, 1) := by decide +kernel
theorem dX9_blames_164 : decode cX9_blames 164 = .ok (.iinc 5 1, 3) := by decide +kernel
theorem dX9_blames_167 : decode cX9_blames 167 = .ok (.goto (-98), 3) := by decide +kernel
theorem dX9_blames_170 : decode cX9_blames 170 = .ok (.return_, 1) := by decide +kernel
set_option maxRecDepth 20000 in
theorem ggX9_moreWear_X9_t : GoodIn wsX9_moreWear wsX9_t := goodIn_r _ [5, 6, 7, 8, 9, 10, 11, 12, 13, 14, 15, 16, 17, 18, 19, 20, 21, 22] (by decide +kernel) (by decide +kernel)
set_option maxRecDepth 20000 in
theorem gX9_moreWear_X9_t : GoodIn wsX9_moreWear (wsV RX9 81 RX9 yX9_t wsX9_t) := goodIn_app (goodIn_of _ (by decide +kernel)) ggX9_moreWear_X9_t
theorem dX9_moreWear_0 : decode cX9_moreWear 0 = .ok (.aload_n 0, 1) := by decide +kernel
theorem dX9_moreWear_1 : decode cX9_moreWear 1 = .ok (.iload_n 1, 1) := by decide +kernel
theorem dX9_moreWear_2 : decode cX9_moreWear 2 = .ok (.iconst 1, 1) := by decide +kernel
theorem dX9_moreWear_3 : decode cX9_moreWear 3 = .ok (.invokevirtual 81, 3) := by decide +kernel
theorem dX9_moreWear_6 : decode cX9_moreWear 6 = .ok (.aload_n 0, 1) := by decide +kernel
theorem dX9_moreWear_7 : decode cX9_moreWear 7 = .ok (.iload_n 1, 1) := by decide +kernel
theorem dX9_moreWear_8 : decode cX9_moreWear 8 = .ok (.bipush 33, 2) := by decide +kernel
theorem dX9_moreWear_10 : decode cX9_moreWear 10 = .ok (.iconst 4, 1) := by decide +kernel
theorem dX9_moreWear_11 : decode cX9_moreWear 11 = .ok (.aload_n 0, 1) := by decide +kernel
theorem dX9_moreWear_12 : decode cX9_moreWear 12 = .ok (.iload_n 1, 1) := by decide +kernel
theorem dX9_moreWear_13 : decode cX9_moreWear 13 = .ok (.bipush 32, 2) := by decide +kernel
theorem dX9_moreWear_15 : decode cX9_moreWear 15 = .ok (.invokevirtual 81, 3) := by decide +kernel
theorem dX9_moreWear_18 : decode cX9_moreWear 18 = .ok (.iconst 1, 1) := by decide +kernel
theorem dX9_moreWear_19 : decode cX9_moreWear 19 = .ok (.isub, 1) := by decide +kernel
theorem dX9_moreWear_20 : decode cX9_moreWear 20 = .ok (.imul, 1) := by decide +kernel
theorem dX9_moreWear_21 : decode cX9_moreWear 21 = .ok (.iadd, 1) := by decide +kernel
theorem dX9_moreWear_22 : decode cX9_moreWear 22 = .ok (.iconst 1, 1) := by decide +kernel
theorem dX9_moreWear_23 : decode cX9_moreWear 23 = .ok (.iadd, 1) := by decide +kernel
theorem dX9_moreWear_24 : decode cX9_moreWear 24 = .ok (.invokevirtual 81, 3) := by decide +kernel
theorem dX9_moreWear_27 : decode cX9_moreWear 27 = .ok (.isub, 1) := by decide +kernel
theorem dX9_moreWear_28 : decode cX9_moreWear 28 = .ok (.ireturn, 1) := by decide +kernel
set_option maxRecDepth 20000 in
theorem ggX9_costOf_X9_moreWear : GoodIn wsX9_costOf wsX9_moreWear := goodIn_r _ [5, 6, 7, 8, 4, 9, 10, 11, 12, 13, 14, 15, 16, 17, 18, 19, 20, 21, 22, 23, 24, 25, 26] (by decide +kernel) (by decide +kernel)
set_option maxRecDepth 20000 in
theorem gX9_costOf_X9_moreWear : GoodIn wsX9_costOf (wsV RX9 143 RX9 yX9_moreWear wsX9_moreWear) := goodIn_app (goodIn_of _ (by decide +kernel)) ggX9_costOf_X9_moreWear
set_option maxRecDepth 20000 in
theorem ggX9_costOf_X9_t : GoodIn wsX9_costOf wsX9_t := goodIn_r _ [9, 10, 11, 12, 13, 14, 15, 16, 17, 18, 19, 20, 21, 22, 23, 24, 25, 26] (by decide +kernel) (by decide +kernel)
set_option maxRecDepth 20000 in
theorem gX9_costOf_X9_t : GoodIn wsX9_costOf (wsV RX9 81 RX9 yX9_t wsX9_t) := goodIn_app (goodIn_of _ (by decide +kernel)) ggX9_costOf_X9_t
theorem dX9_costOf_0 : decode cX9_costOf 0 = .ok (.aload_n 0, 1) := by decide +kernel
theorem dX9_costOf_1 : decode cX9_costOf 1 = .ok (.iload_n 1, 1) := by decide +kernel
theorem dX9_costOf_2 : decode cX9_costOf 2 = .ok (.invokevirtual 143, 3) := by decide +kernel
theorem dX9_costOf_5 : decode cX9_costOf 5 = .ok (.istore_n 2, 1) := by decide +kernel
theorem dX9_costOf_6 : decode cX9_costOf 6 = .ok (.iload_n 2, 1) := by decide +kernel
theorem dX9_costOf_7 : decode cX9_costOf 7 = .ok (.ifCond .le 17, 3) := by decide +kernel
theorem dX9_costOf_10 : decode cX9_costOf 10 = .ok (.aload_n 0, 1) := by decide +kernel
theorem dX9_costOf_11 : decode cX9_costOf 11 = .ok (.iload_n 1, 1) := by decide +kernel
theorem dX9_costOf_12 : decode cX9_costOf 12 = .ok (.iconst 0, 1) := by decide +kernel
theorem dX9_costOf_13 : decode cX9_costOf 13 = .ok (.invokevirtual 81, 3) := by decide +kernel
theorem dX9_costOf_16 : decode cX9_costOf 16 = .ok (.iload_n 2, 1) := by decide +kernel
theorem dX9_costOf_17 : decode cX9_costOf 17 = .ok (.imul, 1) := by decide +kernel
theorem dX9_costOf_18 : decode cX9_costOf 18 = .ok (.bipush 9, 2) := by decide +kernel
theorem dX9_costOf_20 : decode cX9_costOf 20 = .ok (.idiv, 1) := by decide +kernel
theorem dX9_costOf_21 : decode cX9_costOf 21 = .ok (.goto 4, 3) := by decide +kernel
theorem dX9_costOf_24 : decode cX9_costOf 24 = .ok (.iconst 0, 1) := by decide +kernel
theorem dX9_costOf_25 : decode cX9_costOf 25 = .ok (.ireturn, 1) := by decide +kernel
theorem dX9_shareOf_0 : decode cX9_shareOf 0 = .ok (.iload_n 1, 1) := by decide +kernel
theorem dX9_shareOf_1 : decode cX9_shareOf 1 = .ok (.aload_n 0, 1) := by decide +kernel
theorem dX9_shareOf_2 : decode cX9_shareOf 2 = .ok (.getfield 139, 3) := by decide +kernel
theorem dX9_shareOf_5 : decode cX9_shareOf 5 = .ok (.idiv, 1) := by decide +kernel
theorem dX9_shareOf_6 : decode cX9_shareOf 6 = .ok (.istore_n 3, 1) := by decide +kernel
theorem dX9_shareOf_7 : decode cX9_shareOf 7 = .ok (.iload_n 2, 1) := by decide +kernel
theorem dX9_shareOf_8 : decode cX9_shareOf 8 = .ok (.ifCond .ne 16, 3) := by decide +kernel
theorem dX9_shareOf_11 : decode cX9_shareOf 11 = .ok (.iload_n 1, 1) := by decide +kernel
theorem dX9_shareOf_12 : decode cX9_shareOf 12 = .ok (.iload_n 3, 1) := by decide +kernel
theorem dX9_shareOf_13 : decode cX9_shareOf 13 = .ok (.aload_n 0, 1) := by decide +kernel
theorem dX9_shareOf_14 : decode cX9_shareOf 14 = .ok (.getfield 139, 3) := by decide +kernel
theorem dX9_shareOf_17 : decode cX9_shareOf 17 = .ok (.iconst 1, 1) := by decide +kernel
theorem dX9_shareOf_18 : decode cX9_shareOf 18 = .ok (.isub, 1) := by decide +kernel
theorem dX9_shareOf_19 : decode cX9_shareOf 19 = .ok (.imul, 1) := by decide +kernel
theorem dX9_shareOf_20 : decode cX9_shareOf 20 = .ok (.isub, 1) := by decide +kernel
theorem dX9_shareOf_21 : decode cX9_shareOf 21 = .ok (.goto 4, 3) := by decide +kernel
theorem dX9_shareOf_24 : decode cX9_shareOf 24 = .ok (.iload_n 3, 1) := by decide +kernel
theorem dX9_shareOf_25 : decode cX9_shareOf 25 = .ok (.ireturn, 1) := by decide +kernel
set_option maxRecDepth 20000 in
theorem ggX9_looks_X9_moreWear : GoodIn wsX9_looks wsX9_moreWear := goodIn_r _ [8, 9, 10, 11, 7, 12, 3, 52, 53, 54, 55, 56, 57, 58, 59, 60, 61, 62, 63, 64, 65, 66, 67] (by decide +kernel) (by decide +kernel)
set_option maxRecDepth 20000 in
theorem gX9_looks_X9_moreWear : GoodIn wsX9_looks (wsV RX9 143 RX9 yX9_moreWear wsX9_moreWear) := goodIn_app (goodIn_of _ (by decide +kernel)) ggX9_looks_X9_moreWear
set_option maxRecDepth 20000 in
theorem ggX9_looks_X9_blames : GoodIn wsX9_looks wsX9_blames := goodIn_r _ [16, 1, 2, 9, 10, 11, 7, 12, 3, 52, 53, 54, 55, 56, 57, 58, 59, 60, 61, 62, 63, 64, 65, 66, 67] (by decide +kernel) (by decide +kernel)
set_option maxRecDepth 20000 in
theorem gX9_looks_X9_blames : GoodIn wsX9_looks (wsV RX9 146 RX9 yX9_blames wsX9_blames) := goodIn_app (goodIn_of _ (by decide +kernel)) ggX9_looks_X9_blames
set_option maxRecDepth 20000 in
theorem ggX9_looks_X9_costOf : GoodIn wsX9_looks wsX9_costOf := goodIn_r _ [20, 4, 5, 6, 7, 8, 9, 10, 11, 12, 3, 52, 53, 54, 55, 56, 57, 58, 59, 60, 61, 62, 63, 64, 65, 66, 67] (by decide +kernel) (by decide +kernel)
set_option maxRecDepth 20000 in
theorem gX9_looks_X9_costOf : GoodIn wsX9_looks (wsV RX9 149 RX9 yX9_costOf wsX9_costOf) := goodIn_app (goodIn_of _ (by decide +kernel)) ggX9_looks_X9_costOf
set_option maxRecDepth 20000 in
theorem ggX9_looks_X9_seesNow : GoodIn wsX9_looks wsX9_seesNow := goodIn_r _ [24, 3, 25, 26, 27, 7, 28, 9, 10, 11, 12, 29, 30, 31, 32, 33, 34, 35, 36, 52, 53, 54, 55, 56, 57, 58, 59, 60, 61, 62, 63, 64, 65, 66, 67] (by decide +kernel) (by decide +kernel)
set_option maxRecDepth 20000 in
theorem gX9_looks_X9_seesNow : GoodIn wsX9_looks (wsV RX9 96 RX9 yX9_seesNow wsX9_seesNow) := goodIn_app (goodIn_of _ (by decide +kernel)) ggX9_looks_X9_seesNow
set_option maxRecDepth 20000 in
theorem ggX9_looks_X9_shareOf : GoodIn wsX9_looks wsX9_shareOf := goodIn_r _ [40, 1, 52, 53, 54, 55, 56, 57, 58, 59, 60, 61, 62, 63, 64, 65, 66, 67] (by decide +kernel) (by decide +kernel)
set_option maxRecDepth 20000 in
theorem gX9_looks_X9_shareOf : GoodIn wsX9_looks (wsV RX9 152 RX9 yX9_shareOf wsX9_shareOf) := goodIn_app (goodIn_of _ (by decide +kernel)) ggX9_looks_X9_shareOf
set_option maxRecDepth 20000 in
theorem ggX9_looks_X9_p : GoodIn wsX9_looks wsX9_p := goodIn_r _ [44, 3, 52, 53, 54, 55, 56, 57, 58, 59, 60, 61, 62, 63, 64, 65, 66, 67] (by decide +kernel) (by decide +kernel)
set_option maxRecDepth 20000 in
theorem gX9_looks_X9_p : GoodIn wsX9_looks (wsV RX9 53 RX9 yX9_p wsX9_p) := goodIn_app (goodIn_of _ (by decide +kernel)) ggX9_looks_X9_p
set_option maxRecDepth 20000 in
theorem ggX9_looks_X9_setP : GoodIn wsX9_looks wsX9_setP := goodIn_r _ [48, 3, 52, 53, 54, 55, 56, 57, 58, 59, 60, 61, 62, 63, 64, 65, 66, 67] (by decide +kernel) (by decide +kernel)
set_option maxRecDepth 20000 in
theorem gX9_looks_X9_setP : GoodIn wsX9_looks (wsV RX9 57 RX9 yX9_setP wsX9_setP) := goodIn_app (goodIn_of _ (by decide +kernel)) ggX9_looks_X9_setP
set_option maxRecDepth 20000 in
theorem ggX9_looks_X9_cut : GoodIn wsX9_looks wsX9_cut := goodIn_r _ [51] (by decide +kernel) (by decide +kernel)
set_option maxRecDepth 20000 in
theorem gX9_looks_X9_cut : GoodIn wsX9_looks (va_wsS RX9 155 yX9_cut wsX9_cut) := goodIn_app (goodIn_of _ (by decide +kernel)) ggX9_looks_X9_cut
theorem dX9_looks_0 : decode cX9_looks 0 = .ok (.aload_n 0, 1) := by decide +kernel
theorem dX9_looks_1 : decode cX9_looks 1 = .ok (.iload_n 1, 1) := by decide +kernel
theorem dX9_looks_2 : decode cX9_looks 2 = .ok (.invokevirtual 143, 3) := by decide +kernel
theorem dX9_looks_5 : decode cX9_looks 5 = .ok (.istore_n 2, 1) := by decide +kernel
theorem dX9_looks_6 : decode cX9_looks 6 = .ok (.aload_n 0, 1) := by decide +kernel
theorem dX9_looks_7 : decode cX9_looks 7 = .ok (.iload_n 1, 1) := by decide +kernel
theorem dX9_looks_8 : decode cX9_looks 8 = .ok (.invokevirtual 146, 3) := by decide +kernel
theorem dX9_looks_11 : decode cX9_looks 11 = .ok (.aload_n 0, 1) := by decide +kernel
theorem dX9_looks_12 : decode cX9_looks 12 = .ok (.iload_n 1, 1) := by decide +kernel
theorem dX9_looks_13 : decode cX9_looks 13 = .ok (.invokevirtual 149, 3) := by decide +kernel
theorem dX9_looks_16 : decode cX9_looks 16 = .ok (.istore_n 3, 1) := by decide +kernel
theorem dX9_looks_17 : decode cX9_looks 17 = .ok (.aload_n 0, 1) := by decide +kernel
theorem dX9_looks_18 : decode cX9_looks 18 = .ok (.iload_n 1, 1) := by decide +kernel
theorem dX9_looks_19 : decode cX9_looks 19 = .ok (.invokevirtual 96, 3) := by decide +kernel
theorem dX9_looks_22 : decode cX9_looks 22 = .ok (.iload_n 2, 1) := by decide +kernel
theorem dX9_looks_23 : decode cX9_looks 23 = .ok (.ifCond .gt 5, 3) := by decide +kernel
theorem dX9_looks_26 : decode cX9_looks 26 = .ok (.iconst 0, 1) := by decide +kernel
theorem dX9_looks_27 : decode cX9_looks 27 = .ok (.ireturn, 1) := by decide +kernel
theorem dX9_looks_28 : decode cX9_looks 28 = .ok (.iconst 0, 1) := by decide +kernel
theorem dX9_looks_29 : decode cX9_looks 29 = .ok (.istore 4, 2) := by decide +kernel
theorem dX9_looks_31 : decode cX9_looks 31 = .ok (.iload 4, 2) := by decide +kernel
theorem dX9_looks_33 : decode cX9_looks 33 = .ok (.aload_n 0, 1) := by decide +kernel
theorem dX9_looks_34 : decode cX9_looks 34 = .ok (.getfield 139, 3) := by decide +kernel
theorem dX9_looks_37 : decode cX9_looks 37 = .ok (.if_icmp .ge 125, 3) := by decide +kernel
theorem dX9_looks_40 : decode cX9_looks 40 = .ok (.aload_n 0, 1) := by decide +kernel
theorem dX9_looks_41 : decode cX9_looks 41 = .ok (.getfield 22, 3) := by decide +kernel
theorem dX9_looks_44 : decode cX9_looks 44 = .ok (.iload 4, 2) := by decide +kernel
theorem dX9_looks_46 : decode cX9_looks 46 = .ok (.iaload, 1) := by decide +kernel
theorem dX9_looks_47 : decode cX9_looks 47 = .ok (.istore 5, 2) := by decide +kernel
theorem dX9_looks_49 : decode cX9_looks 49 = .ok (.aload_n 0, 1) := by decide +kernel
theorem dX9_looks_50 : decode cX9_looks 50 = .ok (.iload_n 3, 1) := by decide +kernel
theorem dX9_looks_51 : decode cX9_looks 51 = .ok (.iload 4, 2) := by decide +kernel
theorem dX9_looks_53 : decode cX9_looks 53 = .ok (.invokevirtual 152, 3) := by decide +kernel
theorem dX9_looks_56 : decode cX9_looks 56 = .ok (.istore 6, 2) := by decide +kernel
theorem dX9_looks_58 : decode cX9_looks 58 = .ok (.aload_n 0, 1) := by decide +kernel
theorem dX9_looks_59 : decode cX9_looks 59 = .ok (.iload 5, 2) := by decide +kernel
theorem dX9_looks_61 : decode cX9_looks 61 = .ok (.iconst 1, 1) := by decide +kernel
theorem dX9_looks_62 : decode cX9_looks 62 = .ok (.invokevirtual 53, 3) := by decide +kernel
theorem dX9_looks_65 : decode cX9_looks 65 = .ok (.iload 6, 2) := by decide +kernel
theorem dX9_looks_67 : decode cX9_looks 67 = .ok (.if_icmp .ge 13, 3) := by decide +kernel
theorem dX9_looks_70 : decode cX9_looks 70 = .ok (.aload_n 0, 1) := by decide +kernel
theorem dX9_looks_71 : decode cX9_looks 71 = .ok (.iload 5, 2) := by decide +kernel
theorem dX9_looks_73 : decode cX9_looks 73 = .ok (.iconst 1, 1) := by decide +kernel
theorem dX9_looks_74 : decode cX9_looks 74 = .ok (.invokevirtual 53, 3) := by decide +kernel
theorem dX9_looks_77 : decode cX9_looks 77 = .ok (.goto 5, 3) := by decide +kernel
theorem dX9_looks_80 : decode cX9_looks 80 = .ok (.iload 6, 2) := by decide +kernel
theorem dX9_looks_82 : decode cX9_looks 82 = .ok (.istore 7, 2) := by decide +kernel
theorem dX9_looks_84 : decode cX9_looks 84 = .ok (.aload_n 0, 1) := by decide +kernel
theorem dX9_looks_85 : decode cX9_looks 85 = .ok (.iload 5, 2) := by decide +kernel
theorem dX9_looks_87 : decode cX9_looks 87 = .ok (.iconst 1, 1) := by decide +kernel
theorem dX9_looks_88 : decode cX9_looks 88 = .ok (.aload_n 0, 1) := by decide +kernel
theorem dX9_looks_89 : decode cX9_looks 89 = .ok (.iload 5, 2) := by decide +kernel
theorem dX9_looks_91 : decode cX9_looks 91 = .ok (.iconst 1, 1) := by decide +kernel
theorem dX9_looks_92 : decode cX9_looks 92 = .ok (.invokevirtual 53, 3) := by decide +kernel
theorem dX9_looks_95 : decode cX9_looks 95 = .ok (.iload 7, 2) := by decide +kernel
theorem dX9_looks_97 : decode cX9_looks 97 = .ok (.isub, 1) := by decide +kernel
theorem dX9_looks_98 : decode cX9_looks 98 = .ok (.invokevirtual 57, 3) := by decide +kernel
theorem dX9_looks_101 : decode cX9_looks 101 = .ok (.aload_n 0, 1) := by decide +kernel
theorem dX9_looks_102 : decode cX9_looks 102 = .ok (.iload 5, 2) := by decide +kernel
theorem dX9_looks_104 : decode cX9_looks 104 = .ok (.iconst 4, 1) := by decide +kernel
theorem dX9_looks_105 : decode cX9_looks 105 = .ok (.aload_n 0, 1) := by decide +kernel
theorem dX9_looks_106 : decode cX9_looks 106 = .ok (.iload 5, 2) := by decide +kernel
theorem dX9_looks_108 : decode cX9_looks 108 = .ok (.iconst 4, 1) := by decide +kernel
theorem dX9_looks_109 : decode cX9_looks 109 = .ok (.invokevirtual 53, 3) := by decide +kernel
theorem dX9_looks_112 : decode cX9_looks 112 = .ok (.iload 6, 2) := by decide +kernel
theorem dX9_looks_114 : decode cX9_looks 114 = .ok (.iadd, 1) := by decide +kernel
theorem dX9_looks_115 : decode cX9_looks 115 = .ok (.iload 7, 2) := by decide +kernel
theorem dX9_looks_117 : decode cX9_looks 117 = .ok (.isub, 1) := by decide +kernel
theorem dX9_looks_118 : decode cX9_looks 118 = .ok (.invokevirtual 57, 3) := by decide +kernel
theorem dX9_looks_121 : decode cX9_looks 121 = .ok (.aload_n 0, 1) := by decide +kernel
theorem dX9_looks_122 : decode cX9_looks 122 = .ok (.getfield 9, 3) := by decide +kernel
theorem dX9_looks_125 : decode cX9_looks 125 = .ok (.sipush 1083, 3) := by decide +kernel
theorem dX9_looks_128 : decode cX9_looks 128 = .ok (.dup2, 1) := by decide +kernel
theorem dX9_looks_129 : decode cX9_looks 129 = .ok (.iaload, 1) := by decide +kernel
theorem dX9_looks_130 : decode cX9_looks 130 = .ok (.iload 7, 2) := by decide +kernel
theorem dX9_looks_132 : decode cX9_looks 132 = .ok (.iadd, 1) := by decide +kernel
theorem dX9_looks_133 : decode cX9_looks 133 = .ok (.iastore, 1) := by decide +kernel
theorem dX9_looks_134 : decode cX9_looks 134 = .ok (.aload_n 0, 1) := by decide +kernel
theorem dX9_looks_135 : decode cX9_looks 135 = .ok (.iload 5, 2) := by decide +kernel
theorem dX9_looks_137 : decode cX9_looks 137 = .ok (.iconst 2, 1) := by decide +kernel
theorem dX9_looks_138 : decode cX9_looks 138 = .ok (.aload_n 0, 1) := by decide +kernel
theorem dX9_looks_139 : decode cX9_looks 139 = .ok (.iload 5, 2) := by decide +kernel
theorem dX9_looks_141 : decode cX9_looks 141 = .ok (.iconst 2, 1) := by decide +kernel
theorem dX9_looks_142 : decode cX9_looks 142 = .ok (.invokevirtual 53, 3) := by decide +kernel
theorem dX9_looks_145 : decode cX9_looks 145 = .ok (.iload_n 2, 1) := by decide +kernel
theorem dX9_looks_146 : decode cX9_looks 146 = .ok (.isub, 1) := by decide +kernel
theorem dX9_looks_147 : decode cX9_looks 147 = .ok (.iconst 0, 1) := by decide +kernel
theorem dX9_looks_148 : decode cX9_looks 148 = .ok (.bipush 99, 2) := by decide +kernel
theorem dX9_looks_150 : decode cX9_looks 150 = .ok (.invokestatic 155, 3) := by decide +kernel
theorem dX9_looks_153 : decode cX9_looks 153 = .ok (.invokevirtual 57, 3) := by decide +kernel
theorem dX9_looks_156 : decode cX9_looks 156 = .ok (.iinc 4 1, 3) := by decide +kernel
theorem dX9_looks_159 : decode cX9_looks 159 = .ok (.goto (-128), 3) := by decide +kernel
theorem dX9_looks_162 : decode cX9_looks 162 = .ok (.aload_n 0, 1) := by decide +kernel
theorem dX9_looks_163 : decode cX9_looks 163 = .ok (.getfield 139, 3) := by decide +kernel
theorem dX9_looks_166 : decode cX9_looks 166 = .ok (.ireturn, 1) := by decide +kernel
set_option maxRecDepth 20000 in
theorem ggX9_look_X9_isTool : GoodIn wsX9_look wsX9_isTool := goodIn_r _ [5, 6, 7, 8, 4, 9, 63, 64, 65, 66, 67, 68, 69, 70, 71, 72, 73, 74, 75, 76, 77, 78] (by decide +kernel) (by decide +kernel)
set_option maxRecDepth 20000 in
theorem gX9_look_X9_isTool : GoodIn wsX9_look (wsV RX9 78 RX9 yX9_isTool wsX9_isTool) := goodIn_app (goodIn_of _ (by decide +kernel)) ggX9_look_X9_isTool
set_option maxRecDepth 20000 in
theorem ggX9_look_X9_looks : GoodIn wsX9_look wsX9_looks := goodIn_r _ [13, 14, 15, 6, 16, 17, 18, 4, 19, 20, 21, 22, 23, 24, 25, 26, 27, 28, 29, 30, 31, 32, 33, 34, 35, 36, 37, 38, 39, 40, 41, 42, 43, 44, 45, 46, 47, 48, 49, 50, 51, 52, 53, 54, 55, 56, 57, 58, 59, 60, 61, 62, 63, 64, 65, 66, 67, 68, 69, 70, 71, 72, 73, 74, 75, 76, 77, 78] (by decide +kernel) (by decide +kernel)
set_option maxRecDepth 20000 in
theorem gX9_look_X9_looks : GoodIn wsX9_look (wsV RX9 158 RX9 yX9_looks wsX9_looks) := goodIn_app (goodIn_of _ (by decide +kernel)) ggX9_look_X9_looks
theorem dX9_look_0 : decode cX9_look 0 = .ok (.aload_n 0, 1) := by decide +kernel
theorem dX9_look_1 : decode cX9_look 1 = .ok (.iload_n 1, 1) := by decide +kernel
theorem dX9_look_2 : decode cX9_look 2 = .ok (.invokevirtual 78, 3) := by decide +kernel
theorem dX9_look_5 : decode cX9_look 5 = .ok (.ifCond .eq 11, 3) := by decide +kernel
theorem dX9_look_8 : decode cX9_look 8 = .ok (.aload_n 0, 1) := by decide +kernel
theorem dX9_look_9 : decode cX9_look 9 = .ok (.iload_n 1, 1) := by decide +kernel
theorem dX9_look_10 : decode cX9_look 10 = .ok (.invokevirtual 158, 3) := by decide +kernel
theorem dX9_look_13 : decode cX9_look 13 = .ok (.goto 4, 3) := by decide +kernel
theorem dX9_look_16 : decode cX9_look 16 = .ok (.iconst (-1), 1) := by decide +kernel
theorem dX9_look_17 : decode cX9_look 17 = .ok (.ireturn, 1) := by decide +kernel
set_option maxRecDepth 20000 in
theorem ggX9_fee_X9_t : GoodIn wsX9_fee wsX9_t := goodIn_r _ [5, 6, 7, 8, 9, 10, 11, 12, 13, 14, 15, 16, 17, 18, 19, 20, 21, 22] (by decide +kernel) (by decide +kernel)
set_option maxRecDepth 20000 in
theorem gX9_fee_X9_t : GoodIn wsX9_fee (wsV RX9 81 RX9 yX9_t wsX9_t) := goodIn_app (goodIn_of _ (by decide +kernel)) ggX9_fee_X9_t
theorem dX9_fee_0 : decode cX9_fee 0 = .ok (.iload_n 2, 1) := by decide +kernel
theorem dX9_fee_1 : decode cX9_fee 1 = .ok (.aload_n 0, 1) := by decide +kernel
theorem dX9_fee_2 : decode cX9_fee 2 = .ok (.iload_n 1, 1) := by decide +kernel
theorem dX9_fee_3 : decode cX9_fee 3 = .ok (.iconst 4, 1) := by decide +kernel
theorem dX9_fee_4 : decode cX9_fee 4 = .ok (.invokevirtual 81, 3) := by decide +kernel
theorem dX9_fee_7 : decode cX9_fee 7 = .ok (.isub, 1) := by decide +kernel
theorem dX9_fee_8 : decode cX9_fee 8 = .ok (.istore_n 3, 1) := by decide +kernel
theorem dX9_fee_9 : decode cX9_fee 9 = .ok (.iload_n 3, 1) := by decide +kernel
theorem dX9_fee_10 : decode cX9_fee 10 = .ok (.ifCond .le 19, 3) := by decide +kernel
theorem dX9_fee_13 : decode cX9_fee 13 = .ok (.iload_n 3, 1) := by decide +kernel
theorem dX9_fee_14 : decode cX9_fee 14 = .ok (.iconst 1, 1) := by decide +kernel
theorem dX9_fee_15 : decode cX9_fee 15 = .ok (.aload_n 0, 1) := by decide +kernel
theorem dX9_fee_16 : decode cX9_fee 16 = .ok (.iload_n 1, 1) := by decide +kernel
theorem dX9_fee_17 : decode cX9_fee 17 = .ok (.iconst 0, 1) := by decide +kernel
theorem dX9_fee_18 : decode cX9_fee 18 = .ok (.invokevirtual 81, 3) := by decide +kernel
theorem dX9_fee_21 : decode cX9_fee 21 = .ok (.bipush 10, 2) := by decide +kernel
theorem dX9_fee_23 : decode cX9_fee 23 = .ok (.idiv, 1) := by decide +kernel
theorem dX9_fee_24 : decode cX9_fee 24 = .ok (.iadd, 1) := by decide +kernel
theorem dX9_fee_25 : decode cX9_fee 25 = .ok (.imul, 1) := by decide +kernel
theorem dX9_fee_26 : decode cX9_fee 26 = .ok (.goto 4, 3) := by decide +kernel
theorem dX9_fee_29 : decode cX9_fee 29 = .ok (.iconst 0, 1) := by decide +kernel
theorem dX9_fee_30 : decode cX9_fee 30 = .ok (.istore 4, 2) := by decide +kernel
theorem dX9_fee_32 : decode cX9_fee 32 = .ok (.iload 4, 2) := by decide +kernel
theorem dX9_fee_34 : decode cX9_fee 34 = .ok (.aload_n 0, 1) := by decide +kernel
theorem dX9_fee_35 : decode cX9_fee 35 = .ok (.iload_n 1, 1) := by decide +kernel
theorem dX9_fee_36 : decode cX9_fee 36 = .ok (.iconst 5, 1) := by decide +kernel
theorem dX9_fee_37 : decode cX9_fee 37 = .ok (.invokevirtual 81, 3) := by decide +kernel
theorem dX9_fee_40 : decode cX9_fee 40 = .ok (.if_icmp .ge 8, 3) := by decide +kernel
theorem dX9_fee_43 : decode cX9_fee 43 = .ok (.iload 4, 2) := by decide +kernel
theorem dX9_fee_45 : decode cX9_fee 45 = .ok (.goto 9, 3) := by decide +kernel
theorem dX9_fee_48 : decode cX9_fee 48 = .ok (.aload_n 0, 1) := by decide +kernel
theorem dX9_fee_49 : decode cX9_fee 49 = .ok (.iload_n 1, 1) := by decide +kernel
theorem dX9_fee_50 : decode cX9_fee 50 = .ok (.iconst 5, 1) := by decide +kernel
theorem dX9_fee_51 : decode cX9_fee 51 = .ok (.invokevirtual 81, 3) := by decide +kernel
theorem dX9_fee_54 : decode cX9_fee 54 = .ok (.ireturn, 1) := by decide +kernel
set_option maxRecDepth 20000 in
theorem ggX9_returned_X9_isTool : GoodIn wsX9_returned wsX9_isTool := goodIn_r _ [6, 1, 7, 8, 5, 9, 111, 112, 113, 114, 115, 116, 117, 118, 119, 120, 121, 122, 123, 124, 125, 126] (by decide +kernel) (by decide +kernel)
set_option maxRecDepth 20000 in
theorem gX9_returned_X9_isTool : GoodIn wsX9_returned (wsV RX9 78 RX9 yX9_isTool wsX9_isTool) := goodIn_app (goodIn_of _ (by decide +kernel)) ggX9_returned_X9_isTool
set_option maxRecDepth 20000 in
theorem ggX9_returned_X9_isOut : GoodIn wsX9_returned wsX9_isOut := goodIn_r _ [13, 14, 15, 16, 5, 17, 1, 111, 112, 113, 114, 115, 116, 117, 118, 119, 120, 121, 122, 123, 124, 125, 126] (by decide +kernel) (by decide +kernel)
set_option maxRecDepth 20000 in
theorem gX9_returned_X9_isOut : GoodIn wsX9_returned (wsV RX9 100 RX9 yX9_isOut wsX9_isOut) := goodIn_app (goodIn_of _ (by decide +kernel)) ggX9_returned_X9_isOut
set_option maxRecDepth 20000 in
theorem ggX9_returned_X9_looks : GoodIn wsX9_returned wsX9_looks := goodIn_r _ [21, 22, 23, 1, 24, 25, 26, 5, 27, 14, 15, 16, 17, 28, 29, 30, 31, 32, 33, 34, 35, 36, 37, 38, 39, 40, 41, 42, 43, 44, 45, 46, 47, 10, 11, 12, 13, 48, 49, 50, 51, 52, 53, 54, 55, 56, 57, 58, 59, 60, 61, 62, 111, 112, 113, 114, 115, 116, 117, 118, 119, 120, 121, 122, 123, 124, 125, 126] (by decide +kernel) (by decide +kernel)
set_option maxRecDepth 20000 in
theorem gX9_returned_X9_looks : GoodIn wsX9_returned (wsV RX9 158 RX9 yX9_looks wsX9_looks) := goodIn_app (goodIn_of _ (by decide +kernel)) ggX9_returned_X9_looks
set_option maxRecDepth 20000 in
theorem ggX9_returned_X9_t : GoodIn wsX9_returned wsX9_t := goodIn_r _ [17, 1, 111, 112, 113, 114, 115, 116, 117, 118, 119, 120, 121, 122, 123, 124, 125, 126] (by decide +kernel) (by decide +kernel)
set_option maxRecDepth 20000 in
theorem gX9_returned_X9_t : GoodIn wsX9_returned (wsV RX9 81 RX9 yX9_t wsX9_t) := goodIn_app (goodIn_of _ (by decide +kernel)) ggX9_returned_X9_t
set_option maxRecDepth 20000 in
theorem ggX9_returned_X9_fee : GoodIn wsX9_returned wsX9_fee := goodIn_r _ [66, 14, 15, 16, 5, 17, 1, 111, 112, 113, 114, 115, 116, 117, 118, 119, 120, 121, 122, 123, 124, 125, 126] (by decide +kernel) (by decide +kernel)
set_option maxRecDepth 20000 in
theorem gX9_returned_X9_fee : GoodIn wsX9_returned (wsV RX9 161 RX9 yX9_fee wsX9_fee) := goodIn_app (goodIn_of _ (by decide +kernel)) ggX9_returned_X9_fee
set_option maxRecDepth 20000 in
theorem ggX9_returned_X9_p : GoodIn wsX9_returned wsX9_p := goodIn_r _ [55, 1, 111, 112, 113, 114, 115, 116, 117, 118, 119, 120, 121, 122, 123, 124, 125, 126] (by decide +kernel) (by decide +kernel)
set_option maxRecDepth 20000 in
theorem gX9_returned_X9_p : GoodIn wsX9_returned (wsV RX9 53 RX9 yX9_p wsX9_p) := goodIn_app (goodIn_of _ (by decide +kernel)) ggX9_returned_X9_p
set_option maxRecDepth 20000 in
theorem ggX9_returned_X9_setP : GoodIn wsX9_returned wsX9_setP := goodIn_r _ [59, 1, 111, 112, 113, 114, 115, 116, 117, 118, 119, 120, 121, 122, 123, 124, 125, 126] (by decide +kernel) (by decide +kernel)
set_option maxRecDepth 20000 in
theorem gX9_returned_X9_setP : GoodIn wsX9_returned (wsV RX9 57 RX9 yX9_setP wsX9_setP) := goodIn_app (goodIn_of _ (by decide +kernel)) ggX9_returned_X9_setP
set_option maxRecDepth 20000 in
theorem ggX9_returned_X9_cut : GoodIn wsX9_returned wsX9_cut := goodIn_r _ [62] (by decide +kernel) (by decide +kernel)
set_option maxRecDepth 20000 in
theorem gX9_returned_X9_cut : GoodIn wsX9_returned (va_wsS RX9 155 yX9_cut wsX9_cut) := goodIn_app (goodIn_of _ (by decide +kernel)) ggX9_returned_X9_cut
set_option maxRecDepth 20000 in
theorem ggX9_returned_X9_setT : GoodIn wsX9_returned wsX9_setT := goodIn_r _ [47, 1, 111, 112, 113, 114, 115, 116, 117, 118, 119, 120, 121, 122, 123, 124, 125, 126] (by decide +kernel) (by decide +kernel)
set_option maxRecDepth 20000 in
theorem gX9_returned_X9_setT : GoodIn wsX9_returned (wsV RX9 93 RX9 yX9_setT wsX9_setT) := goodIn_app (goodIn_of _ (by decide +kernel)) ggX9_returned_X9_setT
set_option maxRecDepth 20000 in
theorem ggX9_returned_X9_ends : GoodIn wsX9_returned wsX9_ends := goodIn_r _ [70, 1, 14, 15, 16, 5, 17, 44, 45, 46, 47, 111, 112, 113, 114, 115, 116, 117, 118, 119, 120, 121, 122, 123, 124, 125, 126] (by decide +kernel) (by decide +kernel)
set_option maxRecDepth 20000 in
theorem gX9_returned_X9_ends : GoodIn wsX9_returned (wsV RX9 164 RX9 yX9_ends wsX9_ends) := goodIn_app (goodIn_of _ (by decide +kernel)) ggX9_returned_X9_ends
set_option maxRecDepth 20000 in
theorem ggX9_returned_X9_offered : GoodIn wsX9_returned wsX9_offered := goodIn_r _ [74, 75, 76, 77, 5, 78, 14, 15, 16, 17, 1, 79, 80, 81, 82, 83, 84, 85, 86, 87, 88, 89, 90, 91, 92, 93, 94, 95, 96, 97, 98, 52, 53, 54, 55, 99, 100, 101, 102, 44, 45, 46, 47, 103, 104, 105, 106, 56, 57, 58, 59, 107, 108, 109, 110, 40, 41, 42, 43, 111, 112, 113, 114, 115, 116, 117, 118, 119, 120, 121, 122, 123, 124, 125, 126] (by decide +kernel) (by decide +kernel)
set_option maxRecDepth 20000 in
theorem gX9_returned_X9_offered : GoodIn wsX9_returned (wsV RX9 167 RX9 yX9_offered wsX9_offered) := goodIn_app (goodIn_of _ (by decide +kernel)) ggX9_returned_X9_offered
theorem dX9_returned_0 : decode cX9_returned 0 = .ok (.aload_n 0, 1) := by decide +kernel
theorem dX9_returned_1 : decode cX9_returned 1 = .ok (.iload_n 1, 1) := by decide +kernel
theorem dX9_returned_2 : decode cX9_returned 2 = .ok (.invokevirtual 78, 3) := by decide +kernel
theorem dX9_returned_5 : decode cX9_returned 5 = .ok (.ifCond .ne 5, 3) := by decide +kernel
theorem dX9_returned_8 : decode cX9_returned 8 = .ok (.iconst (-1), 1) := by decide +kernel
theorem dX9_returned_9 : decode cX9_returned 9 = .ok (.ireturn, 1) := by decide +kernel
theorem dX9_returned_10 : decode cX9_returned 10 = .ok (.aload_n 0, 1) := by decide +kernel
theorem dX9_returned_11 : decode cX9_returned 11 = .ok (.iload_n 1, 1) := by decide +kernel
theorem dX9_returned_12 : decode cX9_returned 12 = .ok (.invokevirtual 100, 3) := by decide +kernel
theorem dX9_returned_15 : decode cX9_returned 15 = .ok (.ifCond .ne 6, 3) := by decide +kernel
theorem dX9_returned_18 : decode cX9_returned 18 = .ok (.bipush (-5), 2) := by decide +kernel
theorem dX9_returned_20 : decode cX9_returned 20 = .ok (.ireturn, 1) := by decide +kernel
theorem dX9_returned_21 : decode cX9_returned 21 = .ok (.aload_n 0, 1) := by decide +kernel
theorem dX9_returned_22 : decode cX9_returned 22 = .ok (.iload_n 1, 1) := by decide +kernel
theorem dX9_returned_23 : decode cX9_returned 23 = .ok (.invokevirtual 158, 3) := by decide +kernel
theorem dX9_returned_26 : decode cX9_returned 26 = .ok (.pop, 1) := by decide +kernel
theorem dX9_returned_27 : decode cX9_returned 27 = .ok (.aload_n 0, 1) := by decide +kernel
theorem dX9_returned_28 : decode cX9_returned 28 = .ok (.iload_n 1, 1) := by decide +kernel
theorem dX9_returned_29 : decode cX9_returned 29 = .ok (.iconst 2, 1) := by decide +kernel
theorem dX9_returned_30 : decode cX9_returned 30 = .ok (.invokevirtual 81, 3) := by decide +kernel
theorem dX9_returned_33 : decode cX9_returned 33 = .ok (.istore_n 2, 1) := by decide +kernel
theorem dX9_returned_34 : decode cX9_returned 34 = .ok (.aload_n 0, 1) := by decide +kernel
theorem dX9_returned_35 : decode cX9_returned 35 = .ok (.iload_n 1, 1) := by decide +kernel
theorem dX9_returned_36 : decode cX9_returned 36 = .ok (.aload_n 0, 1) := by decide +kernel
theorem dX9_returned_37 : decode cX9_returned 37 = .ok (.getfield 9, 3) := by decide +kernel
theorem dX9_returned_40 : decode cX9_returned 40 = .ok (.sipush 1082, 3) := by decide +kernel
theorem dX9_returned_43 : decode cX9_returned 43 = .ok (.iaload, 1) := by decide +kernel
theorem dX9_returned_44 : decode cX9_returned 44 = .ok (.invokevirtual 161, 3) := by decide +kernel
theorem dX9_returned_47 : decode cX9_returned 47 = .ok (.istore_n 3, 1) := by decide +kernel
theorem dX9_returned_48 : decode cX9_returned 48 = .ok (.aload_n 0, 1) := by decide +kernel
theorem dX9_returned_49 : decode cX9_returned 49 = .ok (.getfield 9, 3) := by decide +kernel
theorem dX9_returned_52 : decode cX9_returned 52 = .ok (.sipush 1082, 3) := by decide +kernel
theorem dX9_returned_55 : decode cX9_returned 55 = .ok (.iaload, 1) := by decide +kernel
theorem dX9_returned_56 : decode cX9_returned 56 = .ok (.aload_n 0, 1) := by decide +kernel
theorem dX9_returned_57 : decode cX9_returned 57 = .ok (.iload_n 1, 1) := by decide +kernel
theorem dX9_returned_58 : decode cX9_returned 58 = .ok (.iconst 4, 1) := by decide +kernel
theorem dX9_returned_59 : decode cX9_returned 59 = .ok (.invokevirtual 81, 3) := by decide +kernel
theorem dX9_returned_62 : decode cX9_returned 62 = .ok (.if_icmp .le 7, 3) := by decide +kernel
theorem dX9_returned_65 : decode cX9_returned 65 = .ok (.iconst 1, 1) := by decide +kernel
theorem dX9_returned_66 : decode cX9_returned 66 = .ok (.goto 4, 3) := by decide +kernel
theorem dX9_returned_69 : decode cX9_returned 69 = .ok (.iconst 0, 1) := by decide +kernel
theorem dX9_returned_70 : decode cX9_returned 70 = .ok (.istore 4, 2) := by decide +kernel
theorem dX9_returned_72 : decode cX9_returned 72 = .ok (.aload_n 0, 1) := by decide +kernel
theorem dX9_returned_73 : decode cX9_returned 73 = .ok (.getfield 9, 3) := by decide +kernel
theorem dX9_returned_76 : decode cX9_returned 76 = .ok (.sipush 1083, 3) := by decide +kernel
theorem dX9_returned_79 : decode cX9_returned 79 = .ok (.dup2, 1) := by decide +kernel
theorem dX9_returned_80 : decode cX9_returned 80 = .ok (.iaload, 1) := by decide +kernel
theorem dX9_returned_81 : decode cX9_returned 81 = .ok (.iload_n 3, 1) := by decide +kernel
theorem dX9_returned_82 : decode cX9_returned 82 = .ok (.iadd, 1) := by decide +kernel
theorem dX9_returned_83 : decode cX9_returned 83 = .ok (.iastore, 1) := by decide +kernel
theorem dX9_returned_84 : decode cX9_returned 84 = .ok (.aload_n 0, 1) := by decide +kernel
theorem dX9_returned_85 : decode cX9_returned 85 = .ok (.iload_n 2, 1) := by decide +kernel
theorem dX9_returned_86 : decode cX9_returned 86 = .ok (.iconst 1, 1) := by decide +kernel
theorem dX9_returned_87 : decode cX9_returned 87 = .ok (.aload_n 0, 1) := by decide +kernel
theorem dX9_returned_88 : decode cX9_returned 88 = .ok (.iload_n 2, 1) := by decide +kernel
theorem dX9_returned_89 : decode cX9_returned 89 = .ok (.iconst 1, 1) := by decide +kernel
theorem dX9_returned_90 : decode cX9_returned 90 = .ok (.invokevirtual 53, 3) := by decide +kernel
theorem dX9_returned_93 : decode cX9_returned 93 = .ok (.aload_n 0, 1) := by decide +kernel
theorem dX9_returned_94 : decode cX9_returned 94 = .ok (.iload_n 1, 1) := by decide +kernel
theorem dX9_returned_95 : decode cX9_returned 95 = .ok (.iconst 5, 1) := by decide +kernel
theorem dX9_returned_96 : decode cX9_returned 96 = .ok (.invokevirtual 81, 3) := by decide +kernel
theorem dX9_returned_99 : decode cX9_returned 99 = .ok (.iadd, 1) := by decide +kernel
theorem dX9_returned_100 : decode cX9_returned 100 = .ok (.iload_n 3, 1) := by decide +kernel
theorem dX9_returned_101 : decode cX9_returned 101 = .ok (.isub, 1) := by decide +kernel
theorem dX9_returned_102 : decode cX9_returned 102 = .ok (.invokevirtual 57, 3) := by decide +kernel
theorem dX9_returned_105 : decode cX9_returned 105 = .ok (.aload_n 0, 1) := by decide +kernel
theorem dX9_returned_106 : decode cX9_returned 106 = .ok (.iload_n 2, 1) := by decide +kernel
theorem dX9_returned_107 : decode cX9_returned 107 = .ok (.iconst 3, 1) := by decide +kernel
theorem dX9_returned_108 : decode cX9_returned 108 = .ok (.aload_n 0, 1) := by decide +kernel
theorem dX9_returned_109 : decode cX9_returned 109 = .ok (.iload_n 2, 1) := by decide +kernel
theorem dX9_returned_110 : decode cX9_returned 110 = .ok (.iconst 3, 1) := by decide +kernel
theorem dX9_returned_111 : decode cX9_returned 111 = .ok (.invokevirtual 53, 3) := by decide +kernel
theorem dX9_returned_114 : decode cX9_returned 114 = .ok (.iload 4, 2) := by decide +kernel
