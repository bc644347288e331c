set_option maxRecDepth 20000 in
theorem ggX0_init_X4_init : GoodIn wsX0_init wsX4_init := goodIn_r _ [10, 11, 2, 3, 12, 13, 14, 15, 16, 17, 18, 19, 20, 21, 22, 23] (by decide +kernel) (by decide +kernel)
set_option maxRecDepth 20000 in
theorem gX0_init_X4_init : GoodIn wsX0_init (wsX4_init) := ggX0_init_X4_init
theorem dX0_init_0 : decode cX0_init 0 = .ok (.aload_n 0, 1) := by decide +kernel
theorem dX0_init_1 : decode cX0_init 1 = .ok (.invokespecial 3, 3) := by decide +kernel
theorem dX0_init_4 : decode cX0_init 4 = .ok (.aload_n 0, 1) := by decide +kernel
theorem dX0_init_5 : decode cX0_init 5 = .ok (.new 9, 3) := by decide +kernel
theorem dX0_init_8 : decode cX0_init 8 = .ok (.dup, 1) := by decide +kernel
theorem dX0_init_9 : decode cX0_init 9 = .ok (.bipush 12, 2) := by decide +kernel
theorem dX0_init_11 : decode cX0_init 11 = .ok (.iconst 1, 1) := by decide +kernel
theorem dX0_init_12 : decode cX0_init 12 = .ok (.invokespecial 11, 3) := by decide +kernel
theorem dX0_init_15 : decode cX0_init 15 = .ok (.putfield 14, 3) := by decide +kernel
theorem dX0_init_18 : decode cX0_init 18 = .ok (.return_, 1) := by decide +kernel
set_option maxRecDepth 20000 in
theorem ggX0_findFor_X4_clear : GoodIn wsX0_findFor wsX4_clear := goodIn_r _ [14, 15, 56, 57, 58, 59] (by decide +kernel) (by decide +kernel)
set_option maxRecDepth 20000 in
theorem gX0_findFor_X4_clear : GoodIn wsX0_findFor (wsV RX0 20 RX4 yX4_clear wsX4_clear) := goodIn_app (goodIn_of _ (by decide +kernel)) ggX0_findFor_X4_clear
set_option maxRecDepth 20000 in
theorem ggX0_findFor_X4_size : GoodIn wsX0_findFor wsX4_size := goodIn_r _ [19, 15, 56, 57, 58, 59] (by decide +kernel) (by decide +kernel)
set_option maxRecDepth 20000 in
theorem gX0_findFor_X4_size : GoodIn wsX0_findFor (wsV RX0 32 RX4 yX4_size wsX4_size) := goodIn_app (goodIn_of _ (by decide +kernel)) ggX0_findFor_X4_size
set_option maxRecDepth 20000 in
theorem ggX0_findFor_X4_cell : GoodIn wsX0_findFor wsX4_cell := goodIn_r _ [23, 15, 24, 25, 56, 57, 58, 59] (by decide +kernel) (by decide +kernel)
set_option maxRecDepth 20000 in
theorem gX0_findFor_X4_cell : GoodIn wsX0_findFor (wsV RX0 36 RX4 yX4_cell wsX4_cell) := goodIn_app (goodIn_of _ (by decide +kernel)) ggX0_findFor_X4_cell
set_option maxRecDepth 20000 in
theorem ggX0_findFor_X0_addOnce : GoodIn wsX0_findFor wsX0_addOnce := goodIn_r _ [30, 2, 1, 31, 32, 33, 29, 34, 35, 36, 37, 13, 38, 15, 39, 25, 24, 40, 41, 42, 43, 44, 45, 56, 57, 58, 59] (by decide +kernel) (by decide +kernel)
set_option maxRecDepth 20000 in
theorem gX0_findFor_X0_addOnce : GoodIn wsX0_findFor (wsV RX0 51 RX0 yX0_addOnce wsX0_addOnce) := goodIn_app (goodIn_of _ (by decide +kernel)) ggX0_findFor_X0_addOnce
theorem dX0_findFor_0 : decode cX0_findFor 0 = .ok (.aload_n 0, 1) := by decide +kernel
theorem dX0_findFor_1 : decode cX0_findFor 1 = .ok (.getfield 14, 3) := by decide +kernel
theorem dX0_findFor_4 : decode cX0_findFor 4 = .ok (.invokevirtual 20, 3) := by decide +kernel
theorem dX0_findFor_7 : decode cX0_findFor 7 = .ok (.aload_n 0, 1) := by decide +kernel
theorem dX0_findFor_8 : decode cX0_findFor 8 = .ok (.iconst 0, 1) := by decide +kernel
theorem dX0_findFor_9 : decode cX0_findFor 9 = .ok (.putfield 23, 3) := by decide +kernel
theorem dX0_findFor_12 : decode cX0_findFor 12 = .ok (.aload_n 1, 1) := by decide +kernel
theorem dX0_findFor_13 : decode cX0_findFor 13 = .ok (.getfield 27, 3) := by decide +kernel
theorem dX0_findFor_16 : decode cX0_findFor 16 = .ok (.invokevirtual 32, 3) := by decide +kernel
theorem dX0_findFor_19 : decode cX0_findFor 19 = .ok (.iconst 1, 1) := by decide +kernel
theorem dX0_findFor_20 : decode cX0_findFor 20 = .ok (.isub, 1) := by decide +kernel
theorem dX0_findFor_21 : decode cX0_findFor 21 = .ok (.istore_n 2, 1) := by decide +kernel
theorem dX0_findFor_22 : decode cX0_findFor 22 = .ok (.aload_n 1, 1) := by decide +kernel
theorem dX0_findFor_23 : decode cX0_findFor 23 = .ok (.getfield 27, 3) := by decide +kernel
theorem dX0_findFor_26 : decode cX0_findFor 26 = .ok (.iload_n 2, 1) := by decide +kernel
theorem dX0_findFor_27 : decode cX0_findFor 27 = .ok (.iconst 2, 1) := by decide +kernel
theorem dX0_findFor_28 : decode cX0_findFor 28 = .ok (.invokevirtual 36, 3) := by decide +kernel
theorem dX0_findFor_31 : decode cX0_findFor 31 = .ok (.aload_n 1, 1) := by decide +kernel
theorem dX0_findFor_32 : decode cX0_findFor 32 = .ok (.getfield 27, 3) := by decide +kernel
theorem dX0_findFor_35 : decode cX0_findFor 35 = .ok (.iload_n 2, 1) := by decide +kernel
theorem dX0_findFor_36 : decode cX0_findFor 36 = .ok (.iconst 3, 1) := by decide +kernel
theorem dX0_findFor_37 : decode cX0_findFor 37 = .ok (.invokevirtual 36, 3) := by decide +kernel
theorem dX0_findFor_40 : decode cX0_findFor 40 = .ok (.isub, 1) := by decide +kernel
theorem dX0_findFor_41 : decode cX0_findFor 41 = .ok (.istore_n 3, 1) := by decide +kernel
theorem dX0_findFor_42 : decode cX0_findFor 42 = .ok (.aload_n 1, 1) := by decide +kernel
theorem dX0_findFor_43 : decode cX0_findFor 43 = .ok (.getfield 40, 3) := by decide +kernel
theorem dX0_findFor_46 : decode cX0_findFor 46 = .ok (.aload_n 1, 1) := by decide +kernel
theorem dX0_findFor_47 : decode cX0_findFor 47 = .ok (.getfield 43, 3) := by decide +kernel
theorem dX0_findFor_50 : decode cX0_findFor 50 = .ok (.invokevirtual 32, 3) := by decide +kernel
theorem dX0_findFor_53 : decode cX0_findFor 53 = .ok (.isub, 1) := by decide +kernel
theorem dX0_findFor_54 : decode cX0_findFor 54 = .ok (.istore 4, 2) := by decide +kernel
theorem dX0_findFor_56 : decode cX0_findFor 56 = .ok (.iload_n 3, 1) := by decide +kernel
theorem dX0_findFor_57 : decode cX0_findFor 57 = .ok (.iload 4, 2) := by decide +kernel
theorem dX0_findFor_59 : decode cX0_findFor 59 = .ok (.isub, 1) := by decide +kernel
theorem dX0_findFor_60 : decode cX0_findFor 60 = .ok (.iconst 0, 1) := by decide +kernel
theorem dX0_findFor_61 : decode cX0_findFor 61 = .ok (.invokestatic 46, 3) := by decide +kernel
theorem dX0_findFor_64 : decode cX0_findFor 64 = .ok (.istore 5, 2) := by decide +kernel
theorem dX0_findFor_66 : decode cX0_findFor 66 = .ok (.iload 5, 2) := by decide +kernel
theorem dX0_findFor_68 : decode cX0_findFor 68 = .ok (.aload_n 1, 1) := by decide +kernel
theorem dX0_findFor_69 : decode cX0_findFor 69 = .ok (.getfield 43, 3) := by decide +kernel
theorem dX0_findFor_72 : decode cX0_findFor 72 = .ok (.invokevirtual 32, 3) := by decide +kernel
theorem dX0_findFor_75 : decode cX0_findFor 75 = .ok (.if_icmp .ge 23, 3) := by decide +kernel
theorem dX0_findFor_78 : decode cX0_findFor 78 = .ok (.aload_n 0, 1) := by decide +kernel
theorem dX0_findFor_79 : decode cX0_findFor 79 = .ok (.aload_n 1, 1) := by decide +kernel
theorem dX0_findFor_80 : decode cX0_findFor 80 = .ok (.getfield 43, 3) := by decide +kernel
theorem dX0_findFor_83 : decode cX0_findFor 83 = .ok (.iload 5, 2) := by decide +kernel
theorem dX0_findFor_85 : decode cX0_findFor 85 = .ok (.iconst 0, 1) := by decide +kernel
theorem dX0_findFor_86 : decode cX0_findFor 86 = .ok (.invokevirtual 36, 3) := by decide +kernel
theorem dX0_findFor_89 : decode cX0_findFor 89 = .ok (.invokevirtual 51, 3) := by decide +kernel
theorem dX0_findFor_92 : decode cX0_findFor 92 = .ok (.iinc 5 1, 3) := by decide +kernel
theorem dX0_findFor_95 : decode cX0_findFor 95 = .ok (.goto (-29), 3) := by decide +kernel
theorem dX0_findFor_98 : decode cX0_findFor 98 = .ok (.return_, 1) := by decide +kernel
set_option maxRecDepth 20000 in
theorem ggX0_addOnce_X0_isBlamed : GoodIn wsX0_addOnce wsX0_isBlamed := goodIn_r _ [7, 1, 21, 22] (by decide +kernel) (by decide +kernel)
set_option maxRecDepth 20000 in
theorem gX0_addOnce_X0_isBlamed : GoodIn wsX0_addOnce (wsV RX0 55 RX0 yX0_isBlamed wsX0_isBlamed) := goodIn_app (goodIn_of _ (by decide +kernel)) ggX0_addOnce_X0_isBlamed
set_option maxRecDepth 20000 in
theorem ggX0_addOnce_X4_append : GoodIn wsX0_addOnce wsX4_append := goodIn_r _ [12, 13, 14, 15, 16, 23, 24, 25, 26] (by decide +kernel) (by decide +kernel)
set_option maxRecDepth 20000 in
theorem gX0_addOnce_X4_append : GoodIn wsX0_addOnce (wsV RX0 59 RX4 yX4_append wsX4_append) := goodIn_app (goodIn_of _ (by decide +kernel)) ggX0_addOnce_X4_append
set_option maxRecDepth 20000 in
theorem ggX0_addOnce_X4_setCell : GoodIn wsX0_addOnce wsX4_setCell := goodIn_r _ [20, 13, 16, 15, 23, 24, 25, 26] (by decide +kernel) (by decide +kernel)
set_option maxRecDepth 20000 in
theorem gX0_addOnce_X4_setCell : GoodIn wsX0_addOnce (wsV RX0 62 RX4 yX4_setCell wsX4_setCell) := goodIn_app (goodIn_of _ (by decide +kernel)) ggX0_addOnce_X4_setCell
theorem dX0_addOnce_0 : decode cX0_addOnce 0 = .ok (.aload_n 0, 1) := by decide +kernel
theorem dX0_addOnce_1 : decode cX0_addOnce 1 = .ok (.iload_n 1, 1) := by decide +kernel
theorem dX0_addOnce_2 : decode cX0_addOnce 2 = .ok (.invokevirtual 55, 3) := by decide +kernel
theorem dX0_addOnce_5 : decode cX0_addOnce 5 = .ok (.ifCond .ne 31, 3) := by decide +kernel
theorem dX0_addOnce_8 : decode cX0_addOnce 8 = .ok (.aload_n 0, 1) := by decide +kernel
theorem dX0_addOnce_9 : decode cX0_addOnce 9 = .ok (.dup, 1) := by decide +kernel
theorem dX0_addOnce_10 : decode cX0_addOnce 10 = .ok (.getfield 23, 3) := by decide +kernel
theorem dX0_addOnce_13 : decode cX0_addOnce 13 = .ok (.iconst 1, 1) := by decide +kernel
theorem dX0_addOnce_14 : decode cX0_addOnce 14 = .ok (.iload_n 1, 1) := by decide +kernel
theorem dX0_addOnce_15 : decode cX0_addOnce 15 = .ok (.ishl, 1) := by decide +kernel
theorem dX0_addOnce_16 : decode cX0_addOnce 16 = .ok (.ior, 1) := by decide +kernel
theorem dX0_addOnce_17 : decode cX0_addOnce 17 = .ok (.putfield 23, 3) := by decide +kernel
theorem dX0_addOnce_20 : decode cX0_addOnce 20 = .ok (.aload_n 0, 1) := by decide +kernel
theorem dX0_addOnce_21 : decode cX0_addOnce 21 = .ok (.getfield 14, 3) := by decide +kernel
theorem dX0_addOnce_24 : decode cX0_addOnce 24 = .ok (.aload_n 0, 1) := by decide +kernel
theorem dX0_addOnce_25 : decode cX0_addOnce 25 = .ok (.getfield 14, 3) := by decide +kernel
theorem dX0_addOnce_28 : decode cX0_addOnce 28 = .ok (.invokevirtual 59, 3) := by decide +kernel
theorem dX0_addOnce_31 : decode cX0_addOnce 31 = .ok (.iconst 0, 1) := by decide +kernel
theorem dX0_addOnce_32 : decode cX0_addOnce 32 = .ok (.iload_n 1, 1) := by decide +kernel
theorem dX0_addOnce_33 : decode cX0_addOnce 33 = .ok (.invokevirtual 62, 3) := by decide +kernel
theorem dX0_addOnce_36 : decode cX0_addOnce 36 = .ok (.return_, 1) := by decide +kernel
theorem dX0_isBlamed_0 : decode cX0_isBlamed 0 = .ok (.aload_n 0, 1) := by decide +kernel
theorem dX0_isBlamed_1 : decode cX0_isBlamed 1 = .ok (.getfield 23, 3) := by decide +kernel
theorem dX0_isBlamed_4 : decode cX0_isBlamed 4 = .ok (.iload_n 1, 1) := by decide +kernel
theorem dX0_isBlamed_5 : decode cX0_isBlamed 5 = .ok (.ishr, 1) := by decide +kernel
theorem dX0_isBlamed_6 : decode cX0_isBlamed 6 = .ok (.iconst 1, 1) := by decide +kernel
theorem dX0_isBlamed_7 : decode cX0_isBlamed 7 = .ok (.iand, 1) := by decide +kernel
theorem dX0_isBlamed_8 : decode cX0_isBlamed 8 = .ok (.iconst 1, 1) := by decide +kernel
theorem dX0_isBlamed_9 : decode cX0_isBlamed 9 = .ok (.if_icmp .ne 7, 3) := by decide +kernel
theorem dX0_isBlamed_12 : decode cX0_isBlamed 12 = .ok (.iconst 1, 1) := by decide +kernel
theorem dX0_isBlamed_13 : decode cX0_isBlamed 13 = .ok (.goto 4, 3) := by decide +kernel
theorem dX0_isBlamed_16 : decode cX0_isBlamed 16 = .ok (.iconst 0, 1) := by decide +kernel
theorem dX0_isBlamed_17 : decode cX0_isBlamed 17 = .ok (.ireturn, 1) := by decide +kernel
theorem dX0_bits_0 : decode cX0_bits 0 = .ok (.aload_n 0, 1) := by decide +kernel
theorem dX0_bits_1 : decode cX0_bits 1 = .ok (.getfield 23, 3) := by decide +kernel
theorem dX0_bits_4 : decode cX0_bits 4 = .ok (.ireturn, 1) := by decide +kernel
set_option maxRecDepth 20000 in
theorem ggX0_size_X4_size : GoodIn wsX0_size wsX4_size := goodIn_r _ [6, 7, 10, 11, 12, 13] (by decide +kernel) (by decide +kernel)
set_option maxRecDepth 20000 in
theorem gX0_size_X4_size : GoodIn wsX0_size (wsV RX0 32 RX4 yX4_size wsX4_size) := goodIn_app (goodIn_of _ (by decide +kernel)) ggX0_size_X4_size
theorem dX0_size_0 : decode cX0_size 0 = .ok (.aload_n 0, 1) := by decide +kernel
theorem dX0_size_1 : decode cX0_size 1 = .ok (.getfield 14, 3) := by decide +kernel
theorem dX0_size_4 : decode cX0_size 4 = .ok (.invokevirtual 32, 3) := by decide +kernel
theorem dX0_size_7 : decode cX0_size 7 = .ok (.ireturn, 1) := by decide +kernel
set_option maxRecDepth 20000 in
theorem ggX0_personAt_X4_cell : GoodIn wsX0_personAt wsX4_cell := goodIn_r _ [6, 7, 8, 9, 12, 13, 14, 15] (by decide +kernel) (by decide +kernel)
set_option maxRecDepth 20000 in
theorem gX0_personAt_X4_cell : GoodIn wsX0_personAt (wsV RX0 36 RX4 yX4_cell wsX4_cell) := goodIn_app (goodIn_of _ (by decide +kernel)) ggX0_personAt_X4_cell
theorem dX0_personAt_0 : decode cX0_personAt 0 = .ok (.aload_n 0, 1) := by decide +kernel
theorem dX0_personAt_1 : decode cX0_personAt 1 = .ok (.getfield 14, 3) := by decide +kernel
theorem dX0_personAt_4 : decode cX0_personAt 4 = .ok (.iload_n 1, 1) := by decide +kernel
theorem dX0_personAt_5 : decode cX0_personAt 5 = .ok (.iconst 0, 1) := by decide +kernel
theorem dX0_personAt_6 : decode cX0_personAt 6 = .ok (.invokevirtual 36, 3) := by decide +kernel
theorem dX0_personAt_9 : decode cX0_personAt 9 = .ok (.ireturn, 1) := by decide +kernel
set_option maxRecDepth 20000 in
theorem ggX0_shareOf_X4_size : GoodIn wsX0_shareOf wsX4_size := goodIn_r _ [6, 7, 26, 27, 28, 29] (by decide +kernel) (by decide +kernel)
set_option maxRecDepth 20000 in
theorem gX0_shareOf_X4_size : GoodIn wsX0_shareOf (wsV RX0 32 RX4 yX4_size wsX4_size) := goodIn_app (goodIn_of _ (by decide +kernel)) ggX0_shareOf_X4_size
set_option maxRecDepth 20000 in
theorem ggX0_shareOf_X0_isBlamed : GoodIn wsX0_shareOf wsX0_isBlamed := goodIn_r _ [12, 13, 24, 25] (by decide +kernel) (by decide +kernel)
set_option maxRecDepth 20000 in
theorem gX0_shareOf_X0_isBlamed : GoodIn wsX0_shareOf (wsV RX0 55 RX0 yX0_isBlamed wsX0_isBlamed) := goodIn_app (goodIn_of _ (by decide +kernel)) ggX0_shareOf_X0_isBlamed
set_option maxRecDepth 20000 in
theorem ggX0_shareOf_X0_personAt : GoodIn wsX0_shareOf wsX0_personAt := goodIn_r _ [17, 1, 18, 19, 20, 5, 21, 7, 22, 23, 24, 25, 26, 27, 28, 29] (by decide +kernel) (by decide +kernel)
set_option maxRecDepth 20000 in
theorem gX0_shareOf_X0_personAt : GoodIn wsX0_shareOf (wsV RX0 66 RX0 yX0_personAt wsX0_personAt) := goodIn_app (goodIn_of _ (by decide +kernel)) ggX0_shareOf_X0_personAt
theorem dX0_shareOf_0 : decode cX0_shareOf 0 = .ok (.aload_n 0, 1) := by decide +kernel
theorem dX0_shareOf_1 : decode cX0_shareOf 1 = .ok (.getfield 14, 3) := by decide +kernel
theorem dX0_shareOf_4 : decode cX0_shareOf 4 = .ok (.invokevirtual 32, 3) := by decide +kernel
theorem dX0_shareOf_7 : decode cX0_shareOf 7 = .ok (.istore_n 3, 1) := by decide +kernel
theorem dX0_shareOf_8 : decode cX0_shareOf 8 = .ok (.iload_n 3, 1) := by decide +kernel
theorem dX0_shareOf_9 : decode cX0_shareOf 9 = .ok (.ifCond .le 11, 3) := by decide +kernel
theorem dX0_shareOf_12 : decode cX0_shareOf 12 = .ok (.aload_n 0, 1) := by decide +kernel
theorem dX0_shareOf_13 : decode cX0_shareOf 13 = .ok (.iload_n 1, 1) := by decide +kernel
theorem dX0_shareOf_14 : decode cX0_shareOf 14 = .ok (.invokevirtual 55, 3) := by decide +kernel
theorem dX0_shareOf_17 : decode cX0_shareOf 17 = .ok (.ifCond .ne 5, 3) := by decide +kernel
theorem dX0_shareOf_20 : decode cX0_shareOf 20 = .ok (.iconst 0, 1) := by decide +kernel
theorem dX0_shareOf_21 : decode cX0_shareOf 21 = .ok (.ireturn, 1) := by decide +kernel
theorem dX0_shareOf_22 : decode cX0_shareOf 22 = .ok (.iload_n 2, 1) := by decide +kernel
theorem dX0_shareOf_23 : decode cX0_shareOf 23 = .ok (.iload_n 3, 1) := by decide +kernel
theorem dX0_shareOf_24 : decode cX0_shareOf 24 = .ok (.idiv, 1) := by decide +kernel
theorem dX0_shareOf_25 : decode cX0_shareOf 25 = .ok (.istore 4, 2) := by decide +kernel
theorem dX0_shareOf_27 : decode cX0_shareOf 27 = .ok (.iload_n 1, 1) := by decide +kernel
theorem dX0_shareOf_28 : decode cX0_shareOf 28 = .ok (.aload_n 0, 1) := by decide +kernel
theorem dX0_shareOf_29 : decode cX0_shareOf 29 = .ok (.iconst 0, 1) := by decide +kernel
theorem dX0_shareOf_30 : decode cX0_shareOf 30 = .ok (.invokevirtual 66, 3) := by decide +kernel
theorem dX0_shareOf_33 : decode cX0_shareOf 33 = .ok (.if_icmp .ne 14, 3) := by decide +kernel
theorem dX0_shareOf_36 : decode cX0_shareOf 36 = .ok (.iload_n 2, 1) := by decide +kernel
theorem dX0_shareOf_37 : decode cX0_shareOf 37 = .ok (.iload 4, 2) := by decide +kernel
theorem dX0_shareOf_39 : decode cX0_shareOf 39 = .ok (.iload_n 3, 1) := by decide +kernel
theorem dX0_shareOf_40 : decode cX0_shareOf 40 = .ok (.iconst 1, 1) := by decide +kernel
theorem dX0_shareOf_41 : decode cX0_shareOf 41 = .ok (.isub, 1) := by decide +kernel
theorem dX0_shareOf_42 : decode cX0_shareOf 42 = .ok (.imul, 1) := by decide +kernel
theorem dX0_shareOf_43 : decode cX0_shareOf 43 = .ok (.isub, 1) := by decide +kernel
theorem dX0_shareOf_44 : decode cX0_shareOf 44 = .ok (.goto 5, 3) := by decide +kernel
theorem dX0_shareOf_47 : decode cX0_shareOf 47 = .ok (.iload 4, 2) := by decide +kernel
theorem dX0_shareOf_49 : decode cX0_shareOf 49 = .ok (.ireturn, 1) := by decide +kernel
set_option maxRecDepth 20000 in
theorem ggX1_init_X4_init : GoodIn wsX1_init wsX4_init := goodIn_r _ [11, 12, 2, 3, 13, 14, 15, 16, 17, 18, 19, 20, 24, 25, 26, 27] (by decide +kernel) (by decide +kernel)
set_option maxRecDepth 20000 in
theorem gX1_init_X4_init : GoodIn wsX1_init (wsX4_init) := ggX1_init_X4_init
theorem dX1_init_0 : decode cX1_init 0 = .ok (.aload_n 0, 1) := by decide +kernel
theorem dX1_init_1 : decode cX1_init 1 = .ok (.invokespecial 3, 3) := by decide +kernel
theorem dX1_init_4 : decode cX1_init 4 = .ok (.aload_n 0, 1) := by decide +kernel
theorem dX1_init_5 : decode cX1_init 5 = .ok (.iconst 0, 1) := by decide +kernel
theorem dX1_init_6 : decode cX1_init 6 = .ok (.putfield 9, 3) := by decide +kernel
theorem dX1_init_9 : decode cX1_init 9 = .ok (.aload_n 0, 1) := by decide +kernel
theorem dX1_init_10 : decode cX1_init 10 = .ok (.new 15, 3) := by decide +kernel
theorem dX1_init_13 : decode cX1_init 13 = .ok (.dup, 1) := by decide +kernel
theorem dX1_init_14 : decode cX1_init 14 = .ok (.bipush 60, 2) := by decide +kernel
theorem dX1_init_16 : decode cX1_init 16 = .ok (.iconst 1, 1) := by decide +kernel
theorem dX1_init_17 : decode cX1_init 17 = .ok (.invokespecial 17, 3) := by decide +kernel
theorem dX1_init_20 : decode cX1_init 20 = .ok (.putfield 20, 3) := by decide +kernel
theorem dX1_init_23 : decode cX1_init 23 = .ok (.return_, 1) := by decide +kernel
theorem dX1_take_0 : decode cX1_take 0 = .ok (.aload_n 0, 1) := by decide +kernel
theorem dX1_take_1 : decode cX1_take 1 = .ok (.iload_n 1, 1) := by decide +kernel
theorem dX1_take_2 : decode cX1_take 2 = .ok (.putfield 9, 3) := by decide +kernel
theorem dX1_take_5 : decode cX1_take 5 = .ok (.aload_n 0, 1) := by decide +kernel
theorem dX1_take_6 : decode cX1_take 6 = .ok (.iload_n 2, 1) := by decide +kernel
theorem dX1_take_7 : decode cX1_take 7 = .ok (.putfield 24, 3) := by decide +kernel
theorem dX1_take_10 : decode cX1_take 10 = .ok (.return_, 1) := by decide +kernel
set_option maxRecDepth 20000 in
theorem ggX2_init_X3_init : GoodIn wsX2_init wsX3_init := goodIn_r _ [19, 20, 2, 3, 21, 22, 60, 61, 62, 63, 64, 65] (by decide +kernel) (by decide +kernel)
set_option maxRecDepth 20000 in
theorem gX2_init_X3_init_n23 : GoodIn wsX2_init (wsX3_init) := ggX2_init_X3_init
set_option maxRecDepth 20000 in
theorem ggX2_init_X7_init : GoodIn wsX2_init wsX7_init := goodIn_r _ [24, 25, 2, 3, 26, 27, 28, 29, 30, 31, 32, 33, 34, 35, 36, 37, 38, 39, 40, 41, 21, 42, 78, 79, 80, 81, 66, 67, 68, 69, 70, 71, 72, 73, 74, 75] (by decide +kernel) (by decide +kernel)
set_option maxRecDepth 20000 in
theorem gX2_init_X7_init_n28 : GoodIn wsX2_init (wsX7_init) := ggX2_init_X7_init
set_option maxRecDepth 20000 in
theorem ggX2_init_X0_init : GoodIn wsX2_init wsX0_init := goodIn_r _ [44, 45, 2, 3, 46, 27, 28, 47, 48, 33, 34, 35, 36, 37, 38, 39, 40, 41, 21, 42, 78, 79, 80, 81, 76, 77] (by decide +kernel) (by decide +kernel)
set_option maxRecDepth 20000 in
theorem gX2_init_X0_init_n35 : GoodIn wsX2_init (wsX0_init) := ggX2_init_X0_init
theorem dX2_init_0 : decode cX2_init 0 = .ok (.aload_n 0, 1) := by decide +kernel
theorem dX2_init_1 : decode cX2_init 1 = .ok (.invokespecial 3, 3) := by decide +kernel
theorem dX2_init_4 : decode cX2_init 4 = .ok (.aload_n 0, 1) := by decide +kernel
theorem dX2_init_5 : decode cX2_init 5 = .ok (.bipush 12, 2) := by decide +kernel
theorem dX2_init_7 : decode cX2_init 7 = .ok (.anewarray 9, 3) := by decide +kernel
theorem dX2_init_10 : decode cX2_init 10 = .ok (.putfield 11, 3) := by decide +kernel
theorem dX2_init_13 : decode cX2_init 13 = .ok (.aload_n 0, 1) := by decide +kernel
theorem dX2_init_14 : decode cX2_init 14 = .ok (.bipush 10, 2) := by decide +kernel
theorem dX2_init_16 : decode cX2_init 16 = .ok (.anewarray 17, 3) := by decide +kernel
theorem dX2_init_19 : decode cX2_init 19 = .ok (.putfield 19, 3) := by decide +kernel
theorem dX2_init_22 : decode cX2_init 22 = .ok (.aload_n 0, 1) := by decide +kernel
theorem dX2_init_23 : decode cX2_init 23 = .ok (.new 9, 3) := by decide +kernel
theorem dX2_init_26 : decode cX2_init 26 = .ok (.dup, 1) := by decide +kernel
theorem dX2_init_27 : decode cX2_init 27 = .ok (.invokespecial 23, 3) := by decide +kernel
theorem dX2_init_30 : decode cX2_init 30 = .ok (.putfield 24, 3) := by decide +kernel
theorem dX2_init_33 : decode cX2_init 33 = .ok (.aload_n 0, 1) := by decide +kernel
theorem dX2_init_34 : decode cX2_init 34 = .ok (.new 17, 3) := by decide +kernel
theorem dX2_init_37 : decode cX2_init 37 = .ok (.dup, 1) := by decide +kernel
theorem dX2_init_38 : decode cX2_init 38 = .ok (.invokespecial 28, 3) := by decide +kernel
theorem dX2_init_41 : decode cX2_init 41 = .ok (.putfield 29, 3) := by decide +kernel
theorem dX2_init_44 : decode cX2_init 44 = .ok (.aload_n 0, 1) := by decide +kernel
theorem dX2_init_45 : decode cX2_init 45 = .ok (.new 33, 3) := by decide +kernel
theorem dX2_init_48 : decode cX2_init 48 = .ok (.dup, 1) := by decide +kernel
theorem dX2_init_49 : decode cX2_init 49 = .ok (.invokespecial 35, 3) := by decide +kernel
theorem dX2_init_52 : decode cX2_init 52 = .ok (.putfield 36, 3) := by decide +kernel
theorem dX2_init_55 : decode cX2_init 55 = .ok (.iconst 0, 1) := by decide +kernel
theorem dX2_init_56 : decode cX2_init 56 = .ok (.istore_n 1, 1) := by decide +kernel
theorem dX2_init_57 : decode cX2_init 57 = .ok (.iload_n 1, 1) := by decide +kernel
theorem dX2_init_58 : decode cX2_init 58 = .ok (.aload_n 0, 1) := by decide +kernel
theorem dX2_init_59 : decode cX2_init 59 = .ok (.getfield 11, 3) := by decide +kernel
theorem dX2_init_62 : decode cX2_init 62 = .ok (.arraylength, 1) := by decide +kernel
theorem dX2_init_63 : decode cX2_init 63 = .ok (.if_icmp .ge 22, 3) := by decide +kernel
theorem dX2_init_66 : decode cX2_init 66 = .ok (.aload_n 0, 1) := by decide +kernel
theorem dX2_init_67 : decode cX2_init 67 = .ok (.getfield 11, 3) := by decide +kernel
theorem dX2_init_70 : decode cX2_init 70 = .ok (.iload_n 1, 1) := by decide +kernel
theorem dX2_init_71 : decode cX2_init 71 = .ok (.new 9, 3) := by decide +kernel
theorem dX2_init_74 : decode cX2_init 74 = .ok (.dup, 1) := by decide +kernel
theorem dX2_init_75 : decode cX2_init 75 = .ok (.invokespecial 23, 3) := by decide +kernel
theorem dX2_init_78 : decode cX2_init 78 = .ok (.aastore, 1) := by decide +kernel
theorem dX2_init_79 : decode cX2_init 79 = .ok (.iinc 1 1, 3) := by decide +kernel
theorem dX2_init_82 : decode cX2_init 82 = .ok (.goto (-25), 3) := by decide +kernel
theorem dX2_init_85 : decode cX2_init 85 = .ok (.iconst 0, 1) := by decide +kernel
theorem dX2_init_86 : decode cX2_init 86 = .ok (.istore_n 1, 1) := by decide +kernel
theorem dX2_init_87 : decode cX2_init 87 = .ok (.iload_n 1, 1) := by decide +kernel
theorem dX2_init_88 : decode cX2_init 88 = .ok (.aload_n 0, 1) := by decide +kernel
theorem dX2_init_89 : decode cX2_init 89 = .ok (.getfield 19, 3) := by decide +kernel
theorem dX2_init_92 : decode cX2_init 92 = .ok (.arraylength, 1) := by decide +kernel
theorem dX2_init_93 : decode cX2_init 93 = .ok (.if_icmp .ge 22, 3) := by decide +kernel
theorem dX2_init_96 : decode cX2_init 96 = .ok (.aload_n 0, 1) := by decide +kernel
theorem dX2_init_97 : decode cX2_init 97 = .ok (.getfield 19, 3) := by decide +kernel
theorem dX2_init_100 : decode cX2_init 100 = .ok (.iload_n 1, 1) := by decide +kernel
theorem dX2_init_101 : decode cX2_init 101 = .ok (.new 17, 3) := by decide +kernel
theorem dX2_init_104 : decode cX2_init 104 = .ok (.dup, 1) := by decide +kernel
theorem dX2_init_105 : decode cX2_init 105 = .ok (.invokespecial 28, 3) := by decide +kernel
theorem dX2_init_108 : decode cX2_init 108 = .ok (.aastore, 1) := by decide +kernel
theorem dX2_init_109 : decode cX2_init 109 = .ok (.iinc 1 1, 3) := by decide +kernel
theorem dX2_init_112 : decode cX2_init 112 = .ok (.goto (-25), 3) := by decide +kernel
theorem dX2_init_115 : decode cX2_init 115 = .ok (.return_, 1) := by decide +kernel
theorem dX2_isPerson_0 : decode cX2_isPerson 0 = .ok (.iload_n 1, 1) := by decide +kernel
theorem dX2_isPerson_1 : decode cX2_isPerson 1 = .ok (.ifCond .lt 15, 3) := by decide +kernel
theorem dX2_isPerson_4 : decode cX2_isPerson 4 = .ok (.iload_n 1, 1) := by decide +kernel
theorem dX2_isPerson_5 : decode cX2_isPerson 5 = .ok (.aload_n 0, 1) := by decide +kernel
theorem dX2_isPerson_6 : decode cX2_isPerson 6 = .ok (.getfield 40, 3) := by decide +kernel
theorem dX2_isPerson_9 : decode cX2_isPerson 9 = .ok (.if_icmp .ge 7, 3) := by decide +kernel
theorem dX2_isPerson_12 : decode cX2_isPerson 12 = .ok (.iconst 1, 1) := by decide +kernel
theorem dX2_isPerson_13 : decode cX2_isPerson 13 = .ok (.goto 4, 3) := by decide +kernel
theorem dX2_isPerson_16 : decode cX2_isPerson 16 = .ok (.iconst 0, 1) := by decide +kernel
theorem dX2_isPerson_17 : decode cX2_isPerson 17 = .ok (.ireturn, 1) := by decide +kernel
theorem dX2_isTool_0 : decode cX2_isTool 0 = .ok (.iload_n 1, 1) := by decide +kernel
theorem dX2_isTool_1 : decode cX2_isTool 1 = .ok (.ifCond .lt 15, 3) := by decide +kernel
theorem dX2_isTool_4 : decode cX2_isTool 4 = .ok (.iload_n 1, 1) := by decide +kernel
theorem dX2_isTool_5 : decode cX2_isTool 5 = .ok (.aload_n 0, 1) := by decide +kernel
theorem dX2_isTool_6 : decode cX2_isTool 6 = .ok (.getfield 44, 3) := by decide +kernel
theorem dX2_isTool_9 : decode cX2_isTool 9 = .ok (.if_icmp .ge 7, 3) := by decide +kernel
theorem dX2_isTool_12 : decode cX2_isTool 12 = .ok (.iconst 1, 1) := by decide +kernel
theorem dX2_isTool_13 : decode cX2_isTool 13 = .ok (.goto 4, 3) := by decide +kernel
theorem dX2_isTool_16 : decode cX2_isTool 16 = .ok (.iconst 0, 1) := by decide +kernel
theorem dX2_isTool_17 : decode cX2_isTool 17 = .ok (.ireturn, 1) := by decide +kernel
theorem dX2_personAt_0 : decode cX2_personAt 0 = .ok (.iload_n 1, 1) := by decide +kernel
theorem dX2_personAt_1 : decode cX2_personAt 1 = .ok (.ifCond .lt 21, 3) := by decide +kernel
theorem dX2_personAt_4 : decode cX2_personAt 4 = .ok (.iload_n 1, 1) := by decide +kernel
theorem dX2_personAt_5 : decode cX2_personAt 5 = .ok (.aload_n 0, 1) := by decide +kernel
theorem dX2_personAt_6 : decode cX2_personAt 6 = .ok (.getfield 11, 3) := by decide +kernel
theorem dX2_personAt_9 : decode cX2_personAt 9 = .ok (.arraylength, 1) := by decide +kernel
theorem dX2_personAt_10 : decode cX2_personAt 10 = .ok (.if_icmp .ge 12, 3) := by decide +kernel
theorem dX2_personAt_13 : decode cX2_personAt 13 = .ok (.aload_n 0, 1) := by decide +kernel
theorem dX2_personAt_14 : decode cX2_personAt 14 = .ok (.getfield 11, 3) := by decide +kernel
theorem dX2_personAt_17 : decode cX2_personAt 17 = .ok (.iload_n 1, 1) := by decide +kernel
theorem dX2_personAt_18 : decode cX2_personAt 18 = .ok (.aaload, 1) := by decide +kernel
theorem dX2_personAt_19 : decode cX2_personAt 19 = .ok (.goto 7, 3) := by decide +kernel
theorem dX2_personAt_22 : decode cX2_personAt 22 = .ok (.aload_n 0, 1) := by decide +kernel
theorem dX2_personAt_23 : decode cX2_personAt 23 = .ok (.getfield 24, 3) := by decide +kernel
theorem dX2_personAt_26 : decode cX2_personAt 26 = .ok (.areturn, 1) := by decide +kernel
theorem dX2_toolAt_0 : decode cX2_toolAt 0 = .ok (.iload_n 1, 1) := by decide +kernel
theorem dX2_toolAt_1 : decode cX2_toolAt 1 = .ok (.ifCond .lt 21, 3) := by decide +kernel
theorem dX2_toolAt_4 : decode cX2_toolAt 4 = .ok (.iload_n 1, 1) := by decide +kernel
theorem dX2_toolAt_5 : decode cX2_toolAt 5 = .ok (.aload_n 0, 1) := by decide +kernel
theorem dX2_toolAt_6 : decode cX2_toolAt 6 = .ok (.getfield 19, 3) := by decide +kernel
theorem dX2_toolAt_9 : decode cX2_toolAt 9 = .ok (.arraylength, 1) := by decide +kernel
theorem dX2_toolAt_10 : decode cX2_toolAt 10 = .ok (.if_icmp .ge 12, 3) := by decide +kernel
theorem dX2_toolAt_13 : decode cX2_toolAt 13 = .ok (.aload_n 0, 1) := by decide +kernel
theorem dX2_toolAt_14 : decode cX2_toolAt 14 = .ok (.getfield 19, 3) := by decide +kernel
theorem dX2_toolAt_17 : decode cX2_toolAt 17 = .ok (.iload_n 1, 1) := by decide +kernel
theorem dX2_toolAt_18 : decode cX2_toolAt 18 = .ok (.aaload, 1) := by decide +kernel
theorem dX2_toolAt_19 : decode cX2_toolAt 19 = .ok (.goto 7, 3) := by decide +kernel
theorem dX2_toolAt_22 : decode cX2_toolAt 22 = .ok (.aload_n 0, 1) := by decide +kernel
theorem dX2_toolAt_23 : decode cX2_toolAt 23 = .ok (.getfield 29, 3) := by decide +kernel
theorem dX2_toolAt_26 : decode cX2_toolAt 26 = .ok (.areturn, 1) := by decide +kernel
set_option maxRecDepth 20000 in
theorem ggX2_copyFrom_X2_personAt : GoodIn wsX2_copyFrom wsX2_personAt := goodIn_r _ [11, 12, 13, 75, 76, 77, 78, 79, 80, 81, 82, 83, 84, 85] (by decide +kernel) (by decide +kernel)
set_option maxRecDepth 20000 in
theorem gX2_copyFrom_X2_personAt : GoodIn wsX2_copyFrom (wsV RX2 59 RX2 yX2_personAt wsX2_personAt) := goodIn_app (goodIn_of _ (by decide +kernel)) ggX2_copyFrom_X2_personAt
set_option maxRecDepth 20000 in
theorem ggX2_copyFrom_X3_copyFrom : GoodIn wsX2_copyFrom wsX3_copyFrom := goodIn_r _ [18, 19, 20, 21, 22, 23, 24, 25, 26, 17, 27, 28, 29, 30, 31, 32, 86, 87, 88, 89, 90, 91] (by decide +kernel) (by decide +kernel)
set_option maxRecDepth 20000 in
theorem gX2_copyFrom_X3_copyFrom : GoodIn wsX2_copyFrom (wsV RX2 63 RX3 yX3_copyFrom wsX3_copyFrom) := goodIn_app (goodIn_of _ (by decide +kernel)) ggX2_copyFrom_X3_copyFrom
set_option maxRecDepth 20000 in
theorem ggX2_copyFrom_X2_toolAt : GoodIn wsX2_copyFrom wsX2_toolAt := goodIn_r _ [36, 37, 38, 75, 76, 77, 78, 79, 80, 81, 82, 83, 84, 85] (by decide +kernel) (by decide +kernel)
set_option maxRecDepth 20000 in
theorem gX2_copyFrom_X2_toolAt : GoodIn wsX2_copyFrom (wsV RX2 67 RX2 yX2_toolAt wsX2_toolAt) := goodIn_app (goodIn_of _ (by decide +kernel)) ggX2_copyFrom_X2_toolAt
set_option maxRecDepth 20000 in
theorem ggX2_copyFrom_X7_copyFrom : GoodIn wsX2_copyFrom wsX7_copyFrom := goodIn_r _ [43, 44, 45, 46, 47, 48, 49, 50, 51, 52, 53, 54, 55, 56, 57, 58, 59, 60, 61, 62, 63, 64, 65, 66, 67, 68, 69, 70, 71, 72, 73, 74, 92, 93, 94, 95, 96, 97, 98, 99, 100, 101, 102, 103, 104, 105] (by decide +kernel) (by decide +kernel)
set_option maxRecDepth 20000 in
theorem gX2_copyFrom_X7_copyFrom : GoodIn wsX2_copyFrom (wsV RX2 71 RX7 yX7_copyFrom wsX7_copyFrom) := goodIn_app (goodIn_of _ (by decide +kernel)) ggX2_copyFrom_X7_copyFrom
theorem dX2_copyFrom_0 : decode cX2_copyFrom 0 = .ok (.aload_n 0, 1) := by decide +kernel
theorem dX2_copyFrom_1 : decode cX2_copyFrom 1 = .ok (.aload_n 1, 1) := by decide +kernel
theorem dX2_copyFrom_2 : decode cX2_copyFrom 2 = .ok (.getfield 40, 3) := by decide +kernel
theorem dX2_copyFrom_5 : decode cX2_copyFrom 5 = .ok (.putfield 40, 3) := by decide +kernel
theorem dX2_copyFrom_8 : decode cX2_copyFrom 8 = .ok (.aload_n 0, 1) := by decide +kernel
theorem dX2_copyFrom_9 : decode cX2_copyFrom 9 = .ok (.aload_n 1, 1) := by decide +kernel
theorem dX2_copyFrom_10 : decode cX2_copyFrom 10 = .ok (.getfield 44, 3) := by decide +kernel
theorem dX2_copyFrom_13 : decode cX2_copyFrom 13 = .ok (.putfield 44, 3) := by decide +kernel
theorem dX2_copyFrom_16 : decode cX2_copyFrom 16 = .ok (.aload_n 0, 1) := by decide +kernel
theorem dX2_copyFrom_17 : decode cX2_copyFrom 17 = .ok (.aload_n 1, 1) := by decide +kernel
theorem dX2_copyFrom_18 : decode cX2_copyFrom 18 = .ok (.getfield 47, 3) := by decide +kernel
theorem dX2_copyFrom_21 : decode cX2_copyFrom 21 = .ok (.putfield 47, 3) := by decide +kernel
theorem dX2_copyFrom_24 : decode cX2_copyFrom 24 = .ok (.aload_n 0, 1) := by decide +kernel
theorem dX2_copyFrom_25 : decode cX2_copyFrom 25 = .ok (.aload_n 1, 1) := by decide +kernel
theorem dX2_copyFrom_26 : decode cX2_copyFrom 26 = .ok (.getfield 50, 3) := by decide +kernel
theorem dX2_copyFrom_29 : decode cX2_copyFrom 29 = .ok (.putfield 50, 3) := by decide +kernel
theorem dX2_copyFrom_32 : decode cX2_copyFrom 32 = .ok (.aload_n 0, 1) := by decide +kernel
theorem dX2_copyFrom_33 : decode cX2_copyFrom 33 = .ok (.aload_n 1, 1) := by decide +kernel
theorem dX2_copyFrom_34 : decode cX2_copyFrom 34 = .ok (.getfield 53, 3) := by decide +kernel
theorem dX2_copyFrom_37 : decode cX2_copyFrom 37 = .ok (.putfield 53, 3) := by decide +kernel
theorem dX2_copyFrom_40 : decode cX2_copyFrom 40 = .ok (.aload_n 0, 1) := by decide +kernel
theorem dX2_copyFrom_41 : decode cX2_copyFrom 41 = .ok (.aload_n 1, 1) := by decide +kernel
theorem dX2_copyFrom_42 : decode cX2_copyFrom 42 = .ok (.getfield 56, 3) := by decide +kernel
theorem dX2_copyFrom_45 : decode cX2_copyFrom 45 = .ok (.putfield 56, 3) := by decide +kernel
theorem dX2_copyFrom_48 : decode cX2_copyFrom 48 = .ok (.iconst 0, 1) := by decide +kernel
theorem dX2_copyFrom_49 : decode cX2_copyFrom 49 = .ok (.istore_n 2, 1) := by decide +kernel
theorem dX2_copyFrom_50 : decode cX2_copyFrom 50 = .ok (.iload_n 2, 1) := by decide +kernel
theorem dX2_copyFrom_51 : decode cX2_copyFrom 51 = .ok (.aload_n 0, 1) := by decide +kernel
theorem dX2_copyFrom_52 : decode cX2_copyFrom 52 = .ok (.getfield 40, 3) := by decide +kernel
theorem dX2_copyFrom_55 : decode cX2_copyFrom 55 = .ok (.if_icmp .ge 22, 3) := by decide +kernel
theorem dX2_copyFrom_58 : decode cX2_copyFrom 58 = .ok (.aload_n 0, 1) := by decide +kernel
theorem dX2_copyFrom_59 : decode cX2_copyFrom 59 = .ok (.iload_n 2, 1) := by decide +kernel
theorem dX2_copyFrom_60 : decode cX2_copyFrom 60 = .ok (.invokevirtual 59, 3) := by decide +kernel
theorem dX2_copyFrom_63 : decode cX2_copyFrom 63 = .ok (.aload_n 1, 1) := by decide +kernel
theorem dX2_copyFrom_64 : decode cX2_copyFrom 64 = .ok (.iload_n 2, 1) := by decide +kernel
theorem dX2_copyFrom_65 : decode cX2_copyFrom 65 = .ok (.invokevirtual 59, 3) := by decide +kernel
theorem dX2_copyFrom_68 : decode cX2_copyFrom 68 = .ok (.invokevirtual 63, 3) := by decide +kernel
theorem dX2_copyFrom_71 : decode cX2_copyFrom 71 = .ok (.iinc 2 1, 3) := by decide +kernel
theorem dX2_copyFrom_74 : decode cX2_copyFrom 74 = .ok (.goto (-24), 3) := by decide +kernel
theorem dX2_copyFrom_77 : decode cX2_copyFrom 77 = .ok (.iconst 0, 1) := by decide +kernel
theorem dX2_copyFrom_78 : decode cX2_copyFrom 78 = .ok (.istore_n 2, 1) := by decide +kernel
theorem dX2_copyFrom_79 : decode cX2_copyFrom 79 = .ok (.iload_n 2, 1) := by decide +kernel
theorem dX2_copyFrom_80 : decode cX2_copyFrom 80 = .ok (.aload_n 0, 1) := by decide +kernel
theorem dX2_copyFrom_81 : decode cX2_copyFrom 81 = .ok (.getfield 44, 3) := by decide +kernel
theorem dX2_copyFrom_84 : decode cX2_copyFrom 84 = .ok (.if_icmp .ge 22, 3) := by decide +kernel
theorem dX2_copyFrom_87 : decode cX2_copyFrom 87 = .ok (.aload_n 0, 1) := by decide +kernel
theorem dX2_copyFrom_88 : decode cX2_copyFrom 88 = .ok (.iload_n 2, 1) := by decide +kernel
theorem dX2_copyFrom_89 : decode cX2_copyFrom 89 = .ok (.invokevirtual 67, 3) := by decide +kernel
theorem dX2_copyFrom_92 : decode cX2_copyFrom 92 = .ok (.aload_n 1, 1) := by decide +kernel
theorem dX2_copyFrom_93 : decode cX2_copyFrom 93 = .ok (.iload_n 2, 1) := by decide +kernel
theorem dX2_copyFrom_94 : decode cX2_copyFrom 94 = .ok (.invokevirtual 67, 3) := by decide +kernel
theorem dX2_copyFrom_97 : decode cX2_copyFrom 97 = .ok (.invokevirtual 71, 3) := by decide +kernel
theorem dX2_copyFrom_100 : decode cX2_copyFrom 100 = .ok (.iinc 2 1, 3) := by decide +kernel
theorem dX2_copyFrom_103 : decode cX2_copyFrom 103 = .ok (.goto (-24), 3) := by decide +kernel
theorem dX2_copyFrom_106 : decode cX2_copyFrom 106 = .ok (.return_, 1) := by decide +kernel
set_option maxRecDepth 20000 in
theorem ggX2_enterPerson_X2_isName : GoodIn wsX2_enterPerson wsX2_isName := goodIn_r _ [6] (by decide +kernel) (by decide +kernel)
set_option maxRecDepth 20000 in
theorem gX2_enterPerson_X2_isName : GoodIn wsX2_enterPerson (va_wsS RX2 74 yX2_isName wsX2_isName) := goodIn_app (goodIn_of _ (by decide +kernel)) ggX2_enterPerson_X2_isName
set_option maxRecDepth 20000 in
theorem ggX2_enterPerson_X2_personAt : GoodIn wsX2_enterPerson wsX2_personAt := goodIn_r _ [10, 11, 12, 24, 25, 26, 27, 28, 29, 30, 31, 32, 33, 34] (by decide +kernel) (by decide +kernel)
set_option maxRecDepth 20000 in
theorem gX2_enterPerson_X2_personAt : GoodIn wsX2_enterPerson (wsV RX2 59 RX2 yX2_personAt wsX2_personAt) := goodIn_app (goodIn_of _ (by decide +kernel)) ggX2_enterPerson_X2_personAt
set_option maxRecDepth 20000 in
theorem ggX2_enterPerson_X3_comeIn : GoodIn wsX2_enterPerson wsX3_comeIn := goodIn_r _ [17, 18, 19, 20, 21, 22, 23, 35, 36, 37, 38, 39, 40] (by decide +kernel) (by decide +kernel)
set_option maxRecDepth 20000 in
theorem gX2_enterPerson_X3_comeIn : GoodIn wsX2_enterPerson (wsV RX2 81 RX3 yX3_comeIn wsX3_comeIn) := goodIn_app (goodIn_of _ (by decide +kernel)) ggX2_enterPerson_X3_comeIn
theorem dX2_enterPerson_0 : decode cX2_enterPerson 0 = .ok (.iload_n 1, 1) := by decide +kernel
theorem dX2_enterPerson_1 : decode cX2_enterPerson 1 = .ok (.invokestatic 74, 3) := by decide +kernel
theorem dX2_enterPerson_4 : decode cX2_enterPerson 4 = .ok (.ifCond .eq 14, 3) := by decide +kernel
theorem dX2_enterPerson_7 : decode cX2_enterPerson 7 = .ok (.iload_n 2, 1) := by decide +kernel
theorem dX2_enterPerson_8 : decode cX2_enterPerson 8 = .ok (.ifCond .lt 10, 3) := by decide +kernel
theorem dX2_enterPerson_11 : decode cX2_enterPerson 11 = .ok (.iload_n 2, 1) := by decide +kernel
theorem dX2_enterPerson_12 : decode cX2_enterPerson 12 = .ok (.sipush 9999, 3) := by decide +kernel
theorem dX2_enterPerson_15 : decode cX2_enterPerson 15 = .ok (.if_icmp .le 5, 3) := by decide +kernel
theorem dX2_enterPerson_18 : decode cX2_enterPerson 18 = .ok (.iconst (-1), 1) := by decide +kernel
theorem dX2_enterPerson_19 : decode cX2_enterPerson 19 = .ok (.ireturn, 1) := by decide +kernel
theorem dX2_enterPerson_20 : decode cX2_enterPerson 20 = .ok (.iconst 0, 1) := by decide +kernel
theorem dX2_enterPerson_21 : decode cX2_enterPerson 21 = .ok (.istore_n 3, 1) := by decide +kernel
theorem dX2_enterPerson_22 : decode cX2_enterPerson 22 = .ok (.iload_n 3, 1) := by decide +kernel
theorem dX2_enterPerson_23 : decode cX2_enterPerson 23 = .ok (.aload_n 0, 1) := by decide +kernel
theorem dX2_enterPerson_24 : decode cX2_enterPerson 24 = .ok (.getfield 40, 3) := by decide +kernel
theorem dX2_enterPerson_27 : decode cX2_enterPerson 27 = .ok (.if_icmp .ge 24, 3) := by decide +kernel
theorem dX2_enterPerson_30 : decode cX2_enterPerson 30 = .ok (.aload_n 0, 1) := by decide +kernel
theorem dX2_enterPerson_31 : decode cX2_enterPerson 31 = .ok (.iload_n 3, 1) := by decide +kernel
theorem dX2_enterPerson_32 : decode cX2_enterPerson 32 = .ok (.invokevirtual 59, 3) := by decide +kernel
theorem dX2_enterPerson_35 : decode cX2_enterPerson 35 = .ok (.getfield 78, 3) := by decide +kernel
theorem dX2_enterPerson_38 : decode cX2_enterPerson 38 = .ok (.iload_n 1, 1) := by decide +kernel
theorem dX2_enterPerson_39 : decode cX2_enterPerson 39 = .ok (.if_icmp .ne 6, 3) := by decide +kernel
theorem dX2_enterPerson_42 : decode cX2_enterPerson 42 = .ok (.bipush (-5), 2) := by decide +kernel
theorem dX2_enterPerson_44 : decode cX2_enterPerson 44 = .ok (.ireturn, 1) := by decide +kernel
theorem dX2_enterPerson_45 : decode cX2_enterPerson 45 = .ok (.iinc 3 1, 3) := by decide +kernel
theorem dX2_enterPerson_48 : decode cX2_enterPerson 48 = .ok (.goto (-26), 3) := by decide +kernel
theorem dX2_enterPerson_51 : decode cX2_enterPerson 51 = .ok (.aload_n 0, 1) := by decide +kernel
theorem dX2_enterPerson_52 : decode cX2_enterPerson 52 = .ok (.getfield 40, 3) := by decide +kernel
theorem dX2_enterPerson_55 : decode cX2_enterPerson 55 = .ok (.bipush 12, 2) := by decide +kernel
theorem dX2_enterPerson_57 : decode cX2_enterPerson 57 = .ok (.if_icmp .lt 6, 3) := by decide +kernel
theorem dX2_enterPerson_60 : decode cX2_enterPerson 60 = .ok (.bipush (-3), 2) := by decide +kernel
theorem dX2_enterPerson_62 : decode cX2_enterPerson 62 = .ok (.ireturn, 1) := by decide +kernel
theorem dX2_enterPerson_63 : decode cX2_enterPerson 63 = .ok (.aload_n 0, 1) := by decide +kernel
theorem dX2_enterPerson_64 : decode cX2_enterPerson 64 = .ok (.aload_n 0, 1) := by decide +kernel
theorem dX2_enterPerson_65 : decode cX2_enterPerson 65 = .ok (.getfield 40, 3) := by decide +kernel
theorem dX2_enterPerson_68 : decode cX2_enterPerson 68 = .ok (.invokevirtual 59, 3) := by decide +kernel
theorem dX2_enterPerson_71 : decode cX2_enterPerson 71 = .ok (.iload_n 1, 1) := by decide +kernel
theorem dX2_enterPerson_72 : decode cX2_enterPerson 72 = .ok (.iload_n 2, 1) := by decide +kernel
theorem dX2_enterPerson_73 : decode cX2_enterPerson 73 = .ok (.invokevirtual 81, 3) := by decide +kernel
theorem dX2_enterPerson_76 : decode cX2_enterPerson 76 = .ok (.aload_n 0, 1) := by decide +kernel
theorem dX2_enterPerson_77 : decode cX2_enterPerson 77 = .ok (.dup, 1) := by decide +kernel
theorem dX2_enterPerson_78 : decode cX2_enterPerson 78 = .ok (.getfield 40, 3) := by decide +kernel
theorem dX2_enterPerson_81 : decode cX2_enterPerson 81 = .ok (.iconst 1, 1) := by decide +kernel
theorem dX2_enterPerson_82 : decode cX2_enterPerson 82 = .ok (.iadd, 1) := by decide +kernel
theorem dX2_enterPerson_83 : decode cX2_enterPerson 83 = .ok (.putfield 40, 3) := by decide +kernel
theorem dX2_enterPerson_86 : decode cX2_enterPerson 86 = .ok (.aload_n 0, 1) := by decide +kernel
theorem dX2_enterPerson_87 : decode cX2_enterPerson 87 = .ok (.getfield 40, 3) := by decide +kernel
theorem dX2_enterPerson_90 : decode cX2_enterPerson 90 = .ok (.iconst 1, 1) := by decide +kernel
theorem dX2_enterPerson_91 : decode cX2_enterPerson 91 = .ok (.isub, 1) := by decide +kernel
theorem dX2_enterPerson_92 : decode cX2_enterPerson 92 = .ok (.ireturn, 1) := by decide +kernel
theorem dX2_isName_0 : decode cX2_isName 0 = .ok (.iload_n 0, 1) := by decide +kernel
theorem dX2_isName_1 : decode cX2_isName 1 = .ok (.iconst 1, 1) := by decide +kernel
theorem dX2_isName_2 : decode cX2_isName 2 = .ok (.if_icmp .lt 10, 3) := by decide +kernel
theorem dX2_isName_5 : decode cX2_isName 5 = .ok (.iload_n 0, 1) := by decide +kernel
theorem dX2_isName_6 : decode cX2_isName 6 = .ok (.sipush 19683, 3) := by decide +kernel
theorem dX2_isName_9 : decode cX2_isName 9 = .ok (.if_icmp .lt 5, 3) := by decide +kernel
theorem dX2_isName_12 : decode cX2_isName 12 = .ok (.iconst 0, 1) := by decide +kernel
theorem dX2_isName_13 : decode cX2_isName 13 = .ok (.ireturn, 1) := by decide +kernel
theorem dX2_isName_14 : decode cX2_isName 14 = .ok (.iload_n 0, 1) := by decide +kernel
theorem dX2_isName_15 : decode cX2_isName 15 = .ok (.istore_n 1, 1) := by decide +kernel
theorem dX2_isName_16 : decode cX2_isName 16 = .ok (.iload_n 1, 1) := by decide +kernel
theorem dX2_isName_17 : decode cX2_isName 17 = .ok (.ifCond .le 20, 3) := by decide +kernel
theorem dX2_isName_20 : decode cX2_isName 20 = .ok (.iload_n 1, 1) := by decide +kernel
theorem dX2_isName_21 : decode cX2_isName 21 = .ok (.bipush 27, 2) := by decide +kernel
theorem dX2_isName_23 : decode cX2_isName 23 = .ok (.irem, 1) := by decide +kernel
theorem dX2_isName_24 : decode cX2_isName 24 = .ok (.ifCond .ne 5, 3) := by decide +kernel
theorem dX2_isName_27 : decode cX2_isName 27 = .ok (.iconst 0, 1) := by decide +kernel
theorem dX2_isName_28 : decode cX2_isName 28 = .ok (.ireturn, 1) := by decide +kernel
theorem dX2_isName_29 : decode cX2_isName 29 = .ok (.iload_n 1, 1) := by decide +kernel
theorem dX2_isName_30 : decode cX2_isName 30 = .ok (.bipush 27, 2) := by decide +kernel
theorem dX2_isName_32 : decode cX2_isName 32 = .ok (.idiv, 1) := by decide +kernel
theorem dX2_isName_33 : decode cX2_isName 33 = .ok (.istore_n 1, 1) := by decide +kernel
theorem dX2_isName_34 : decode cX2_isName 34 = .ok (.goto (-18), 3) := by decide +kernel
theorem dX2_isName_37 : decode cX2_isName 37 = .ok (.iconst 1, 1) := by decide +kernel
theorem dX2_isName_38 : decode cX2_isName 38 = .ok (.ireturn, 1) := by decide +kernel
set_option maxRecDepth 20000 in
theorem ggX2_enterTool_X2_toolAt : GoodIn wsX2_enterTool wsX2_toolAt := goodIn_r _ [7, 8, 9, 54, 55, 56, 57, 58, 59, 60, 61, 62, 63, 64] (by decide +kernel) (by decide +kernel)
set_option maxRecDepth 20000 in
theorem gX2_enterTool_X2_toolAt : GoodIn wsX2_enterTool (wsV RX2 67 RX2 yX2_toolAt wsX2_toolAt) := goodIn_app (goodIn_of _ (by decide +kernel)) ggX2_enterTool_X2_toolAt
set_option maxRecDepth 20000 in
theorem ggX2_enterTool_X7_comeIn : GoodIn wsX2_enterTool wsX7_comeIn := goodIn_r _ [14, 15, 16, 17, 18, 19, 20, 21, 22, 23, 24, 25, 26, 27, 28, 29, 13, 30, 31, 32, 33, 34, 35, 36, 37, 38, 39, 40, 41, 42, 43, 44, 45, 46, 47, 48, 49, 50, 51, 52, 53, 65, 66, 67, 68, 69, 70, 71, 72, 73, 74, 75, 76, 77, 78] (by decide +kernel) (by decide +kernel)
set_option maxRecDepth 20000 in
theorem gX2_enterTool_X7_comeIn : GoodIn wsX2_enterTool (wsV RX2 85 RX7 yX7_comeIn wsX7_comeIn) := goodIn_app (goodIn_of _ (by decide +kernel)) ggX2_enterTool_X7_comeIn
theorem dX2_enterTool_0 : decode cX2_enterTool 0 = .ok (.iload_n 1, 1) := by decide +kernel
theorem dX2_enterTool_1 : decode cX2_enterTool 1 = .ok (.iconst 1, 1) := by decide +kernel
theorem dX2_enterTool_2 : decode cX2_enterTool 2 = .ok (.if_icmp .lt 9, 3) := by decide +kernel
theorem dX2_enterTool_5 : decode cX2_enterTool 5 = .ok (.iload_n 1, 1) := by decide +kernel
theorem dX2_enterTool_6 : decode cX2_enterTool 6 = .ok (.bipush 99, 2) := by decide +kernel
theorem dX2_enterTool_8 : decode cX2_enterTool 8 = .ok (.if_icmp .le 5, 3) := by decide +kernel
theorem dX2_enterTool_11 : decode cX2_enterTool 11 = .ok (.iconst (-1), 1) := by decide +kernel
theorem dX2_enterTool_12 : decode cX2_enterTool 12 = .ok (.ireturn, 1) := by decide +kernel
theorem dX2_enterTool_13 : decode cX2_enterTool 13 = .ok (.aload_n 0, 1) := by decide +kernel
theorem dX2_enterTool_14 : decode cX2_enterTool 14 = .ok (.getfield 44, 3) := by decide +kernel
theorem dX2_enterTool_17 : decode cX2_enterTool 17 = .ok (.bipush 10, 2) := by decide +kernel
theorem dX2_enterTool_19 : decode cX2_enterTool 19 = .ok (.if_icmp .lt 6, 3) := by decide +kernel
theorem dX2_enterTool_22 : decode cX2_enterTool 22 = .ok (.bipush (-3), 2) := by decide +kernel
theorem dX2_enterTool_24 : decode cX2_enterTool 24 = .ok (.ireturn, 1) := by decide +kernel
theorem dX2_enterTool_25 : decode cX2_enterTool 25 = .ok (.aload_n 0, 1) := by decide +kernel
theorem dX2_enterTool_26 : decode cX2_enterTool 26 = .ok (.aload_n 0, 1) := by decide +kernel
theorem dX2_enterTool_27 : decode cX2_enterTool 27 = .ok (.getfield 44, 3) := by decide +kernel
theorem dX2_enterTool_30 : decode cX2_enterTool 30 = .ok (.invokevirtual 67, 3) := by decide +kernel
theorem dX2_enterTool_33 : decode cX2_enterTool 33 = .ok (.iload_n 1, 1) := by decide +kernel
theorem dX2_enterTool_34 : decode cX2_enterTool 34 = .ok (.aload_n 0, 1) := by decide +kernel
theorem dX2_enterTool_35 : decode cX2_enterTool 35 = .ok (.getfield 47, 3) := by decide +kernel
theorem dX2_enterTool_38 : decode cX2_enterTool 38 = .ok (.invokevirtual 85, 3) := by decide +kernel
theorem dX2_enterTool_41 : decode cX2_enterTool 41 = .ok (.aload_n 0, 1) := by decide +kernel
theorem dX2_enterTool_42 : decode cX2_enterTool 42 = .ok (.dup, 1) := by decide +kernel
theorem dX2_enterTool_43 : decode cX2_enterTool 43 = .ok (.getfield 44, 3) := by decide +kernel
theorem dX2_enterTool_46 : decode cX2_enterTool 46 = .ok (.iconst 1, 1) := by decide +kernel
theorem dX2_enterTool_47 : decode cX2_enterTool 47 = .ok (.iadd, 1) := by decide +kernel
theorem dX2_enterTool_48 : decode cX2_enterTool 48 = .ok (.putfield 44, 3) := by decide +kernel
theorem dX2_enterTool_51 : decode cX2_enterTool 51 = .ok (.aload_n 0, 1) := by decide +kernel
theorem dX2_enterTool_52 : decode cX2_enterTool 52 = .ok (.getfield 44, 3) := by decide +kernel
theorem dX2_enterTool_55 : decode cX2_enterTool 55 = .ok (.iconst 1, 1) := by decide +kernel
theorem dX2_enterTool_56 : decode cX2_enterTool 56 = .ok (.isub, 1) := by decide +kernel
theorem dX2_enterTool_57 : decode cX2_enterTool 57 = .ok (.ireturn, 1) := by decide +kernel
set_option maxRecDepth 20000 in
theorem ggX2_setWish_X2_isPerson : GoodIn wsX2_setWish wsX2_isPerson := goodIn_r _ [5, 6, 28, 29, 30, 31, 32, 33, 34, 35, 36, 37, 38] (by decide +kernel) (by decide +kernel)
set_option maxRecDepth 20000 in
theorem gX2_setWish_X2_isPerson : GoodIn wsX2_setWish (wsV RX2 86 RX2 yX2_isPerson wsX2_isPerson) := goodIn_app (goodIn_of _ (by decide +kernel)) ggX2_setWish_X2_isPerson
set_option maxRecDepth 20000 in
theorem ggX2_setWish_X2_isTool : GoodIn wsX2_setWish wsX2_isTool := goodIn_r _ [10, 11, 28, 29, 30, 31, 32, 33, 34, 35, 36, 37, 38] (by decide +kernel) (by decide +kernel)
set_option maxRecDepth 20000 in
theorem gX2_setWish_X2_isTool : GoodIn wsX2_setWish (wsV RX2 89 RX2 yX2_isTool wsX2_isTool) := goodIn_app (goodIn_of _ (by decide +kernel)) ggX2_setWish_X2_isTool
set_option maxRecDepth 20000 in
theorem ggX2_setWish_X2_personAt : GoodIn wsX2_setWish wsX2_personAt := goodIn_r _ [15, 16, 17, 28, 29, 30, 31, 32, 33, 34, 35, 36, 37, 38] (by decide +kernel) (by decide +kernel)
set_option maxRecDepth 20000 in
theorem gX2_setWish_X2_personAt : GoodIn wsX2_setWish (wsV RX2 59 RX2 yX2_personAt wsX2_personAt) := goodIn_app (goodIn_of _ (by decide +kernel)) ggX2_setWish_X2_personAt
set_option maxRecDepth 20000 in
theorem ggX2_setWish_X3_wishOf : GoodIn wsX2_setWish wsX3_wishOf := goodIn_r _ [22, 23, 39, 40, 41, 42, 43, 44] (by decide +kernel) (by decide +kernel)
set_option maxRecDepth 20000 in
theorem gX2_setWish_X3_wishOf : GoodIn wsX2_setWish (wsV RX2 92 RX3 yX3_wishOf wsX3_wishOf) := goodIn_app (goodIn_of _ (by decide +kernel)) ggX2_setWish_X3_wishOf
set_option maxRecDepth 20000 in
theorem ggX2_setWish_X3_setWishOf : GoodIn wsX2_setWish wsX3_setWishOf := goodIn_r _ [27, 23, 39, 40, 41, 42, 43, 44] (by decide +kernel) (by decide +kernel)
set_option maxRecDepth 20000 in
theorem gX2_setWish_X3_setWishOf : GoodIn wsX2_setWish (wsV RX2 96 RX3 yX3_setWishOf wsX3_setWishOf) := goodIn_app (goodIn_of _ (by decide +kernel)) ggX2_setWish_X3_setWishOf
theorem dX2_setWish_0 : decode cX2_setWish 0 = .ok (.aload_n 0, 1) := by decide +kernel
theorem dX2_setWish_1 : decode cX2_setWish 1 = .ok (.iload_n 1, 1) := by decide +kernel
theorem dX2_setWish_2 : decode cX2_setWish 2 = .ok (.invokevirtual 86, 3) := by decide +kernel
theorem dX2_setWish_5 : decode cX2_setWish 5 = .ok (.ifCond .eq 21, 3) := by decide +kernel
theorem dX2_setWish_8 : decode cX2_setWish 8 = .ok (.aload_n 0, 1) := by decide +kernel
theorem dX2_setWish_9 : decode cX2_setWish 9 = .ok (.iload_n 2, 1) := by decide +kernel
theorem dX2_setWish_10 : decode cX2_setWish 10 = .ok (.invokevirtual 89, 3) := by decide +kernel
theorem dX2_setWish_13 : decode cX2_setWish 13 = .ok (.ifCond .eq 13, 3) := by decide +kernel
theorem dX2_setWish_16 : decode cX2_setWish 16 = .ok (.iload_n 3, 1) := by decide +kernel
theorem dX2_setWish_17 : decode cX2_setWish 17 = .ok (.ifCond .lt 9, 3) := by decide +kernel
theorem dX2_setWish_20 : decode cX2_setWish 20 = .ok (.iload_n 3, 1) := by decide +kernel
theorem dX2_setWish_21 : decode cX2_setWish 21 = .ok (.bipush 9, 2) := by decide +kernel
theorem dX2_setWish_23 : decode cX2_setWish 23 = .ok (.if_icmp .le 5, 3) := by decide +kernel
theorem dX2_setWish_26 : decode cX2_setWish 26 = .ok (.iconst (-1), 1) := by decide +kernel
theorem dX2_setWish_27 : decode cX2_setWish 27 = .ok (.ireturn, 1) := by decide +kernel
theorem dX2_setWish_28 : decode cX2_setWish 28 = .ok (.aload_n 0, 1) := by decide +kernel
theorem dX2_setWish_29 : decode cX2_setWish 29 = .ok (.iload_n 1, 1) := by decide +kernel
theorem dX2_setWish_30 : decode cX2_setWish 30 = .ok (.invokevirtual 59, 3) := by decide +kernel
theorem dX2_setWish_33 : decode cX2_setWish 33 = .ok (.iload_n 2, 1) := by decide +kernel
theorem dX2_setWish_34 : decode cX2_setWish 34 = .ok (.invokevirtual 92, 3) := by decide +kernel
theorem dX2_setWish_37 : decode cX2_setWish 37 = .ok (.istore 4, 2) := by decide +kernel
theorem dX2_setWish_39 : decode cX2_setWish 39 = .ok (.aload_n 0, 1) := by decide +kernel
theorem dX2_setWish_40 : decode cX2_setWish 40 = .ok (.iload_n 1, 1) := by decide +kernel
theorem dX2_setWish_41 : decode cX2_setWish 41 = .ok (.invokevirtual 59, 3) := by decide +kernel
theorem dX2_setWish_44 : decode cX2_setWish 44 = .ok (.iload_n 2, 1) := by decide +kernel
theorem dX2_setWish_45 : decode cX2_setWish 45 = .ok (.iload_n 3, 1) := by decide +kernel
theorem dX2_setWish_46 : decode cX2_setWish 46 = .ok (.invokevirtual 96, 3) := by decide +kernel
theorem dX2_setWish_49 : decode cX2_setWish 49 = .ok (.iload 4, 2) := by decide +kernel
theorem dX2_setWish_51 : decode cX2_setWish 51 = .ok (.ireturn, 1) := by decide +kernel
set_option maxRecDepth 20000 in
theorem ggX2_bringCoins_X2_isPerson : GoodIn wsX2_bringCoins wsX2_isPerson := goodIn_r _ [12, 13, 26, 27, 28, 29, 30, 31, 32, 33, 34, 35, 36] (by decide +kernel) (by decide +kernel)
set_option maxRecDepth 20000 in
theorem gX2_bringCoins_X2_isPerson : GoodIn wsX2_bringCoins (wsV RX2 86 RX2 yX2_isPerson wsX2_isPerson) := goodIn_app (goodIn_of _ (by decide +kernel)) ggX2_bringCoins_X2_isPerson
set_option maxRecDepth 20000 in
theorem ggX2_bringCoins_X2_personAt : GoodIn wsX2_bringCoins wsX2_personAt := goodIn_r _ [17, 18, 19, 26, 27, 28, 29, 30, 31, 32, 33, 34, 35, 36] (by decide +kernel) (by decide +kernel)
set_option maxRecDepth 20000 in
theorem gX2_bringCoins_X2_personAt : GoodIn wsX2_bringCoins (wsV RX2 59 RX2 yX2_personAt wsX2_personAt) := goodIn_app (goodIn_of _ (by decide +kernel)) ggX2_bringCoins_X2_personAt
theorem dX2_bringCoins_0 : decode cX2_bringCoins 0 = .ok (.aload_n 0, 1) := by decide +kernel
theorem dX2_bringCoins_1 : decode cX2_bringCoins 1 = .ok (.iload_n 1, 1) := by decide +kernel
theorem dX2_bringCoins_2 : decode cX2_bringCoins 2 = .ok (.invokevirtual 86, 3) := by decide +kernel
theorem dX2_bringCoins_5 : decode cX2_bringCoins 5 = .ok (.ifCond .eq 15, 3) := by decide +kernel
theorem dX2_bringCoins_8 : decode cX2_bringCoins 8 = .ok (.iload_n 2, 1) := by decide +kernel
theorem dX2_bringCoins_9 : decode cX2_bringCoins 9 = .ok (.iconst 1, 1) := by decide +kernel
theorem dX2_bringCoins_10 : decode cX2_bringCoins 10 = .ok (.if_icmp .lt 10, 3) := by decide +kernel
theorem dX2_bringCoins_13 : decode cX2_bringCoins 13 = .ok (.iload_n 2, 1) := by decide +kernel
theorem dX2_bringCoins_14 : decode cX2_bringCoins 14 = .ok (.sipush 999, 3) := by decide +kernel
theorem dX2_bringCoins_17 : decode cX2_bringCoins 17 = .ok (.if_icmp .le 5, 3) := by decide +kernel
theorem dX2_bringCoins_20 : decode cX2_bringCoins 20 = .ok (.iconst (-1), 1) := by decide +kernel
theorem dX2_bringCoins_21 : decode cX2_bringCoins 21 = .ok (.ireturn, 1) := by decide +kernel
theorem dX2_bringCoins_22 : decode cX2_bringCoins 22 = .ok (.aload_n 0, 1) := by decide +kernel
theorem dX2_bringCoins_23 : decode cX2_bringCoins 23 = .ok (.iload_n 1, 1) := by decide +kernel
theorem dX2_bringCoins_24 : decode cX2_bringCoins 24 = .ok (.invokevirtual 59, 3) := by decide +kernel
theorem dX2_bringCoins_27 : decode cX2_bringCoins 27 = .ok (.astore_n 3, 1) := by decide +kernel
theorem dX2_bringCoins_28 : decode cX2_bringCoins 28 = .ok (.aload_n 3, 1) := by decide +kernel
theorem dX2_bringCoins_29 : decode cX2_bringCoins 29 = .ok (.getfield 99, 3) := by decide +kernel
theorem dX2_bringCoins_32 : decode cX2_bringCoins 32 = .ok (.iload_n 2, 1) := by decide +kernel
theorem dX2_bringCoins_33 : decode cX2_bringCoins 33 = .ok (.invokestatic 102, 3) := by decide +kernel
theorem dX2_bringCoins_36 : decode cX2_bringCoins 36 = .ok (.istore 4, 2) := by decide +kernel
theorem dX2_bringCoins_38 : decode cX2_bringCoins 38 = .ok (.aload_n 3, 1) := by decide +kernel
theorem dX2_bringCoins_39 : decode cX2_bringCoins 39 = .ok (.getfield 108, 3) := by decide +kernel
theorem dX2_bringCoins_42 : decode cX2_bringCoins 42 = .ok (.iload_n 2, 1) := by decide +kernel
theorem dX2_bringCoins_43 : decode cX2_bringCoins 43 = .ok (.iadd, 1) := by decide +kernel
theorem dX2_bringCoins_44 : decode cX2_bringCoins 44 = .ok (.iload 4, 2) := by decide +kernel
theorem dX2_bringCoins_46 : decode cX2_bringCoins 46 = .ok (.isub, 1) := by decide +kernel
theorem dX2_bringCoins_47 : decode cX2_bringCoins 47 = .ok (.istore 5, 2) := by decide +kernel
theorem dX2_bringCoins_49 : decode cX2_bringCoins 49 = .ok (.iload 5, 2) := by decide +kernel
theorem dX2_bringCoins_51 : decode cX2_bringCoins 51 = .ok (.sipush 9999, 3) := by decide +kernel
theorem dX2_bringCoins_54 : decode cX2_bringCoins 54 = .ok (.if_icmp .le 6, 3) := by decide +kernel
theorem dX2_bringCoins_57 : decode cX2_bringCoins 57 = .ok (.bipush (-5), 2) := by decide +kernel
theorem dX2_bringCoins_59 : decode cX2_bringCoins 59 = .ok (.ireturn, 1) := by decide +kernel
theorem dX2_bringCoins_60 : decode cX2_bringCoins 60 = .ok (.aload_n 3, 1) := by decide +kernel
theorem dX2_bringCoins_61 : decode cX2_bringCoins 61 = .ok (.dup, 1) := by decide +kernel
theorem dX2_bringCoins_62 : decode cX2_bringCoins 62 = .ok (.getfield 99, 3) := by decide +kernel
theorem dX2_bringCoins_65 : decode cX2_bringCoins 65 = .ok (.iload 4, 2) := by decide +kernel
theorem dX2_bringCoins_67 : decode cX2_bringCoins 67 = .ok (.isub, 1) := by decide +kernel
theorem dX2_bringCoins_68 : decode cX2_bringCoins 68 = .ok (.putfield 99, 3) := by decide +kernel
theorem dX2_bringCoins_71 : decode cX2_bringCoins 71 = .ok (.aload_n 3, 1) := by decide +kernel
theorem dX2_bringCoins_72 : decode cX2_bringCoins 72 = .ok (.iload 5, 2) := by decide +kernel
theorem dX2_bringCoins_74 : decode cX2_bringCoins 74 = .ok (.putfield 108, 3) := by decide +kernel
theorem dX2_bringCoins_77 : decode cX2_bringCoins 77 = .ok (.aload_n 0, 1) := by decide +kernel
theorem dX2_bringCoins_78 : decode cX2_bringCoins 78 = .ok (.dup, 1) := by decide +kernel
theorem dX2_bringCoins_79 : decode cX2_bringCoins 79 = .ok (.getfield 50, 3) := by decide +kernel
theorem dX2_bringCoins_82 : decode cX2_bringCoins 82 = .ok (.iload 4, 2) := by decide +kernel
theorem dX2_bringCoins_84 : decode cX2_bringCoins 84 = .ok (.iadd, 1) := by decide +kernel
theorem dX2_bringCoins_85 : decode cX2_bringCoins 85 = .ok (.putfield 50, 3) := by decide +kernel
theorem dX2_bringCoins_88 : decode cX2_bringCoins 88 = .ok (.iload 5, 2) := by decide +kernel
theorem dX2_bringCoins_90 : decode cX2_bringCoins 90 = .ok (.ireturn, 1) := by decide +kernel
set_option maxRecDepth 20000 in
theorem ggX2_toolsWith_X2_toolAt : GoodIn wsX2_toolsWith wsX2_toolAt := goodIn_r _ [7, 8, 9, 10, 11, 12, 13, 14, 15, 16, 17, 18, 19, 20] (by decide +kernel) (by decide +kernel)
set_option maxRecDepth 20000 in
theorem gX2_toolsWith_X2_toolAt : GoodIn wsX2_toolsWith (wsV RX2 67 RX2 yX2_toolAt wsX2_toolAt) := goodIn_app (goodIn_of _ (by decide +kernel)) ggX2_toolsWith_X2_toolAt
theorem dX2_toolsWith_0 : decode cX2_toolsWith 0 = .ok (.iconst 0, 1) := by decide +kernel
theorem dX2_toolsWith_1 : decode cX2_toolsWith 1 = .ok (.istore_n 2, 1) := by decide +kernel
theorem dX2_toolsWith_2 : decode cX2_toolsWith 2 = .ok (.iconst 0, 1) := by decide +kernel
theorem dX2_toolsWith_3 : decode cX2_toolsWith 3 = .ok (.istore_n 3, 1) := by decide +kernel
theorem dX2_toolsWith_4 : decode cX2_toolsWith 4 = .ok (.iload_n 3, 1) := by decide +kernel
theorem dX2_toolsWith_5 : decode cX2_toolsWith 5 = .ok (.aload_n 0, 1) := by decide +kernel
theorem dX2_toolsWith_6 : decode cX2_toolsWith 6 = .ok (.getfield 44, 3) := by decide +kernel
theorem dX2_toolsWith_9 : decode cX2_toolsWith 9 = .ok (.if_icmp .ge 24, 3) := by decide +kernel
theorem dX2_toolsWith_12 : decode cX2_toolsWith 12 = .ok (.aload_n 0, 1) := by decide +kernel
theorem dX2_toolsWith_13 : decode cX2_toolsWith 13 = .ok (.iload_n 3, 1) := by decide +kernel
theorem dX2_toolsWith_14 : decode cX2_toolsWith 14 = .ok (.invokevirtual 67, 3) := by decide +kernel
theorem dX2_toolsWith_17 : decode cX2_toolsWith 17 = .ok (.getfield 111, 3) := by decide +kernel
theorem dX2_toolsWith_20 : decode cX2_toolsWith 20 = .ok (.iload_n 1, 1) := by decide +kernel
theorem dX2_toolsWith_21 : decode cX2_toolsWith 21 = .ok (.if_icmp .ne 6, 3) := by decide +kernel
theorem dX2_toolsWith_24 : decode cX2_toolsWith 24 = .ok (.iinc 2 1, 3) := by decide +kernel
theorem dX2_toolsWith_27 : decode cX2_toolsWith 27 = .ok (.iinc 3 1, 3) := by decide +kernel
theorem dX2_toolsWith_30 : decode cX2_toolsWith 30 = .ok (.goto (-26), 3) := by decide +kernel
theorem dX2_toolsWith_33 : decode cX2_toolsWith 33 = .ok (.iload_n 2, 1) := by decide +kernel
theorem dX2_toolsWith_34 : decode cX2_toolsWith 34 = .ok (.ireturn, 1) := by decide +kernel
set_option maxRecDepth 20000 in
theorem ggX2_claimsOf_X2_toolAt : GoodIn wsX2_claimsOf wsX2_toolAt := goodIn_r _ [6, 7, 8, 27, 28, 29, 30, 31, 32, 33, 34, 35, 36, 37] (by decide +kernel) (by decide +kernel)
set_option maxRecDepth 20000 in
theorem gX2_claimsOf_X2_toolAt : GoodIn wsX2_claimsOf (wsV RX2 67 RX2 yX2_toolAt wsX2_toolAt) := goodIn_app (goodIn_of _ (by decide +kernel)) ggX2_claimsOf_X2_toolAt
set_option maxRecDepth 20000 in
theorem ggX2_claimsOf_X7_placeOfClaim : GoodIn wsX2_claimsOf wsX7_placeOfClaim := goodIn_r _ [13, 14, 15, 16, 17, 18, 19, 20, 21, 22, 23, 24, 25, 26, 38, 39, 40, 41, 42, 43, 44, 45, 46, 47, 48, 49, 50, 51] (by decide +kernel) (by decide +kernel)
set_option maxRecDepth 20000 in
theorem gX2_claimsOf_X7_placeOfClaim : GoodIn wsX2_claimsOf (wsV RX2 114 RX7 yX7_placeOfClaim wsX7_placeOfClaim) := goodIn_app (goodIn_of _ (by decide +kernel)) ggX2_claimsOf_X7_placeOfClaim
theorem dX2_claimsOf_0 : decode cX2_claimsOf 0 = .ok (.iconst 0, 1) := by decide +kernel
theorem dX2_claimsOf_1 : decode cX2_claimsOf 1 = .ok (.istore_n 2, 1) := by decide +kernel
theorem dX2_claimsOf_2 : decode cX2_claimsOf 2 = .ok (.iconst 0, 1) := by decide +kernel
theorem dX2_claimsOf_3 : decode cX2_claimsOf 3 = .ok (.istore_n 3, 1) := by decide +kernel
theorem dX2_claimsOf_4 : decode cX2_claimsOf 4 = .ok (.iload_n 3, 1) := by decide +kernel
theorem dX2_claimsOf_5 : decode cX2_claimsOf 5 = .ok (.aload_n 0, 1) := by decide +kernel
theorem dX2_claimsOf_6 : decode cX2_claimsOf 6 = .ok (.getfield 44, 3) := by decide +kernel
theorem dX2_claimsOf_9 : decode cX2_claimsOf 9 = .ok (.if_icmp .ge 24, 3) := by decide +kernel
theorem dX2_claimsOf_12 : decode cX2_claimsOf 12 = .ok (.aload_n 0, 1) := by decide +kernel
theorem dX2_claimsOf_13 : decode cX2_claimsOf 13 = .ok (.iload_n 3, 1) := by decide +kernel
theorem dX2_claimsOf_14 : decode cX2_claimsOf 14 = .ok (.invokevirtual 67, 3) := by decide +kernel
theorem dX2_claimsOf_17 : decode cX2_claimsOf 17 = .ok (.iload_n 1, 1) := by decide +kernel
theorem dX2_claimsOf_18 : decode cX2_claimsOf 18 = .ok (.invokevirtual 114, 3) := by decide +kernel
theorem dX2_claimsOf_21 : decode cX2_claimsOf 21 = .ok (.ifCond .lt 6, 3) := by decide +kernel
theorem dX2_claimsOf_24 : decode cX2_claimsOf 24 = .ok (.iinc 2 1, 3) := by decide +kernel
theorem dX2_claimsOf_27 : decode cX2_claimsOf 27 = .ok (.iinc 3 1, 3) := by decide +kernel
theorem dX2_claimsOf_30 : decode cX2_claimsOf 30 = .ok (.goto (-26), 3) := by decide +kernel
theorem dX2_claimsOf_33 : decode cX2_claimsOf 33 = .ok (.iload_n 2, 1) := by decide +kernel
theorem dX2_claimsOf_34 : decode cX2_claimsOf 34 = .ok (.ireturn, 1) := by decide +kernel
set_option maxRecDepth 20000 in
theorem ggX2_placeInRank_X2_personAt : GoodIn wsX2_placeInRank wsX2_personAt := goodIn_r _ [6, 7, 8, 21, 22, 23, 24, 25, 26, 27, 28, 29, 30, 31] (by decide +kernel) (by decide +kernel)
set_option maxRecDepth 20000 in
theorem gX2_placeInRank_X2_personAt : GoodIn wsX2_placeInRank (wsV RX2 59 RX2 yX2_personAt wsX2_personAt) := goodIn_app (goodIn_of _ (by decide +kernel)) ggX2_placeInRank_X2_personAt
set_option maxRecDepth 20000 in
theorem ggX2_placeInRank_X3_goesAheadOf : GoodIn wsX2_placeInRank wsX3_goesAheadOf := goodIn_r _ [13, 14, 15, 16, 17, 18, 12, 19, 20, 32, 33, 34, 35, 36, 37] (by decide +kernel) (by decide +kernel)
set_option maxRecDepth 20000 in
theorem gX2_placeInRank_X3_goesAheadOf : GoodIn wsX2_placeInRank (wsV RX2 117 RX3 yX3_goesAheadOf wsX3_goesAheadOf) := goodIn_app (goodIn_of _ (by decide +kernel)) ggX2_placeInRank_X3_goesAheadOf
theorem dX2_placeInRank_0 : decode cX2_placeInRank 0 = .ok (.iconst 0, 1) := by decide +kernel
theorem dX2_placeInRank_1 : decode cX2_placeInRank 1 = .ok (.istore_n 2, 1) := by decide +kernel
theorem dX2_placeInRank_2 : decode cX2_placeInRank 2 = .ok (.iconst 0, 1) := by decide +kernel
theorem dX2_placeInRank_3 : decode cX2_placeInRank 3 = .ok (.istore_n 3, 1) := by decide +kernel
theorem dX2_placeInRank_4 : decode cX2_placeInRank 4 = .ok (.iload_n 3, 1) := by decide +kernel
theorem dX2_placeInRank_5 : decode cX2_placeInRank 5 = .ok (.aload_n 0, 1) := by decide +kernel
theorem dX2_placeInRank_6 : decode cX2_placeInRank 6 = .ok (.getfield 40, 3) := by decide +kernel
theorem dX2_placeInRank_9 : decode cX2_placeInRank 9 = .ok (.if_icmp .ge 28, 3) := by decide +kernel
theorem dX2_placeInRank_12 : decode cX2_placeInRank 12 = .ok (.aload_n 0, 1) := by decide +kernel
theorem dX2_placeInRank_13 : decode cX2_placeInRank 13 = .ok (.iload_n 3, 1) := by decide +kernel
theorem dX2_placeInRank_14 : decode cX2_placeInRank 14 = .ok (.invokevirtual 59, 3) := by decide +kernel
theorem dX2_placeInRank_17 : decode cX2_placeInRank 17 = .ok (.aload_n 0, 1) := by decide +kernel
theorem dX2_placeInRank_18 : decode cX2_placeInRank 18 = .ok (.iload_n 1, 1) := by decide +kernel
theorem dX2_placeInRank_19 : decode cX2_placeInRank 19 = .ok (.invokevirtual 59, 3) := by decide +kernel
theorem dX2_placeInRank_22 : decode cX2_placeInRank 22 = .ok (.invokevirtual 117, 3) := by decide +kernel
theorem dX2_placeInRank_25 : decode cX2_placeInRank 25 = .ok (.ifCond .eq 6, 3) := by decide +kernel
theorem dX2_placeInRank_28 : decode cX2_placeInRank 28 = .ok (.iinc 2 1, 3) := by decide +kernel
theorem dX2_placeInRank_31 : decode cX2_placeInRank 31 = .ok (.iinc 3 1, 3) := by decide +kernel
theorem dX2_placeInRank_34 : decode cX2_placeInRank 34 = .ok (.goto (-30), 3) := by decide +kernel
theorem dX2_placeInRank_37 : decode cX2_placeInRank 37 = .ok (.iload_n 2, 1) := by decide +kernel
theorem dX2_placeInRank_38 : decode cX2_placeInRank 38 = .ok (.ireturn, 1) := by decide +kernel
set_option maxRecDepth 20000 in
theorem ggX2_personAtRank_X2_placeInRank : GoodIn wsX2_personAtRank wsX2_placeInRank := goodIn_r _ [6, 1, 7, 8, 9, 5, 10, 11, 12, 13, 14, 15, 16, 17, 18, 19, 20, 21, 22, 23, 24, 25, 26, 27, 28, 29, 30, 31, 32, 33, 34, 35, 36, 37, 38, 39, 40, 41] (by decide +kernel) (by decide +kernel)
set_option maxRecDepth 20000 in
theorem gX2_personAtRank_X2_placeInRank : GoodIn wsX2_personAtRank (wsV RX2 121 RX2 yX2_placeInRank wsX2_placeInRank) := goodIn_app (goodIn_of _ (by decide +kernel)) ggX2_personAtRank_X2_placeInRank
theorem dX2_personAtRank_0 : decode cX2_personAtRank 0 = .ok (.iconst 0, 1) := by decide +kernel
theorem dX2_personAtRank_1 : decode cX2_personAtRank 1 = .ok (.istore_n 2, 1) := by decide +kernel
theorem dX2_personAtRank_2 : decode cX2_personAtRank 2 = .ok (.iload_n 2, 1) := by decide +kernel
theorem dX2_personAtRank_3 : decode cX2_personAtRank 3 = .ok (.aload_n 0, 1) := by decide +kernel
theorem dX2_personAtRank_4 : decode cX2_personAtRank 4 = .ok (.getfield 40, 3) := by decide +kernel
theorem dX2_personAtRank_7 : decode cX2_personAtRank 7 = .ok (.if_icmp .ge 20, 3) := by decide +kernel
theorem dX2_personAtRank_10 : decode cX2_personAtRank 10 = .ok (.aload_n 0, 1) := by decide +kernel
theorem dX2_personAtRank_11 : decode cX2_personAtRank 11 = .ok (.iload_n 2, 1) := by decide +kernel
theorem dX2_personAtRank_12 : decode cX2_personAtRank 12 = .ok (.invokevirtual 121, 3) := by decide +kernel
theorem dX2_personAtRank_15 : decode cX2_personAtRank 15 = .ok (.iload_n 1, 1) := by decide +kernel
theorem dX2_personAtRank_16 : decode cX2_personAtRank 16 = .ok (.if_icmp .ne 5, 3) := by decide +kernel
theorem dX2_personAtRank_19 : decode cX2_personAtRank 19 = .ok (.iload_n 2, 1) := by decide +kernel
theorem dX2_personAtRank_20 : decode cX2_personAtRank 20 = .ok (.ireturn, 1) := by decide +kernel
theorem dX2_personAtRank_21 : decode cX2_personAtRank 21 = .ok (.iinc 2 1, 3) := by decide +kernel
theorem dX2_personAtRank_24 : decode cX2_personAtRank 24 = .ok (.goto (-22), 3) := by decide +kernel
theorem dX2_personAtRank_27 : decode cX2_personAtRank 27 = .ok (.bipush (-2), 2) := by decide +kernel
theorem dX2_personAtRank_29 : decode cX2_personAtRank 29 = .ok (.ireturn, 1) := by decide +kernel
theorem dX2_refuse_0 : decode cX2_refuse 0 = .ok (.aload_n 0, 1) := by decide +kernel
theorem dX2_refuse_1 : decode cX2_refuse 1 = .ok (.iload_n 1, 1) := by decide +kernel
theorem dX2_refuse_2 : decode cX2_refuse 2 = .ok (.putfield 53, 3) := by decide +kernel
theorem dX2_refuse_5 : decode cX2_refuse 5 = .ok (.aload_n 0, 1) := by decide +kernel
theorem dX2_refuse_6 : decode cX2_refuse 6 = .ok (.iload_n 2, 1) := by decide +kernel
theorem dX2_refuse_7 : decode cX2_refuse 7 = .ok (.putfield 56, 3) := by decide +kernel
theorem dX2_refuse_10 : decode cX2_refuse 10 = .ok (.bipush (-5), 2) := by decide +kernel
theorem dX2_refuse_12 : decode cX2_refuse 12 = .ok (.ireturn, 1) := by decide +kernel
set_option maxRecDepth 20000 in
theorem ggX2_leaseTo_X2_isPerson : GoodIn wsX2_leaseTo wsX2_isPerson := goodIn_r _ [9, 10, 82, 83, 84, 85, 86, 87, 88, 89, 90, 91, 92] (by decide +kernel) (by decide +kernel)
set_option maxRecDepth 20000 in
theorem gX2_leaseTo_X2_isPerson : GoodIn wsX2_leaseTo (wsV RX2 86 RX2 yX2_isPerson wsX2_isPerson) := goodIn_app (goodIn_of _ (by decide +kernel)) ggX2_leaseTo_X2_isPerson
set_option maxRecDepth 20000 in
theorem ggX2_leaseTo_X2_isTool : GoodIn wsX2_leaseTo wsX2_isTool := goodIn_r _ [14, 15, 82, 83, 84, 85, 86, 87, 88, 89, 90, 91, 92] (by decide +kernel) (by decide +kernel)
set_option maxRecDepth 20000 in
theorem gX2_leaseTo_X2_isTool : GoodIn wsX2_leaseTo (wsV RX2 89 RX2 yX2_isTool wsX2_isTool) := goodIn_app (goodIn_of _ (by decide +kernel)) ggX2_leaseTo_X2_isTool
set_option maxRecDepth 20000 in
theorem ggX2_leaseTo_X2_toolAt : GoodIn wsX2_leaseTo wsX2_toolAt := goodIn_r _ [19, 20, 21, 82, 83, 84, 85, 86, 87, 88, 89, 90, 91, 92] (by decide +kernel) (by decide +kernel)
set_option maxRecDepth 20000 in
theorem gX2_leaseTo_X2_toolAt : GoodIn wsX2_leaseTo (wsV RX2 67 RX2 yX2_toolAt wsX2_toolAt) := goodIn_app (goodIn_of _ (by decide +kernel)) ggX2_leaseTo_X2_toolAt
set_option maxRecDepth 20000 in
theorem ggX2_leaseTo_X7_isLeased : GoodIn wsX2_leaseTo wsX7_isLeased := goodIn_r _ [26, 27, 66, 67, 68, 69, 70, 71, 72, 73, 74, 75] (by decide +kernel) (by decide +kernel)
set_option maxRecDepth 20000 in
theorem gX2_leaseTo_X7_isLeased : GoodIn wsX2_leaseTo (wsV RX2 124 RX7 yX7_isLeased wsX7_isLeased) := goodIn_app (goodIn_of _ (by decide +kernel)) ggX2_leaseTo_X7_isLeased
set_option maxRecDepth 20000 in
theorem ggX2_leaseTo_X2_refuse : GoodIn wsX2_leaseTo wsX2_refuse := goodIn_r _ [31, 32, 33, 82, 83, 84, 85, 86, 87, 88, 89, 90, 91, 92] (by decide +kernel) (by decide +kernel)
set_option maxRecDepth 20000 in
theorem gX2_leaseTo_X2_refuse : GoodIn wsX2_leaseTo (wsV RX2 131 RX2 yX2_refuse wsX2_refuse) := goodIn_app (goodIn_of _ (by decide +kernel)) ggX2_leaseTo_X2_refuse
set_option maxRecDepth 20000 in
theorem ggX2_leaseTo_X2_personAt : GoodIn wsX2_leaseTo wsX2_personAt := goodIn_r _ [37, 38, 39, 82, 83, 84, 85, 86, 87, 88, 89, 90, 91, 92] (by decide +kernel) (by decide +kernel)
set_option maxRecDepth 20000 in
theorem gX2_leaseTo_X2_personAt : GoodIn wsX2_leaseTo (wsV RX2 59 RX2 yX2_personAt wsX2_personAt) := goodIn_app (goodIn_of _ (by decide +kernel)) ggX2_leaseTo_X2_personAt
set_option maxRecDepth 20000 in
theorem ggX2_leaseTo_X2_handOut : GoodIn wsX2_leaseTo wsX2_handOut := goodIn_r _ [43, 2, 3, 44, 45, 4, 34, 35, 36, 8, 37, 38, 39, 46, 47, 48, 25, 49, 27, 50, 51, 52, 53, 54, 55, 56, 57, 58, 59, 60, 61, 62, 63, 64, 65, 76, 77, 78, 79, 80, 81, 66, 67, 68, 69, 70, 71, 72, 73, 74, 75, 82, 83, 84, 85, 86, 87, 88, 89, 90, 91, 92, 93, 94, 95, 96] (by decide +kernel) (by decide +kernel)
set_option maxRecDepth 20000 in
theorem gX2_leaseTo_X2_handOut : GoodIn wsX2_leaseTo (wsV RX2 137 RX2 yX2_handOut wsX2_handOut) := goodIn_app (goodIn_of _ (by decide +kernel)) ggX2_leaseTo_X2_handOut
theorem dX2_leaseTo_0 : decode cX2_leaseTo 0 = .ok (.aload_n 0, 1) := by decide +kernel
theorem dX2_leaseTo_1 : decode cX2_leaseTo 1 = .ok (.iload_n 1, 1) := by decide +kernel
theorem dX2_leaseTo_2 : decode cX2_leaseTo 2 = .ok (.invokevirtual 86, 3) := by decide +kernel
theorem dX2_leaseTo_5 : decode cX2_leaseTo 5 = .ok (.ifCond .eq 22, 3) := by decide +kernel
theorem dX2_leaseTo_8 : decode cX2_leaseTo 8 = .ok (.aload_n 0, 1) := by decide +kernel
theorem dX2_leaseTo_9 : decode cX2_leaseTo 9 = .ok (.iload_n 2, 1) := by decide +kernel
theorem dX2_leaseTo_10 : decode cX2_leaseTo 10 = .ok (.invokevirtual 89, 3) := by decide +kernel
theorem dX2_leaseTo_13 : decode cX2_leaseTo 13 = .ok (.ifCond .eq 14, 3) := by decide +kernel
theorem dX2_leaseTo_16 : decode cX2_leaseTo 16 = .ok (.iload_n 3, 1) := by decide +kernel
theorem dX2_leaseTo_17 : decode cX2_leaseTo 17 = .ok (.iconst 1, 1) := by decide +kernel
theorem dX2_leaseTo_18 : decode cX2_leaseTo 18 = .ok (.if_icmp .lt 9, 3) := by decide +kernel
theorem dX2_leaseTo_21 : decode cX2_leaseTo 21 = .ok (.iload_n 3, 1) := by decide +kernel
theorem dX2_leaseTo_22 : decode cX2_leaseTo 22 = .ok (.bipush 30, 2) := by decide +kernel
theorem dX2_leaseTo_24 : decode cX2_leaseTo 24 = .ok (.if_icmp .le 5, 3) := by decide +kernel
theorem dX2_leaseTo_27 : decode cX2_leaseTo 27 = .ok (.iconst (-1), 1) := by decide +kernel
theorem dX2_leaseTo_28 : decode cX2_leaseTo 28 = .ok (.ireturn, 1) := by decide +kernel
theorem dX2_leaseTo_29 : decode cX2_leaseTo 29 = .ok (.aload_n 0, 1) := by decide +kernel
theorem dX2_leaseTo_30 : decode cX2_leaseTo 30 = .ok (.iload_n 2, 1) := by decide +kernel
theorem dX2_leaseTo_31 : decode cX2_leaseTo 31 = .ok (.invokevirtual 67, 3) := by decide +kernel
theorem dX2_leaseTo_34 : decode cX2_leaseTo 34 = .ok (.astore 4, 2) := by decide +kernel
theorem dX2_leaseTo_36 : decode cX2_leaseTo 36 = .ok (.aload 4, 2) := by decide +kernel
theorem dX2_leaseTo_38 : decode cX2_leaseTo 38 = .ok (.invokevirtual 124, 3) := by decide +kernel
theorem dX2_leaseTo_41 : decode cX2_leaseTo 41 = .ok (.ifCond .ne 13, 3) := by decide +kernel
theorem dX2_leaseTo_44 : decode cX2_leaseTo 44 = .ok (.aload 4, 2) := by decide +kernel
theorem dX2_leaseTo_46 : decode cX2_leaseTo 46 = .ok (.getfield 128, 3) := by decide +kernel
theorem dX2_leaseTo_49 : decode cX2_leaseTo 49 = .ok (.bipush 9, 2) := by decide +kernel
theorem dX2_leaseTo_51 : decode cX2_leaseTo 51 = .ok (.if_icmp .lt 10, 3) := by decide +kernel
theorem dX2_leaseTo_54 : decode cX2_leaseTo 54 = .ok (.aload_n 0, 1) := by decide +kernel
theorem dX2_leaseTo_55 : decode cX2_leaseTo 55 = .ok (.iconst 1, 1) := by decide +kernel
theorem dX2_leaseTo_56 : decode cX2_leaseTo 56 = .ok (.iconst 0, 1) := by decide +kernel
theorem dX2_leaseTo_57 : decode cX2_leaseTo 57 = .ok (.invokevirtual 131, 3) := by decide +kernel
theorem dX2_leaseTo_60 : decode cX2_leaseTo 60 = .ok (.ireturn, 1) := by decide +kernel
theorem dX2_leaseTo_61 : decode cX2_leaseTo 61 = .ok (.aload_n 0, 1) := by decide +kernel
theorem dX2_leaseTo_62 : decode cX2_leaseTo 62 = .ok (.iload_n 1, 1) := by decide +kernel
theorem dX2_leaseTo_63 : decode cX2_leaseTo 63 = .ok (.invokevirtual 59, 3) := by decide +kernel
theorem dX2_leaseTo_66 : decode cX2_leaseTo 66 = .ok (.getfield 108, 3) := by decide +kernel
theorem dX2_leaseTo_69 : decode cX2_leaseTo 69 = .ok (.aload 4, 2) := by decide +kernel
theorem dX2_leaseTo_71 : decode cX2_leaseTo 71 = .ok (.getfield 134, 3) := by decide +kernel
theorem dX2_leaseTo_74 : decode cX2_leaseTo 74 = .ok (.if_icmp .ge 10, 3) := by decide +kernel
theorem dX2_leaseTo_77 : decode cX2_leaseTo 77 = .ok (.aload_n 0, 1) := by decide +kernel
theorem dX2_leaseTo_78 : decode cX2_leaseTo 78 = .ok (.iconst 2, 1) := by decide +kernel
theorem dX2_leaseTo_79 : decode cX2_leaseTo 79 = .ok (.iconst 0, 1) := by decide +kernel
theorem dX2_leaseTo_80 : decode cX2_leaseTo 80 = .ok (.invokevirtual 131, 3) := by decide +kernel
theorem dX2_leaseTo_83 : decode cX2_leaseTo 83 = .ok (.ireturn, 1) := by decide +kernel
theorem dX2_leaseTo_84 : decode cX2_leaseTo 84 = .ok (.aload_n 0, 1) := by decide +kernel
theorem dX2_leaseTo_85 : decode cX2_leaseTo 85 = .ok (.aload 4, 2) := by decide +kernel
theorem dX2_leaseTo_87 : decode cX2_leaseTo 87 = .ok (.iload_n 1, 1) := by decide +kernel
theorem dX2_leaseTo_88 : decode cX2_leaseTo 88 = .ok (.iload_n 3, 1) := by decide +kernel
theorem dX2_leaseTo_89 : decode cX2_leaseTo 89 = .ok (.invokevirtual 137, 3) := by decide +kernel
theorem dX2_leaseTo_92 : decode cX2_leaseTo 92 = .ok (.aload 4, 2) := by decide +kernel
theorem dX2_leaseTo_94 : decode cX2_leaseTo 94 = .ok (.getfield 141, 3) := by decide +kernel
theorem dX2_leaseTo_97 : decode cX2_leaseTo 97 = .ok (.ireturn, 1) := by decide +kernel
set_option maxRecDepth 20000 in
theorem ggX2_handOut_X2_personAt : GoodIn wsX2_handOut wsX2_personAt := goodIn_r _ [10, 11, 12, 51, 52, 53, 54, 55, 56, 57, 58, 59, 60, 61] (by decide +kernel) (by decide +kernel)
set_option maxRecDepth 20000 in
theorem gX2_handOut_X2_personAt : GoodIn wsX2_handOut (wsV RX2 59 RX2 yX2_personAt wsX2_personAt) := goodIn_app (goodIn_of _ (by decide +kernel)) ggX2_handOut_X2_personAt
set_option maxRecDepth 20000 in
theorem ggX2_handOut_X7_goTo : GoodIn wsX2_handOut wsX7_goTo := goodIn_r _ [17, 18, 19, 20, 21, 22, 23, 24, 25, 26, 27, 28, 29, 30, 31, 32, 33, 34, 41, 42, 43, 44, 45, 46, 47, 48, 49, 50, 62, 63, 64, 65] (by decide +kernel) (by decide +kernel)
set_option maxRecDepth 20000 in
theorem gX2_handOut_X7_goTo : GoodIn wsX2_handOut (wsV RX2 147 RX7 yX7_goTo wsX7_goTo) := goodIn_app (goodIn_of _ (by decide +kernel)) ggX2_handOut_X7_goTo
theorem dX2_handOut_0 : decode cX2_handOut 0 = .ok (.aload_n 0, 1) := by decide +kernel
theorem dX2_handOut_1 : decode cX2_handOut 1 = .ok (.iload_n 2, 1) := by decide +kernel
theorem dX2_handOut_2 : decode cX2_handOut 2 = .ok (.invokevirtual 59, 3) := by decide +kernel
theorem dX2_handOut_5 : decode cX2_handOut 5 = .ok (.dup, 1) := by decide +kernel
theorem dX2_handOut_6 : decode cX2_handOut 6 = .ok (.getfield 108, 3) := by decide +kernel
theorem dX2_handOut_9 : decode cX2_handOut 9 = .ok (.aload_n 1, 1) := by decide +kernel
theorem dX2_handOut_10 : decode cX2_handOut 10 = .ok (.getfield 134, 3) := by decide +kernel
theorem dX2_handOut_13 : decode cX2_handOut 13 = .ok (.isub, 1) := by decide +kernel
theorem dX2_handOut_14 : decode cX2_handOut 14 = .ok (.putfield 108, 3) := by decide +kernel
theorem dX2_handOut_17 : decode cX2_handOut 17 = .ok (.aload_n 1, 1) := by decide +kernel
theorem dX2_handOut_18 : decode cX2_handOut 18 = .ok (.aload_n 1, 1) := by decide +kernel
theorem dX2_handOut_19 : decode cX2_handOut 19 = .ok (.getfield 134, 3) := by decide +kernel
theorem dX2_handOut_22 : decode cX2_handOut 22 = .ok (.putfield 144, 3) := by decide +kernel
theorem dX2_handOut_25 : decode cX2_handOut 25 = .ok (.aload_n 1, 1) := by decide +kernel
theorem dX2_handOut_26 : decode cX2_handOut 26 = .ok (.aload_n 0, 1) := by decide +kernel
theorem dX2_handOut_27 : decode cX2_handOut 27 = .ok (.getfield 47, 3) := by decide +kernel
theorem dX2_handOut_30 : decode cX2_handOut 30 = .ok (.iload_n 3, 1) := by decide +kernel
theorem dX2_handOut_31 : decode cX2_handOut 31 = .ok (.iadd, 1) := by decide +kernel
theorem dX2_handOut_32 : decode cX2_handOut 32 = .ok (.putfield 141, 3) := by decide +kernel
theorem dX2_handOut_35 : decode cX2_handOut 35 = .ok (.aload_n 1, 1) := by decide +kernel
theorem dX2_handOut_36 : decode cX2_handOut 36 = .ok (.iload_n 2, 1) := by decide +kernel
theorem dX2_handOut_37 : decode cX2_handOut 37 = .ok (.aload_n 0, 1) := by decide +kernel
theorem dX2_handOut_38 : decode cX2_handOut 38 = .ok (.getfield 47, 3) := by decide +kernel
theorem dX2_handOut_41 : decode cX2_handOut 41 = .ok (.invokevirtual 147, 3) := by decide +kernel
theorem dX2_handOut_44 : decode cX2_handOut 44 = .ok (.return_, 1) := by decide +kernel
set_option maxRecDepth 20000 in
theorem ggX2_claimServed_X4_size : GoodIn wsX2_claimServed wsX4_size := goodIn_r _ [9, 10, 40, 41, 42, 43] (by decide +kernel) (by decide +kernel)
set_option maxRecDepth 20000 in
theorem gX2_claimServed_X4_size : GoodIn wsX2_claimServed (wsV RX2 154 RX4 yX4_size wsX4_size) := goodIn_app (goodIn_of _ (by decide +kernel)) ggX2_claimServed_X4_size
set_option maxRecDepth 20000 in
theorem ggX2_claimServed_X4_cell : GoodIn wsX2_claimServed wsX4_cell := goodIn_r _ [14, 10, 15, 16, 40, 41, 42, 43] (by decide +kernel) (by decide +kernel)
set_option maxRecDepth 20000 in
theorem gX2_claimServed_X4_cell : GoodIn wsX2_claimServed (wsV RX2 160 RX4 yX4_cell wsX4_cell) := goodIn_app (goodIn_of _ (by decide +kernel)) ggX2_claimServed_X4_cell
set_option maxRecDepth 20000 in
theorem ggX2_claimServed_X2_personAt : GoodIn wsX2_claimServed wsX2_personAt := goodIn_r _ [21, 22, 23, 44, 45, 46, 47, 48, 49, 50, 51, 52, 53, 54] (by decide +kernel) (by decide +kernel)
set_option maxRecDepth 20000 in
theorem gX2_claimServed_X2_personAt : GoodIn wsX2_claimServed (wsV RX2 59 RX2 yX2_personAt wsX2_personAt) := goodIn_app (goodIn_of _ (by decide +kernel)) ggX2_claimServed_X2_personAt
theorem dX2_claimServed_0 : decode cX2_claimServed 0 = .ok (.aload_n 1, 1) := by decide +kernel
theorem dX2_claimServed_1 : decode cX2_claimServed 1 = .ok (.getfield 128, 3) := by decide +kernel
theorem dX2_claimServed_4 : decode cX2_claimServed 4 = .ok (.bipush 9, 2) := by decide +kernel
theorem dX2_claimServed_6 : decode cX2_claimServed 6 = .ok (.if_icmp .lt 5, 3) := by decide +kernel
theorem dX2_claimServed_9 : decode cX2_claimServed 9 = .ok (.iconst (-1), 1) := by decide +kernel
theorem dX2_claimServed_10 : decode cX2_claimServed 10 = .ok (.ireturn, 1) := by decide +kernel
theorem dX2_claimServed_11 : decode cX2_claimServed 11 = .ok (.iconst 0, 1) := by decide +kernel
theorem dX2_claimServed_12 : decode cX2_claimServed 12 = .ok (.istore_n 2, 1) := by decide +kernel
theorem dX2_claimServed_13 : decode cX2_claimServed 13 = .ok (.iload_n 2, 1) := by decide +kernel
theorem dX2_claimServed_14 : decode cX2_claimServed 14 = .ok (.aload_n 1, 1) := by decide +kernel
theorem dX2_claimServed_15 : decode cX2_claimServed 15 = .ok (.getfield 150, 3) := by decide +kernel
theorem dX2_claimServed_18 : decode cX2_claimServed 18 = .ok (.invokevirtual 154, 3) := by decide +kernel
theorem dX2_claimServed_21 : decode cX2_claimServed 21 = .ok (.if_icmp .ge 34, 3) := by decide +kernel
theorem dX2_claimServed_24 : decode cX2_claimServed 24 = .ok (.aload_n 0, 1) := by decide +kernel
theorem dX2_claimServed_25 : decode cX2_claimServed 25 = .ok (.aload_n 1, 1) := by decide +kernel
theorem dX2_claimServed_26 : decode cX2_claimServed 26 = .ok (.getfield 150, 3) := by decide +kernel
theorem dX2_claimServed_29 : decode cX2_claimServed 29 = .ok (.iload_n 2, 1) := by decide +kernel
theorem dX2_claimServed_30 : decode cX2_claimServed 30 = .ok (.iconst 0, 1) := by decide +kernel
theorem dX2_claimServed_31 : decode cX2_claimServed 31 = .ok (.invokevirtual 160, 3) := by decide +kernel
theorem dX2_claimServed_34 : decode cX2_claimServed 34 = .ok (.invokevirtual 59, 3) := by decide +kernel
theorem dX2_claimServed_37 : decode cX2_claimServed 37 = .ok (.getfield 108, 3) := by decide +kernel
theorem dX2_claimServed_40 : decode cX2_claimServed 40 = .ok (.aload_n 1, 1) := by decide +kernel
theorem dX2_claimServed_41 : decode cX2_claimServed 41 = .ok (.getfield 134, 3) := by decide +kernel
theorem dX2_claimServed_44 : decode cX2_claimServed 44 = .ok (.if_icmp .lt 5, 3) := by decide +kernel
theorem dX2_claimServed_47 : decode cX2_claimServed 47 = .ok (.iload_n 2, 1) := by decide +kernel
theorem dX2_claimServed_48 : decode cX2_claimServed 48 = .ok (.ireturn, 1) := by decide +kernel
theorem dX2_claimServed_49 : decode cX2_claimServed 49 = .ok (.iinc 2 1, 3) := by decide +kernel
theorem dX2_claimServed_52 : decode cX2_claimServed 52 = .ok (.goto (-39), 3) := by decide +kernel
theorem dX2_claimServed_55 : decode cX2_claimServed 55 = .ok (.iconst (-1), 1) := by decide +kernel
theorem dX2_claimServed_56 : decode cX2_claimServed 56 = .ok (.ireturn, 1) := by decide +kernel
set_option maxRecDepth 20000 in
theorem ggX2_offer_X2_claimServed : GoodIn wsX2_offer wsX2_claimServed := goodIn_r _ [6, 7, 1, 8, 9, 10, 11, 12, 13, 14, 15, 16, 17, 18, 19, 20, 21, 22, 23, 24, 5, 25, 26, 27, 57, 58, 59, 60, 61, 62, 63, 64, 65, 66, 67, 68, 69, 70, 71, 72, 73, 74, 75, 76, 77, 78, 79, 80, 81, 82, 83, 84, 85, 86, 87] (by decide +kernel) (by decide +kernel)
set_option maxRecDepth 20000 in
theorem gX2_offer_X2_claimServed : GoodIn wsX2_offer (wsV RX2 163 RX2 yX2_claimServed wsX2_claimServed) := goodIn_app (goodIn_of _ (by decide +kernel)) ggX2_offer_X2_claimServed
set_option maxRecDepth 20000 in
theorem ggX2_offer_X4_cell : GoodIn wsX2_offer wsX4_cell := goodIn_r _ [19, 15, 20, 21, 73, 74, 75, 76] (by decide +kernel) (by decide +kernel)
set_option maxRecDepth 20000 in
theorem gX2_offer_X4_cell : GoodIn wsX2_offer (wsV RX2 160 RX4 yX4_cell wsX4_cell) := goodIn_app (goodIn_of _ (by decide +kernel)) ggX2_offer_X4_cell
set_option maxRecDepth 20000 in
theorem ggX2_offer_X4_remove : GoodIn wsX2_offer wsX4_remove := goodIn_r _ [31, 15, 20, 21, 73, 74, 75, 76] (by decide +kernel) (by decide +kernel)
set_option maxRecDepth 20000 in
theorem gX2_offer_X4_remove : GoodIn wsX2_offer (wsV RX2 167 RX4 yX4_remove wsX4_remove) := goodIn_app (goodIn_of _ (by decide +kernel)) ggX2_offer_X4_remove
set_option maxRecDepth 20000 in
theorem ggX2_offer_X2_handOut : GoodIn wsX2_offer wsX2_handOut := goodIn_r _ [35, 8, 9, 36, 37, 38, 22, 23, 24, 5, 25, 26, 27, 39, 40, 41, 42, 43, 44, 45, 46, 47, 48, 49, 50, 13, 51, 15, 52, 21, 20, 53, 54, 55, 56, 67, 68, 69, 70, 71, 72, 57, 58, 59, 60, 61, 62, 63, 64, 65, 66, 77, 78, 79, 80, 81, 82, 83, 84, 85, 86, 87, 73, 74, 75, 76] (by decide +kernel) (by decide +kernel)
set_option maxRecDepth 20000 in
theorem gX2_offer_X2_handOut : GoodIn wsX2_offer (wsV RX2 137 RX2 yX2_handOut wsX2_handOut) := goodIn_app (goodIn_of _ (by decide +kernel)) ggX2_offer_X2_handOut
theorem dX2_offer_0 : decode cX2_offer 0 = .ok (.aload_n 0, 1) := by decide +kernel
theorem dX2_offer_1 : decode cX2_offer 1 = .ok (.aload_n 1, 1) := by decide +kernel
theorem dX2_offer_2 : decode cX2_offer 2 = .ok (.invokevirtual 163, 3) := by decide +kernel
theorem dX2_offer_5 : decode cX2_offer 5 = .ok (.istore_n 2, 1) := by decide +kernel
theorem dX2_offer_6 : decode cX2_offer 6 = .ok (.iload_n 2, 1) := by decide +kernel
theorem dX2_offer_7 : decode cX2_offer 7 = .ok (.ifCond .lt 40, 3) := by decide +kernel
theorem dX2_offer_10 : decode cX2_offer 10 = .ok (.aload_n 1, 1) := by decide +kernel
theorem dX2_offer_11 : decode cX2_offer 11 = .ok (.getfield 150, 3) := by decide +kernel
theorem dX2_offer_14 : decode cX2_offer 14 = .ok (.iload_n 2, 1) := by decide +kernel
theorem dX2_offer_15 : decode cX2_offer 15 = .ok (.iconst 0, 1) := by decide +kernel
theorem dX2_offer_16 : decode cX2_offer 16 = .ok (.invokevirtual 160, 3) := by decide +kernel
theorem dX2_offer_19 : decode cX2_offer 19 = .ok (.istore_n 3, 1) := by decide +kernel
theorem dX2_offer_20 : decode cX2_offer 20 = .ok (.aload_n 1, 1) := by decide +kernel
theorem dX2_offer_21 : decode cX2_offer 21 = .ok (.getfield 150, 3) := by decide +kernel
theorem dX2_offer_24 : decode cX2_offer 24 = .ok (.iload_n 2, 1) := by decide +kernel
theorem dX2_offer_25 : decode cX2_offer 25 = .ok (.iconst 2, 1) := by decide +kernel
theorem dX2_offer_26 : decode cX2_offer 26 = .ok (.invokevirtual 160, 3) := by decide +kernel
theorem dX2_offer_29 : decode cX2_offer 29 = .ok (.istore 4, 2) := by decide +kernel
theorem dX2_offer_31 : decode cX2_offer 31 = .ok (.aload_n 1, 1) := by decide +kernel
theorem dX2_offer_32 : decode cX2_offer 32 = .ok (.getfield 150, 3) := by decide +kernel
theorem dX2_offer_35 : decode cX2_offer 35 = .ok (.iload_n 2, 1) := by decide +kernel
theorem dX2_offer_36 : decode cX2_offer 36 = .ok (.invokevirtual 167, 3) := by decide +kernel
theorem dX2_offer_39 : decode cX2_offer 39 = .ok (.aload_n 0, 1) := by decide +kernel
theorem dX2_offer_40 : decode cX2_offer 40 = .ok (.aload_n 1, 1) := by decide +kernel
theorem dX2_offer_41 : decode cX2_offer 41 = .ok (.iload_n 3, 1) := by decide +kernel
theorem dX2_offer_42 : decode cX2_offer 42 = .ok (.iload 4, 2) := by decide +kernel
theorem dX2_offer_44 : decode cX2_offer 44 = .ok (.invokevirtual 137, 3) := by decide +kernel
theorem dX2_offer_47 : decode cX2_offer 47 = .ok (.return_, 1) := by decide +kernel
set_option maxRecDepth 20000 in
theorem ggX2_enterClaim_X2_isPerson : GoodIn wsX2_enterClaim wsX2_isPerson := goodIn_r _ [8, 9, 75, 76, 77, 78, 79, 80, 81, 82, 83, 84, 85] (by decide +kernel) (by decide +kernel)
set_option maxRecDepth 20000 in
theorem gX2_enterClaim_X2_isPerson : GoodIn wsX2_enterClaim (wsV RX2 86 RX2 yX2_isPerson wsX2_isPerson) := goodIn_app (goodIn_of _ (by decide +kernel)) ggX2_enterClaim_X2_isPerson
set_option maxRecDepth 20000 in
theorem ggX2_enterClaim_X2_isTool : GoodIn wsX2_enterClaim wsX2_isTool := goodIn_r _ [13, 14, 75, 76, 77, 78, 79, 80, 81, 82, 83, 84, 85] (by decide +kernel) (by decide +kernel)
set_option maxRecDepth 20000 in
theorem gX2_enterClaim_X2_isTool : GoodIn wsX2_enterClaim (wsV RX2 89 RX2 yX2_isTool wsX2_isTool) := goodIn_app (goodIn_of _ (by decide +kernel)) ggX2_enterClaim_X2_isTool
set_option maxRecDepth 20000 in
theorem ggX2_enterClaim_X2_toolAt : GoodIn wsX2_enterClaim wsX2_toolAt := goodIn_r _ [18, 19, 20, 75, 76, 77, 78, 79, 80, 81, 82, 83, 84, 85] (by decide +kernel) (by decide +kernel)
set_option maxRecDepth 20000 in
theorem gX2_enterClaim_X2_toolAt : GoodIn wsX2_enterClaim (wsV RX2 67 RX2 yX2_toolAt wsX2_toolAt) := goodIn_app (goodIn_of _ (by decide +kernel)) ggX2_enterClaim_X2_toolAt
set_option maxRecDepth 20000 in
theorem ggX2_enterClaim_X7_placeOfClaim : GoodIn wsX2_enterClaim wsX7_placeOfClaim := goodIn_r _ [25, 26, 27, 28, 29, 30, 31, 32, 33, 34, 35, 36, 37, 38, 65, 66, 67, 68, 69, 70, 71, 72, 73, 74, 86, 87, 88, 89] (by decide +kernel) (by decide +kernel)
set_option maxRecDepth 20000 in
theorem gX2_enterClaim_X7_placeOfClaim : GoodIn wsX2_enterClaim (wsV RX2 114 RX7 yX7_placeOfClaim wsX7_placeOfClaim) := goodIn_app (goodIn_of _ (by decide +kernel)) ggX2_enterClaim_X7_placeOfClaim
set_option maxRecDepth 20000 in
theorem ggX2_enterClaim_X4_size : GoodIn wsX2_enterClaim wsX4_size := goodIn_r _ [31, 32, 86, 87, 88, 89] (by decide +kernel) (by decide +kernel)
set_option maxRecDepth 20000 in
theorem gX2_enterClaim_X4_size : GoodIn wsX2_enterClaim (wsV RX2 154 RX4 yX4_size wsX4_size) := goodIn_app (goodIn_of _ (by decide +kernel)) ggX2_enterClaim_X4_size
set_option maxRecDepth 20000 in
theorem ggX2_enterClaim_X7_addClaim : GoodIn wsX2_enterClaim wsX7_addClaim := goodIn_r _ [43, 26, 27, 28, 29, 30, 31, 32, 44, 45, 46, 24, 47, 33, 34, 35, 36, 37, 38, 48, 49, 50, 51, 52, 53, 54, 55, 56, 57, 58, 59, 60, 61, 62, 63, 64, 65, 66, 67, 68, 69, 70, 71, 72, 73, 74, 86, 87, 88, 89] (by decide +kernel) (by decide +kernel)
set_option maxRecDepth 20000 in
theorem gX2_enterClaim_X7_addClaim : GoodIn wsX2_enterClaim (wsV RX2 171 RX7 yX7_addClaim wsX7_addClaim) := goodIn_app (goodIn_of _ (by decide +kernel)) ggX2_enterClaim_X7_addClaim
theorem dX2_enterClaim_0 : decode cX2_enterClaim 0 = .ok (.aload_n 0, 1) := by decide +kernel
theorem dX2_enterClaim_1 : decode cX2_enterClaim 1 = .ok (.iload_n 1, 1) := by decide +kernel
theorem dX2_enterClaim_2 : decode cX2_enterClaim 2 = .ok (.invokevirtual 86, 3) := by decide +kernel
theorem dX2_enterClaim_5 : decode cX2_enterClaim 5 = .ok (.ifCond .eq 15, 3) := by decide +kernel
theorem dX2_enterClaim_8 : decode cX2_enterClaim 8 = .ok (.aload_n 0, 1) := by decide +kernel
theorem dX2_enterClaim_9 : decode cX2_enterClaim 9 = .ok (.iload_n 2, 1) := by decide +kernel
theorem dX2_enterClaim_10 : decode cX2_enterClaim 10 = .ok (.invokevirtual 89, 3) := by decide +kernel
theorem dX2_enterClaim_13 : decode cX2_enterClaim 13 = .ok (.ifCond .eq 7, 3) := by decide +kernel
theorem dX2_enterClaim_16 : decode cX2_enterClaim 16 = .ok (.iconst 1, 1) := by decide +kernel
theorem dX2_enterClaim_17 : decode cX2_enterClaim 17 = .ok (.goto 4, 3) := by decide +kernel
theorem dX2_enterClaim_20 : decode cX2_enterClaim 20 = .ok (.iconst 0, 1) := by decide +kernel
theorem dX2_enterClaim_21 : decode cX2_enterClaim 21 = .ok (.istore 5, 2) := by decide +kernel
theorem dX2_enterClaim_23 : decode cX2_enterClaim 23 = .ok (.iload 5, 2) := by decide +kernel
theorem dX2_enterClaim_25 : decode cX2_enterClaim 25 = .ok (.ifCond .eq 26, 3) := by decide +kernel
theorem dX2_enterClaim_28 : decode cX2_enterClaim 28 = .ok (.iload_n 3, 1) := by decide +kernel
theorem dX2_enterClaim_29 : decode cX2_enterClaim 29 = .ok (.ifCond .lt 22, 3) := by decide +kernel
theorem dX2_enterClaim_32 : decode cX2_enterClaim 32 = .ok (.iload_n 3, 1) := by decide +kernel
theorem dX2_enterClaim_33 : decode cX2_enterClaim 33 = .ok (.bipush 9, 2) := by decide +kernel
theorem dX2_enterClaim_35 : decode cX2_enterClaim 35 = .ok (.if_icmp .gt 16, 3) := by decide +kernel
theorem dX2_enterClaim_38 : decode cX2_enterClaim 38 = .ok (.iload 4, 2) := by decide +kernel
theorem dX2_enterClaim_40 : decode cX2_enterClaim 40 = .ok (.iconst 1, 1) := by decide +kernel
theorem dX2_enterClaim_41 : decode cX2_enterClaim 41 = .ok (.if_icmp .lt 10, 3) := by decide +kernel
theorem dX2_enterClaim_44 : decode cX2_enterClaim 44 = .ok (.iload 4, 2) := by decide +kernel
theorem dX2_enterClaim_46 : decode cX2_enterClaim 46 = .ok (.bipush 30, 2) := by decide +kernel
theorem dX2_enterClaim_48 : decode cX2_enterClaim 48 = .ok (.if_icmp .le 5, 3) := by decide +kernel
theorem dX2_enterClaim_51 : decode cX2_enterClaim 51 = .ok (.iconst (-1), 1) := by decide +kernel
theorem dX2_enterClaim_52 : decode cX2_enterClaim 52 = .ok (.ireturn, 1) := by decide +kernel
theorem dX2_enterClaim_53 : decode cX2_enterClaim 53 = .ok (.aload_n 0, 1) := by decide +kernel
theorem dX2_enterClaim_54 : decode cX2_enterClaim 54 = .ok (.iload_n 2, 1) := by decide +kernel
theorem dX2_enterClaim_55 : decode cX2_enterClaim 55 = .ok (.invokevirtual 67, 3) := by decide +kernel
theorem dX2_enterClaim_58 : decode cX2_enterClaim 58 = .ok (.astore 6, 2) := by decide +kernel
theorem dX2_enterClaim_60 : decode cX2_enterClaim 60 = .ok (.aload 6, 2) := by decide +kernel
theorem dX2_enterClaim_62 : decode cX2_enterClaim 62 = .ok (.iload_n 1, 1) := by decide +kernel
theorem dX2_enterClaim_63 : decode cX2_enterClaim 63 = .ok (.invokevirtual 114, 3) := by decide +kernel
theorem dX2_enterClaim_66 : decode cX2_enterClaim 66 = .ok (.ifCond .ge 12, 3) := by decide +kernel
theorem dX2_enterClaim_69 : decode cX2_enterClaim 69 = .ok (.aload 6, 2) := by decide +kernel
theorem dX2_enterClaim_71 : decode cX2_enterClaim 71 = .ok (.getfield 111, 3) := by decide +kernel
theorem dX2_enterClaim_74 : decode cX2_enterClaim 74 = .ok (.iload_n 1, 1) := by decide +kernel
theorem dX2_enterClaim_75 : decode cX2_enterClaim 75 = .ok (.if_icmp .ne 6, 3) := by decide +kernel
theorem dX2_enterClaim_78 : decode cX2_enterClaim 78 = .ok (.bipush (-5), 2) := by decide +kernel
theorem dX2_enterClaim_80 : decode cX2_enterClaim 80 = .ok (.ireturn, 1) := by decide +kernel
theorem dX2_enterClaim_81 : decode cX2_enterClaim 81 = .ok (.aload 6, 2) := by decide +kernel
theorem dX2_enterClaim_83 : decode cX2_enterClaim 83 = .ok (.getfield 150, 3) := by decide +kernel
theorem dX2_enterClaim_86 : decode cX2_enterClaim 86 = .ok (.invokevirtual 154, 3) := by decide +kernel
theorem dX2_enterClaim_89 : decode cX2_enterClaim 89 = .ok (.bipush 8, 2) := by decide +kernel
theorem dX2_enterClaim_91 : decode cX2_enterClaim 91 = .ok (.if_icmp .lt 6, 3) := by decide +kernel
theorem dX2_enterClaim_94 : decode cX2_enterClaim 94 = .ok (.bipush (-3), 2) := by decide +kernel
theorem dX2_enterClaim_96 : decode cX2_enterClaim 96 = .ok (.ireturn, 1) := by decide +kernel
theorem dX2_enterClaim_97 : decode cX2_enterClaim 97 = .ok (.aload 6, 2) := by decide +kernel
theorem dX2_enterClaim_99 : decode cX2_enterClaim 99 = .ok (.iload_n 1, 1) := by decide +kernel
theorem dX2_enterClaim_100 : decode cX2_enterClaim 100 = .ok (.iload_n 3, 1) := by decide +kernel
theorem dX2_enterClaim_101 : decode cX2_enterClaim 101 = .ok (.iload 4, 2) := by decide +kernel
theorem dX2_enterClaim_103 : decode cX2_enterClaim 103 = .ok (.aload_n 0, 1) := by decide +kernel
theorem dX2_enterClaim_104 : decode cX2_enterClaim 104 = .ok (.getfield 47, 3) := by decide +kernel
theorem dX2_enterClaim_107 : decode cX2_enterClaim 107 = .ok (.invokevirtual 171, 3) := by decide +kernel
theorem dX2_enterClaim_110 : decode cX2_enterClaim 110 = .ok (.ireturn, 1) := by decide +kernel
set_option maxRecDepth 20000 in
theorem ggX2_dropClaim_X2_isPerson : GoodIn wsX2_dropClaim wsX2_isPerson := goodIn_r _ [6, 7, 52, 53, 54, 55, 56, 57, 58, 59, 60, 61, 62] (by decide +kernel) (by decide +kernel)
set_option maxRecDepth 20000 in
theorem gX2_dropClaim_X2_isPerson : GoodIn wsX2_dropClaim (wsV RX2 86 RX2 yX2_isPerson wsX2_isPerson) := goodIn_app (goodIn_of _ (by decide +kernel)) ggX2_dropClaim_X2_isPerson
set_option maxRecDepth 20000 in
theorem ggX2_dropClaim_X2_isTool : GoodIn wsX2_dropClaim wsX2_isTool := goodIn_r _ [11, 12, 52, 53, 54, 55, 56, 57, 58, 59, 60, 61, 62] (by decide +kernel) (by decide +kernel)
set_option maxRecDepth 20000 in
theorem gX2_dropClaim_X2_isTool : GoodIn wsX2_dropClaim (wsV RX2 89 RX2 yX2_isTool wsX2_isTool) := goodIn_app (goodIn_of _ (by decide +kernel)) ggX2_dropClaim_X2_isTool
set_option maxRecDepth 20000 in
theorem ggX2_dropClaim_X2_toolAt : GoodIn wsX2_dropClaim wsX2_toolAt := goodIn_r _ [16, 17, 18, 52, 53, 54, 55, 56, 57, 58, 59, 60, 61, 62] (by decide +kernel) (by decide +kernel)
set_option maxRecDepth 20000 in
theorem gX2_dropClaim_X2_toolAt : GoodIn wsX2_dropClaim (wsV RX2 67 RX2 yX2_toolAt wsX2_toolAt) := goodIn_app (goodIn_of _ (by decide +kernel)) ggX2_dropClaim_X2_toolAt
set_option maxRecDepth 20000 in
theorem ggX2_dropClaim_X7_placeOfClaim : GoodIn wsX2_dropClaim wsX7_placeOfClaim := goodIn_r _ [23, 24, 25, 26, 27, 28, 29, 30, 31, 32, 33, 34, 35, 36, 42, 43, 44, 45, 46, 47, 48, 49, 50, 51, 63, 64, 65, 66] (by decide +kernel) (by decide +kernel)
set_option maxRecDepth 20000 in
theorem gX2_dropClaim_X7_placeOfClaim : GoodIn wsX2_dropClaim (wsV RX2 114 RX7 yX7_placeOfClaim wsX7_placeOfClaim) := goodIn_app (goodIn_of _ (by decide +kernel)) ggX2_dropClaim_X7_placeOfClaim
set_option maxRecDepth 20000 in
theorem ggX2_dropClaim_X4_remove : GoodIn wsX2_dropClaim wsX4_remove := goodIn_r _ [40, 30, 35, 36, 63, 64, 65, 66] (by decide +kernel) (by decide +kernel)
set_option maxRecDepth 20000 in
theorem gX2_dropClaim_X4_remove : GoodIn wsX2_dropClaim (wsV RX2 167 RX4 yX4_remove wsX4_remove) := goodIn_app (goodIn_of _ (by decide +kernel)) ggX2_dropClaim_X4_remove
set_option maxRecDepth 20000 in
theorem ggX2_dropClaim_X4_size : GoodIn wsX2_dropClaim wsX4_size := goodIn_r _ [29, 30, 63, 64, 65, 66] (by decide +kernel) (by decide +kernel)
set_option maxRecDepth 20000 in
theorem gX2_dropClaim_X4_size : GoodIn wsX2_dropClaim (wsV RX2 154 RX4 yX4_size wsX4_size) := goodIn_app (goodIn_of _ (by decide +kernel)) ggX2_dropClaim_X4_size
theorem dX2_dropClaim_0 : decode cX2_dropClaim 0 = .ok (.aload_n 0, 1) := by decide +kernel
theorem dX2_dropClaim_1 : decode cX2_dropClaim 1 = .ok (.iload_n 1, 1) := by decide +kernel
theorem dX2_dropClaim_2 : decode cX2_dropClaim 2 = .ok (.invokevirtual 86, 3) := by decide +kernel
theorem dX2_dropClaim_5 : decode cX2_dropClaim 5 = .ok (.ifCond .eq 11, 3) := by decide +kernel
theorem dX2_dropClaim_8 : decode cX2_dropClaim 8 = .ok (.aload_n 0, 1) := by decide +kernel
theorem dX2_dropClaim_9 : decode cX2_dropClaim 9 = .ok (.iload_n 2, 1) := by decide +kernel
theorem dX2_dropClaim_10 : decode cX2_dropClaim 10 = .ok (.invokevirtual 89, 3) := by decide +kernel
theorem dX2_dropClaim_13 : decode cX2_dropClaim 13 = .ok (.ifCond .ne 5, 3) := by decide +kernel
theorem dX2_dropClaim_16 : decode cX2_dropClaim 16 = .ok (.iconst (-1), 1) := by decide +kernel
theorem dX2_dropClaim_17 : decode cX2_dropClaim 17 = .ok (.ireturn, 1) := by decide +kernel
theorem dX2_dropClaim_18 : decode cX2_dropClaim 18 = .ok (.aload_n 0, 1) := by decide +kernel
theorem dX2_dropClaim_19 : decode cX2_dropClaim 19 = .ok (.iload_n 2, 1) := by decide +kernel
theorem dX2_dropClaim_20 : decode cX2_dropClaim 20 = .ok (.invokevirtual 67, 3) := by decide +kernel
theorem dX2_dropClaim_23 : decode cX2_dropClaim 23 = .ok (.astore_n 3, 1) := by decide +kernel
theorem dX2_dropClaim_24 : decode cX2_dropClaim 24 = .ok (.aload_n 3, 1) := by decide +kernel
theorem dX2_dropClaim_25 : decode cX2_dropClaim 25 = .ok (.iload_n 1, 1) := by decide +kernel
theorem dX2_dropClaim_26 : decode cX2_dropClaim 26 = .ok (.invokevirtual 114, 3) := by decide +kernel
theorem dX2_dropClaim_29 : decode cX2_dropClaim 29 = .ok (.istore 4, 2) := by decide +kernel
theorem dX2_dropClaim_31 : decode cX2_dropClaim 31 = .ok (.iload 4, 2) := by decide +kernel
theorem dX2_dropClaim_33 : decode cX2_dropClaim 33 = .ok (.ifCond .ge 6, 3) := by decide +kernel
theorem dX2_dropClaim_36 : decode cX2_dropClaim 36 = .ok (.bipush (-2), 2) := by decide +kernel
theorem dX2_dropClaim_38 : decode cX2_dropClaim 38 = .ok (.ireturn, 1) := by decide +kernel
theorem dX2_dropClaim_39 : decode cX2_dropClaim 39 = .ok (.aload_n 3, 1) := by decide +kernel
theorem dX2_dropClaim_40 : decode cX2_dropClaim 40 = .ok (.getfield 150, 3) := by decide +kernel
theorem dX2_dropClaim_43 : decode cX2_dropClaim 43 = .ok (.iload 4, 2) := by decide +kernel
theorem dX2_dropClaim_45 : decode cX2_dropClaim 45 = .ok (.invokevirtual 167, 3) := by decide +kernel
theorem dX2_dropClaim_48 : decode cX2_dropClaim 48 = .ok (.aload_n 3, 1) := by decide +kernel
theorem dX2_dropClaim_49 : decode cX2_dropClaim 49 = .ok (.getfield 150, 3) := by decide +kernel
theorem dX2_dropClaim_52 : decode cX2_dropClaim 52 = .ok (.invokevirtual 154, 3) := by decide +kernel
theorem dX2_dropClaim_55 : decode cX2_dropClaim 55 = .ok (.ireturn, 1) := by decide +kernel
set_option maxRecDepth 20000 in
theorem ggX2_giveBack_X2_isTool : GoodIn wsX2_giveBack wsX2_isTool := goodIn_r _ [11, 12, 197, 198, 199, 200, 201, 202, 203, 204, 205, 206, 207] (by decide +kernel) (by decide +kernel)
set_option maxRecDepth 20000 in
theorem gX2_giveBack_X2_isTool : GoodIn wsX2_giveBack (wsV RX2 89 RX2 yX2_isTool wsX2_isTool) := goodIn_app (goodIn_of _ (by decide +kernel)) ggX2_giveBack_X2_isTool
set_option maxRecDepth 20000 in
theorem ggX2_giveBack_X2_toolAt : GoodIn wsX2_giveBack wsX2_toolAt := goodIn_r _ [16, 17, 18, 197, 198, 199, 200, 201, 202, 203, 204, 205, 206, 207] (by decide +kernel) (by decide +kernel)
set_option maxRecDepth 20000 in
theorem gX2_giveBack_X2_toolAt : GoodIn wsX2_giveBack (wsV RX2 67 RX2 yX2_toolAt wsX2_toolAt) := goodIn_app (goodIn_of _ (by decide +kernel)) ggX2_giveBack_X2_toolAt
set_option maxRecDepth 20000 in
theorem ggX2_giveBack_X7_isLeased : GoodIn wsX2_giveBack wsX7_isLeased := goodIn_r _ [23, 24, 187, 188, 189, 190, 191, 192, 193, 194, 195, 196] (by decide +kernel) (by decide +kernel)
set_option maxRecDepth 20000 in
theorem gX2_giveBack_X7_isLeased : GoodIn wsX2_giveBack (wsV RX2 124 RX7 yX7_isLeased wsX7_isLeased) := goodIn_app (goodIn_of _ (by decide +kernel)) ggX2_giveBack_X7_isLeased
set_option maxRecDepth 20000 in
theorem ggX2_giveBack_X2_lookAt : GoodIn wsX2_giveBack wsX2_lookAt := goodIn_r _ [28, 29, 2, 3, 7, 8, 9, 10, 11, 12, 13, 14, 15, 16, 17, 18, 30, 31, 32, 22, 33, 34, 35, 36, 37, 38, 39, 40, 41, 42, 43, 44, 45, 46, 47, 48, 49, 50, 51, 52, 53, 54, 55, 56, 57, 58, 59, 60, 61, 62, 63, 64, 65, 66, 67, 68, 69, 70, 71, 72, 73, 74, 75, 76, 77, 78, 79, 80, 81, 82, 83, 84, 85, 86, 87, 88, 89, 90, 91, 92, 93, 94, 95, 96, 97, 98, 99, 20, 21, 23, 24, 100, 101, 102, 103, 104, 105, 106, 107, 108, 109, 110, 111, 112, 113, 114, 115, 116, 117, 118, 119, 120, 121, 122, 123, 124, 125, 126, 127, 128, 129, 130, 131, 132, 133, 134, 197, 198, 199, 200, 201, 202, 203, 204, 205, 206, 207, 187, 188, 189, 190, 191, 192, 193, 194, 195, 196, 214, 215, 216, 217, 218, 219, 208, 209, 210, 211, 212, 213] (by decide +kernel) (by decide +kernel)
set_option maxRecDepth 20000 in
theorem gX2_giveBack_X2_lookAt : GoodIn wsX2_giveBack (wsV RX2 175 RX2 yX2_lookAt wsX2_lookAt) := goodIn_app (goodIn_of _ (by decide +kernel)) ggX2_giveBack_X2_lookAt
set_option maxRecDepth 20000 in
theorem ggX2_giveBack_X2_personAt : GoodIn wsX2_giveBack wsX2_personAt := goodIn_r _ [111, 112, 113, 197, 198, 199, 200, 201, 202, 203, 204, 205, 206, 207] (by decide +kernel) (by decide +kernel)
set_option maxRecDepth 20000 in
theorem gX2_giveBack_X2_personAt : GoodIn wsX2_giveBack (wsV RX2 59 RX2 yX2_personAt wsX2_personAt) := goodIn_app (goodIn_of _ (by decide +kernel)) ggX2_giveBack_X2_personAt
set_option maxRecDepth 20000 in
theorem ggX2_giveBack_X7_feeOn : GoodIn wsX2_giveBack wsX7_feeOn := goodIn_r _ [138, 52, 139, 140, 126, 55, 127, 141, 142, 143, 22, 144, 145, 53, 54, 56, 99, 20, 21, 23, 24, 187, 188, 189, 190, 191, 192, 193, 194, 195, 196] (by decide +kernel) (by decide +kernel)
set_option maxRecDepth 20000 in
theorem gX2_giveBack_X7_feeOn : GoodIn wsX2_giveBack (wsV RX2 178 RX7 yX7_feeOn wsX7_feeOn) := goodIn_app (goodIn_of _ (by decide +kernel)) ggX2_giveBack_X7_feeOn
set_option maxRecDepth 20000 in
theorem ggX2_giveBack_X7_daysLateOn : GoodIn wsX2_giveBack wsX7_daysLateOn := goodIn_r _ [144, 145, 53, 54, 55, 56, 99, 20, 21, 22, 23, 24, 187, 188, 189, 190, 191, 192, 193, 194, 195, 196] (by decide +kernel) (by decide +kernel)
set_option maxRecDepth 20000 in
theorem gX2_giveBack_X7_daysLateOn : GoodIn wsX2_giveBack (wsV RX2 181 RX7 yX7_daysLateOn wsX7_daysLateOn) := goodIn_app (goodIn_of _ (by decide +kernel)) ggX2_giveBack_X7_daysLateOn
set_option maxRecDepth 20000 in
theorem ggX2_giveBack_X3_loseTrust : GoodIn wsX2_giveBack wsX3_loseTrust := goodIn_r _ [132, 133, 134, 54, 55, 56, 208, 209, 210, 211, 212, 213] (by decide +kernel) (by decide +kernel)
set_option maxRecDepth 20000 in
theorem gX2_giveBack_X3_loseTrust : GoodIn wsX2_giveBack (wsV RX2 187 RX3 yX3_loseTrust wsX3_loseTrust) := goodIn_app (goodIn_of _ (by decide +kernel)) ggX2_giveBack_X3_loseTrust
set_option maxRecDepth 20000 in
theorem ggX2_giveBack_X3_gainTrust : GoodIn wsX2_giveBack wsX3_gainTrust := goodIn_r _ [150, 133, 125, 126, 55, 127, 208, 209, 210, 211, 212, 213] (by decide +kernel) (by decide +kernel)
set_option maxRecDepth 20000 in
theorem gX2_giveBack_X3_gainTrust : GoodIn wsX2_giveBack (wsV RX2 190 RX3 yX3_gainTrust wsX3_gainTrust) := goodIn_app (goodIn_of _ (by decide +kernel)) ggX2_giveBack_X3_gainTrust
set_option maxRecDepth 20000 in
theorem ggX2_giveBack_X7_endLink : GoodIn wsX2_giveBack wsX7_endLink := goodIn_r _ [154, 155, 36, 37, 38, 39, 40, 41, 98, 89, 90, 91, 46, 47, 187, 188, 189, 190, 191, 192, 193, 194, 195, 196, 214, 215, 216, 217] (by decide +kernel) (by decide +kernel)
set_option maxRecDepth 20000 in
theorem gX2_giveBack_X7_endLink : GoodIn wsX2_giveBack (wsV RX2 193 RX7 yX7_endLink wsX7_endLink) := goodIn_app (goodIn_of _ (by decide +kernel)) ggX2_giveBack_X7_endLink
set_option maxRecDepth 20000 in
theorem ggX2_giveBack_X7_stayAtOffice : GoodIn wsX2_giveBack wsX7_stayAtOffice := goodIn_r _ [159, 24, 160, 145, 139, 187, 188, 189, 190, 191, 192, 193, 194, 195, 196] (by decide +kernel) (by decide +kernel)
set_option maxRecDepth 20000 in
theorem gX2_giveBack_X7_stayAtOffice : GoodIn wsX2_giveBack (wsV RX2 196 RX7 yX7_stayAtOffice wsX7_stayAtOffice) := goodIn_app (goodIn_of _ (by decide +kernel)) ggX2_giveBack_X7_stayAtOffice
set_option maxRecDepth 20000 in
theorem ggX2_giveBack_X2_offer : GoodIn wsX2_giveBack wsX2_offer := goodIn_r _ [164, 165, 166, 167, 168, 10, 169, 170, 4, 171, 172, 37, 38, 39, 40, 41, 173, 43, 44, 45, 46, 47, 108, 109, 110, 111, 112, 113, 174, 175, 176, 177, 178, 179, 180, 181, 5, 2, 182, 183, 184, 185, 22, 186, 24, 160, 155, 96, 97, 84, 85, 86, 87, 98, 89, 90, 91, 187, 188, 189, 190, 191, 192, 193, 194, 195, 196, 208, 209, 210, 211, 212, 213, 214, 215, 216, 217, 197, 198, 199, 200, 201, 202, 203, 204, 205, 206, 207] (by decide +kernel) (by decide +kernel)
set_option maxRecDepth 20000 in
theorem gX2_giveBack_X2_offer : GoodIn wsX2_giveBack (wsV RX2 199 RX2 yX2_offer wsX2_offer) := goodIn_app (goodIn_of _ (by decide +kernel)) ggX2_giveBack_X2_offer
theorem dX2_giveBack_0 : decode cX2_giveBack 0 = .ok (.aload_n 0, 1) := by decide +kernel
theorem dX2_giveBack_1 : decode cX2_giveBack 1 = .ok (.iload_n 1, 1) := by decide +kernel
theorem dX2_giveBack_2 : decode cX2_giveBack 2 = .ok (.invokevirtual 89, 3) := by decide +kernel
theorem dX2_giveBack_5 : decode cX2_giveBack 5 = .ok (.ifCond .ne 5, 3) := by decide +kernel
theorem dX2_giveBack_8 : decode cX2_giveBack 8 = .ok (.iconst (-1), 1) := by decide +kernel
theorem dX2_giveBack_9 : decode cX2_giveBack 9 = .ok (.ireturn, 1) := by decide +kernel
theorem dX2_giveBack_10 : decode cX2_giveBack 10 = .ok (.aload_n 0, 1) := by decide +kernel
theorem dX2_giveBack_11 : decode cX2_giveBack 11 = .ok (.iload_n 1, 1) := by decide +kernel
theorem dX2_giveBack_12 : decode cX2_giveBack 12 = .ok (.invokevirtual 67, 3) := by decide +kernel
theorem dX2_giveBack_15 : decode cX2_giveBack 15 = .ok (.astore_n 2, 1) := by decide +kernel
theorem dX2_giveBack_16 : decode cX2_giveBack 16 = .ok (.aload_n 2, 1) := by decide +kernel
theorem dX2_giveBack_17 : decode cX2_giveBack 17 = .ok (.invokevirtual 124, 3) := by decide +kernel
theorem dX2_giveBack_20 : decode cX2_giveBack 20 = .ok (.ifCond .ne 6, 3) := by decide +kernel
theorem dX2_giveBack_23 : decode cX2_giveBack 23 = .ok (.bipush (-5), 2) := by decide +kernel
theorem dX2_giveBack_25 : decode cX2_giveBack 25 = .ok (.ireturn, 1) := by decide +kernel
theorem dX2_giveBack_26 : decode cX2_giveBack 26 = .ok (.aload_n 0, 1) := by decide +kernel
theorem dX2_giveBack_27 : decode cX2_giveBack 27 = .ok (.iload_n 1, 1) := by decide +kernel
theorem dX2_giveBack_28 : decode cX2_giveBack 28 = .ok (.invokevirtual 175, 3) := by decide +kernel
theorem dX2_giveBack_31 : decode cX2_giveBack 31 = .ok (.pop, 1) := by decide +kernel
theorem dX2_giveBack_32 : decode cX2_giveBack 32 = .ok (.aload_n 0, 1) := by decide +kernel
theorem dX2_giveBack_33 : decode cX2_giveBack 33 = .ok (.aload_n 2, 1) := by decide +kernel
theorem dX2_giveBack_34 : decode cX2_giveBack 34 = .ok (.getfield 111, 3) := by decide +kernel
theorem dX2_giveBack_37 : decode cX2_giveBack 37 = .ok (.invokevirtual 59, 3) := by decide +kernel
theorem dX2_giveBack_40 : decode cX2_giveBack 40 = .ok (.astore_n 3, 1) := by decide +kernel
theorem dX2_giveBack_41 : decode cX2_giveBack 41 = .ok (.aload_n 2, 1) := by decide +kernel
theorem dX2_giveBack_42 : decode cX2_giveBack 42 = .ok (.aload_n 0, 1) := by decide +kernel
theorem dX2_giveBack_43 : decode cX2_giveBack 43 = .ok (.getfield 47, 3) := by decide +kernel
theorem dX2_giveBack_46 : decode cX2_giveBack 46 = .ok (.invokevirtual 178, 3) := by decide +kernel
theorem dX2_giveBack_49 : decode cX2_giveBack 49 = .ok (.istore 4, 2) := by decide +kernel
theorem dX2_giveBack_51 : decode cX2_giveBack 51 = .ok (.aload_n 0, 1) := by decide +kernel
theorem dX2_giveBack_52 : decode cX2_giveBack 52 = .ok (.dup, 1) := by decide +kernel
theorem dX2_giveBack_53 : decode cX2_giveBack 53 = .ok (.getfield 50, 3) := by decide +kernel
theorem dX2_giveBack_56 : decode cX2_giveBack 56 = .ok (.iload 4, 2) := by decide +kernel
theorem dX2_giveBack_58 : decode cX2_giveBack 58 = .ok (.iadd, 1) := by decide +kernel
theorem dX2_giveBack_59 : decode cX2_giveBack 59 = .ok (.putfield 50, 3) := by decide +kernel
theorem dX2_giveBack_62 : decode cX2_giveBack 62 = .ok (.aload_n 3, 1) := by decide +kernel
theorem dX2_giveBack_63 : decode cX2_giveBack 63 = .ok (.dup, 1) := by decide +kernel
theorem dX2_giveBack_64 : decode cX2_giveBack 64 = .ok (.getfield 108, 3) := by decide +kernel
theorem dX2_giveBack_67 : decode cX2_giveBack 67 = .ok (.aload_n 2, 1) := by decide +kernel
theorem dX2_giveBack_68 : decode cX2_giveBack 68 = .ok (.getfield 144, 3) := by decide +kernel
theorem dX2_giveBack_71 : decode cX2_giveBack 71 = .ok (.iload 4, 2) := by decide +kernel
theorem dX2_giveBack_73 : decode cX2_giveBack 73 = .ok (.isub, 1) := by decide +kernel
theorem dX2_giveBack_74 : decode cX2_giveBack 74 = .ok (.iadd, 1) := by decide +kernel
theorem dX2_giveBack_75 : decode cX2_giveBack 75 = .ok (.putfield 108, 3) := by decide +kernel
theorem dX2_giveBack_78 : decode cX2_giveBack 78 = .ok (.aload_n 2, 1) := by decide +kernel
theorem dX2_giveBack_79 : decode cX2_giveBack 79 = .ok (.aload_n 0, 1) := by decide +kernel
theorem dX2_giveBack_80 : decode cX2_giveBack 80 = .ok (.getfield 47, 3) := by decide +kernel
theorem dX2_giveBack_83 : decode cX2_giveBack 83 = .ok (.invokevirtual 181, 3) := by decide +kernel
theorem dX2_giveBack_86 : decode cX2_giveBack 86 = .ok (.ifCond .le 21, 3) := by decide +kernel
theorem dX2_giveBack_89 : decode cX2_giveBack 89 = .ok (.aload_n 3, 1) := by decide +kernel
theorem dX2_giveBack_90 : decode cX2_giveBack 90 = .ok (.dup, 1) := by decide +kernel
theorem dX2_giveBack_91 : decode cX2_giveBack 91 = .ok (.getfield 184, 3) := by decide +kernel
theorem dX2_giveBack_94 : decode cX2_giveBack 94 = .ok (.iconst 1, 1) := by decide +kernel
theorem dX2_giveBack_95 : decode cX2_giveBack 95 = .ok (.iadd, 1) := by decide +kernel
theorem dX2_giveBack_96 : decode cX2_giveBack 96 = .ok (.putfield 184, 3) := by decide +kernel
theorem dX2_giveBack_99 : decode cX2_giveBack 99 = .ok (.aload_n 3, 1) := by decide +kernel
theorem dX2_giveBack_100 : decode cX2_giveBack 100 = .ok (.iconst 5, 1) := by decide +kernel
theorem dX2_giveBack_101 : decode cX2_giveBack 101 = .ok (.invokevirtual 187, 3) := by decide +kernel
theorem dX2_giveBack_104 : decode cX2_giveBack 104 = .ok (.goto 8, 3) := by decide +kernel
theorem dX2_giveBack_107 : decode cX2_giveBack 107 = .ok (.aload_n 3, 1) := by decide +kernel
theorem dX2_giveBack_108 : decode cX2_giveBack 108 = .ok (.iconst 1, 1) := by decide +kernel
theorem dX2_giveBack_109 : decode cX2_giveBack 109 = .ok (.invokevirtual 190, 3) := by decide +kernel
theorem dX2_giveBack_112 : decode cX2_giveBack 112 = .ok (.aload_n 2, 1) := by decide +kernel
theorem dX2_giveBack_113 : decode cX2_giveBack 113 = .ok (.aload_n 0, 1) := by decide +kernel
theorem dX2_giveBack_114 : decode cX2_giveBack 114 = .ok (.getfield 47, 3) := by decide +kernel
theorem dX2_giveBack_117 : decode cX2_giveBack 117 = .ok (.invokevirtual 193, 3) := by decide +kernel
theorem dX2_giveBack_120 : decode cX2_giveBack 120 = .ok (.aload_n 2, 1) := by decide +kernel
theorem dX2_giveBack_121 : decode cX2_giveBack 121 = .ok (.invokevirtual 196, 3) := by decide +kernel
theorem dX2_giveBack_124 : decode cX2_giveBack 124 = .ok (.aload_n 0, 1) := by decide +kernel
theorem dX2_giveBack_125 : decode cX2_giveBack 125 = .ok (.aload_n 2, 1) := by decide +kernel
theorem dX2_giveBack_126 : decode cX2_giveBack 126 = .ok (.invokevirtual 199, 3) := by decide +kernel
theorem dX2_giveBack_129 : decode cX2_giveBack 129 = .ok (.iload 4, 2) := by decide +kernel
theorem dX2_giveBack_131 : decode cX2_giveBack 131 = .ok (.ireturn, 1) := by decide +kernel
set_option maxRecDepth 20000 in
theorem ggX2_passOn_X2_isTool : GoodIn wsX2_passOn wsX2_isTool := goodIn_r _ [7, 8, 93, 94, 95, 96, 97, 98, 99, 100, 101, 102, 103] (by decide +kernel) (by decide +kernel)
set_option maxRecDepth 20000 in
theorem gX2_passOn_X2_isTool : GoodIn wsX2_passOn (wsV RX2 89 RX2 yX2_isTool wsX2_isTool) := goodIn_app (goodIn_of _ (by decide +kernel)) ggX2_passOn_X2_isTool
set_option maxRecDepth 20000 in
theorem ggX2_passOn_X2_isPerson : GoodIn wsX2_passOn wsX2_isPerson := goodIn_r _ [12, 13, 93, 94, 95, 96, 97, 98, 99, 100, 101, 102, 103] (by decide +kernel) (by decide +kernel)
set_option maxRecDepth 20000 in
theorem gX2_passOn_X2_isPerson : GoodIn wsX2_passOn (wsV RX2 86 RX2 yX2_isPerson wsX2_isPerson) := goodIn_app (goodIn_of _ (by decide +kernel)) ggX2_passOn_X2_isPerson
set_option maxRecDepth 20000 in
theorem ggX2_passOn_X2_toolAt : GoodIn wsX2_passOn wsX2_toolAt := goodIn_r _ [17, 18, 19, 93, 94, 95, 96, 97, 98, 99, 100, 101, 102, 103] (by decide +kernel) (by decide +kernel)
set_option maxRecDepth 20000 in
theorem gX2_passOn_X2_toolAt : GoodIn wsX2_passOn (wsV RX2 67 RX2 yX2_toolAt wsX2_toolAt) := goodIn_app (goodIn_of _ (by decide +kernel)) ggX2_passOn_X2_toolAt
set_option maxRecDepth 20000 in
theorem ggX2_passOn_X7_isLeased : GoodIn wsX2_passOn wsX7_isLeased := goodIn_r _ [24, 25, 77, 78, 79, 80, 81, 82, 83, 84, 85, 86] (by decide +kernel) (by decide +kernel)
set_option maxRecDepth 20000 in
theorem gX2_passOn_X7_isLeased : GoodIn wsX2_passOn (wsV RX2 124 RX7 yX7_isLeased wsX7_isLeased) := goodIn_app (goodIn_of _ (by decide +kernel)) ggX2_passOn_X7_isLeased
set_option maxRecDepth 20000 in
theorem ggX2_passOn_X2_personAt : GoodIn wsX2_passOn wsX2_personAt := goodIn_r _ [29, 30, 31, 93, 94, 95, 96, 97, 98, 99, 100, 101, 102, 103] (by decide +kernel) (by decide +kernel)
set_option maxRecDepth 20000 in
theorem gX2_passOn_X2_personAt : GoodIn wsX2_passOn (wsV RX2 59 RX2 yX2_personAt wsX2_personAt) := goodIn_app (goodIn_of _ (by decide +kernel)) ggX2_passOn_X2_personAt
set_option maxRecDepth 20000 in
theorem ggX2_passOn_X2_whyNotPassed : GoodIn wsX2_passOn wsX2_whyNotPassed := goodIn_r _ [35, 36, 37, 38, 93, 94, 95, 96, 97, 98, 99, 100, 101, 102, 103, 77, 78, 79, 80, 81, 82, 83, 84, 85, 86] (by decide +kernel) (by decide +kernel)
set_option maxRecDepth 20000 in
theorem gX2_passOn_X2_whyNotPassed : GoodIn wsX2_passOn (wsV RX2 202 RX2 yX2_whyNotPassed wsX2_whyNotPassed) := goodIn_app (goodIn_of _ (by decide +kernel)) ggX2_passOn_X2_whyNotPassed
set_option maxRecDepth 20000 in
theorem ggX2_passOn_X2_refuse : GoodIn wsX2_passOn wsX2_refuse := goodIn_r _ [42, 43, 44, 93, 94, 95, 96, 97, 98, 99, 100, 101, 102, 103] (by decide +kernel) (by decide +kernel)
set_option maxRecDepth 20000 in
theorem gX2_passOn_X2_refuse : GoodIn wsX2_passOn (wsV RX2 131 RX2 yX2_refuse wsX2_refuse) := goodIn_app (goodIn_of _ (by decide +kernel)) ggX2_passOn_X2_refuse
set_option maxRecDepth 20000 in
theorem ggX2_passOn_X2_handOver : GoodIn wsX2_passOn wsX2_handOver := goodIn_r _ [48, 2, 38, 1, 36, 26, 27, 28, 6, 29, 30, 31, 49, 50, 51, 23, 52, 53, 54, 55, 56, 57, 58, 59, 60, 61, 62, 63, 64, 65, 66, 67, 68, 69, 25, 70, 71, 72, 73, 74, 75, 76, 87, 88, 89, 90, 91, 92, 77, 78, 79, 80, 81, 82, 83, 84, 85, 86, 93, 94, 95, 96, 97, 98, 99, 100, 101, 102, 103, 104, 105, 106, 107] (by decide +kernel) (by decide +kernel)
set_option maxRecDepth 20000 in
theorem gX2_passOn_X2_handOver : GoodIn wsX2_passOn (wsV RX2 206 RX2 yX2_handOver wsX2_handOver) := goodIn_app (goodIn_of _ (by decide +kernel)) ggX2_passOn_X2_handOver
theorem dX2_passOn_0 : decode cX2_passOn 0 = .ok (.aload_n 0, 1) := by decide +kernel
theorem dX2_passOn_1 : decode cX2_passOn 1 = .ok (.iload_n 1, 1) := by decide +kernel
theorem dX2_passOn_2 : decode cX2_passOn 2 = .ok (.invokevirtual 89, 3) := by decide +kernel
theorem dX2_passOn_5 : decode cX2_passOn 5 = .ok (.ifCond .eq 23, 3) := by decide +kernel
theorem dX2_passOn_8 : decode cX2_passOn 8 = .ok (.aload_n 0, 1) := by decide +kernel
theorem dX2_passOn_9 : decode cX2_passOn 9 = .ok (.iload_n 2, 1) := by decide +kernel
theorem dX2_passOn_10 : decode cX2_passOn 10 = .ok (.invokevirtual 86, 3) := by decide +kernel
theorem dX2_passOn_13 : decode cX2_passOn 13 = .ok (.ifCond .eq 15, 3) := by decide +kernel
theorem dX2_passOn_16 : decode cX2_passOn 16 = .ok (.aload_n 0, 1) := by decide +kernel
theorem dX2_passOn_17 : decode cX2_passOn 17 = .ok (.iload_n 1, 1) := by decide +kernel
theorem dX2_passOn_18 : decode cX2_passOn 18 = .ok (.invokevirtual 67, 3) := by decide +kernel
theorem dX2_passOn_21 : decode cX2_passOn 21 = .ok (.getfield 111, 3) := by decide +kernel
theorem dX2_passOn_24 : decode cX2_passOn 24 = .ok (.iload_n 2, 1) := by decide +kernel
theorem dX2_passOn_25 : decode cX2_passOn 25 = .ok (.if_icmp .ne 5, 3) := by decide +kernel
theorem dX2_passOn_28 : decode cX2_passOn 28 = .ok (.iconst (-1), 1) := by decide +kernel
theorem dX2_passOn_29 : decode cX2_passOn 29 = .ok (.ireturn, 1) := by decide +kernel
theorem dX2_passOn_30 : decode cX2_passOn 30 = .ok (.aload_n 0, 1) := by decide +kernel
theorem dX2_passOn_31 : decode cX2_passOn 31 = .ok (.iload_n 1, 1) := by decide +kernel
theorem dX2_passOn_32 : decode cX2_passOn 32 = .ok (.invokevirtual 67, 3) := by decide +kernel
theorem dX2_passOn_35 : decode cX2_passOn 35 = .ok (.astore_n 3, 1) := by decide +kernel
theorem dX2_passOn_36 : decode cX2_passOn 36 = .ok (.aload_n 3, 1) := by decide +kernel
theorem dX2_passOn_37 : decode cX2_passOn 37 = .ok (.invokevirtual 124, 3) := by decide +kernel
theorem dX2_passOn_40 : decode cX2_passOn 40 = .ok (.ifCond .ne 6, 3) := by decide +kernel
theorem dX2_passOn_43 : decode cX2_passOn 43 = .ok (.bipush (-5), 2) := by decide +kernel
theorem dX2_passOn_45 : decode cX2_passOn 45 = .ok (.ireturn, 1) := by decide +kernel
theorem dX2_passOn_46 : decode cX2_passOn 46 = .ok (.aload_n 0, 1) := by decide +kernel
theorem dX2_passOn_47 : decode cX2_passOn 47 = .ok (.aload_n 3, 1) := by decide +kernel
theorem dX2_passOn_48 : decode cX2_passOn 48 = .ok (.aload_n 0, 1) := by decide +kernel
theorem dX2_passOn_49 : decode cX2_passOn 49 = .ok (.iload_n 2, 1) := by decide +kernel
theorem dX2_passOn_50 : decode cX2_passOn 50 = .ok (.invokevirtual 59, 3) := by decide +kernel
theorem dX2_passOn_53 : decode cX2_passOn 53 = .ok (.getfield 108, 3) := by decide +kernel
theorem dX2_passOn_56 : decode cX2_passOn 56 = .ok (.invokevirtual 202, 3) := by decide +kernel
theorem dX2_passOn_59 : decode cX2_passOn 59 = .ok (.istore 4, 2) := by decide +kernel
theorem dX2_passOn_61 : decode cX2_passOn 61 = .ok (.iload 4, 2) := by decide +kernel
theorem dX2_passOn_63 : decode cX2_passOn 63 = .ok (.ifCond .eq 12, 3) := by decide +kernel
theorem dX2_passOn_66 : decode cX2_passOn 66 = .ok (.aload_n 0, 1) := by decide +kernel
theorem dX2_passOn_67 : decode cX2_passOn 67 = .ok (.bipush 6, 2) := by decide +kernel
theorem dX2_passOn_69 : decode cX2_passOn 69 = .ok (.iload 4, 2) := by decide +kernel
theorem dX2_passOn_71 : decode cX2_passOn 71 = .ok (.invokevirtual 131, 3) := by decide +kernel
theorem dX2_passOn_74 : decode cX2_passOn 74 = .ok (.ireturn, 1) := by decide +kernel
theorem dX2_passOn_75 : decode cX2_passOn 75 = .ok (.aload_n 0, 1) := by decide +kernel
theorem dX2_passOn_76 : decode cX2_passOn 76 = .ok (.aload_n 3, 1) := by decide +kernel
theorem dX2_passOn_77 : decode cX2_passOn 77 = .ok (.iload_n 2, 1) := by decide +kernel
theorem dX2_passOn_78 : decode cX2_passOn 78 = .ok (.invokevirtual 206, 3) := by decide +kernel
theorem dX2_passOn_81 : decode cX2_passOn 81 = .ok (.iconst 1, 1) := by decide +kernel
theorem dX2_passOn_82 : decode cX2_passOn 82 = .ok (.ireturn, 1) := by decide +kernel
theorem dX2_whyNotPassed_0 : decode cX2_whyNotPassed 0 = .ok (.aload_n 0, 1) := by decide +kernel
theorem dX2_whyNotPassed_1 : decode cX2_whyNotPassed 1 = .ok (.getfield 47, 3) := by decide +kernel
theorem dX2_whyNotPassed_4 : decode cX2_whyNotPassed 4 = .ok (.aload_n 1, 1) := by decide +kernel
theorem dX2_whyNotPassed_5 : decode cX2_whyNotPassed 5 = .ok (.getfield 141, 3) := by decide +kernel
theorem dX2_whyNotPassed_8 : decode cX2_whyNotPassed 8 = .ok (.if_icmp .le 5, 3) := by decide +kernel
theorem dX2_whyNotPassed_11 : decode cX2_whyNotPassed 11 = .ok (.iconst 3, 1) := by decide +kernel
theorem dX2_whyNotPassed_12 : decode cX2_whyNotPassed 12 = .ok (.ireturn, 1) := by decide +kernel
theorem dX2_whyNotPassed_13 : decode cX2_whyNotPassed 13 = .ok (.iload_n 2, 1) := by decide +kernel
theorem dX2_whyNotPassed_14 : decode cX2_whyNotPassed 14 = .ok (.aload_n 1, 1) := by decide +kernel
theorem dX2_whyNotPassed_15 : decode cX2_whyNotPassed 15 = .ok (.getfield 144, 3) := by decide +kernel
theorem dX2_whyNotPassed_18 : decode cX2_whyNotPassed 18 = .ok (.if_icmp .ge 7, 3) := by decide +kernel
theorem dX2_whyNotPassed_21 : decode cX2_whyNotPassed 21 = .ok (.iconst 2, 1) := by decide +kernel
theorem dX2_whyNotPassed_22 : decode cX2_whyNotPassed 22 = .ok (.goto 4, 3) := by decide +kernel
theorem dX2_whyNotPassed_25 : decode cX2_whyNotPassed 25 = .ok (.iconst 0, 1) := by decide +kernel
theorem dX2_whyNotPassed_26 : decode cX2_whyNotPassed 26 = .ok (.ireturn, 1) := by decide +kernel
set_option maxRecDepth 20000 in
theorem ggX2_handOver_X2_personAt : GoodIn wsX2_handOver wsX2_personAt := goodIn_r _ [9, 10, 11, 58, 59, 60, 61, 62, 63, 64, 65, 66, 67, 68] (by decide +kernel) (by decide +kernel)
set_option maxRecDepth 20000 in
theorem gX2_handOver_X2_personAt : GoodIn wsX2_handOver (wsV RX2 59 RX2 yX2_personAt wsX2_personAt) := goodIn_app (goodIn_of _ (by decide +kernel)) ggX2_handOver_X2_personAt
set_option maxRecDepth 20000 in
theorem ggX2_handOver_X7_endLink : GoodIn wsX2_handOver wsX7_endLink := goodIn_r _ [16, 17, 18, 19, 20, 21, 22, 23, 24, 25, 26, 27, 28, 29, 48, 49, 50, 51, 52, 53, 54, 55, 56, 57, 69, 70, 71, 72] (by decide +kernel) (by decide +kernel)
set_option maxRecDepth 20000 in
theorem gX2_handOver_X7_endLink : GoodIn wsX2_handOver (wsV RX2 193 RX7 yX7_endLink wsX7_endLink) := goodIn_app (goodIn_of _ (by decide +kernel)) ggX2_handOver_X7_endLink
set_option maxRecDepth 20000 in
theorem ggX2_handOver_X7_goTo : GoodIn wsX2_handOver wsX7_goTo := goodIn_r _ [33, 34, 35, 17, 36, 37, 38, 39, 21, 40, 23, 41, 29, 28, 24, 25, 26, 27, 48, 49, 50, 51, 52, 53, 54, 55, 56, 57, 69, 70, 71, 72] (by decide +kernel) (by decide +kernel)
set_option maxRecDepth 20000 in
theorem gX2_handOver_X7_goTo : GoodIn wsX2_handOver (wsV RX2 147 RX7 yX7_goTo wsX7_goTo) := goodIn_app (goodIn_of _ (by decide +kernel)) ggX2_handOver_X7_goTo
theorem dX2_handOver_0 : decode cX2_handOver 0 = .ok (.aload_n 0, 1) := by decide +kernel
theorem dX2_handOver_1 : decode cX2_handOver 1 = .ok (.iload_n 2, 1) := by decide +kernel
theorem dX2_handOver_2 : decode cX2_handOver 2 = .ok (.invokevirtual 59, 3) := by decide +kernel
theorem dX2_handOver_5 : decode cX2_handOver 5 = .ok (.dup, 1) := by decide +kernel
theorem dX2_handOver_6 : decode cX2_handOver 6 = .ok (.getfield 108, 3) := by decide +kernel
theorem dX2_handOver_9 : decode cX2_handOver 9 = .ok (.aload_n 1, 1) := by decide +kernel
theorem dX2_handOver_10 : decode cX2_handOver 10 = .ok (.getfield 144, 3) := by decide +kernel
theorem dX2_handOver_13 : decode cX2_handOver 13 = .ok (.isub, 1) := by decide +kernel
theorem dX2_handOver_14 : decode cX2_handOver 14 = .ok (.putfield 108, 3) := by decide +kernel
theorem dX2_handOver_17 : decode cX2_handOver 17 = .ok (.aload_n 0, 1) := by decide +kernel
theorem dX2_handOver_18 : decode cX2_handOver 18 = .ok (.aload_n 1, 1) := by decide +kernel
theorem dX2_handOver_19 : decode cX2_handOver 19 = .ok (.getfield 111, 3) := by decide +kernel
theorem dX2_handOver_22 : decode cX2_handOver 22 = .ok (.invokevirtual 59, 3) := by decide +kernel
theorem dX2_handOver_25 : decode cX2_handOver 25 = .ok (.dup, 1) := by decide +kernel
theorem dX2_handOver_26 : decode cX2_handOver 26 = .ok (.getfield 108, 3) := by decide +kernel
theorem dX2_handOver_29 : decode cX2_handOver 29 = .ok (.aload_n 1, 1) := by decide +kernel
theorem dX2_handOver_30 : decode cX2_handOver 30 = .ok (.getfield 144, 3) := by decide +kernel
theorem dX2_handOver_33 : decode cX2_handOver 33 = .ok (.iadd, 1) := by decide +kernel
theorem dX2_handOver_34 : decode cX2_handOver 34 = .ok (.putfield 108, 3) := by decide +kernel
theorem dX2_handOver_37 : decode cX2_handOver 37 = .ok (.aload_n 1, 1) := by decide +kernel
theorem dX2_handOver_38 : decode cX2_handOver 38 = .ok (.aload_n 0, 1) := by decide +kernel
theorem dX2_handOver_39 : decode cX2_handOver 39 = .ok (.getfield 47, 3) := by decide +kernel
theorem dX2_handOver_42 : decode cX2_handOver 42 = .ok (.invokevirtual 193, 3) := by decide +kernel
theorem dX2_handOver_45 : decode cX2_handOver 45 = .ok (.aload_n 1, 1) := by decide +kernel
theorem dX2_handOver_46 : decode cX2_handOver 46 = .ok (.iload_n 2, 1) := by decide +kernel
theorem dX2_handOver_47 : decode cX2_handOver 47 = .ok (.aload_n 0, 1) := by decide +kernel
theorem dX2_handOver_48 : decode cX2_handOver 48 = .ok (.getfield 47, 3) := by decide +kernel
theorem dX2_handOver_51 : decode cX2_handOver 51 = .ok (.invokevirtual 147, 3) := by decide +kernel
theorem dX2_handOver_54 : decode cX2_handOver 54 = .ok (.return_, 1) := by decide +kernel
set_option maxRecDepth 20000 in
theorem ggX2_exchange_X2_haveTwoHolders : GoodIn wsX2_exchange wsX2_haveTwoHolders := goodIn_r _ [6, 1, 7, 8, 9, 5, 10, 11, 12, 13, 14, 15, 16, 17, 18, 19, 20, 21, 22, 23, 94, 95, 96, 97, 98, 99, 100, 101, 102, 103, 104, 105, 106, 107, 108, 109, 110, 111, 112, 113, 114] (by decide +kernel) (by decide +kernel)
set_option maxRecDepth 20000 in
theorem gX2_exchange_X2_haveTwoHolders : GoodIn wsX2_exchange (wsV RX2 210 RX2 yX2_haveTwoHolders wsX2_haveTwoHolders) := goodIn_app (goodIn_of _ (by decide +kernel)) ggX2_exchange_X2_haveTwoHolders
set_option maxRecDepth 20000 in
theorem ggX2_exchange_X2_gainOf : GoodIn wsX2_exchange wsX2_gainOf := goodIn_r _ [27, 28, 29, 30, 5, 31, 1, 12, 13, 14, 15, 16, 17, 32, 33, 34, 35, 36, 37, 38, 39, 40, 41, 42, 43, 94, 95, 96, 97, 98, 99, 100, 101, 102, 103, 104, 105, 106, 107, 108, 109, 110, 111, 112, 113, 114, 115, 116, 117, 118, 119, 120] (by decide +kernel) (by decide +kernel)
set_option maxRecDepth 20000 in
theorem gX2_exchange_X2_gainOf : GoodIn wsX2_exchange (wsV RX2 214 RX2 yX2_gainOf wsX2_gainOf) := goodIn_app (goodIn_of _ (by decide +kernel)) ggX2_exchange_X2_gainOf
set_option maxRecDepth 20000 in
theorem ggX2_exchange_X2_refuse : GoodIn wsX2_exchange wsX2_refuse := goodIn_r _ [47, 48, 49, 104, 105, 106, 107, 108, 109, 110, 111, 112, 113, 114] (by decide +kernel) (by decide +kernel)
set_option maxRecDepth 20000 in
theorem gX2_exchange_X2_refuse : GoodIn wsX2_exchange (wsV RX2 131 RX2 yX2_refuse wsX2_refuse) := goodIn_app (goodIn_of _ (by decide +kernel)) ggX2_exchange_X2_refuse
set_option maxRecDepth 20000 in
theorem ggX2_exchange_X2_whyNotBothPassed : GoodIn wsX2_exchange wsX2_whyNotBothPassed := goodIn_r _ [53, 1, 54, 55, 12, 13, 14, 5, 15, 16, 17, 32, 33, 34, 35, 36, 37, 56, 57, 58, 59, 60, 61, 94, 95, 96, 97, 98, 99, 100, 101, 102, 103, 115, 116, 117, 118, 119, 120, 104, 105, 106, 107, 108, 109, 110, 111, 112, 113, 114] (by decide +kernel) (by decide +kernel)
set_option maxRecDepth 20000 in
theorem gX2_exchange_X2_whyNotBothPassed : GoodIn wsX2_exchange (wsV RX2 217 RX2 yX2_whyNotBothPassed wsX2_whyNotBothPassed) := goodIn_app (goodIn_of _ (by decide +kernel)) ggX2_exchange_X2_whyNotBothPassed
set_option maxRecDepth 20000 in
theorem ggX2_exchange_X2_toolAt : GoodIn wsX2_exchange wsX2_toolAt := goodIn_r _ [15, 16, 17, 104, 105, 106, 107, 108, 109, 110, 111, 112, 113, 114] (by decide +kernel) (by decide +kernel)
set_option maxRecDepth 20000 in
theorem gX2_exchange_X2_toolAt : GoodIn wsX2_exchange (wsV RX2 67 RX2 yX2_toolAt wsX2_toolAt) := goodIn_app (goodIn_of _ (by decide +kernel)) ggX2_exchange_X2_toolAt
set_option maxRecDepth 20000 in
theorem ggX2_exchange_X2_handOver : GoodIn wsX2_exchange wsX2_handOver := goodIn_r _ [65, 54, 55, 1, 60, 32, 33, 34, 5, 35, 36, 37, 66, 67, 68, 21, 69, 70, 71, 72, 73, 74, 75, 76, 77, 78, 79, 80, 81, 82, 83, 84, 85, 86, 23, 87, 88, 89, 90, 91, 92, 93, 115, 116, 117, 118, 119, 120, 94, 95, 96, 97, 98, 99, 100, 101, 102, 103, 104, 105, 106, 107, 108, 109, 110, 111, 112, 113, 114, 121, 122, 123, 124] (by decide +kernel) (by decide +kernel)
set_option maxRecDepth 20000 in
theorem gX2_exchange_X2_handOver : GoodIn wsX2_exchange (wsV RX2 206 RX2 yX2_handOver wsX2_handOver) := goodIn_app (goodIn_of _ (by decide +kernel)) ggX2_exchange_X2_handOver
theorem dX2_exchange_0 : decode cX2_exchange 0 = .ok (.aload_n 0, 1) := by decide +kernel
theorem dX2_exchange_1 : decode cX2_exchange 1 = .ok (.iload_n 1, 1) := by decide +kernel
theorem dX2_exchange_2 : decode cX2_exchange 2 = .ok (.iload_n 2, 1) := by decide +kernel
theorem dX2_exchange_3 : decode cX2_exchange 3 = .ok (.invokevirtual 210, 3) := by decide +kernel
theorem dX2_exchange_6 : decode cX2_exchange 6 = .ok (.ifCond .ne 5, 3) := by decide +kernel
theorem dX2_exchange_9 : decode cX2_exchange 9 = .ok (.iconst (-1), 1) := by decide +kernel
theorem dX2_exchange_10 : decode cX2_exchange 10 = .ok (.ireturn, 1) := by decide +kernel
theorem dX2_exchange_11 : decode cX2_exchange 11 = .ok (.aload_n 0, 1) := by decide +kernel
theorem dX2_exchange_12 : decode cX2_exchange 12 = .ok (.iload_n 1, 1) := by decide +kernel
theorem dX2_exchange_13 : decode cX2_exchange 13 = .ok (.iload_n 2, 1) := by decide +kernel
theorem dX2_exchange_14 : decode cX2_exchange 14 = .ok (.invokevirtual 214, 3) := by decide +kernel
theorem dX2_exchange_17 : decode cX2_exchange 17 = .ok (.istore_n 3, 1) := by decide +kernel
theorem dX2_exchange_18 : decode cX2_exchange 18 = .ok (.iload_n 3, 1) := by decide +kernel
theorem dX2_exchange_19 : decode cX2_exchange 19 = .ok (.ifCond .ne 10, 3) := by decide +kernel
theorem dX2_exchange_22 : decode cX2_exchange 22 = .ok (.aload_n 0, 1) := by decide +kernel
theorem dX2_exchange_23 : decode cX2_exchange 23 = .ok (.iconst 4, 1) := by decide +kernel
theorem dX2_exchange_24 : decode cX2_exchange 24 = .ok (.iconst 0, 1) := by decide +kernel
theorem dX2_exchange_25 : decode cX2_exchange 25 = .ok (.invokevirtual 131, 3) := by decide +kernel
theorem dX2_exchange_28 : decode cX2_exchange 28 = .ok (.ireturn, 1) := by decide +kernel
theorem dX2_exchange_29 : decode cX2_exchange 29 = .ok (.aload_n 0, 1) := by decide +kernel
theorem dX2_exchange_30 : decode cX2_exchange 30 = .ok (.iload_n 1, 1) := by decide +kernel
theorem dX2_exchange_31 : decode cX2_exchange 31 = .ok (.iload_n 2, 1) := by decide +kernel
theorem dX2_exchange_32 : decode cX2_exchange 32 = .ok (.invokevirtual 217, 3) := by decide +kernel
theorem dX2_exchange_35 : decode cX2_exchange 35 = .ok (.istore 4, 2) := by decide +kernel
theorem dX2_exchange_37 : decode cX2_exchange 37 = .ok (.iload 4, 2) := by decide +kernel
theorem dX2_exchange_39 : decode cX2_exchange 39 = .ok (.ifCond .eq 11, 3) := by decide +kernel
theorem dX2_exchange_42 : decode cX2_exchange 42 = .ok (.aload_n 0, 1) := by decide +kernel
theorem dX2_exchange_43 : decode cX2_exchange 43 = .ok (.iconst 5, 1) := by decide +kernel
theorem dX2_exchange_44 : decode cX2_exchange 44 = .ok (.iload 4, 2) := by decide +kernel
theorem dX2_exchange_46 : decode cX2_exchange 46 = .ok (.invokevirtual 131, 3) := by decide +kernel
theorem dX2_exchange_49 : decode cX2_exchange 49 = .ok (.ireturn, 1) := by decide +kernel
theorem dX2_exchange_50 : decode cX2_exchange 50 = .ok (.aload_n 0, 1) := by decide +kernel
theorem dX2_exchange_51 : decode cX2_exchange 51 = .ok (.iload_n 1, 1) := by decide +kernel
theorem dX2_exchange_52 : decode cX2_exchange 52 = .ok (.invokevirtual 67, 3) := by decide +kernel
theorem dX2_exchange_55 : decode cX2_exchange 55 = .ok (.getfield 111, 3) := by decide +kernel
theorem dX2_exchange_58 : decode cX2_exchange 58 = .ok (.istore 5, 2) := by decide +kernel
theorem dX2_exchange_60 : decode cX2_exchange 60 = .ok (.aload_n 0, 1) := by decide +kernel
theorem dX2_exchange_61 : decode cX2_exchange 61 = .ok (.aload_n 0, 1) := by decide +kernel
theorem dX2_exchange_62 : decode cX2_exchange 62 = .ok (.iload_n 1, 1) := by decide +kernel
theorem dX2_exchange_63 : decode cX2_exchange 63 = .ok (.invokevirtual 67, 3) := by decide +kernel
theorem dX2_exchange_66 : decode cX2_exchange 66 = .ok (.aload_n 0, 1) := by decide +kernel
theorem dX2_exchange_67 : decode cX2_exchange 67 = .ok (.iload_n 2, 1) := by decide +kernel
theorem dX2_exchange_68 : decode cX2_exchange 68 = .ok (.invokevirtual 67, 3) := by decide +kernel
theorem dX2_exchange_71 : decode cX2_exchange 71 = .ok (.getfield 111, 3) := by decide +kernel
theorem dX2_exchange_74 : decode cX2_exchange 74 = .ok (.invokevirtual 206, 3) := by decide +kernel
theorem dX2_exchange_77 : decode cX2_exchange 77 = .ok (.aload_n 0, 1) := by decide +kernel
theorem dX2_exchange_78 : decode cX2_exchange 78 = .ok (.aload_n 0, 1) := by decide +kernel
theorem dX2_exchange_79 : decode cX2_exchange 79 = .ok (.iload_n 2, 1) := by decide +kernel
theorem dX2_exchange_80 : decode cX2_exchange 80 = .ok (.invokevirtual 67, 3) := by decide +kernel
theorem dX2_exchange_83 : decode cX2_exchange 83 = .ok (.iload 5, 2) := by decide +kernel
theorem dX2_exchange_85 : decode cX2_exchange 85 = .ok (.invokevirtual 206, 3) := by decide +kernel
theorem dX2_exchange_88 : decode cX2_exchange 88 = .ok (.iload_n 3, 1) := by decide +kernel
theorem dX2_exchange_89 : decode cX2_exchange 89 = .ok (.ireturn, 1) := by decide +kernel
set_option maxRecDepth 20000 in
theorem ggX2_haveTwoHolders_X2_isTool : GoodIn wsX2_haveTwoHolders wsX2_isTool := goodIn_r _ [6, 7, 30, 31, 32, 33, 34, 35, 36, 37, 38, 39, 40] (by decide +kernel) (by decide +kernel)
set_option maxRecDepth 20000 in
theorem gX2_haveTwoHolders_X2_isTool : GoodIn wsX2_haveTwoHolders (wsV RX2 89 RX2 yX2_isTool wsX2_isTool) := goodIn_app (goodIn_of _ (by decide +kernel)) ggX2_haveTwoHolders_X2_isTool
set_option maxRecDepth 20000 in
theorem ggX2_haveTwoHolders_X2_toolAt : GoodIn wsX2_haveTwoHolders wsX2_toolAt := goodIn_r _ [11, 12, 13, 30, 31, 32, 33, 34, 35, 36, 37, 38, 39, 40] (by decide +kernel) (by decide +kernel)
set_option maxRecDepth 20000 in
theorem gX2_haveTwoHolders_X2_toolAt : GoodIn wsX2_haveTwoHolders (wsV RX2 67 RX2 yX2_toolAt wsX2_toolAt) := goodIn_app (goodIn_of _ (by decide +kernel)) ggX2_haveTwoHolders_X2_toolAt
set_option maxRecDepth 20000 in
theorem ggX2_haveTwoHolders_X7_isLeased : GoodIn wsX2_haveTwoHolders wsX7_isLeased := goodIn_r _ [18, 19, 20, 21, 22, 23, 24, 25, 26, 27, 28, 29] (by decide +kernel) (by decide +kernel)
set_option maxRecDepth 20000 in
theorem gX2_haveTwoHolders_X7_isLeased : GoodIn wsX2_haveTwoHolders (wsV RX2 124 RX7 yX7_isLeased wsX7_isLeased) := goodIn_app (goodIn_of _ (by decide +kernel)) ggX2_haveTwoHolders_X7_isLeased
theorem dX2_haveTwoHolders_0 : decode cX2_haveTwoHolders 0 = .ok (.aload_n 0, 1) := by decide +kernel
theorem dX2_haveTwoHolders_1 : decode cX2_haveTwoHolders 1 = .ok (.iload_n 1, 1) := by decide +kernel
theorem dX2_haveTwoHolders_2 : decode cX2_haveTwoHolders 2 = .ok (.invokevirtual 89, 3) := by decide +kernel
theorem dX2_haveTwoHolders_5 : decode cX2_haveTwoHolders 5 = .ok (.ifCond .eq 56, 3) := by decide +kernel
theorem dX2_haveTwoHolders_8 : decode cX2_haveTwoHolders 8 = .ok (.aload_n 0, 1) := by decide +kernel
theorem dX2_haveTwoHolders_9 : decode cX2_haveTwoHolders 9 = .ok (.iload_n 2, 1) := by decide +kernel
theorem dX2_haveTwoHolders_10 : decode cX2_haveTwoHolders 10 = .ok (.invokevirtual 89, 3) := by decide +kernel
theorem dX2_haveTwoHolders_13 : decode cX2_haveTwoHolders 13 = .ok (.ifCond .eq 48, 3) := by decide +kernel
theorem dX2_haveTwoHolders_16 : decode cX2_haveTwoHolders 16 = .ok (.aload_n 0, 1) := by decide +kernel
theorem dX2_haveTwoHolders_17 : decode cX2_haveTwoHolders 17 = .ok (.iload_n 1, 1) := by decide +kernel
theorem dX2_haveTwoHolders_18 : decode cX2_haveTwoHolders 18 = .ok (.invokevirtual 67, 3) := by decide +kernel
theorem dX2_haveTwoHolders_21 : decode cX2_haveTwoHolders 21 = .ok (.invokevirtual 124, 3) := by decide +kernel
theorem dX2_haveTwoHolders_24 : decode cX2_haveTwoHolders 24 = .ok (.ifCond .eq 37, 3) := by decide +kernel
theorem dX2_haveTwoHolders_27 : decode cX2_haveTwoHolders 27 = .ok (.aload_n 0, 1) := by decide +kernel
theorem dX2_haveTwoHolders_28 : decode cX2_haveTwoHolders 28 = .ok (.iload_n 2, 1) := by decide +kernel
theorem dX2_haveTwoHolders_29 : decode cX2_haveTwoHolders 29 = .ok (.invokevirtual 67, 3) := by decide +kernel
theorem dX2_haveTwoHolders_32 : decode cX2_haveTwoHolders 32 = .ok (.invokevirtual 124, 3) := by decide +kernel
theorem dX2_haveTwoHolders_35 : decode cX2_haveTwoHolders 35 = .ok (.ifCond .eq 26, 3) := by decide +kernel
theorem dX2_haveTwoHolders_38 : decode cX2_haveTwoHolders 38 = .ok (.aload_n 0, 1) := by decide +kernel
theorem dX2_haveTwoHolders_39 : decode cX2_haveTwoHolders 39 = .ok (.iload_n 1, 1) := by decide +kernel
theorem dX2_haveTwoHolders_40 : decode cX2_haveTwoHolders 40 = .ok (.invokevirtual 67, 3) := by decide +kernel
theorem dX2_haveTwoHolders_43 : decode cX2_haveTwoHolders 43 = .ok (.getfield 111, 3) := by decide +kernel
theorem dX2_haveTwoHolders_46 : decode cX2_haveTwoHolders 46 = .ok (.aload_n 0, 1) := by decide +kernel
theorem dX2_haveTwoHolders_47 : decode cX2_haveTwoHolders 47 = .ok (.iload_n 2, 1) := by decide +kernel
theorem dX2_haveTwoHolders_48 : decode cX2_haveTwoHolders 48 = .ok (.invokevirtual 67, 3) := by decide +kernel
theorem dX2_haveTwoHolders_51 : decode cX2_haveTwoHolders 51 = .ok (.getfield 111, 3) := by decide +kernel
theorem dX2_haveTwoHolders_54 : decode cX2_haveTwoHolders 54 = .ok (.if_icmp .eq 7, 3) := by decide +kernel
theorem dX2_haveTwoHolders_57 : decode cX2_haveTwoHolders 57 = .ok (.iconst 1, 1) := by decide +kernel
theorem dX2_haveTwoHolders_58 : decode cX2_haveTwoHolders 58 = .ok (.goto 4, 3) := by decide +kernel
theorem dX2_haveTwoHolders_61 : decode cX2_haveTwoHolders 61 = .ok (.iconst 0, 1) := by decide +kernel
theorem dX2_haveTwoHolders_62 : decode cX2_haveTwoHolders 62 = .ok (.ireturn, 1) := by decide +kernel
set_option maxRecDepth 20000 in
theorem ggX2_whyNotBothPassed_X2_toolAt : GoodIn wsX2_whyNotBothPassed wsX2_toolAt := goodIn_r _ [8, 9, 10, 39, 40, 41, 42, 43, 44, 45, 46, 47, 48, 49] (by decide +kernel) (by decide +kernel)
set_option maxRecDepth 20000 in
theorem gX2_whyNotBothPassed_X2_toolAt : GoodIn wsX2_whyNotBothPassed (wsV RX2 67 RX2 yX2_toolAt wsX2_toolAt) := goodIn_app (goodIn_of _ (by decide +kernel)) ggX2_whyNotBothPassed_X2_toolAt
set_option maxRecDepth 20000 in
theorem ggX2_whyNotBothPassed_X2_personAt : GoodIn wsX2_whyNotBothPassed wsX2_personAt := goodIn_r _ [14, 15, 16, 39, 40, 41, 42, 43, 44, 45, 46, 47, 48, 49] (by decide +kernel) (by decide +kernel)
set_option maxRecDepth 20000 in
theorem gX2_whyNotBothPassed_X2_personAt : GoodIn wsX2_whyNotBothPassed (wsV RX2 59 RX2 yX2_personAt wsX2_personAt) := goodIn_app (goodIn_of _ (by decide +kernel)) ggX2_whyNotBothPassed_X2_personAt
set_option maxRecDepth 20000 in
theorem ggX2_whyNotBothPassed_X2_whyNotPassed : GoodIn wsX2_whyNotBothPassed wsX2_whyNotPassed := goodIn_r _ [20, 21, 22, 3, 39, 40, 41, 42, 43, 44, 45, 46, 47, 48, 49, 23, 24, 25, 26, 27, 28, 29, 30, 31, 32] (by decide +kernel) (by decide +kernel)
set_option maxRecDepth 20000 in
theorem gX2_whyNotBothPassed_X2_whyNotPassed : GoodIn wsX2_whyNotBothPassed (wsV RX2 202 RX2 yX2_whyNotPassed wsX2_whyNotPassed) := goodIn_app (goodIn_of _ (by decide +kernel)) ggX2_whyNotBothPassed_X2_whyNotPassed
theorem dX2_whyNotBothPassed_0 : decode cX2_whyNotBothPassed 0 = .ok (.aload_n 0, 1) := by decide +kernel
theorem dX2_whyNotBothPassed_1 : decode cX2_whyNotBothPassed 1 = .ok (.iload_n 1, 1) := by decide +kernel
theorem dX2_whyNotBothPassed_2 : decode cX2_whyNotBothPassed 2 = .ok (.invokevirtual 67, 3) := by decide +kernel
theorem dX2_whyNotBothPassed_5 : decode cX2_whyNotBothPassed 5 = .ok (.astore_n 3, 1) := by decide +kernel
theorem dX2_whyNotBothPassed_6 : decode cX2_whyNotBothPassed 6 = .ok (.aload_n 0, 1) := by decide +kernel
theorem dX2_whyNotBothPassed_7 : decode cX2_whyNotBothPassed 7 = .ok (.iload_n 2, 1) := by decide +kernel
theorem dX2_whyNotBothPassed_8 : decode cX2_whyNotBothPassed 8 = .ok (.invokevirtual 67, 3) := by decide +kernel
theorem dX2_whyNotBothPassed_11 : decode cX2_whyNotBothPassed 11 = .ok (.astore 4, 2) := by decide +kernel
theorem dX2_whyNotBothPassed_13 : decode cX2_whyNotBothPassed 13 = .ok (.aload_n 0, 1) := by decide +kernel
theorem dX2_whyNotBothPassed_14 : decode cX2_whyNotBothPassed 14 = .ok (.aload_n 3, 1) := by decide +kernel
theorem dX2_whyNotBothPassed_15 : decode cX2_whyNotBothPassed 15 = .ok (.aload_n 0, 1) := by decide +kernel
theorem dX2_whyNotBothPassed_16 : decode cX2_whyNotBothPassed 16 = .ok (.aload 4, 2) := by decide +kernel
theorem dX2_whyNotBothPassed_18 : decode cX2_whyNotBothPassed 18 = .ok (.getfield 111, 3) := by decide +kernel
theorem dX2_whyNotBothPassed_21 : decode cX2_whyNotBothPassed 21 = .ok (.invokevirtual 59, 3) := by decide +kernel
theorem dX2_whyNotBothPassed_24 : decode cX2_whyNotBothPassed 24 = .ok (.getfield 108, 3) := by decide +kernel
theorem dX2_whyNotBothPassed_27 : decode cX2_whyNotBothPassed 27 = .ok (.invokevirtual 202, 3) := by decide +kernel
theorem dX2_whyNotBothPassed_30 : decode cX2_whyNotBothPassed 30 = .ok (.istore 5, 2) := by decide +kernel
theorem dX2_whyNotBothPassed_32 : decode cX2_whyNotBothPassed 32 = .ok (.iload 5, 2) := by decide +kernel
theorem dX2_whyNotBothPassed_34 : decode cX2_whyNotBothPassed 34 = .ok (.ifCond .eq 8, 3) := by decide +kernel
theorem dX2_whyNotBothPassed_37 : decode cX2_whyNotBothPassed 37 = .ok (.iload 5, 2) := by decide +kernel
theorem dX2_whyNotBothPassed_39 : decode cX2_whyNotBothPassed 39 = .ok (.goto 25, 3) := by decide +kernel
theorem dX2_whyNotBothPassed_42 : decode cX2_whyNotBothPassed 42 = .ok (.aload_n 0, 1) := by decide +kernel
theorem dX2_whyNotBothPassed_43 : decode cX2_whyNotBothPassed 43 = .ok (.aload 4, 2) := by decide +kernel
theorem dX2_whyNotBothPassed_45 : decode cX2_whyNotBothPassed 45 = .ok (.aload_n 0, 1) := by decide +kernel
theorem dX2_whyNotBothPassed_46 : decode cX2_whyNotBothPassed 46 = .ok (.aload_n 3, 1) := by decide +kernel
theorem dX2_whyNotBothPassed_47 : decode cX2_whyNotBothPassed 47 = .ok (.getfield 111, 3) := by decide +kernel
theorem dX2_whyNotBothPassed_50 : decode cX2_whyNotBothPassed 50 = .ok (.invokevirtual 59, 3) := by decide +kernel
theorem dX2_whyNotBothPassed_53 : decode cX2_whyNotBothPassed 53 = .ok (.getfield 108, 3) := by decide +kernel
theorem dX2_whyNotBothPassed_56 : decode cX2_whyNotBothPassed 56 = .ok (.aload_n 3, 1) := by decide +kernel
theorem dX2_whyNotBothPassed_57 : decode cX2_whyNotBothPassed 57 = .ok (.getfield 144, 3) := by decide +kernel
theorem dX2_whyNotBothPassed_60 : decode cX2_whyNotBothPassed 60 = .ok (.iadd, 1) := by decide +kernel
theorem dX2_whyNotBothPassed_61 : decode cX2_whyNotBothPassed 61 = .ok (.invokevirtual 202, 3) := by decide +kernel
theorem dX2_whyNotBothPassed_64 : decode cX2_whyNotBothPassed 64 = .ok (.ireturn, 1) := by decide +kernel
set_option maxRecDepth 20000 in
theorem ggX2_riseOf_X2_toolAt : GoodIn wsX2_riseOf wsX2_toolAt := goodIn_r _ [6, 7, 8, 31, 32, 33, 34, 35, 36, 37, 38, 39, 40, 41] (by decide +kernel) (by decide +kernel)
set_option maxRecDepth 20000 in
theorem gX2_riseOf_X2_toolAt : GoodIn wsX2_riseOf (wsV RX2 67 RX2 yX2_toolAt wsX2_toolAt) := goodIn_app (goodIn_of _ (by decide +kernel)) ggX2_riseOf_X2_toolAt
set_option maxRecDepth 20000 in
theorem ggX2_riseOf_X2_personAt : GoodIn wsX2_riseOf wsX2_personAt := goodIn_r _ [12, 13, 14, 31, 32, 33, 34, 35, 36, 37, 38, 39, 40, 41] (by decide +kernel) (by decide +kernel)
set_option maxRecDepth 20000 in
theorem gX2_riseOf_X2_personAt : GoodIn wsX2_riseOf (wsV RX2 59 RX2 yX2_personAt wsX2_personAt) := goodIn_app (goodIn_of _ (by decide +kernel)) ggX2_riseOf_X2_personAt
set_option maxRecDepth 20000 in
theorem ggX2_riseOf_X3_wishOf : GoodIn wsX2_riseOf wsX3_wishOf := goodIn_r _ [19, 20, 42, 43, 44, 45, 46, 47] (by decide +kernel) (by decide +kernel)
set_option maxRecDepth 20000 in
theorem gX2_riseOf_X3_wishOf : GoodIn wsX2_riseOf (wsV RX2 92 RX3 yX3_wishOf wsX3_wishOf) := goodIn_app (goodIn_of _ (by decide +kernel)) ggX2_riseOf_X3_wishOf
theorem dX2_riseOf_0 : decode cX2_riseOf 0 = .ok (.aload_n 0, 1) := by decide +kernel
theorem dX2_riseOf_1 : decode cX2_riseOf 1 = .ok (.aload_n 0, 1) := by decide +kernel
theorem dX2_riseOf_2 : decode cX2_riseOf 2 = .ok (.iload_n 1, 1) := by decide +kernel
theorem dX2_riseOf_3 : decode cX2_riseOf 3 = .ok (.invokevirtual 67, 3) := by decide +kernel
theorem dX2_riseOf_6 : decode cX2_riseOf 6 = .ok (.getfield 111, 3) := by decide +kernel
theorem dX2_riseOf_9 : decode cX2_riseOf 9 = .ok (.invokevirtual 59, 3) := by decide +kernel
theorem dX2_riseOf_12 : decode cX2_riseOf 12 = .ok (.astore_n 3, 1) := by decide +kernel
theorem dX2_riseOf_13 : decode cX2_riseOf 13 = .ok (.aload_n 3, 1) := by decide +kernel
theorem dX2_riseOf_14 : decode cX2_riseOf 14 = .ok (.iload_n 2, 1) := by decide +kernel
theorem dX2_riseOf_15 : decode cX2_riseOf 15 = .ok (.invokevirtual 92, 3) := by decide +kernel
theorem dX2_riseOf_18 : decode cX2_riseOf 18 = .ok (.aload_n 3, 1) := by decide +kernel
theorem dX2_riseOf_19 : decode cX2_riseOf 19 = .ok (.iload_n 1, 1) := by decide +kernel
theorem dX2_riseOf_20 : decode cX2_riseOf 20 = .ok (.invokevirtual 92, 3) := by decide +kernel
theorem dX2_riseOf_23 : decode cX2_riseOf 23 = .ok (.isub, 1) := by decide +kernel
theorem dX2_riseOf_24 : decode cX2_riseOf 24 = .ok (.ireturn, 1) := by decide +kernel
set_option maxRecDepth 20000 in
theorem ggX2_gainOf_X2_riseOf : GoodIn wsX2_gainOf wsX2_riseOf := goodIn_r _ [5, 6, 7, 8, 9, 4, 10, 11, 12, 13, 14, 15, 16, 17, 18, 19, 20, 21, 22, 23, 24, 25, 26, 27, 28, 29, 30, 31, 32, 33, 34, 35, 36, 37, 38, 39, 40, 41, 42, 43, 44, 45, 46, 47, 48, 49, 50, 51] (by decide +kernel) (by decide +kernel)
set_option maxRecDepth 20000 in
theorem gX2_gainOf_X2_riseOf : GoodIn wsX2_gainOf (wsV RX2 220 RX2 yX2_riseOf wsX2_riseOf) := goodIn_app (goodIn_of _ (by decide +kernel)) ggX2_gainOf_X2_riseOf
theorem dX2_gainOf_0 : decode cX2_gainOf 0 = .ok (.aload_n 0, 1) := by decide +kernel
theorem dX2_gainOf_1 : decode cX2_gainOf 1 = .ok (.iload_n 1, 1) := by decide +kernel
theorem dX2_gainOf_2 : decode cX2_gainOf 2 = .ok (.iload_n 2, 1) := by decide +kernel
theorem dX2_gainOf_3 : decode cX2_gainOf 3 = .ok (.invokevirtual 220, 3) := by decide +kernel
theorem dX2_gainOf_6 : decode cX2_gainOf 6 = .ok (.istore_n 3, 1) := by decide +kernel
theorem dX2_gainOf_7 : decode cX2_gainOf 7 = .ok (.aload_n 0, 1) := by decide +kernel
theorem dX2_gainOf_8 : decode cX2_gainOf 8 = .ok (.iload_n 2, 1) := by decide +kernel
theorem dX2_gainOf_9 : decode cX2_gainOf 9 = .ok (.iload_n 1, 1) := by decide +kernel
theorem dX2_gainOf_10 : decode cX2_gainOf 10 = .ok (.invokevirtual 220, 3) := by decide +kernel
theorem dX2_gainOf_13 : decode cX2_gainOf 13 = .ok (.istore 4, 2) := by decide +kernel
theorem dX2_gainOf_15 : decode cX2_gainOf 15 = .ok (.iload_n 3, 1) := by decide +kernel
theorem dX2_gainOf_16 : decode cX2_gainOf 16 = .ok (.ifCond .le 15, 3) := by decide +kernel
theorem dX2_gainOf_19 : decode cX2_gainOf 19 = .ok (.iload 4, 2) := by decide +kernel
theorem dX2_gainOf_21 : decode cX2_gainOf 21 = .ok (.ifCond .le 10, 3) := by decide +kernel
theorem dX2_gainOf_24 : decode cX2_gainOf 24 = .ok (.iload_n 3, 1) := by decide +kernel
theorem dX2_gainOf_25 : decode cX2_gainOf 25 = .ok (.iload 4, 2) := by decide +kernel
theorem dX2_gainOf_27 : decode cX2_gainOf 27 = .ok (.iadd, 1) := by decide +kernel
theorem dX2_gainOf_28 : decode cX2_gainOf 28 = .ok (.goto 4, 3) := by decide +kernel
theorem dX2_gainOf_31 : decode cX2_gainOf 31 = .ok (.iconst 0, 1) := by decide +kernel
theorem dX2_gainOf_32 : decode cX2_gainOf 32 = .ok (.ireturn, 1) := by decide +kernel
set_option maxRecDepth 20000 in
theorem ggX2_wearDown_X2_isTool : GoodIn wsX2_wearDown wsX2_isTool := goodIn_r _ [10, 11, 34, 35, 36, 37, 38, 39, 40, 41, 42, 43, 44] (by decide +kernel) (by decide +kernel)
set_option maxRecDepth 20000 in
theorem gX2_wearDown_X2_isTool : GoodIn wsX2_wearDown (wsV RX2 89 RX2 yX2_isTool wsX2_isTool) := goodIn_app (goodIn_of _ (by decide +kernel)) ggX2_wearDown_X2_isTool
set_option maxRecDepth 20000 in
theorem ggX2_wearDown_X2_toolAt : GoodIn wsX2_wearDown wsX2_toolAt := goodIn_r _ [15, 16, 17, 34, 35, 36, 37, 38, 39, 40, 41, 42, 43, 44] (by decide +kernel) (by decide +kernel)
set_option maxRecDepth 20000 in
theorem gX2_wearDown_X2_toolAt : GoodIn wsX2_wearDown (wsV RX2 67 RX2 yX2_toolAt wsX2_toolAt) := goodIn_app (goodIn_of _ (by decide +kernel)) ggX2_wearDown_X2_toolAt
set_option maxRecDepth 20000 in
theorem ggX2_wearDown_X7_isLeased : GoodIn wsX2_wearDown wsX7_isLeased := goodIn_r _ [22, 23, 24, 25, 26, 27, 28, 29, 30, 31, 32, 33] (by decide +kernel) (by decide +kernel)
set_option maxRecDepth 20000 in
theorem gX2_wearDown_X7_isLeased : GoodIn wsX2_wearDown (wsV RX2 124 RX7 yX7_isLeased wsX7_isLeased) := goodIn_app (goodIn_of _ (by decide +kernel)) ggX2_wearDown_X7_isLeased
theorem dX2_wearDown_0 : decode cX2_wearDown 0 = .ok (.aload_n 0, 1) := by decide +kernel
theorem dX2_wearDown_1 : decode cX2_wearDown 1 = .ok (.iload_n 1, 1) := by decide +kernel
theorem dX2_wearDown_2 : decode cX2_wearDown 2 = .ok (.invokevirtual 89, 3) := by decide +kernel
theorem dX2_wearDown_5 : decode cX2_wearDown 5 = .ok (.ifCond .eq 14, 3) := by decide +kernel
theorem dX2_wearDown_8 : decode cX2_wearDown 8 = .ok (.iload_n 2, 1) := by decide +kernel
theorem dX2_wearDown_9 : decode cX2_wearDown 9 = .ok (.iconst 1, 1) := by decide +kernel
theorem dX2_wearDown_10 : decode cX2_wearDown 10 = .ok (.if_icmp .lt 9, 3) := by decide +kernel
theorem dX2_wearDown_13 : decode cX2_wearDown 13 = .ok (.iload_n 2, 1) := by decide +kernel
theorem dX2_wearDown_14 : decode cX2_wearDown 14 = .ok (.bipush 9, 2) := by decide +kernel
theorem dX2_wearDown_16 : decode cX2_wearDown 16 = .ok (.if_icmp .le 5, 3) := by decide +kernel
theorem dX2_wearDown_19 : decode cX2_wearDown 19 = .ok (.iconst (-1), 1) := by decide +kernel
theorem dX2_wearDown_20 : decode cX2_wearDown 20 = .ok (.ireturn, 1) := by decide +kernel
theorem dX2_wearDown_21 : decode cX2_wearDown 21 = .ok (.aload_n 0, 1) := by decide +kernel
theorem dX2_wearDown_22 : decode cX2_wearDown 22 = .ok (.iload_n 1, 1) := by decide +kernel
theorem dX2_wearDown_23 : decode cX2_wearDown 23 = .ok (.invokevirtual 67, 3) := by decide +kernel
theorem dX2_wearDown_26 : decode cX2_wearDown 26 = .ok (.astore_n 3, 1) := by decide +kernel
theorem dX2_wearDown_27 : decode cX2_wearDown 27 = .ok (.aload_n 3, 1) := by decide +kernel
theorem dX2_wearDown_28 : decode cX2_wearDown 28 = .ok (.invokevirtual 124, 3) := by decide +kernel
theorem dX2_wearDown_31 : decode cX2_wearDown 31 = .ok (.ifCond .ne 6, 3) := by decide +kernel
theorem dX2_wearDown_34 : decode cX2_wearDown 34 = .ok (.bipush (-5), 2) := by decide +kernel
theorem dX2_wearDown_36 : decode cX2_wearDown 36 = .ok (.ireturn, 1) := by decide +kernel
theorem dX2_wearDown_37 : decode cX2_wearDown 37 = .ok (.aload_n 3, 1) := by decide +kernel
theorem dX2_wearDown_38 : decode cX2_wearDown 38 = .ok (.aload_n 3, 1) := by decide +kernel
theorem dX2_wearDown_39 : decode cX2_wearDown 39 = .ok (.getfield 128, 3) := by decide +kernel
theorem dX2_wearDown_42 : decode cX2_wearDown 42 = .ok (.iload_n 2, 1) := by decide +kernel
theorem dX2_wearDown_43 : decode cX2_wearDown 43 = .ok (.iadd, 1) := by decide +kernel
theorem dX2_wearDown_44 : decode cX2_wearDown 44 = .ok (.bipush 9, 2) := by decide +kernel
theorem dX2_wearDown_46 : decode cX2_wearDown 46 = .ok (.invokestatic 102, 3) := by decide +kernel
theorem dX2_wearDown_49 : decode cX2_wearDown 49 = .ok (.putfield 128, 3) := by decide +kernel
theorem dX2_wearDown_52 : decode cX2_wearDown 52 = .ok (.aload_n 3, 1) := by decide +kernel
theorem dX2_wearDown_53 : decode cX2_wearDown 53 = .ok (.getfield 128, 3) := by decide +kernel
theorem dX2_wearDown_56 : decode cX2_wearDown 56 = .ok (.ireturn, 1) := by decide +kernel
set_option maxRecDepth 20000 in
theorem ggX2_lookAt_X2_isTool : GoodIn wsX2_lookAt wsX2_isTool := goodIn_r _ [8, 9, 126, 127, 128, 129, 130, 131, 132, 133, 134, 135, 136] (by decide +kernel) (by decide +kernel)
set_option maxRecDepth 20000 in
theorem gX2_lookAt_X2_isTool : GoodIn wsX2_lookAt (wsV RX2 89 RX2 yX2_isTool wsX2_isTool) := goodIn_app (goodIn_of _ (by decide +kernel)) ggX2_lookAt_X2_isTool
set_option maxRecDepth 20000 in
theorem ggX2_lookAt_X2_toolAt : GoodIn wsX2_lookAt wsX2_toolAt := goodIn_r _ [13, 14, 15, 126, 127, 128, 129, 130, 131, 132, 133, 134, 135, 136] (by decide +kernel) (by decide +kernel)
set_option maxRecDepth 20000 in
theorem gX2_lookAt_X2_toolAt : GoodIn wsX2_lookAt (wsV RX2 67 RX2 yX2_toolAt wsX2_toolAt) := goodIn_app (goodIn_of _ (by decide +kernel)) ggX2_lookAt_X2_toolAt
set_option maxRecDepth 20000 in
theorem ggX2_lookAt_X7_wearSinceLook : GoodIn wsX2_lookAt wsX7_wearSinceLook := goodIn_r _ [20, 21, 22, 23, 24, 25, 26, 27, 28, 29, 30, 31, 32, 33, 34, 137, 138, 139, 140, 141, 142, 143, 144, 145, 146, 147, 148, 149, 150] (by decide +kernel) (by decide +kernel)
set_option maxRecDepth 20000 in
theorem gX2_lookAt_X7_wearSinceLook : GoodIn wsX2_lookAt (wsV RX2 223 RX7 yX7_wearSinceLook wsX7_wearSinceLook) := goodIn_app (goodIn_of _ (by decide +kernel)) ggX2_lookAt_X7_wearSinceLook
set_option maxRecDepth 20000 in
theorem ggX2_lookAt_X7_cost : GoodIn wsX2_lookAt wsX7_cost := goodIn_r _ [38, 39, 40, 41, 42, 43, 44, 17, 18, 19, 20, 21, 22, 23, 24, 25, 26, 27, 28, 29, 30, 31, 32, 33, 34, 137, 138, 139, 140, 141, 142, 143, 144, 145, 146, 147, 148, 149, 150] (by decide +kernel) (by decide +kernel)
set_option maxRecDepth 20000 in
theorem gX2_lookAt_X7_cost : GoodIn wsX2_lookAt (wsV RX2 226 RX7 yX7_cost wsX7_cost) := goodIn_app (goodIn_of _ (by decide +kernel)) ggX2_lookAt_X7_cost
set_option maxRecDepth 20000 in
theorem ggX2_lookAt_X0_findFor : GoodIn wsX2_lookAt wsX0_findFor := goodIn_r _ [49, 50, 51, 52, 53, 54, 55, 41, 42, 43, 56, 57, 58, 26, 59, 28, 60, 24, 25, 27, 61, 30, 31, 32, 33, 34, 62, 63, 64, 48, 65, 66, 67, 68, 69, 70, 71, 72, 73, 74, 75, 76, 77, 78, 151, 152, 137, 138, 139, 140, 141, 142, 143, 144, 145, 146, 147, 148, 149, 150] (by decide +kernel) (by decide +kernel)
set_option maxRecDepth 20000 in
theorem gX2_lookAt_X0_findFor : GoodIn wsX2_lookAt (wsV RX2 229 RX0 yX0_findFor wsX0_findFor) := goodIn_app (goodIn_of _ (by decide +kernel)) ggX2_lookAt_X0_findFor
set_option maxRecDepth 20000 in
theorem ggX2_lookAt_X7_noteLook : GoodIn wsX2_lookAt wsX7_noteLook := goodIn_r _ [82, 22, 21, 83, 84, 71, 72, 26, 73, 28, 74, 34, 33, 85, 76, 77, 78, 86, 87, 88, 19, 89, 90, 137, 138, 139, 140, 141, 142, 143, 144, 145, 146, 147, 148, 149, 150] (by decide +kernel) (by decide +kernel)
set_option maxRecDepth 20000 in
theorem gX2_lookAt_X7_noteLook : GoodIn wsX2_lookAt (wsV RX2 232 RX7 yX7_noteLook wsX7_noteLook) := goodIn_app (goodIn_of _ (by decide +kernel)) ggX2_lookAt_X7_noteLook
set_option maxRecDepth 20000 in
theorem ggX2_lookAt_X0_size : GoodIn wsX2_lookAt wsX0_size := goodIn_r _ [94, 50, 60, 24, 25, 26, 27, 28, 151, 152, 147, 148, 149, 150] (by decide +kernel) (by decide +kernel)
set_option maxRecDepth 20000 in
theorem gX2_lookAt_X0_size : GoodIn wsX2_lookAt (wsV RX2 235 RX0 yX0_size wsX0_size) := goodIn_app (goodIn_of _ (by decide +kernel)) ggX2_lookAt_X0_size
set_option maxRecDepth 20000 in
theorem ggX2_lookAt_X0_personAt : GoodIn wsX2_lookAt wsX0_personAt := goodIn_r _ [98, 50, 61, 30, 31, 26, 32, 28, 33, 34, 151, 152, 147, 148, 149, 150] (by decide +kernel) (by decide +kernel)
set_option maxRecDepth 20000 in
theorem gX2_lookAt_X0_personAt : GoodIn wsX2_lookAt (wsV RX2 236 RX0 yX0_personAt wsX0_personAt) := goodIn_app (goodIn_of _ (by decide +kernel)) ggX2_lookAt_X0_personAt
set_option maxRecDepth 20000 in
theorem ggX2_lookAt_X2_personAt : GoodIn wsX2_lookAt wsX2_personAt := goodIn_r _ [102, 103, 104, 126, 127, 128, 129, 130, 131, 132, 133, 134, 135, 136] (by decide +kernel) (by decide +kernel)
set_option maxRecDepth 20000 in
theorem gX2_lookAt_X2_personAt : GoodIn wsX2_lookAt (wsV RX2 59 RX2 yX2_personAt wsX2_personAt) := goodIn_app (goodIn_of _ (by decide +kernel)) ggX2_lookAt_X2_personAt
set_option maxRecDepth 20000 in
theorem ggX2_lookAt_X0_shareOf : GoodIn wsX2_lookAt wsX0_shareOf := goodIn_r _ [108, 50, 60, 24, 25, 26, 27, 28, 66, 67, 68, 48, 69, 51, 109, 96, 97, 98, 61, 30, 31, 32, 33, 34, 151, 152, 147, 148, 149, 150] (by decide +kernel) (by decide +kernel)
set_option maxRecDepth 20000 in
theorem gX2_lookAt_X0_shareOf : GoodIn wsX2_lookAt (wsV RX2 238 RX0 yX0_shareOf wsX0_shareOf) := goodIn_app (goodIn_of _ (by decide +kernel)) ggX2_lookAt_X0_shareOf
set_option maxRecDepth 20000 in
theorem ggX2_lookAt_X3_payOrOwe : GoodIn wsX2_lookAt wsX3_payOrOwe := goodIn_r _ [114, 115, 116, 117, 42, 118, 119, 153, 154, 155, 156, 157, 158] (by decide +kernel) (by decide +kernel)
set_option maxRecDepth 20000 in
theorem gX2_lookAt_X3_payOrOwe : GoodIn wsX2_lookAt (wsV RX2 241 RX3 yX3_payOrOwe wsX3_payOrOwe) := goodIn_app (goodIn_of _ (by decide +kernel)) ggX2_lookAt_X3_payOrOwe
set_option maxRecDepth 20000 in
theorem ggX2_lookAt_X3_loseTrust : GoodIn wsX2_lookAt wsX3_loseTrust := goodIn_r _ [123, 124, 125, 41, 42, 43, 153, 154, 155, 156, 157, 158] (by decide +kernel) (by decide +kernel)
set_option maxRecDepth 20000 in
theorem gX2_lookAt_X3_loseTrust : GoodIn wsX2_lookAt (wsV RX2 187 RX3 yX3_loseTrust wsX3_loseTrust) := goodIn_app (goodIn_of _ (by decide +kernel)) ggX2_lookAt_X3_loseTrust
theorem dX2_lookAt_0 : decode cX2_lookAt 0 = .ok (.aload_n 0, 1) := by decide +kernel
theorem dX2_lookAt_1 : decode cX2_lookAt 1 = .ok (.iload_n 1, 1) := by decide +kernel
theorem dX2_lookAt_2 : decode cX2_lookAt 2 = .ok (.invokevirtual 89, 3) := by decide +kernel
theorem dX2_lookAt_5 : decode cX2_lookAt 5 = .ok (.ifCond .ne 5, 3) := by decide +kernel
theorem dX2_lookAt_8 : decode cX2_lookAt 8 = .ok (.iconst (-1), 1) := by decide +kernel
theorem dX2_lookAt_9 : decode cX2_lookAt 9 = .ok (.ireturn, 1) := by decide +kernel
theorem dX2_lookAt_10 : decode cX2_lookAt 10 = .ok (.aload_n 0, 1) := by decide +kernel
theorem dX2_lookAt_11 : decode cX2_lookAt 11 = .ok (.iload_n 1, 1) := by decide +kernel
theorem dX2_lookAt_12 : decode cX2_lookAt 12 = .ok (.invokevirtual 67, 3) := by decide +kernel
theorem dX2_lookAt_15 : decode cX2_lookAt 15 = .ok (.astore_n 2, 1) := by decide +kernel
theorem dX2_lookAt_16 : decode cX2_lookAt 16 = .ok (.aload_n 2, 1) := by decide +kernel
theorem dX2_lookAt_17 : decode cX2_lookAt 17 = .ok (.invokevirtual 223, 3) := by decide +kernel
theorem dX2_lookAt_20 : decode cX2_lookAt 20 = .ok (.istore_n 3, 1) := by decide +kernel
theorem dX2_lookAt_21 : decode cX2_lookAt 21 = .ok (.aload_n 2, 1) := by decide +kernel
theorem dX2_lookAt_22 : decode cX2_lookAt 22 = .ok (.invokevirtual 226, 3) := by decide +kernel
theorem dX2_lookAt_25 : decode cX2_lookAt 25 = .ok (.istore 4, 2) := by decide +kernel
theorem dX2_lookAt_27 : decode cX2_lookAt 27 = .ok (.aload_n 0, 1) := by decide +kernel
theorem dX2_lookAt_28 : decode cX2_lookAt 28 = .ok (.getfield 36, 3) := by decide +kernel
theorem dX2_lookAt_31 : decode cX2_lookAt 31 = .ok (.aload_n 2, 1) := by decide +kernel
theorem dX2_lookAt_32 : decode cX2_lookAt 32 = .ok (.invokevirtual 229, 3) := by decide +kernel
theorem dX2_lookAt_35 : decode cX2_lookAt 35 = .ok (.aload_n 2, 1) := by decide +kernel
theorem dX2_lookAt_36 : decode cX2_lookAt 36 = .ok (.aload_n 0, 1) := by decide +kernel
theorem dX2_lookAt_37 : decode cX2_lookAt 37 = .ok (.getfield 47, 3) := by decide +kernel
theorem dX2_lookAt_40 : decode cX2_lookAt 40 = .ok (.invokevirtual 232, 3) := by decide +kernel
theorem dX2_lookAt_43 : decode cX2_lookAt 43 = .ok (.iload_n 3, 1) := by decide +kernel
theorem dX2_lookAt_44 : decode cX2_lookAt 44 = .ok (.ifCond .gt 5, 3) := by decide +kernel
theorem dX2_lookAt_47 : decode cX2_lookAt 47 = .ok (.iconst 0, 1) := by decide +kernel
theorem dX2_lookAt_48 : decode cX2_lookAt 48 = .ok (.ireturn, 1) := by decide +kernel
theorem dX2_lookAt_49 : decode cX2_lookAt 49 = .ok (.iconst 0, 1) := by decide +kernel
theorem dX2_lookAt_50 : decode cX2_lookAt 50 = .ok (.istore 5, 2) := by decide +kernel
theorem dX2_lookAt_52 : decode cX2_lookAt 52 = .ok (.iload 5, 2) := by decide +kernel
theorem dX2_lookAt_54 : decode cX2_lookAt 54 = .ok (.aload_n 0, 1) := by decide +kernel
theorem dX2_lookAt_55 : decode cX2_lookAt 55 = .ok (.getfield 36, 3) := by decide +kernel
theorem dX2_lookAt_58 : decode cX2_lookAt 58 = .ok (.invokevirtual 235, 3) := by decide +kernel
theorem dX2_lookAt_61 : decode cX2_lookAt 61 = .ok (.if_icmp .ge 62, 3) := by decide +kernel
theorem dX2_lookAt_64 : decode cX2_lookAt 64 = .ok (.aload_n 0, 1) := by decide +kernel
theorem dX2_lookAt_65 : decode cX2_lookAt 65 = .ok (.aload_n 0, 1) := by decide +kernel
theorem dX2_lookAt_66 : decode cX2_lookAt 66 = .ok (.getfield 36, 3) := by decide +kernel
theorem dX2_lookAt_69 : decode cX2_lookAt 69 = .ok (.iload 5, 2) := by decide +kernel
theorem dX2_lookAt_71 : decode cX2_lookAt 71 = .ok (.invokevirtual 236, 3) := by decide +kernel
theorem dX2_lookAt_74 : decode cX2_lookAt 74 = .ok (.invokevirtual 59, 3) := by decide +kernel
theorem dX2_lookAt_77 : decode cX2_lookAt 77 = .ok (.astore 6, 2) := by decide +kernel
theorem dX2_lookAt_79 : decode cX2_lookAt 79 = .ok (.aload_n 0, 1) := by decide +kernel
theorem dX2_lookAt_80 : decode cX2_lookAt 80 = .ok (.dup, 1) := by decide +kernel
theorem dX2_lookAt_81 : decode cX2_lookAt 81 = .ok (.getfield 50, 3) := by decide +kernel
theorem dX2_lookAt_84 : decode cX2_lookAt 84 = .ok (.aload 6, 2) := by decide +kernel
theorem dX2_lookAt_86 : decode cX2_lookAt 86 = .ok (.aload_n 0, 1) := by decide +kernel
theorem dX2_lookAt_87 : decode cX2_lookAt 87 = .ok (.getfield 36, 3) := by decide +kernel
theorem dX2_lookAt_90 : decode cX2_lookAt 90 = .ok (.aload_n 0, 1) := by decide +kernel
theorem dX2_lookAt_91 : decode cX2_lookAt 91 = .ok (.getfield 36, 3) := by decide +kernel
theorem dX2_lookAt_94 : decode cX2_lookAt 94 = .ok (.iload 5, 2) := by decide +kernel
theorem dX2_lookAt_96 : decode cX2_lookAt 96 = .ok (.invokevirtual 236, 3) := by decide +kernel
theorem dX2_lookAt_99 : decode cX2_lookAt 99 = .ok (.iload 4, 2) := by decide +kernel
theorem dX2_lookAt_101 : decode cX2_lookAt 101 = .ok (.invokevirtual 238, 3) := by decide +kernel
theorem dX2_lookAt_104 : decode cX2_lookAt 104 = .ok (.invokevirtual 241, 3) := by decide +kernel
theorem dX2_lookAt_107 : decode cX2_lookAt 107 = .ok (.iadd, 1) := by decide +kernel
theorem dX2_lookAt_108 : decode cX2_lookAt 108 = .ok (.putfield 50, 3) := by decide +kernel
theorem dX2_lookAt_111 : decode cX2_lookAt 111 = .ok (.aload 6, 2) := by decide +kernel
theorem dX2_lookAt_113 : decode cX2_lookAt 113 = .ok (.iload_n 3, 1) := by decide +kernel
theorem dX2_lookAt_114 : decode cX2_lookAt 114 = .ok (.invokevirtual 187, 3) := by decide +kernel
theorem dX2_lookAt_117 : decode cX2_lookAt 117 = .ok (.iinc 5 1, 3) := by decide +kernel
theorem dX2_lookAt_120 : decode cX2_lookAt 120 = .ok (.goto (-68), 3) := by decide +kernel
theorem dX2_lookAt_123 : decode cX2_lookAt 123 = .ok (.aload_n 0, 1) := by decide +kernel
theorem dX2_lookAt_124 : decode cX2_lookAt 124 = .ok (.getfield 36, 3) := by decide +kernel
theorem dX2_lookAt_127 : decode cX2_lookAt 127 = .ok (.invokevirtual 235, 3) := by decide +kernel
theorem dX2_lookAt_130 : decode cX2_lookAt 130 = .ok (.ireturn, 1) := by decide +kernel
theorem dX2_passDays_0 : decode cX2_passDays 0 = .ok (.iload_n 1, 1) := by decide +kernel
theorem dX2_passDays_1 : decode cX2_passDays 1 = .ok (.iconst 1, 1) := by decide +kernel
theorem dX2_passDays_2 : decode cX2_passDays 2 = .ok (.if_icmp .lt 9, 3) := by decide +kernel
theorem dX2_passDays_5 : decode cX2_passDays 5 = .ok (.iload_n 1, 1) := by decide +kernel
theorem dX2_passDays_6 : decode cX2_passDays 6 = .ok (.bipush 99, 2) := by decide +kernel
theorem dX2_passDays_8 : decode cX2_passDays 8 = .ok (.if_icmp .le 5, 3) := by decide +kernel
theorem dX2_passDays_11 : decode cX2_passDays 11 = .ok (.iconst (-1), 1) := by decide +kernel
theorem dX2_passDays_12 : decode cX2_passDays 12 = .ok (.ireturn, 1) := by decide +kernel
theorem dX2_passDays_13 : decode cX2_passDays 13 = .ok (.aload_n 0, 1) := by decide +kernel
theorem dX2_passDays_14 : decode cX2_passDays 14 = .ok (.dup, 1) := by decide +kernel
theorem dX2_passDays_15 : decode cX2_passDays 15 = .ok (.getfield 47, 3) := by decide +kernel
theorem dX2_passDays_18 : decode cX2_passDays 18 = .ok (.iload_n 1, 1) := by decide +kernel
theorem dX2_passDays_19 : decode cX2_passDays 19 = .ok (.iadd, 1) := by decide +kernel
theorem dX2_passDays_20 : decode cX2_passDays 20 = .ok (.putfield 47, 3) := by decide +kernel
theorem dX2_passDays_23 : decode cX2_passDays 23 = .ok (.aload_n 0, 1) := by decide +kernel
theorem dX2_passDays_24 : decode cX2_passDays 24 = .ok (.getfield 47, 3) := by decide +kernel
theorem dX2_passDays_27 : decode cX2_passDays 27 = .ok (.ireturn, 1) := by decide +kernel
theorem dX3_init_0 : decode cX3_init 0 = .ok (.aload_n 0, 1) := by decide +kernel
theorem dX3_init_1 : decode cX3_init 1 = .ok (.invokespecial 3, 3) := by decide +kernel
theorem dX3_init_4 : decode cX3_init 4 = .ok (.aload_n 0, 1) := by decide +kernel
theorem dX3_init_5 : decode cX3_init 5 = .ok (.bipush 10, 2) := by decide +kernel
theorem dX3_init_7 : decode cX3_init 7 = .ok (.newarray .int, 2) := by decide +kernel
theorem dX3_init_9 : decode cX3_init 9 = .ok (.putfield 9, 3) := by decide +kernel
theorem dX3_init_12 : decode cX3_init 12 = .ok (.return_, 1) := by decide +kernel
theorem dX3_comeIn_0 : decode cX3_comeIn 0 = .ok (.aload_n 0, 1) := by decide +kernel
theorem dX3_comeIn_1 : decode cX3_comeIn 1 = .ok (.iload_n 1, 1) := by decide +kernel
theorem dX3_comeIn_2 : decode cX3_comeIn 2 = .ok (.putfield 15, 3) := by decide +kernel
theorem dX3_comeIn_5 : decode cX3_comeIn 5 = .ok (.aload_n 0, 1) := by decide +kernel
theorem dX3_comeIn_6 : decode cX3_comeIn 6 = .ok (.iload_n 2, 1) := by decide +kernel
theorem dX3_comeIn_7 : decode cX3_comeIn 7 = .ok (.putfield 19, 3) := by decide +kernel
theorem dX3_comeIn_10 : decode cX3_comeIn 10 = .ok (.aload_n 0, 1) := by decide +kernel
theorem dX3_comeIn_11 : decode cX3_comeIn 11 = .ok (.bipush 50, 2) := by decide +kernel
theorem dX3_comeIn_13 : decode cX3_comeIn 13 = .ok (.putfield 22, 3) := by decide +kernel
theorem dX3_comeIn_16 : decode cX3_comeIn 16 = .ok (.aload_n 0, 1) := by decide +kernel
theorem dX3_comeIn_17 : decode cX3_comeIn 17 = .ok (.iconst 0, 1) := by decide +kernel
theorem dX3_comeIn_18 : decode cX3_comeIn 18 = .ok (.putfield 25, 3) := by decide +kernel
theorem dX3_comeIn_21 : decode cX3_comeIn 21 = .ok (.aload_n 0, 1) := by decide +kernel
theorem dX3_comeIn_22 : decode cX3_comeIn 22 = .ok (.iconst 0, 1) := by decide +kernel
theorem dX3_comeIn_23 : decode cX3_comeIn 23 = .ok (.putfield 28, 3) := by decide +kernel
theorem dX3_comeIn_26 : decode cX3_comeIn 26 = .ok (.iconst 0, 1) := by decide +kernel
theorem dX3_comeIn_27 : decode cX3_comeIn 27 = .ok (.istore_n 3, 1) := by decide +kernel
theorem dX3_comeIn_28 : decode cX3_comeIn 28 = .ok (.iload_n 3, 1) := by decide +kernel
theorem dX3_comeIn_29 : decode cX3_comeIn 29 = .ok (.aload_n 0, 1) := by decide +kernel
theorem dX3_comeIn_30 : decode cX3_comeIn 30 = .ok (.getfield 9, 3) := by decide +kernel
theorem dX3_comeIn_33 : decode cX3_comeIn 33 = .ok (.arraylength, 1) := by decide +kernel
theorem dX3_comeIn_34 : decode cX3_comeIn 34 = .ok (.if_icmp .ge 16, 3) := by decide +kernel
theorem dX3_comeIn_37 : decode cX3_comeIn 37 = .ok (.aload_n 0, 1) := by decide +kernel
theorem dX3_comeIn_38 : decode cX3_comeIn 38 = .ok (.getfield 9, 3) := by decide +kernel
theorem dX3_comeIn_41 : decode cX3_comeIn 41 = .ok (.iload_n 3, 1) := by decide +kernel
theorem dX3_comeIn_42 : decode cX3_comeIn 42 = .ok (.iconst 0, 1) := by decide +kernel
theorem dX3_comeIn_43 : decode cX3_comeIn 43 = .ok (.iastore, 1) := by decide +kernel
theorem dX3_comeIn_44 : decode cX3_comeIn 44 = .ok (.iinc 3 1, 3) := by decide +kernel
theorem dX3_comeIn_47 : decode cX3_comeIn 47 = .ok (.goto (-19), 3) := by decide +kernel
theorem dX3_comeIn_50 : decode cX3_comeIn 50 = .ok (.return_, 1) := by decide +kernel
theorem dX3_wishOf_0 : decode cX3_wishOf 0 = .ok (.iload_n 1, 1) := by decide +kernel
theorem dX3_wishOf_1 : decode cX3_wishOf 1 = .ok (.ifCond .lt 21, 3) := by decide +kernel
theorem dX3_wishOf_4 : decode cX3_wishOf 4 = .ok (.iload_n 1, 1) := by decide +kernel
theorem dX3_wishOf_5 : decode cX3_wishOf 5 = .ok (.aload_n 0, 1) := by decide +kernel
theorem dX3_wishOf_6 : decode cX3_wishOf 6 = .ok (.getfield 9, 3) := by decide +kernel
theorem dX3_wishOf_9 : decode cX3_wishOf 9 = .ok (.arraylength, 1) := by decide +kernel
theorem dX3_wishOf_10 : decode cX3_wishOf 10 = .ok (.if_icmp .ge 12, 3) := by decide +kernel
theorem dX3_wishOf_13 : decode cX3_wishOf 13 = .ok (.aload_n 0, 1) := by decide +kernel
theorem dX3_wishOf_14 : decode cX3_wishOf 14 = .ok (.getfield 9, 3) := by decide +kernel
theorem dX3_wishOf_17 : decode cX3_wishOf 17 = .ok (.iload_n 1, 1) := by decide +kernel
theorem dX3_wishOf_18 : decode cX3_wishOf 18 = .ok (.iaload, 1) := by decide +kernel
theorem dX3_wishOf_19 : decode cX3_wishOf 19 = .ok (.goto 4, 3) := by decide +kernel
theorem dX3_wishOf_22 : decode cX3_wishOf 22 = .ok (.iconst 0, 1) := by decide +kernel
theorem dX3_wishOf_23 : decode cX3_wishOf 23 = .ok (.ireturn, 1) := by decide +kernel
theorem dX3_setWishOf_0 : decode cX3_setWishOf 0 = .ok (.iload_n 1, 1) := by decide +kernel
theorem dX3_setWishOf_1 : decode cX3_setWishOf 1 = .ok (.ifCond .lt 19, 3) := by decide +kernel
theorem dX3_setWishOf_4 : decode cX3_setWishOf 4 = .ok (.iload_n 1, 1) := by decide +kernel
theorem dX3_setWishOf_5 : decode cX3_setWishOf 5 = .ok (.aload_n 0, 1) := by decide +kernel
theorem dX3_setWishOf_6 : decode cX3_setWishOf 6 = .ok (.getfield 9, 3) := by decide +kernel
theorem dX3_setWishOf_9 : decode cX3_setWishOf 9 = .ok (.arraylength, 1) := by decide +kernel
theorem dX3_setWishOf_10 : decode cX3_setWishOf 10 = .ok (.if_icmp .ge 10, 3) := by decide +kernel
theorem dX3_setWishOf_13 : decode cX3_setWishOf 13 = .ok (.aload_n 0, 1) := by decide +kernel
theorem dX3_setWishOf_14 : decode cX3_setWishOf 14 = .ok (.getfield 9, 3) := by decide +kernel
theorem dX3_setWishOf_17 : decode cX3_setWishOf 17 = .ok (.iload_n 1, 1) := by decide +kernel
theorem dX3_setWishOf_18 : decode cX3_setWishOf 18 = .ok (.iload_n 2, 1) := by decide +kernel
theorem dX3_setWishOf_19 : decode cX3_setWishOf 19 = .ok (.iastore, 1) := by decide +kernel
theorem dX3_setWishOf_20 : decode cX3_setWishOf 20 = .ok (.return_, 1) := by decide +kernel
set_option maxRecDepth 20000 in
theorem ggX3_goesAheadOf_X3_nameAsThreeLetters : GoodIn wsX3_goesAheadOf wsX3_nameAsThreeLetters := goodIn_r _ [7, 8, 9, 10, 11, 12, 13, 14] (by decide +kernel) (by decide +kernel)
set_option maxRecDepth 20000 in
theorem gX3_goesAheadOf_X3_nameAsThreeLetters : GoodIn wsX3_goesAheadOf (wsV RX3 31 RX3 yX3_nameAsThreeLetters wsX3_nameAsThreeLetters) := goodIn_app (goodIn_of _ (by decide +kernel)) ggX3_goesAheadOf_X3_nameAsThreeLetters
theorem dX3_goesAheadOf_0 : decode cX3_goesAheadOf 0 = .ok (.aload_n 0, 1) := by decide +kernel
theorem dX3_goesAheadOf_1 : decode cX3_goesAheadOf 1 = .ok (.getfield 22, 3) := by decide +kernel
theorem dX3_goesAheadOf_4 : decode cX3_goesAheadOf 4 = .ok (.aload_n 1, 1) := by decide +kernel
theorem dX3_goesAheadOf_5 : decode cX3_goesAheadOf 5 = .ok (.getfield 22, 3) := by decide +kernel
theorem dX3_goesAheadOf_8 : decode cX3_goesAheadOf 8 = .ok (.if_icmp .eq 20, 3) := by decide +kernel
theorem dX3_goesAheadOf_11 : decode cX3_goesAheadOf 11 = .ok (.aload_n 0, 1) := by decide +kernel
theorem dX3_goesAheadOf_12 : decode cX3_goesAheadOf 12 = .ok (.getfield 22, 3) := by decide +kernel
theorem dX3_goesAheadOf_15 : decode cX3_goesAheadOf 15 = .ok (.aload_n 1, 1) := by decide +kernel
theorem dX3_goesAheadOf_16 : decode cX3_goesAheadOf 16 = .ok (.getfield 22, 3) := by decide +kernel
theorem dX3_goesAheadOf_19 : decode cX3_goesAheadOf 19 = .ok (.if_icmp .le 7, 3) := by decide +kernel
theorem dX3_goesAheadOf_22 : decode cX3_goesAheadOf 22 = .ok (.iconst 1, 1) := by decide +kernel
theorem dX3_goesAheadOf_23 : decode cX3_goesAheadOf 23 = .ok (.goto 4, 3) := by decide +kernel
theorem dX3_goesAheadOf_26 : decode cX3_goesAheadOf 26 = .ok (.iconst 0, 1) := by decide +kernel
theorem dX3_goesAheadOf_27 : decode cX3_goesAheadOf 27 = .ok (.ireturn, 1) := by decide +kernel
theorem dX3_goesAheadOf_28 : decode cX3_goesAheadOf 28 = .ok (.aload_n 0, 1) := by decide +kernel
theorem dX3_goesAheadOf_29 : decode cX3_goesAheadOf 29 = .ok (.getfield 25, 3) := by decide +kernel
theorem dX3_goesAheadOf_32 : decode cX3_goesAheadOf 32 = .ok (.aload_n 1, 1) := by decide +kernel
theorem dX3_goesAheadOf_33 : decode cX3_goesAheadOf 33 = .ok (.getfield 25, 3) := by decide +kernel
theorem dX3_goesAheadOf_36 : decode cX3_goesAheadOf 36 = .ok (.if_icmp .eq 20, 3) := by decide +kernel
theorem dX3_goesAheadOf_39 : decode cX3_goesAheadOf 39 = .ok (.aload_n 0, 1) := by decide +kernel
theorem dX3_goesAheadOf_40 : decode cX3_goesAheadOf 40 = .ok (.getfield 25, 3) := by decide +kernel
theorem dX3_goesAheadOf_43 : decode cX3_goesAheadOf 43 = .ok (.aload_n 1, 1) := by decide +kernel
theorem dX3_goesAheadOf_44 : decode cX3_goesAheadOf 44 = .ok (.getfield 25, 3) := by decide +kernel
theorem dX3_goesAheadOf_47 : decode cX3_goesAheadOf 47 = .ok (.if_icmp .ge 7, 3) := by decide +kernel
theorem dX3_goesAheadOf_50 : decode cX3_goesAheadOf 50 = .ok (.iconst 1, 1) := by decide +kernel
theorem dX3_goesAheadOf_51 : decode cX3_goesAheadOf 51 = .ok (.goto 4, 3) := by decide +kernel
theorem dX3_goesAheadOf_54 : decode cX3_goesAheadOf 54 = .ok (.iconst 0, 1) := by decide +kernel
theorem dX3_goesAheadOf_55 : decode cX3_goesAheadOf 55 = .ok (.ireturn, 1) := by decide +kernel
theorem dX3_goesAheadOf_56 : decode cX3_goesAheadOf 56 = .ok (.aload_n 0, 1) := by decide +kernel
theorem dX3_goesAheadOf_57 : decode cX3_goesAheadOf 57 = .ok (.invokevirtual 31, 3) := by decide +kernel
theorem dX3_goesAheadOf_60 : decode cX3_goesAheadOf 60 = .ok (.aload_n 1, 1) := by decide +kernel
theorem dX3_goesAheadOf_61 : decode cX3_goesAheadOf 61 = .ok (.invokevirtual 31, 3) := by decide +kernel
theorem dX3_goesAheadOf_64 : decode cX3_goesAheadOf 64 = .ok (.if_icmp .ge 7, 3) := by decide +kernel
theorem dX3_goesAheadOf_67 : decode cX3_goesAheadOf 67 = .ok (.iconst 1, 1) := by decide +kernel
theorem dX3_goesAheadOf_68 : decode cX3_goesAheadOf 68 = .ok (.goto 4, 3) := by decide +kernel
theorem dX3_goesAheadOf_71 : decode cX3_goesAheadOf 71 = .ok (.iconst 0, 1) := by decide +kernel
theorem dX3_goesAheadOf_72 : decode cX3_goesAheadOf 72 = .ok (.ireturn, 1) := by decide +kernel
theorem dX3_nameAsThreeLetters_0 : decode cX3_nameAsThreeLetters 0 = .ok (.aload_n 0, 1) := by decide +kernel
theorem dX3_nameAsThreeLetters_1 : decode cX3_nameAsThreeLetters 1 = .ok (.getfield 15, 3) := by decide +kernel
theorem dX3_nameAsThreeLetters_4 : decode cX3_nameAsThreeLetters 4 = .ok (.bipush 27, 2) := by decide +kernel
theorem dX3_nameAsThreeLetters_6 : decode cX3_nameAsThreeLetters 6 = .ok (.if_icmp .ge 14, 3) := by decide +kernel
theorem dX3_nameAsThreeLetters_9 : decode cX3_nameAsThreeLetters 9 = .ok (.aload_n 0, 1) := by decide +kernel
theorem dX3_nameAsThreeLetters_10 : decode cX3_nameAsThreeLetters 10 = .ok (.getfield 15, 3) := by decide +kernel
theorem dX3_nameAsThreeLetters_13 : decode cX3_nameAsThreeLetters 13 = .ok (.bipush 27, 2) := by decide +kernel
theorem dX3_nameAsThreeLetters_15 : decode cX3_nameAsThreeLetters 15 = .ok (.imul, 1) := by decide +kernel
theorem dX3_nameAsThreeLetters_16 : decode cX3_nameAsThreeLetters 16 = .ok (.bipush 27, 2) := by decide +kernel
theorem dX3_nameAsThreeLetters_18 : decode cX3_nameAsThreeLetters 18 = .ok (.imul, 1) := by decide +kernel
theorem dX3_nameAsThreeLetters_19 : decode cX3_nameAsThreeLetters 19 = .ok (.ireturn, 1) := by decide +kernel
theorem dX3_nameAsThreeLetters_20 : decode cX3_nameAsThreeLetters 20 = .ok (.aload_n 0, 1) := by decide +kernel
theorem dX3_nameAsThreeLetters_21 : decode cX3_nameAsThreeLetters 21 = .ok (.getfield 15, 3) := by decide +kernel
theorem dX3_nameAsThreeLetters_24 : decode cX3_nameAsThreeLetters 24 = .ok (.sipush 729, 3) := by decide +kernel
theorem dX3_nameAsThreeLetters_27 : decode cX3_nameAsThreeLetters 27 = .ok (.if_icmp .ge 13, 3) := by decide +kernel
theorem dX3_nameAsThreeLetters_30 : decode cX3_nameAsThreeLetters 30 = .ok (.aload_n 0, 1) := by decide +kernel
theorem dX3_nameAsThreeLetters_31 : decode cX3_nameAsThreeLetters 31 = .ok (.getfield 15, 3) := by decide +kernel
theorem dX3_nameAsThreeLetters_34 : decode cX3_nameAsThreeLetters 34 = .ok (.bipush 27, 2) := by decide +kernel
theorem dX3_nameAsThreeLetters_36 : decode cX3_nameAsThreeLetters 36 = .ok (.imul, 1) := by decide +kernel
theorem dX3_nameAsThreeLetters_37 : decode cX3_nameAsThreeLetters 37 = .ok (.goto 7, 3) := by decide +kernel
theorem dX3_nameAsThreeLetters_40 : decode cX3_nameAsThreeLetters 40 = .ok (.aload_n 0, 1) := by decide +kernel
theorem dX3_nameAsThreeLetters_41 : decode cX3_nameAsThreeLetters 41 = .ok (.getfield 15, 3) := by decide +kernel
theorem dX3_nameAsThreeLetters_44 : decode cX3_nameAsThreeLetters 44 = .ok (.ireturn, 1) := by decide +kernel
theorem dX3_gainTrust_0 : decode cX3_gainTrust 0 = .ok (.aload_n 0, 1) := by decide +kernel
theorem dX3_gainTrust_1 : decode cX3_gainTrust 1 = .ok (.aload_n 0, 1) := by decide +kernel
theorem dX3_gainTrust_2 : decode cX3_gainTrust 2 = .ok (.getfield 22, 3) := by decide +kernel
theorem dX3_gainTrust_5 : decode cX3_gainTrust 5 = .ok (.iload_n 1, 1) := by decide +kernel
theorem dX3_gainTrust_6 : decode cX3_gainTrust 6 = .ok (.iadd, 1) := by decide +kernel
theorem dX3_gainTrust_7 : decode cX3_gainTrust 7 = .ok (.bipush 99, 2) := by decide +kernel
theorem dX3_gainTrust_9 : decode cX3_gainTrust 9 = .ok (.invokestatic 35, 3) := by decide +kernel
theorem dX3_gainTrust_12 : decode cX3_gainTrust 12 = .ok (.putfield 22, 3) := by decide +kernel
theorem dX3_gainTrust_15 : decode cX3_gainTrust 15 = .ok (.return_, 1) := by decide +kernel
theorem dX3_loseTrust_0 : decode cX3_loseTrust 0 = .ok (.aload_n 0, 1) := by decide +kernel
theorem dX3_loseTrust_1 : decode cX3_loseTrust 1 = .ok (.aload_n 0, 1) := by decide +kernel
theorem dX3_loseTrust_2 : decode cX3_loseTrust 2 = .ok (.getfield 22, 3) := by decide +kernel
theorem dX3_loseTrust_5 : decode cX3_loseTrust 5 = .ok (.iload_n 1, 1) := by decide +kernel
theorem dX3_loseTrust_6 : decode cX3_loseTrust 6 = .ok (.isub, 1) := by decide +kernel
theorem dX3_loseTrust_7 : decode cX3_loseTrust 7 = .ok (.iconst 0, 1) := by decide +kernel
theorem dX3_loseTrust_8 : decode cX3_loseTrust 8 = .ok (.invokestatic 41, 3) := by decide +kernel
theorem dX3_loseTrust_11 : decode cX3_loseTrust 11 = .ok (.putfield 22, 3) := by decide +kernel
theorem dX3_loseTrust_14 : decode cX3_loseTrust 14 = .ok (.return_, 1) := by decide +kernel
theorem dX3_payOrOwe_0 : decode cX3_payOrOwe 0 = .ok (.aload_n 0, 1) := by decide +kernel
theorem dX3_payOrOwe_1 : decode cX3_payOrOwe 1 = .ok (.getfield 19, 3) := by decide +kernel
theorem dX3_payOrOwe_4 : decode cX3_payOrOwe 4 = .ok (.iload_n 1, 1) := by decide +kernel
theorem dX3_payOrOwe_5 : decode cX3_payOrOwe 5 = .ok (.invokestatic 35, 3) := by decide +kernel
theorem dX3_payOrOwe_8 : decode cX3_payOrOwe 8 = .ok (.istore_n 2, 1) := by decide +kernel
theorem dX3_payOrOwe_9 : decode cX3_payOrOwe 9 = .ok (.aload_n 0, 1) := by decide +kernel
theorem dX3_payOrOwe_10 : decode cX3_payOrOwe 10 = .ok (.dup, 1) := by decide +kernel
theorem dX3_payOrOwe_11 : decode cX3_payOrOwe 11 = .ok (.getfield 19, 3) := by decide +kernel
theorem dX3_payOrOwe_14 : decode cX3_payOrOwe 14 = .ok (.iload_n 2, 1) := by decide +kernel
theorem dX3_payOrOwe_15 : decode cX3_payOrOwe 15 = .ok (.isub, 1) := by decide +kernel
theorem dX3_payOrOwe_16 : decode cX3_payOrOwe 16 = .ok (.putfield 19, 3) := by decide +kernel
theorem dX3_payOrOwe_19 : decode cX3_payOrOwe 19 = .ok (.aload_n 0, 1) := by decide +kernel
theorem dX3_payOrOwe_20 : decode cX3_payOrOwe 20 = .ok (.dup, 1) := by decide +kernel
theorem dX3_payOrOwe_21 : decode cX3_payOrOwe 21 = .ok (.getfield 28, 3) := by decide +kernel
theorem dX3_payOrOwe_24 : decode cX3_payOrOwe 24 = .ok (.iload_n 1, 1) := by decide +kernel
theorem dX3_payOrOwe_25 : decode cX3_payOrOwe 25 = .ok (.iload_n 2, 1) := by decide +kernel
theorem dX3_payOrOwe_26 : decode cX3_payOrOwe 26 = .ok (.isub, 1) := by decide +kernel
theorem dX3_payOrOwe_27 : decode cX3_payOrOwe 27 = .ok (.iadd, 1) := by decide +kernel
theorem dX3_payOrOwe_28 : decode cX3_payOrOwe 28 = .ok (.putfield 28, 3) := by decide +kernel
theorem dX3_payOrOwe_31 : decode cX3_payOrOwe 31 = .ok (.iload_n 2, 1) := by decide +kernel
theorem dX3_payOrOwe_32 : decode cX3_payOrOwe 32 = .ok (.ireturn, 1) := by decide +kernel
set_option maxRecDepth 20000 in
theorem ggX3_copyFrom_X3_wishOf : GoodIn wsX3_copyFrom wsX3_wishOf := goodIn_r _ [10, 11, 16, 17, 18, 19, 20, 21] (by decide +kernel) (by decide +kernel)
set_option maxRecDepth 20000 in
theorem gX3_copyFrom_X3_wishOf : GoodIn wsX3_copyFrom (wsV RX3 44 RX3 yX3_wishOf wsX3_wishOf) := goodIn_app (goodIn_of _ (by decide +kernel)) ggX3_copyFrom_X3_wishOf
set_option maxRecDepth 20000 in
theorem ggX3_copyFrom_X3_setWishOf : GoodIn wsX3_copyFrom wsX3_setWishOf := goodIn_r _ [15, 11, 16, 17, 18, 19, 20, 21] (by decide +kernel) (by decide +kernel)
set_option maxRecDepth 20000 in
theorem gX3_copyFrom_X3_setWishOf : GoodIn wsX3_copyFrom (wsV RX3 48 RX3 yX3_setWishOf wsX3_setWishOf) := goodIn_app (goodIn_of _ (by decide +kernel)) ggX3_copyFrom_X3_setWishOf
theorem dX3_copyFrom_0 : decode cX3_copyFrom 0 = .ok (.aload_n 0, 1) := by decide +kernel
theorem dX3_copyFrom_1 : decode cX3_copyFrom 1 = .ok (.aload_n 1, 1) := by decide +kernel
theorem dX3_copyFrom_2 : decode cX3_copyFrom 2 = .ok (.getfield 15, 3) := by decide +kernel
theorem dX3_copyFrom_5 : decode cX3_copyFrom 5 = .ok (.putfield 15, 3) := by decide +kernel
theorem dX3_copyFrom_8 : decode cX3_copyFrom 8 = .ok (.aload_n 0, 1) := by decide +kernel
theorem dX3_copyFrom_9 : decode cX3_copyFrom 9 = .ok (.aload_n 1, 1) := by decide +kernel
theorem dX3_copyFrom_10 : decode cX3_copyFrom 10 = .ok (.getfield 19, 3) := by decide +kernel
theorem dX3_copyFrom_13 : decode cX3_copyFrom 13 = .ok (.putfield 19, 3) := by decide +kernel
theorem dX3_copyFrom_16 : decode cX3_copyFrom 16 = .ok (.aload_n 0, 1) := by decide +kernel
theorem dX3_copyFrom_17 : decode cX3_copyFrom 17 = .ok (.aload_n 1, 1) := by decide +kernel
theorem dX3_copyFrom_18 : decode cX3_copyFrom 18 = .ok (.getfield 22, 3) := by decide +kernel
theorem dX3_copyFrom_21 : decode cX3_copyFrom 21 = .ok (.putfield 22, 3) := by decide +kernel
theorem dX3_copyFrom_24 : decode cX3_copyFrom 24 = .ok (.aload_n 0, 1) := by decide +kernel
theorem dX3_copyFrom_25 : decode cX3_copyFrom 25 = .ok (.aload_n 1, 1) := by decide +kernel
theorem dX3_copyFrom_26 : decode cX3_copyFrom 26 = .ok (.getfield 25, 3) := by decide +kernel
theorem dX3_copyFrom_29 : decode cX3_copyFrom 29 = .ok (.putfield 25, 3) := by decide +kernel
theorem dX3_copyFrom_32 : decode cX3_copyFrom 32 = .ok (.aload_n 0, 1) := by decide +kernel
theorem dX3_copyFrom_33 : decode cX3_copyFrom 33 = .ok (.aload_n 1, 1) := by decide +kernel
theorem dX3_copyFrom_34 : decode cX3_copyFrom 34 = .ok (.getfield 28, 3) := by decide +kernel
theorem dX3_copyFrom_37 : decode cX3_copyFrom 37 = .ok (.putfield 28, 3) := by decide +kernel
theorem dX3_copyFrom_40 : decode cX3_copyFrom 40 = .ok (.iconst 0, 1) := by decide +kernel
theorem dX3_copyFrom_41 : decode cX3_copyFrom 41 = .ok (.istore_n 2, 1) := by decide +kernel
theorem dX3_copyFrom_42 : decode cX3_copyFrom 42 = .ok (.iload_n 2, 1) := by decide +kernel
theorem dX3_copyFrom_43 : decode cX3_copyFrom 43 = .ok (.bipush 10, 2) := by decide +kernel
theorem dX3_copyFrom_45 : decode cX3_copyFrom 45 = .ok (.if_icmp .ge 19, 3) := by decide +kernel
theorem dX3_copyFrom_48 : decode cX3_copyFrom 48 = .ok (.aload_n 0, 1) := by decide +kernel
theorem dX3_copyFrom_49 : decode cX3_copyFrom 49 = .ok (.iload_n 2, 1) := by decide +kernel
theorem dX3_copyFrom_50 : decode cX3_copyFrom 50 = .ok (.aload_n 1, 1) := by decide +kernel
theorem dX3_copyFrom_51 : decode cX3_copyFrom 51 = .ok (.iload_n 2, 1) := by decide +kernel
theorem dX3_copyFrom_52 : decode cX3_copyFrom 52 = .ok (.invokevirtual 44, 3) := by decide +kernel
theorem dX3_copyFrom_55 : decode cX3_copyFrom 55 = .ok (.invokevirtual 48, 3) := by decide +kernel
theorem dX3_copyFrom_58 : decode cX3_copyFrom 58 = .ok (.iinc 2 1, 3) := by decide +kernel
theorem dX3_copyFrom_61 : decode cX3_copyFrom 61 = .ok (.goto (-19), 3) := by decide +kernel
theorem dX3_copyFrom_64 : decode cX3_copyFrom 64 = .ok (.return_, 1) := by decide +kernel
theorem dX4_init_0 : decode cX4_init 0 = .ok (.aload_n 0, 1) := by decide +kernel
theorem dX4_init_1 : decode cX4_init 1 = .ok (.invokespecial 1, 3) := by decide +kernel
theorem dX4_init_4 : decode cX4_init 4 = .ok (.aload_n 0, 1) := by decide +kernel
theorem dX4_init_5 : decode cX4_init 5 = .ok (.iload_n 1, 1) := by decide +kernel
theorem dX4_init_6 : decode cX4_init 6 = .ok (.putfield 7, 3) := by decide +kernel
theorem dX4_init_9 : decode cX4_init 9 = .ok (.aload_n 0, 1) := by decide +kernel
theorem dX4_init_10 : decode cX4_init 10 = .ok (.iload_n 2, 1) := by decide +kernel
theorem dX4_init_11 : decode cX4_init 11 = .ok (.putfield 13, 3) := by decide +kernel
theorem dX4_init_14 : decode cX4_init 14 = .ok (.aload_n 0, 1) := by decide +kernel
theorem dX4_init_15 : decode cX4_init 15 = .ok (.iload_n 1, 1) := by decide +kernel
theorem dX4_init_16 : decode cX4_init 16 = .ok (.iload_n 2, 1) := by decide +kernel
theorem dX4_init_17 : decode cX4_init 17 = .ok (.imul, 1) := by decide +kernel
theorem dX4_init_18 : decode cX4_init 18 = .ok (.iconst 0, 1) := by decide +kernel
theorem dX4_init_19 : decode cX4_init 19 = .ok (.invokestatic 16, 3) := by decide +kernel
theorem dX4_init_22 : decode cX4_init 22 = .ok (.newarray .int, 2) := by decide +kernel
theorem dX4_init_24 : decode cX4_init 24 = .ok (.putfield 22, 3) := by decide +kernel
theorem dX4_init_27 : decode cX4_init 27 = .ok (.return_, 1) := by decide +kernel
theorem dX4_size_0 : decode cX4_size 0 = .ok (.aload_n 0, 1) := by decide +kernel
theorem dX4_size_1 : decode cX4_size 1 = .ok (.getfield 26, 3) := by decide +kernel
theorem dX4_size_4 : decode cX4_size 4 = .ok (.ireturn, 1) := by decide +kernel
theorem dX4_clear_0 : decode cX4_clear 0 = .ok (.aload_n 0, 1) := by decide +kernel
theorem dX4_clear_1 : decode cX4_clear 1 = .ok (.iconst 0, 1) := by decide +kernel
theorem dX4_clear_2 : decode cX4_clear 2 = .ok (.putfield 26, 3) := by decide +kernel
theorem dX4_clear_5 : decode cX4_clear 5 = .ok (.return_, 1) := by decide +kernel
theorem dX4_cell_0 : decode cX4_cell 0 = .ok (.iload_n 1, 1) := by decide +kernel
theorem dX4_cell_1 : decode cX4_cell 1 = .ok (.ifCond .lt 23, 3) := by decide +kernel
theorem dX4_cell_4 : decode cX4_cell 4 = .ok (.iload_n 1, 1) := by decide +kernel
theorem dX4_cell_5 : decode cX4_cell 5 = .ok (.aload_n 0, 1) := by decide +kernel
theorem dX4_cell_6 : decode cX4_cell 6 = .ok (.getfield 26, 3) := by decide +kernel
theorem dX4_cell_9 : decode cX4_cell 9 = .ok (.if_icmp .ge 15, 3) := by decide +kernel
theorem dX4_cell_12 : decode cX4_cell 12 = .ok (.iload_n 2, 1) := by decide +kernel
theorem dX4_cell_13 : decode cX4_cell 13 = .ok (.ifCond .lt 11, 3) := by decide +kernel
theorem dX4_cell_16 : decode cX4_cell 16 = .ok (.iload_n 2, 1) := by decide +kernel
theorem dX4_cell_17 : decode cX4_cell 17 = .ok (.aload_n 0, 1) := by decide +kernel
theorem dX4_cell_18 : decode cX4_cell 18 = .ok (.getfield 13, 3) := by decide +kernel
theorem dX4_cell_21 : decode cX4_cell 21 = .ok (.if_icmp .lt 5, 3) := by decide +kernel
theorem dX4_cell_24 : decode cX4_cell 24 = .ok (.iconst 0, 1) := by decide +kernel
theorem dX4_cell_25 : decode cX4_cell 25 = .ok (.ireturn, 1) := by decide +kernel
theorem dX4_cell_26 : decode cX4_cell 26 = .ok (.iload_n 1, 1) := by decide +kernel
theorem dX4_cell_27 : decode cX4_cell 27 = .ok (.aload_n 0, 1) := by decide +kernel
theorem dX4_cell_28 : decode cX4_cell 28 = .ok (.getfield 13, 3) := by decide +kernel
theorem dX4_cell_31 : decode cX4_cell 31 = .ok (.imul, 1) := by decide +kernel
theorem dX4_cell_32 : decode cX4_cell 32 = .ok (.iload_n 2, 1) := by decide +kernel
theorem dX4_cell_33 : decode cX4_cell 33 = .ok (.iadd, 1) := by decide +kernel
theorem dX4_cell_34 : decode cX4_cell 34 = .ok (.istore_n 3, 1) := by decide +kernel
theorem dX4_cell_35 : decode cX4_cell 35 = .ok (.iload_n 3, 1) := by decide +kernel
theorem dX4_cell_36 : decode cX4_cell 36 = .ok (.ifCond .lt 21, 3) := by decide +kernel
theorem dX4_cell_39 : decode cX4_cell 39 = .ok (.iload_n 3, 1) := by decide +kernel
theorem dX4_cell_40 : decode cX4_cell 40 = .ok (.aload_n 0, 1) := by decide +kernel
theorem dX4_cell_41 : decode cX4_cell 41 = .ok (.getfield 22, 3) := by decide +kernel
theorem dX4_cell_44 : decode cX4_cell 44 = .ok (.arraylength, 1) := by decide +kernel
theorem dX4_cell_45 : decode cX4_cell 45 = .ok (.if_icmp .ge 12, 3) := by decide +kernel
theorem dX4_cell_48 : decode cX4_cell 48 = .ok (.aload_n 0, 1) := by decide +kernel
theorem dX4_cell_49 : decode cX4_cell 49 = .ok (.getfield 22, 3) := by decide +kernel
theorem dX4_cell_52 : decode cX4_cell 52 = .ok (.iload_n 3, 1) := by decide +kernel
theorem dX4_cell_53 : decode cX4_cell 53 = .ok (.iaload, 1) := by decide +kernel
theorem dX4_cell_54 : decode cX4_cell 54 = .ok (.goto 4, 3) := by decide +kernel
theorem dX4_cell_57 : decode cX4_cell 57 = .ok (.iconst 0, 1) := by decide +kernel
theorem dX4_cell_58 : decode cX4_cell 58 = .ok (.ireturn, 1) := by decide +kernel
theorem dX4_setCell_0 : decode cX4_setCell 0 = .ok (.iload_n 1, 1) := by decide +kernel
theorem dX4_setCell_1 : decode cX4_setCell 1 = .ok (.ifCond .lt 23, 3) := by decide +kernel
theorem dX4_setCell_4 : decode cX4_setCell 4 = .ok (.iload_n 1, 1) := by decide +kernel
theorem dX4_setCell_5 : decode cX4_setCell 5 = .ok (.aload_n 0, 1) := by decide +kernel
theorem dX4_setCell_6 : decode cX4_setCell 6 = .ok (.getfield 26, 3) := by decide +kernel
theorem dX4_setCell_9 : decode cX4_setCell 9 = .ok (.if_icmp .ge 15, 3) := by decide +kernel
theorem dX4_setCell_12 : decode cX4_setCell 12 = .ok (.iload_n 2, 1) := by decide +kernel
theorem dX4_setCell_13 : decode cX4_setCell 13 = .ok (.ifCond .lt 11, 3) := by decide +kernel
theorem dX4_setCell_16 : decode cX4_setCell 16 = .ok (.iload_n 2, 1) := by decide +kernel
theorem dX4_setCell_17 : decode cX4_setCell 17 = .ok (.aload_n 0, 1) := by decide +kernel
theorem dX4_setCell_18 : decode cX4_setCell 18 = .ok (.getfield 13, 3) := by decide +kernel
theorem dX4_setCell_21 : decode cX4_setCell 21 = .ok (.if_icmp .lt 4, 3) := by decide +kernel
theorem dX4_setCell_24 : decode cX4_setCell 24 = .ok (.return_, 1) := by decide +kernel
theorem dX4_setCell_25 : decode cX4_setCell 25 = .ok (.iload_n 1, 1) := by decide +kernel
theorem dX4_setCell_26 : decode cX4_setCell 26 = .ok (.aload_n 0, 1) := by decide +kernel
theorem dX4_setCell_27 : decode cX4_setCell 27 = .ok (.getfield 13, 3) := by decide +kernel
theorem dX4_setCell_30 : decode cX4_setCell 30 = .ok (.imul, 1) := by decide +kernel
theorem dX4_setCell_31 : decode cX4_setCell 31 = .ok (.iload_n 2, 1) := by decide +kernel
theorem dX4_setCell_32 : decode cX4_setCell 32 = .ok (.iadd, 1) := by decide +kernel
theorem dX4_setCell_33 : decode cX4_setCell 33 = .ok (.istore 4, 2) := by decide +kernel
theorem dX4_setCell_35 : decode cX4_setCell 35 = .ok (.iload 4, 2) := by decide +kernel
theorem dX4_setCell_37 : decode cX4_setCell 37 = .ok (.ifCond .lt 21, 3) := by decide +kernel
theorem dX4_setCell_40 : decode cX4_setCell 40 = .ok (.iload 4, 2) := by decide +kernel
theorem dX4_setCell_42 : decode cX4_setCell 42 = .ok (.aload_n 0, 1) := by decide +kernel
theorem dX4_setCell_43 : decode cX4_setCell 43 = .ok (.getfield 22, 3) := by decide +kernel
theorem dX4_setCell_46 : decode cX4_setCell 46 = .ok (.arraylength, 1) := by decide +kernel
theorem dX4_setCell_47 : decode cX4_setCell 47 = .ok (.if_icmp .ge 11, 3) := by decide +kernel
theorem dX4_setCell_50 : decode cX4_setCell 50 = .ok (.aload_n 0, 1) := by decide +kernel
theorem dX4_setCell_51 : decode cX4_setCell 51 = .ok (.getfield 22, 3) := by decide +kernel
theorem dX4_setCell_54 : decode cX4_setCell 54 = .ok (.iload 4, 2) := by decide +kernel
theorem dX4_setCell_56 : decode cX4_setCell 56 = .ok (.iload_n 3, 1) := by decide +kernel
theorem dX4_setCell_57 : decode cX4_setCell 57 = .ok (.iastore, 1) := by decide +kernel
theorem dX4_setCell_58 : decode cX4_setCell 58 = .ok (.return_, 1) := by decide +kernel
theorem dX4_append_0 : decode cX4_append 0 = .ok (.aload_n 0, 1) := by decide +kernel
theorem dX4_append_1 : decode cX4_append 1 = .ok (.getfield 26, 3) := by decide +kernel
theorem dX4_append_4 : decode cX4_append 4 = .ok (.aload_n 0, 1) := by decide +kernel
theorem dX4_append_5 : decode cX4_append 5 = .ok (.getfield 7, 3) := by decide +kernel
theorem dX4_append_8 : decode cX4_append 8 = .ok (.if_icmp .ge 16, 3) := by decide +kernel
theorem dX4_append_11 : decode cX4_append 11 = .ok (.aload_n 0, 1) := by decide +kernel
theorem dX4_append_12 : decode cX4_append 12 = .ok (.dup, 1) := by decide +kernel
theorem dX4_append_13 : decode cX4_append 13 = .ok (.getfield 26, 3) := by decide +kernel
theorem dX4_append_16 : decode cX4_append 16 = .ok (.iconst 1, 1) := by decide +kernel
theorem dX4_append_17 : decode cX4_append 17 = .ok (.iadd, 1) := by decide +kernel
theorem dX4_append_18 : decode cX4_append 18 = .ok (.putfield 26, 3) := by decide +kernel
theorem dX4_append_21 : decode cX4_append 21 = .ok (.goto 52, 3) := by decide +kernel
theorem dX4_append_24 : decode cX4_append 24 = .ok (.iconst 0, 1) := by decide +kernel
theorem dX4_append_25 : decode cX4_append 25 = .ok (.istore_n 1, 1) := by decide +kernel
theorem dX4_append_26 : decode cX4_append 26 = .ok (.iload_n 1, 1) := by decide +kernel
theorem dX4_append_27 : decode cX4_append 27 = .ok (.aload_n 0, 1) := by decide +kernel
theorem dX4_append_28 : decode cX4_append 28 = .ok (.getfield 22, 3) := by decide +kernel
theorem dX4_append_31 : decode cX4_append 31 = .ok (.arraylength, 1) := by decide +kernel
theorem dX4_append_32 : decode cX4_append 32 = .ok (.if_icmp .ge 41, 3) := by decide +kernel
theorem dX4_append_35 : decode cX4_append 35 = .ok (.iload_n 1, 1) := by decide +kernel
theorem dX4_append_36 : decode cX4_append 36 = .ok (.aload_n 0, 1) := by decide +kernel
theorem dX4_append_37 : decode cX4_append 37 = .ok (.getfield 13, 3) := by decide +kernel
theorem dX4_append_40 : decode cX4_append 40 = .ok (.iadd, 1) := by decide +kernel
theorem dX4_append_41 : decode cX4_append 41 = .ok (.istore_n 2, 1) := by decide +kernel
theorem dX4_append_42 : decode cX4_append 42 = .ok (.iload_n 2, 1) := by decide +kernel
theorem dX4_append_43 : decode cX4_append 43 = .ok (.ifCond .lt 24, 3) := by decide +kernel
theorem dX4_append_46 : decode cX4_append 46 = .ok (.iload_n 2, 1) := by decide +kernel
theorem dX4_append_47 : decode cX4_append 47 = .ok (.aload_n 0, 1) := by decide +kernel
theorem dX4_append_48 : decode cX4_append 48 = .ok (.getfield 22, 3) := by decide +kernel
theorem dX4_append_51 : decode cX4_append 51 = .ok (.arraylength, 1) := by decide +kernel
theorem dX4_append_52 : decode cX4_append 52 = .ok (.if_icmp .ge 15, 3) := by decide +kernel
theorem dX4_append_55 : decode cX4_append 55 = .ok (.aload_n 0, 1) := by decide +kernel
theorem dX4_append_56 : decode cX4_append 56 = .ok (.getfield 22, 3) := by decide +kernel
theorem dX4_append_59 : decode cX4_append 59 = .ok (.iload_n 1, 1) := by decide +kernel
theorem dX4_append_60 : decode cX4_append 60 = .ok (.aload_n 0, 1) := by decide +kernel
theorem dX4_append_61 : decode cX4_append 61 = .ok (.getfield 22, 3) := by decide +kernel
theorem dX4_append_64 : decode cX4_append 64 = .ok (.iload_n 2, 1) := by decide +kernel
theorem dX4_append_65 : decode cX4_append 65 = .ok (.iaload, 1) := by decide +kernel
theorem dX4_append_66 : decode cX4_append 66 = .ok (.iastore, 1) := by decide +kernel
theorem dX4_append_67 : decode cX4_append 67 = .ok (.iinc 1 1, 3) := by decide +kernel
theorem dX4_append_70 : decode cX4_append 70 = .ok (.goto (-44), 3) := by decide +kernel
theorem dX4_append_73 : decode cX4_append 73 = .ok (.aload_n 0, 1) := by decide +kernel
theorem dX4_append_74 : decode cX4_append 74 = .ok (.getfield 26, 3) := by decide +kernel
theorem dX4_append_77 : decode cX4_append 77 = .ok (.iconst 1, 1) := by decide +kernel
theorem dX4_append_78 : decode cX4_append 78 = .ok (.isub, 1) := by decide +kernel
theorem dX4_append_79 : decode cX4_append 79 = .ok (.aload_n 0, 1) := by decide +kernel
theorem dX4_append_80 : decode cX4_append 80 = .ok (.getfield 13, 3) := by decide +kernel
theorem dX4_append_83 : decode cX4_append 83 = .ok (.imul, 1) := by decide +kernel
theorem dX4_append_84 : decode cX4_append 84 = .ok (.istore_n 1, 1) := by decide +kernel
theorem dX4_append_85 : decode cX4_append 85 = .ok (.iload_n 1, 1) := by decide +kernel
theorem dX4_append_86 : decode cX4_append 86 = .ok (.ifCond .lt 38, 3) := by decide +kernel
theorem dX4_append_89 : decode cX4_append 89 = .ok (.iload_n 1, 1) := by decide +kernel
theorem dX4_append_90 : decode cX4_append 90 = .ok (.aload_n 0, 1) := by decide +kernel
theorem dX4_append_91 : decode cX4_append 91 = .ok (.getfield 26, 3) := by decide +kernel
theorem dX4_append_94 : decode cX4_append 94 = .ok (.aload_n 0, 1) := by decide +kernel
theorem dX4_append_95 : decode cX4_append 95 = .ok (.getfield 13, 3) := by decide +kernel
theorem dX4_append_98 : decode cX4_append 98 = .ok (.imul, 1) := by decide +kernel
theorem dX4_append_99 : decode cX4_append 99 = .ok (.if_icmp .ge 25, 3) := by decide +kernel
theorem dX4_append_102 : decode cX4_append 102 = .ok (.iload_n 1, 1) := by decide +kernel
theorem dX4_append_103 : decode cX4_append 103 = .ok (.aload_n 0, 1) := by decide +kernel
theorem dX4_append_104 : decode cX4_append 104 = .ok (.getfield 22, 3) := by decide +kernel
theorem dX4_append_107 : decode cX4_append 107 = .ok (.arraylength, 1) := by decide +kernel
theorem dX4_append_108 : decode cX4_append 108 = .ok (.if_icmp .ge 16, 3) := by decide +kernel
theorem dX4_append_111 : decode cX4_append 111 = .ok (.aload_n 0, 1) := by decide +kernel
theorem dX4_append_112 : decode cX4_append 112 = .ok (.getfield 22, 3) := by decide +kernel
theorem dX4_append_115 : decode cX4_append 115 = .ok (.iload_n 1, 1) := by decide +kernel
theorem dX4_append_116 : decode cX4_append 116 = .ok (.iconst 0, 1) := by decide +kernel
theorem dX4_append_117 : decode cX4_append 117 = .ok (.iastore, 1) := by decide +kernel
theorem dX4_append_118 : decode cX4_append 118 = .ok (.iinc 1 1, 3) := by decide +kernel
theorem dX4_append_121 : decode cX4_append 121 = .ok (.goto (-36), 3) := by decide +kernel
theorem dX4_append_124 : decode cX4_append 124 = .ok (.aload_n 0, 1) := by decide +kernel
theorem dX4_append_125 : decode cX4_append 125 = .ok (.getfield 26, 3) := by decide +kernel
theorem dX4_append_128 : decode cX4_append 128 = .ok (.iconst 1, 1) := by decide +kernel
theorem dX4_append_129 : decode cX4_append 129 = .ok (.isub, 1) := by decide +kernel
theorem dX4_append_130 : decode cX4_append 130 = .ok (.ireturn, 1) := by decide +kernel
set_option maxRecDepth 20000 in
theorem ggX4_insert_X4_append : GoodIn wsX4_insert wsX4_append := goodIn_r _ [11, 12, 13, 6, 5, 14, 15, 16, 17] (by decide +kernel) (by decide +kernel)
set_option maxRecDepth 20000 in
theorem gX4_insert_X4_append : GoodIn wsX4_insert (wsV RX4 29 RX4 yX4_append wsX4_append) := goodIn_app (goodIn_of _ (by decide +kernel)) ggX4_insert_X4_append
theorem dX4_insert_0 : decode cX4_insert 0 = .ok (.aload_n 0, 1) := by decide +kernel
theorem dX4_insert_1 : decode cX4_insert 1 = .ok (.invokevirtual 29, 3) := by decide +kernel
theorem dX4_insert_4 : decode cX4_insert 4 = .ok (.pop, 1) := by decide +kernel
theorem dX4_insert_5 : decode cX4_insert 5 = .ok (.iload_n 1, 1) := by decide +kernel
theorem dX4_insert_6 : decode cX4_insert 6 = .ok (.iconst 0, 1) := by decide +kernel
theorem dX4_insert_7 : decode cX4_insert 7 = .ok (.invokestatic 16, 3) := by decide +kernel
theorem dX4_insert_10 : decode cX4_insert 10 = .ok (.aload_n 0, 1) := by decide +kernel
theorem dX4_insert_11 : decode cX4_insert 11 = .ok (.getfield 13, 3) := by decide +kernel
theorem dX4_insert_14 : decode cX4_insert 14 = .ok (.imul, 1) := by decide +kernel
theorem dX4_insert_15 : decode cX4_insert 15 = .ok (.istore_n 2, 1) := by decide +kernel
theorem dX4_insert_16 : decode cX4_insert 16 = .ok (.aload_n 0, 1) := by decide +kernel
theorem dX4_insert_17 : decode cX4_insert 17 = .ok (.getfield 22, 3) := by decide +kernel
theorem dX4_insert_20 : decode cX4_insert 20 = .ok (.arraylength, 1) := by decide +kernel
theorem dX4_insert_21 : decode cX4_insert 21 = .ok (.iconst 1, 1) := by decide +kernel
theorem dX4_insert_22 : decode cX4_insert 22 = .ok (.isub, 1) := by decide +kernel
theorem dX4_insert_23 : decode cX4_insert 23 = .ok (.istore_n 3, 1) := by decide +kernel
theorem dX4_insert_24 : decode cX4_insert 24 = .ok (.iload_n 3, 1) := by decide +kernel
theorem dX4_insert_25 : decode cX4_insert 25 = .ok (.ifCond .lt 60, 3) := by decide +kernel
theorem dX4_insert_28 : decode cX4_insert 28 = .ok (.iload_n 3, 1) := by decide +kernel
theorem dX4_insert_29 : decode cX4_insert 29 = .ok (.aload_n 0, 1) := by decide +kernel
theorem dX4_insert_30 : decode cX4_insert 30 = .ok (.getfield 22, 3) := by decide +kernel
theorem dX4_insert_33 : decode cX4_insert 33 = .ok (.arraylength, 1) := by decide +kernel
theorem dX4_insert_34 : decode cX4_insert 34 = .ok (.if_icmp .ge 51, 3) := by decide +kernel
theorem dX4_insert_37 : decode cX4_insert 37 = .ok (.iload_n 3, 1) := by decide +kernel
theorem dX4_insert_38 : decode cX4_insert 38 = .ok (.aload_n 0, 1) := by decide +kernel
theorem dX4_insert_39 : decode cX4_insert 39 = .ok (.getfield 13, 3) := by decide +kernel
theorem dX4_insert_42 : decode cX4_insert 42 = .ok (.isub, 1) := by decide +kernel
theorem dX4_insert_43 : decode cX4_insert 43 = .ok (.istore 4, 2) := by decide +kernel
theorem dX4_insert_45 : decode cX4_insert 45 = .ok (.iload 4, 2) := by decide +kernel
theorem dX4_insert_47 : decode cX4_insert 47 = .ok (.iload_n 2, 1) := by decide +kernel
theorem dX4_insert_48 : decode cX4_insert 48 = .ok (.if_icmp .lt 31, 3) := by decide +kernel
theorem dX4_insert_51 : decode cX4_insert 51 = .ok (.iload 4, 2) := by decide +kernel
theorem dX4_insert_53 : decode cX4_insert 53 = .ok (.ifCond .lt 26, 3) := by decide +kernel
theorem dX4_insert_56 : decode cX4_insert 56 = .ok (.iload 4, 2) := by decide +kernel
theorem dX4_insert_58 : decode cX4_insert 58 = .ok (.aload_n 0, 1) := by decide +kernel
theorem dX4_insert_59 : decode cX4_insert 59 = .ok (.getfield 22, 3) := by decide +kernel
theorem dX4_insert_62 : decode cX4_insert 62 = .ok (.arraylength, 1) := by decide +kernel
theorem dX4_insert_63 : decode cX4_insert 63 = .ok (.if_icmp .ge 16, 3) := by decide +kernel
theorem dX4_insert_66 : decode cX4_insert 66 = .ok (.aload_n 0, 1) := by decide +kernel
theorem dX4_insert_67 : decode cX4_insert 67 = .ok (.getfield 22, 3) := by decide +kernel
theorem dX4_insert_70 : decode cX4_insert 70 = .ok (.iload_n 3, 1) := by decide +kernel
theorem dX4_insert_71 : decode cX4_insert 71 = .ok (.aload_n 0, 1) := by decide +kernel
theorem dX4_insert_72 : decode cX4_insert 72 = .ok (.getfield 22, 3) := by decide +kernel
theorem dX4_insert_75 : decode cX4_insert 75 = .ok (.iload 4, 2) := by decide +kernel
theorem dX4_insert_77 : decode cX4_insert 77 = .ok (.iaload, 1) := by decide +kernel
theorem dX4_insert_78 : decode cX4_insert 78 = .ok (.iastore, 1) := by decide +kernel
theorem dX4_insert_79 : decode cX4_insert 79 = .ok (.iinc 3 (-1), 3) := by decide +kernel
theorem dX4_insert_82 : decode cX4_insert 82 = .ok (.goto (-58), 3) := by decide +kernel
theorem dX4_insert_85 : decode cX4_insert 85 = .ok (.return_, 1) := by decide +kernel
theorem dX4_remove_0 : decode cX4_remove 0 = .ok (.iload_n 1, 1) := by decide +kernel
theorem dX4_remove_1 : decode cX4_remove 1 = .ok (.ifCond .lt 11, 3) := by decide +kernel
theorem dX4_remove_4 : decode cX4_remove 4 = .ok (.iload_n 1, 1) := by decide +kernel
theorem dX4_remove_5 : decode cX4_remove 5 = .ok (.aload_n 0, 1) := by decide +kernel
theorem dX4_remove_6 : decode cX4_remove 6 = .ok (.getfield 26, 3) := by decide +kernel
theorem dX4_remove_9 : decode cX4_remove 9 = .ok (.if_icmp .lt 4, 3) := by decide +kernel
theorem dX4_remove_12 : decode cX4_remove 12 = .ok (.return_, 1) := by decide +kernel
theorem dX4_remove_13 : decode cX4_remove 13 = .ok (.iload_n 1, 1) := by decide +kernel
theorem dX4_remove_14 : decode cX4_remove 14 = .ok (.aload_n 0, 1) := by decide +kernel
theorem dX4_remove_15 : decode cX4_remove 15 = .ok (.getfield 13, 3) := by decide +kernel
theorem dX4_remove_18 : decode cX4_remove 18 = .ok (.imul, 1) := by decide +kernel
theorem dX4_remove_19 : decode cX4_remove 19 = .ok (.istore_n 2, 1) := by decide +kernel
theorem dX4_remove_20 : decode cX4_remove 20 = .ok (.iload_n 2, 1) := by decide +kernel
theorem dX4_remove_21 : decode cX4_remove 21 = .ok (.ifCond .lt 50, 3) := by decide +kernel
theorem dX4_remove_24 : decode cX4_remove 24 = .ok (.iload_n 2, 1) := by decide +kernel
theorem dX4_remove_25 : decode cX4_remove 25 = .ok (.aload_n 0, 1) := by decide +kernel
theorem dX4_remove_26 : decode cX4_remove 26 = .ok (.getfield 22, 3) := by decide +kernel
theorem dX4_remove_29 : decode cX4_remove 29 = .ok (.arraylength, 1) := by decide +kernel
theorem dX4_remove_30 : decode cX4_remove 30 = .ok (.if_icmp .ge 41, 3) := by decide +kernel
theorem dX4_remove_33 : decode cX4_remove 33 = .ok (.iload_n 2, 1) := by decide +kernel
theorem dX4_remove_34 : decode cX4_remove 34 = .ok (.aload_n 0, 1) := by decide +kernel
theorem dX4_remove_35 : decode cX4_remove 35 = .ok (.getfield 13, 3) := by decide +kernel
theorem dX4_remove_38 : decode cX4_remove 38 = .ok (.iadd, 1) := by decide +kernel
theorem dX4_remove_39 : decode cX4_remove 39 = .ok (.istore_n 3, 1) := by decide +kernel
theorem dX4_remove_40 : decode cX4_remove 40 = .ok (.iload_n 3, 1) := by decide +kernel
theorem dX4_remove_41 : decode cX4_remove 41 = .ok (.ifCond .lt 24, 3) := by decide +kernel
theorem dX4_remove_44 : decode cX4_remove 44 = .ok (.iload_n 3, 1) := by decide +kernel
theorem dX4_remove_45 : decode cX4_remove 45 = .ok (.aload_n 0, 1) := by decide +kernel
theorem dX4_remove_46 : decode cX4_remove 46 = .ok (.getfield 22, 3) := by decide +kernel
theorem dX4_remove_49 : decode cX4_remove 49 = .ok (.arraylength, 1) := by decide +kernel
theorem dX4_remove_50 : decode cX4_remove 50 = .ok (.if_icmp .ge 15, 3) := by decide +kernel
theorem dX4_remove_53 : decode cX4_remove 53 = .ok (.aload_n 0, 1) := by decide +kernel
theorem dX4_remove_54 : decode cX4_remove 54 = .ok (.getfield 22, 3) := by decide +kernel
theorem dX4_remove_57 : decode cX4_remove 57 = .ok (.iload_n 2, 1) := by decide +kernel
theorem dX4_remove_58 : decode cX4_remove 58 = .ok (.aload_n 0, 1) := by decide +kernel
theorem dX4_remove_59 : decode cX4_remove 59 = .ok (.getfield 22, 3) := by decide +kernel
theorem dX4_remove_62 : decode cX4_remove 62 = .ok (.iload_n 3, 1) := by decide +kernel
theorem dX4_remove_63 : decode cX4_remove 63 = .ok (.iaload, 1) := by decide +kernel
theorem dX4_remove_64 : decode cX4_remove 64 = .ok (.iastore, 1) := by decide +kernel
theorem dX4_remove_65 : decode cX4_remove 65 = .ok (.iinc 2 1, 3) := by decide +kernel
theorem dX4_remove_68 : decode cX4_remove 68 = .ok (.goto (-48), 3) := by decide +kernel
theorem dX4_remove_71 : decode cX4_remove 71 = .ok (.aload_n 0, 1) := by decide +kernel
theorem dX4_remove_72 : decode cX4_remove 72 = .ok (.dup, 1) := by decide +kernel
theorem dX4_remove_73 : decode cX4_remove 73 = .ok (.getfield 26, 3) := by decide +kernel
theorem dX4_remove_76 : decode cX4_remove 76 = .ok (.iconst 1, 1) := by decide +kernel
theorem dX4_remove_77 : decode cX4_remove 77 = .ok (.isub, 1) := by decide +kernel
theorem dX4_remove_78 : decode cX4_remove 78 = .ok (.putfield 26, 3) := by decide +kernel
theorem dX4_remove_81 : decode cX4_remove 81 = .ok (.return_, 1) := by decide +kernel
set_option maxRecDepth 20000 in
theorem ggX4_copyFrom_X4_cell : GoodIn wsX4_copyFrom wsX4_cell := goodIn_r _ [12, 1, 7, 13, 18, 19, 20, 21] (by decide +kernel) (by decide +kernel)
set_option maxRecDepth 20000 in
theorem gX4_copyFrom_X4_cell : GoodIn wsX4_copyFrom (wsV RX4 36 RX4 yX4_cell wsX4_cell) := goodIn_app (goodIn_of _ (by decide +kernel)) ggX4_copyFrom_X4_cell
set_option maxRecDepth 20000 in
theorem ggX4_copyFrom_X4_setCell : GoodIn wsX4_copyFrom wsX4_setCell := goodIn_r _ [17, 1, 7, 13, 18, 19, 20, 21] (by decide +kernel) (by decide +kernel)
set_option maxRecDepth 20000 in
theorem gX4_copyFrom_X4_setCell : GoodIn wsX4_copyFrom (wsV RX4 39 RX4 yX4_setCell wsX4_setCell) := goodIn_app (goodIn_of _ (by decide +kernel)) ggX4_copyFrom_X4_setCell
theorem dX4_copyFrom_0 : decode cX4_copyFrom 0 = .ok (.aload_n 0, 1) := by decide +kernel
theorem dX4_copyFrom_1 : decode cX4_copyFrom 1 = .ok (.aload_n 1, 1) := by decide +kernel
theorem dX4_copyFrom_2 : decode cX4_copyFrom 2 = .ok (.getfield 26, 3) := by decide +kernel
theorem dX4_copyFrom_5 : decode cX4_copyFrom 5 = .ok (.aload_n 0, 1) := by decide +kernel
theorem dX4_copyFrom_6 : decode cX4_copyFrom 6 = .ok (.getfield 7, 3) := by decide +kernel
theorem dX4_copyFrom_9 : decode cX4_copyFrom 9 = .ok (.invokestatic 33, 3) := by decide +kernel
theorem dX4_copyFrom_12 : decode cX4_copyFrom 12 = .ok (.putfield 26, 3) := by decide +kernel
theorem dX4_copyFrom_15 : decode cX4_copyFrom 15 = .ok (.iconst 0, 1) := by decide +kernel
theorem dX4_copyFrom_16 : decode cX4_copyFrom 16 = .ok (.istore_n 2, 1) := by decide +kernel
theorem dX4_copyFrom_17 : decode cX4_copyFrom 17 = .ok (.iload_n 2, 1) := by decide +kernel
theorem dX4_copyFrom_18 : decode cX4_copyFrom 18 = .ok (.aload_n 0, 1) := by decide +kernel
theorem dX4_copyFrom_19 : decode cX4_copyFrom 19 = .ok (.getfield 26, 3) := by decide +kernel
theorem dX4_copyFrom_22 : decode cX4_copyFrom 22 = .ok (.if_icmp .ge 37, 3) := by decide +kernel
theorem dX4_copyFrom_25 : decode cX4_copyFrom 25 = .ok (.iconst 0, 1) := by decide +kernel
theorem dX4_copyFrom_26 : decode cX4_copyFrom 26 = .ok (.istore_n 3, 1) := by decide +kernel
theorem dX4_copyFrom_27 : decode cX4_copyFrom 27 = .ok (.iload_n 3, 1) := by decide +kernel
theorem dX4_copyFrom_28 : decode cX4_copyFrom 28 = .ok (.aload_n 0, 1) := by decide +kernel
theorem dX4_copyFrom_29 : decode cX4_copyFrom 29 = .ok (.getfield 13, 3) := by decide +kernel
theorem dX4_copyFrom_32 : decode cX4_copyFrom 32 = .ok (.if_icmp .ge 21, 3) := by decide +kernel
theorem dX4_copyFrom_35 : decode cX4_copyFrom 35 = .ok (.aload_n 0, 1) := by decide +kernel
theorem dX4_copyFrom_36 : decode cX4_copyFrom 36 = .ok (.iload_n 2, 1) := by decide +kernel
theorem dX4_copyFrom_37 : decode cX4_copyFrom 37 = .ok (.iload_n 3, 1) := by decide +kernel
theorem dX4_copyFrom_38 : decode cX4_copyFrom 38 = .ok (.aload_n 1, 1) := by decide +kernel
theorem dX4_copyFrom_39 : decode cX4_copyFrom 39 = .ok (.iload_n 2, 1) := by decide +kernel
theorem dX4_copyFrom_40 : decode cX4_copyFrom 40 = .ok (.iload_n 3, 1) := by decide +kernel
theorem dX4_copyFrom_41 : decode cX4_copyFrom 41 = .ok (.invokevirtual 36, 3) := by decide +kernel
theorem dX4_copyFrom_44 : decode cX4_copyFrom 44 = .ok (.invokevirtual 39, 3) := by decide +kernel
theorem dX4_copyFrom_47 : decode cX4_copyFrom 47 = .ok (.iinc 3 1, 3) := by decide +kernel
theorem dX4_copyFrom_50 : decode cX4_copyFrom 50 = .ok (.goto (-23), 3) := by decide +kernel
theorem dX4_copyFrom_53 : decode cX4_copyFrom 53 = .ok (.iinc 2 1, 3) := by decide +kernel
theorem dX4_copyFrom_56 : decode cX4_copyFrom 56 = .ok (.goto (-39), 3) := by decide +kernel
theorem dX4_copyFrom_59 : decode cX4_copyFrom 59 = .ok (.return_, 1) := by decide +kernel
set_option maxRecDepth 20000 in
theorem ggX5_init_X4_init : GoodIn wsX5_init wsX4_init := goodIn_r _ [11, 12, 2, 3, 13, 14, 15, 16, 17, 18, 19, 20, 21, 22, 23, 24] (by decide +kernel) (by decide +kernel)
set_option maxRecDepth 20000 in
theorem gX5_init_X4_init : GoodIn wsX5_init (wsX4_init) := ggX5_init_X4_init
theorem dX5_init_0 : decode cX5_init 0 = .ok (.aload_n 0, 1) := by decide +kernel
theorem dX5_init_1 : decode cX5_init 1 = .ok (.invokespecial 3, 3) := by decide +kernel
theorem dX5_init_4 : decode cX5_init 4 = .ok (.aload_n 0, 1) := by decide +kernel
theorem dX5_init_5 : decode cX5_init 5 = .ok (.new 9, 3) := by decide +kernel
theorem dX5_init_8 : decode cX5_init 8 = .ok (.dup, 1) := by decide +kernel
theorem dX5_init_9 : decode cX5_init 9 = .ok (.bipush 120, 2) := by decide +kernel
theorem dX5_init_11 : decode cX5_init 11 = .ok (.iconst 1, 1) := by decide +kernel
theorem dX5_init_12 : decode cX5_init 12 = .ok (.invokespecial 11, 3) := by decide +kernel
theorem dX5_init_15 : decode cX5_init 15 = .ok (.putfield 14, 3) := by decide +kernel
theorem dX5_init_18 : decode cX5_init 18 = .ok (.aload_n 0, 1) := by decide +kernel
theorem dX5_init_19 : decode cX5_init 19 = .ok (.new 9, 3) := by decide +kernel
theorem dX5_init_22 : decode cX5_init 22 = .ok (.dup, 1) := by decide +kernel
theorem dX5_init_23 : decode cX5_init 23 = .ok (.bipush 31, 2) := by decide +kernel
theorem dX5_init_25 : decode cX5_init 25 = .ok (.iconst 5, 1) := by decide +kernel
theorem dX5_init_26 : decode cX5_init 26 = .ok (.invokespecial 11, 3) := by decide +kernel
theorem dX5_init_29 : decode cX5_init 29 = .ok (.putfield 20, 3) := by decide +kernel
theorem dX5_init_32 : decode cX5_init 32 = .ok (.return_, 1) := by decide +kernel
set_option maxRecDepth 20000 in
theorem ggX6_init_X2_init : GoodIn wsX6_init wsX2_init := goodIn_r _ [14, 15, 2, 3, 16, 17, 18, 19, 20, 21, 22, 23, 24, 25, 26, 9, 10, 27, 28, 29, 30, 31, 32, 33, 34, 35, 36, 37, 38, 39, 40, 41, 42, 43, 44, 45, 46, 47, 48, 49, 50, 51, 52, 53, 54, 55, 56, 57, 58, 59, 60, 61, 62, 63, 64, 65, 66, 67, 68, 69, 74, 75, 76, 77, 78, 79, 80, 81, 82, 83, 84, 85, 86, 87, 88, 89, 72, 73, 90, 91, 92, 93] (by decide +kernel) (by decide +kernel)
set_option maxRecDepth 20000 in
theorem gX6_init_X2_init : GoodIn wsX6_init (wsX2_init) := ggX6_init_X2_init
set_option maxRecDepth 20000 in
theorem ggX6_init_X0_init : GoodIn wsX6_init wsX0_init := goodIn_r _ [54, 55, 2, 3, 56, 37, 38, 57, 58, 43, 44, 45, 46, 47, 48, 49, 50, 51, 31, 52, 90, 91, 92, 93, 72, 73] (by decide +kernel) (by decide +kernel)
set_option maxRecDepth 20000 in
theorem gX6_init_X0_init_n20 : GoodIn wsX6_init (wsX0_init) := ggX6_init_X0_init
theorem dX6_init_0 : decode cX6_init 0 = .ok (.aload_n 0, 1) := by decide +kernel
theorem dX6_init_1 : decode cX6_init 1 = .ok (.invokespecial 3, 3) := by decide +kernel
theorem dX6_init_4 : decode cX6_init 4 = .ok (.aload_n 0, 1) := by decide +kernel
theorem dX6_init_5 : decode cX6_init 5 = .ok (.new 9, 3) := by decide +kernel
theorem dX6_init_8 : decode cX6_init 8 = .ok (.dup, 1) := by decide +kernel
theorem dX6_init_9 : decode cX6_init 9 = .ok (.invokespecial 11, 3) := by decide +kernel
theorem dX6_init_12 : decode cX6_init 12 = .ok (.putfield 12, 3) := by decide +kernel
theorem dX6_init_15 : decode cX6_init 15 = .ok (.aload_n 0, 1) := by decide +kernel
theorem dX6_init_16 : decode cX6_init 16 = .ok (.new 18, 3) := by decide +kernel
theorem dX6_init_19 : decode cX6_init 19 = .ok (.dup, 1) := by decide +kernel
theorem dX6_init_20 : decode cX6_init 20 = .ok (.invokespecial 20, 3) := by decide +kernel
theorem dX6_init_23 : decode cX6_init 23 = .ok (.putfield 21, 3) := by decide +kernel
theorem dX6_init_26 : decode cX6_init 26 = .ok (.return_, 1) := by decide +kernel
set_option maxRecDepth 20000 in
theorem ggX6_nextOf_X2_toolAt : GoodIn wsX6_nextOf wsX2_toolAt := goodIn_r _ [7, 8, 9, 49, 50, 51, 52, 53, 54, 55, 56, 57, 58, 59] (by decide +kernel) (by decide +kernel)
set_option maxRecDepth 20000 in
theorem gX6_nextOf_X2_toolAt : GoodIn wsX6_nextOf (wsV RX6 25 RX2 yX2_toolAt wsX2_toolAt) := goodIn_app (goodIn_of _ (by decide +kernel)) ggX6_nextOf_X2_toolAt
set_option maxRecDepth 20000 in
theorem ggX6_nextOf_X2_claimServed : GoodIn wsX6_nextOf wsX2_claimServed := goodIn_r _ [13, 14, 15, 16, 17, 18, 19, 20, 21, 22, 23, 24, 25, 26, 27, 28, 29, 30, 31, 32, 6, 33, 34, 35, 39, 40, 41, 42, 43, 44, 45, 46, 47, 48, 60, 61, 62, 63, 64, 65, 66, 67, 68, 69, 49, 50, 51, 52, 53, 54, 55, 56, 57, 58, 59] (by decide +kernel) (by decide +kernel)
set_option maxRecDepth 20000 in
theorem gX6_nextOf_X2_claimServed : GoodIn wsX6_nextOf (wsV RX6 29 RX2 yX2_claimServed wsX2_claimServed) := goodIn_app (goodIn_of _ (by decide +kernel)) ggX6_nextOf_X2_claimServed
set_option maxRecDepth 20000 in
theorem ggX6_nextOf_X4_cell : GoodIn wsX6_nextOf wsX4_cell := goodIn_r _ [27, 23, 28, 29, 66, 67, 68, 69] (by decide +kernel) (by decide +kernel)
set_option maxRecDepth 20000 in
theorem gX6_nextOf_X4_cell : GoodIn wsX6_nextOf (wsV RX6 39 RX4 yX4_cell wsX4_cell) := goodIn_app (goodIn_of _ (by decide +kernel)) ggX6_nextOf_X4_cell
theorem dX6_nextOf_0 : decode cX6_nextOf 0 = .ok (.aload_n 0, 1) := by decide +kernel
theorem dX6_nextOf_1 : decode cX6_nextOf 1 = .ok (.getfield 12, 3) := by decide +kernel
theorem dX6_nextOf_4 : decode cX6_nextOf 4 = .ok (.iload_n 1, 1) := by decide +kernel
theorem dX6_nextOf_5 : decode cX6_nextOf 5 = .ok (.invokevirtual 25, 3) := by decide +kernel
theorem dX6_nextOf_8 : decode cX6_nextOf 8 = .ok (.astore_n 2, 1) := by decide +kernel
theorem dX6_nextOf_9 : decode cX6_nextOf 9 = .ok (.aload_n 0, 1) := by decide +kernel
theorem dX6_nextOf_10 : decode cX6_nextOf 10 = .ok (.getfield 12, 3) := by decide +kernel
theorem dX6_nextOf_13 : decode cX6_nextOf 13 = .ok (.aload_n 2, 1) := by decide +kernel
theorem dX6_nextOf_14 : decode cX6_nextOf 14 = .ok (.invokevirtual 29, 3) := by decide +kernel
theorem dX6_nextOf_17 : decode cX6_nextOf 17 = .ok (.istore_n 3, 1) := by decide +kernel
theorem dX6_nextOf_18 : decode cX6_nextOf 18 = .ok (.iload_n 3, 1) := by decide +kernel
theorem dX6_nextOf_19 : decode cX6_nextOf 19 = .ok (.ifCond .ge 8, 3) := by decide +kernel
theorem dX6_nextOf_22 : decode cX6_nextOf 22 = .ok (.bipush (-2), 2) := by decide +kernel
theorem dX6_nextOf_24 : decode cX6_nextOf 24 = .ok (.goto 12, 3) := by decide +kernel
theorem dX6_nextOf_27 : decode cX6_nextOf 27 = .ok (.aload_n 2, 1) := by decide +kernel
theorem dX6_nextOf_28 : decode cX6_nextOf 28 = .ok (.getfield 33, 3) := by decide +kernel
theorem dX6_nextOf_31 : decode cX6_nextOf 31 = .ok (.iload_n 3, 1) := by decide +kernel
theorem dX6_nextOf_32 : decode cX6_nextOf 32 = .ok (.iconst 0, 1) := by decide +kernel
theorem dX6_nextOf_33 : decode cX6_nextOf 33 = .ok (.invokevirtual 39, 3) := by decide +kernel
theorem dX6_nextOf_36 : decode cX6_nextOf 36 = .ok (.ireturn, 1) := by decide +kernel
set_option maxRecDepth 20000 in
theorem ggX6_suspectsOf_X2_toolAt : GoodIn wsX6_suspectsOf wsX2_toolAt := goodIn_r _ [7, 8, 9, 63, 64, 65, 66, 67, 68, 69, 70, 71, 72, 73] (by decide +kernel) (by decide +kernel)
set_option maxRecDepth 20000 in
theorem gX6_suspectsOf_X2_toolAt : GoodIn wsX6_suspectsOf (wsV RX6 25 RX2 yX2_toolAt wsX2_toolAt) := goodIn_app (goodIn_of _ (by decide +kernel)) ggX6_suspectsOf_X2_toolAt
set_option maxRecDepth 20000 in
theorem ggX6_suspectsOf_X0_findFor : GoodIn wsX6_suspectsOf wsX0_findFor := goodIn_r _ [14, 15, 16, 17, 18, 19, 20, 21, 22, 23, 24, 25, 26, 27, 28, 29, 30, 31, 32, 33, 34, 35, 36, 37, 38, 39, 40, 41, 42, 13, 43, 44, 45, 46, 47, 48, 49, 50, 51, 52, 53, 54, 55, 56, 74, 75, 76, 77, 78, 79, 80, 81, 82, 83, 84, 85, 86, 87, 88, 89] (by decide +kernel) (by decide +kernel)
set_option maxRecDepth 20000 in
theorem gX6_suspectsOf_X0_findFor : GoodIn wsX6_suspectsOf (wsV RX6 45 RX0 yX0_findFor wsX0_findFor) := goodIn_app (goodIn_of _ (by decide +kernel)) ggX6_suspectsOf_X0_findFor
set_option maxRecDepth 20000 in
theorem ggX6_suspectsOf_X0_bits : GoodIn wsX6_suspectsOf wsX0_bits := goodIn_r _ [60, 16, 74, 75] (by decide +kernel) (by decide +kernel)
set_option maxRecDepth 20000 in
theorem gX6_suspectsOf_X0_bits : GoodIn wsX6_suspectsOf (wsV RX6 49 RX0 yX0_bits wsX0_bits) := goodIn_app (goodIn_of _ (by decide +kernel)) ggX6_suspectsOf_X0_bits
theorem dX6_suspectsOf_0 : decode cX6_suspectsOf 0 = .ok (.aload_n 0, 1) := by decide +kernel
theorem dX6_suspectsOf_1 : decode cX6_suspectsOf 1 = .ok (.getfield 21, 3) := by decide +kernel
theorem dX6_suspectsOf_4 : decode cX6_suspectsOf 4 = .ok (.aload_n 0, 1) := by decide +kernel
theorem dX6_suspectsOf_5 : decode cX6_suspectsOf 5 = .ok (.getfield 12, 3) := by decide +kernel
theorem dX6_suspectsOf_8 : decode cX6_suspectsOf 8 = .ok (.iload_n 1, 1) := by decide +kernel
theorem dX6_suspectsOf_9 : decode cX6_suspectsOf 9 = .ok (.invokevirtual 25, 3) := by decide +kernel
theorem dX6_suspectsOf_12 : decode cX6_suspectsOf 12 = .ok (.invokevirtual 45, 3) := by decide +kernel
theorem dX6_suspectsOf_15 : decode cX6_suspectsOf 15 = .ok (.aload_n 0, 1) := by decide +kernel
theorem dX6_suspectsOf_16 : decode cX6_suspectsOf 16 = .ok (.getfield 21, 3) := by decide +kernel
theorem dX6_suspectsOf_19 : decode cX6_suspectsOf 19 = .ok (.invokevirtual 49, 3) := by decide +kernel
theorem dX6_suspectsOf_22 : decode cX6_suspectsOf 22 = .ok (.ireturn, 1) := by decide +kernel
set_option maxRecDepth 20000 in
theorem ggX6_canBeSwapped_X2_haveTwoHolders : GoodIn wsX6_canBeSwapped wsX2_haveTwoHolders := goodIn_r _ [6, 7, 8, 9, 10, 5, 11, 12, 13, 14, 15, 16, 17, 18, 19, 20, 21, 22, 23, 24, 59, 60, 61, 62, 63, 64, 65, 66, 67, 68, 69, 70, 71, 72, 73, 74, 75, 76, 77, 78, 79] (by decide +kernel) (by decide +kernel)
set_option maxRecDepth 20000 in
theorem gX6_canBeSwapped_X2_haveTwoHolders : GoodIn wsX6_canBeSwapped (wsV RX6 59 RX2 yX2_haveTwoHolders wsX2_haveTwoHolders) := goodIn_app (goodIn_of _ (by decide +kernel)) ggX6_canBeSwapped_X2_haveTwoHolders
set_option maxRecDepth 20000 in
theorem ggX6_canBeSwapped_X2_gainOf : GoodIn wsX6_canBeSwapped wsX2_gainOf := goodIn_r _ [28, 29, 30, 31, 5, 32, 7, 13, 14, 15, 16, 17, 18, 33, 34, 35, 36, 37, 38, 39, 40, 41, 42, 43, 44, 59, 60, 61, 62, 63, 64, 65, 66, 67, 68, 69, 70, 71, 72, 73, 74, 75, 76, 77, 78, 79, 80, 81, 82, 83, 84, 85] (by decide +kernel) (by decide +kernel)
set_option maxRecDepth 20000 in
theorem gX6_canBeSwapped_X2_gainOf : GoodIn wsX6_canBeSwapped (wsV RX6 63 RX2 yX2_gainOf wsX2_gainOf) := goodIn_app (goodIn_of _ (by decide +kernel)) ggX6_canBeSwapped_X2_gainOf
set_option maxRecDepth 20000 in
theorem ggX6_canBeSwapped_X2_whyNotBothPassed : GoodIn wsX6_canBeSwapped wsX2_whyNotBothPassed := goodIn_r _ [48, 7, 49, 50, 13, 14, 15, 5, 16, 17, 18, 33, 34, 35, 36, 37, 38, 51, 52, 53, 54, 55, 56, 59, 60, 61, 62, 63, 64, 65, 66, 67, 68, 80, 81, 82, 83, 84, 85, 69, 70, 71, 72, 73, 74, 75, 76, 77, 78, 79] (by decide +kernel) (by decide +kernel)
set_option maxRecDepth 20000 in
theorem gX6_canBeSwapped_X2_whyNotBothPassed : GoodIn wsX6_canBeSwapped (wsV RX6 66 RX2 yX2_whyNotBothPassed wsX2_whyNotBothPassed) := goodIn_app (goodIn_of _ (by decide +kernel)) ggX6_canBeSwapped_X2_whyNotBothPassed
theorem dX6_canBeSwapped_0 : decode cX6_canBeSwapped 0 = .ok (.aload_n 0, 1) := by decide +kernel
theorem dX6_canBeSwapped_1 : decode cX6_canBeSwapped 1 = .ok (.getfield 12, 3) := by decide +kernel
theorem dX6_canBeSwapped_4 : decode cX6_canBeSwapped 4 = .ok (.iload_n 1, 1) := by decide +kernel
theorem dX6_canBeSwapped_5 : decode cX6_canBeSwapped 5 = .ok (.iload_n 2, 1) := by decide +kernel
theorem dX6_canBeSwapped_6 : decode cX6_canBeSwapped 6 = .ok (.invokevirtual 59, 3) := by decide +kernel
theorem dX6_canBeSwapped_9 : decode cX6_canBeSwapped 9 = .ok (.ifCond .eq 31, 3) := by decide +kernel
theorem dX6_canBeSwapped_12 : decode cX6_canBeSwapped 12 = .ok (.aload_n 0, 1) := by decide +kernel
theorem dX6_canBeSwapped_13 : decode cX6_canBeSwapped 13 = .ok (.getfield 12, 3) := by decide +kernel
theorem dX6_canBeSwapped_16 : decode cX6_canBeSwapped 16 = .ok (.iload_n 1, 1) := by decide +kernel
theorem dX6_canBeSwapped_17 : decode cX6_canBeSwapped 17 = .ok (.iload_n 2, 1) := by decide +kernel
theorem dX6_canBeSwapped_18 : decode cX6_canBeSwapped 18 = .ok (.invokevirtual 63, 3) := by decide +kernel
theorem dX6_canBeSwapped_21 : decode cX6_canBeSwapped 21 = .ok (.ifCond .le 19, 3) := by decide +kernel
theorem dX6_canBeSwapped_24 : decode cX6_canBeSwapped 24 = .ok (.aload_n 0, 1) := by decide +kernel
theorem dX6_canBeSwapped_25 : decode cX6_canBeSwapped 25 = .ok (.getfield 12, 3) := by decide +kernel
theorem dX6_canBeSwapped_28 : decode cX6_canBeSwapped 28 = .ok (.iload_n 1, 1) := by decide +kernel
theorem dX6_canBeSwapped_29 : decode cX6_canBeSwapped 29 = .ok (.iload_n 2, 1) := by decide +kernel
theorem dX6_canBeSwapped_30 : decode cX6_canBeSwapped 30 = .ok (.invokevirtual 66, 3) := by decide +kernel
theorem dX6_canBeSwapped_33 : decode cX6_canBeSwapped 33 = .ok (.ifCond .ne 7, 3) := by decide +kernel
theorem dX6_canBeSwapped_36 : decode cX6_canBeSwapped 36 = .ok (.iconst 1, 1) := by decide +kernel
theorem dX6_canBeSwapped_37 : decode cX6_canBeSwapped 37 = .ok (.goto 4, 3) := by decide +kernel
theorem dX6_canBeSwapped_40 : decode cX6_canBeSwapped 40 = .ok (.iconst 0, 1) := by decide +kernel
theorem dX6_canBeSwapped_41 : decode cX6_canBeSwapped 41 = .ok (.ireturn, 1) := by decide +kernel
set_option maxRecDepth 20000 in
theorem ggX6_swapsNow_X6_canBeSwapped : GoodIn wsX6_swapsNow wsX6_canBeSwapped := goodIn_r _ [7, 1, 8, 9, 10, 11, 12, 13, 14, 15, 16, 17, 18, 19, 20, 21, 22, 23, 24, 25, 26, 27, 28, 29, 30, 31, 32, 33, 34, 35, 36, 37, 38, 39, 40, 41, 42, 43, 44, 45, 46, 47, 48, 49, 50, 51, 52, 53, 54, 55, 56, 57, 58, 59, 60, 61, 62, 63, 64, 76, 77, 78, 79, 80, 81, 82, 83, 84, 85, 65, 66, 67, 68, 69, 70, 71, 72, 73, 74, 75, 86, 87, 88, 89, 90, 91] (by decide +kernel) (by decide +kernel)
set_option maxRecDepth 20000 in
theorem gX6_swapsNow_X6_canBeSwapped : GoodIn wsX6_swapsNow (wsV RX6 73 RX6 yX6_canBeSwapped wsX6_canBeSwapped) := goodIn_app (goodIn_of _ (by decide +kernel)) ggX6_swapsNow_X6_canBeSwapped
theorem dX6_swapsNow_0 : decode cX6_swapsNow 0 = .ok (.iconst 0, 1) := by decide +kernel
theorem dX6_swapsNow_1 : decode cX6_swapsNow 1 = .ok (.istore_n 1, 1) := by decide +kernel
theorem dX6_swapsNow_2 : decode cX6_swapsNow 2 = .ok (.iconst 0, 1) := by decide +kernel
theorem dX6_swapsNow_3 : decode cX6_swapsNow 3 = .ok (.istore_n 2, 1) := by decide +kernel
theorem dX6_swapsNow_4 : decode cX6_swapsNow 4 = .ok (.iload_n 2, 1) := by decide +kernel
theorem dX6_swapsNow_5 : decode cX6_swapsNow 5 = .ok (.aload_n 0, 1) := by decide +kernel
theorem dX6_swapsNow_6 : decode cX6_swapsNow 6 = .ok (.getfield 12, 3) := by decide +kernel
theorem dX6_swapsNow_9 : decode cX6_swapsNow 9 = .ok (.getfield 69, 3) := by decide +kernel
theorem dX6_swapsNow_12 : decode cX6_swapsNow 12 = .ok (.if_icmp .ge 42, 3) := by decide +kernel
theorem dX6_swapsNow_15 : decode cX6_swapsNow 15 = .ok (.iload_n 2, 1) := by decide +kernel
theorem dX6_swapsNow_16 : decode cX6_swapsNow 16 = .ok (.iconst 1, 1) := by decide +kernel
theorem dX6_swapsNow_17 : decode cX6_swapsNow 17 = .ok (.iadd, 1) := by decide +kernel
theorem dX6_swapsNow_18 : decode cX6_swapsNow 18 = .ok (.istore_n 3, 1) := by decide +kernel
theorem dX6_swapsNow_19 : decode cX6_swapsNow 19 = .ok (.iload_n 3, 1) := by decide +kernel
theorem dX6_swapsNow_20 : decode cX6_swapsNow 20 = .ok (.aload_n 0, 1) := by decide +kernel
theorem dX6_swapsNow_21 : decode cX6_swapsNow 21 = .ok (.getfield 12, 3) := by decide +kernel
theorem dX6_swapsNow_24 : decode cX6_swapsNow 24 = .ok (.getfield 69, 3) := by decide +kernel
theorem dX6_swapsNow_27 : decode cX6_swapsNow 27 = .ok (.if_icmp .ge 21, 3) := by decide +kernel
theorem dX6_swapsNow_30 : decode cX6_swapsNow 30 = .ok (.aload_n 0, 1) := by decide +kernel
theorem dX6_swapsNow_31 : decode cX6_swapsNow 31 = .ok (.iload_n 2, 1) := by decide +kernel
theorem dX6_swapsNow_32 : decode cX6_swapsNow 32 = .ok (.iload_n 3, 1) := by decide +kernel
theorem dX6_swapsNow_33 : decode cX6_swapsNow 33 = .ok (.invokevirtual 73, 3) := by decide +kernel
theorem dX6_swapsNow_36 : decode cX6_swapsNow 36 = .ok (.ifCond .eq 6, 3) := by decide +kernel
theorem dX6_swapsNow_39 : decode cX6_swapsNow 39 = .ok (.iinc 1 1, 3) := by decide +kernel
theorem dX6_swapsNow_42 : decode cX6_swapsNow 42 = .ok (.iinc 3 1, 3) := by decide +kernel
theorem dX6_swapsNow_45 : decode cX6_swapsNow 45 = .ok (.goto (-26), 3) := by decide +kernel
theorem dX6_swapsNow_48 : decode cX6_swapsNow 48 = .ok (.iinc 2 1, 3) := by decide +kernel
theorem dX6_swapsNow_51 : decode cX6_swapsNow 51 = .ok (.goto (-47), 3) := by decide +kernel
theorem dX6_swapsNow_54 : decode cX6_swapsNow 54 = .ok (.iload_n 1, 1) := by decide +kernel
theorem dX6_swapsNow_55 : decode cX6_swapsNow 55 = .ok (.ireturn, 1) := by decide +kernel
set_option maxRecDepth 20000 in
theorem ggX6_bestSwap_X2_gainOf : GoodIn wsX6_bestSwap wsX2_gainOf := goodIn_r _ [7, 8, 9, 10, 6, 11, 12, 13, 14, 15, 16, 17, 18, 19, 20, 21, 22, 23, 24, 25, 26, 27, 28, 29, 30, 76, 77, 78, 79, 80, 81, 82, 83, 84, 85, 65, 66, 67, 68, 69, 70, 71, 72, 73, 74, 75, 86, 87, 88, 89, 90, 91] (by decide +kernel) (by decide +kernel)
set_option maxRecDepth 20000 in
theorem gX6_bestSwap_X2_gainOf : GoodIn wsX6_bestSwap (wsV RX6 63 RX2 yX2_gainOf wsX2_gainOf) := goodIn_app (goodIn_of _ (by decide +kernel)) ggX6_bestSwap_X2_gainOf
set_option maxRecDepth 20000 in
theorem ggX6_bestSwap_X6_canBeSwapped : GoodIn wsX6_bestSwap wsX6_canBeSwapped := goodIn_r _ [35, 1, 36, 37, 38, 6, 39, 12, 40, 41, 42, 43, 44, 13, 14, 15, 16, 17, 18, 45, 46, 47, 48, 49, 50, 3, 4, 5, 7, 8, 9, 10, 11, 19, 20, 21, 22, 23, 24, 25, 26, 27, 28, 29, 30, 51, 52, 53, 54, 55, 56, 57, 58, 59, 60, 61, 62, 63, 64, 76, 77, 78, 79, 80, 81, 82, 83, 84, 85, 65, 66, 67, 68, 69, 70, 71, 72, 73, 74, 75, 86, 87, 88, 89, 90, 91] (by decide +kernel) (by decide +kernel)
set_option maxRecDepth 20000 in
theorem gX6_bestSwap_X6_canBeSwapped : GoodIn wsX6_bestSwap (wsV RX6 73 RX6 yX6_canBeSwapped wsX6_canBeSwapped) := goodIn_app (goodIn_of _ (by decide +kernel)) ggX6_bestSwap_X6_canBeSwapped
theorem dX6_bestSwap_0 : decode cX6_bestSwap 0 = .ok (.bipush (-2), 2) := by decide +kernel
theorem dX6_bestSwap_2 : decode cX6_bestSwap 2 = .ok (.istore_n 1, 1) := by decide +kernel
theorem dX6_bestSwap_3 : decode cX6_bestSwap 3 = .ok (.iconst 0, 1) := by decide +kernel
theorem dX6_bestSwap_4 : decode cX6_bestSwap 4 = .ok (.istore_n 2, 1) := by decide +kernel
theorem dX6_bestSwap_5 : decode cX6_bestSwap 5 = .ok (.iconst 0, 1) := by decide +kernel
theorem dX6_bestSwap_6 : decode cX6_bestSwap 6 = .ok (.istore_n 3, 1) := by decide +kernel
theorem dX6_bestSwap_7 : decode cX6_bestSwap 7 = .ok (.iload_n 3, 1) := by decide +kernel
theorem dX6_bestSwap_8 : decode cX6_bestSwap 8 = .ok (.aload_n 0, 1) := by decide +kernel
theorem dX6_bestSwap_9 : decode cX6_bestSwap 9 = .ok (.getfield 12, 3) := by decide +kernel
theorem dX6_bestSwap_12 : decode cX6_bestSwap 12 = .ok (.getfield 69, 3) := by decide +kernel
theorem dX6_bestSwap_15 : decode cX6_bestSwap 15 = .ok (.if_icmp .ge 75, 3) := by decide +kernel
theorem dX6_bestSwap_18 : decode cX6_bestSwap 18 = .ok (.iload_n 3, 1) := by decide +kernel
theorem dX6_bestSwap_19 : decode cX6_bestSwap 19 = .ok (.iconst 1, 1) := by decide +kernel
theorem dX6_bestSwap_20 : decode cX6_bestSwap 20 = .ok (.iadd, 1) := by decide +kernel
theorem dX6_bestSwap_21 : decode cX6_bestSwap 21 = .ok (.istore 4, 2) := by decide +kernel
theorem dX6_bestSwap_23 : decode cX6_bestSwap 23 = .ok (.iload 4, 2) := by decide +kernel
theorem dX6_bestSwap_25 : decode cX6_bestSwap 25 = .ok (.aload_n 0, 1) := by decide +kernel
theorem dX6_bestSwap_26 : decode cX6_bestSwap 26 = .ok (.getfield 12, 3) := by decide +kernel
theorem dX6_bestSwap_29 : decode cX6_bestSwap 29 = .ok (.getfield 69, 3) := by decide +kernel
theorem dX6_bestSwap_32 : decode cX6_bestSwap 32 = .ok (.if_icmp .ge 52, 3) := by decide +kernel
theorem dX6_bestSwap_35 : decode cX6_bestSwap 35 = .ok (.aload_n 0, 1) := by decide +kernel
theorem dX6_bestSwap_36 : decode cX6_bestSwap 36 = .ok (.getfield 12, 3) := by decide +kernel
theorem dX6_bestSwap_39 : decode cX6_bestSwap 39 = .ok (.iload_n 3, 1) := by decide +kernel
theorem dX6_bestSwap_40 : decode cX6_bestSwap 40 = .ok (.iload 4, 2) := by decide +kernel
theorem dX6_bestSwap_42 : decode cX6_bestSwap 42 = .ok (.invokevirtual 63, 3) := by decide +kernel
theorem dX6_bestSwap_45 : decode cX6_bestSwap 45 = .ok (.iload_n 2, 1) := by decide +kernel
theorem dX6_bestSwap_46 : decode cX6_bestSwap 46 = .ok (.if_icmp .le 32, 3) := by decide +kernel
theorem dX6_bestSwap_49 : decode cX6_bestSwap 49 = .ok (.aload_n 0, 1) := by decide +kernel
theorem dX6_bestSwap_50 : decode cX6_bestSwap 50 = .ok (.iload_n 3, 1) := by decide +kernel
theorem dX6_bestSwap_51 : decode cX6_bestSwap 51 = .ok (.iload 4, 2) := by decide +kernel
theorem dX6_bestSwap_53 : decode cX6_bestSwap 53 = .ok (.invokevirtual 73, 3) := by decide +kernel
theorem dX6_bestSwap_56 : decode cX6_bestSwap 56 = .ok (.ifCond .eq 22, 3) := by decide +kernel
theorem dX6_bestSwap_59 : decode cX6_bestSwap 59 = .ok (.aload_n 0, 1) := by decide +kernel
theorem dX6_bestSwap_60 : decode cX6_bestSwap 60 = .ok (.getfield 12, 3) := by decide +kernel
theorem dX6_bestSwap_63 : decode cX6_bestSwap 63 = .ok (.iload_n 3, 1) := by decide +kernel
theorem dX6_bestSwap_64 : decode cX6_bestSwap 64 = .ok (.iload 4, 2) := by decide +kernel
theorem dX6_bestSwap_66 : decode cX6_bestSwap 66 = .ok (.invokevirtual 63, 3) := by decide +kernel
theorem dX6_bestSwap_69 : decode cX6_bestSwap 69 = .ok (.istore_n 2, 1) := by decide +kernel
theorem dX6_bestSwap_70 : decode cX6_bestSwap 70 = .ok (.bipush 10, 2) := by decide +kernel
theorem dX6_bestSwap_72 : decode cX6_bestSwap 72 = .ok (.iload_n 3, 1) := by decide +kernel
theorem dX6_bestSwap_73 : decode cX6_bestSwap 73 = .ok (.imul, 1) := by decide +kernel
theorem dX6_bestSwap_74 : decode cX6_bestSwap 74 = .ok (.iload 4, 2) := by decide +kernel
theorem dX6_bestSwap_76 : decode cX6_bestSwap 76 = .ok (.iadd, 1) := by decide +kernel
theorem dX6_bestSwap_77 : decode cX6_bestSwap 77 = .ok (.istore_n 1, 1) := by decide +kernel
theorem dX6_bestSwap_78 : decode cX6_bestSwap 78 = .ok (.iinc 4 1, 3) := by decide +kernel
theorem dX6_bestSwap_81 : decode cX6_bestSwap 81 = .ok (.goto (-58), 3) := by decide +kernel
theorem dX6_bestSwap_84 : decode cX6_bestSwap 84 = .ok (.iinc 3 1, 3) := by decide +kernel
theorem dX6_bestSwap_87 : decode cX6_bestSwap 87 = .ok (.goto (-80), 3) := by decide +kernel
theorem dX6_bestSwap_90 : decode cX6_bestSwap 90 = .ok (.iload_n 1, 1) := by decide +kernel
theorem dX6_bestSwap_91 : decode cX6_bestSwap 91 = .ok (.ireturn, 1) := by decide +kernel
set_option maxRecDepth 20000 in
theorem ggX6_ringsNow_X6_wishesMore : GoodIn wsX6_ringsNow wsX6_wishesMore := goodIn_r _ [7, 1, 8, 9, 10, 11, 12, 13, 14, 15, 16, 17, 18, 19, 20, 21, 22, 23, 24, 25, 26, 27, 28, 29, 30, 31, 32, 33, 34, 35, 36, 37, 38, 39, 40, 41, 42, 43, 44, 45, 46, 51, 52, 64, 65, 66, 67, 68, 69, 70, 71, 72, 73, 53, 54, 55, 56, 57, 58, 59, 60, 61, 62, 63, 74, 75, 76, 77, 78, 79] (by decide +kernel) (by decide +kernel)
set_option maxRecDepth 20000 in
theorem gX6_ringsNow_X6_wishesMore : GoodIn wsX6_ringsNow (wsV RX6 76 RX6 yX6_wishesMore wsX6_wishesMore) := goodIn_app (goodIn_of _ (by decide +kernel)) ggX6_ringsNow_X6_wishesMore
set_option maxRecDepth 20000 in
theorem ggX6_ringsNow_X6_ringsOver : GoodIn wsX6_ringsNow wsX6_ringsOver := goodIn_r _ [50, 1, 2, 3, 4, 5, 6, 7, 8, 9, 10, 11, 12, 13, 14, 15, 16, 17, 18, 19, 20, 21, 22, 23, 24, 25, 26, 27, 28, 29, 30, 31, 32, 33, 34, 35, 36, 37, 38, 39, 40, 41, 42, 43, 44, 45, 46, 51, 52, 53, 54, 55, 56, 57, 58, 59, 60, 61, 62, 63, 64, 65, 66, 67, 68, 69, 70, 71, 72, 73, 74, 75, 76, 77, 78, 79] (by decide +kernel) (by decide +kernel)
set_option maxRecDepth 20000 in
theorem gX6_ringsNow_X6_ringsOver : GoodIn wsX6_ringsNow (wsV RX6 79 RX6 yX6_ringsOver wsX6_ringsOver) := goodIn_app (goodIn_of _ (by decide +kernel)) ggX6_ringsNow_X6_ringsOver
theorem dX6_ringsNow_0 : decode cX6_ringsNow 0 = .ok (.iconst 0, 1) := by decide +kernel
theorem dX6_ringsNow_1 : decode cX6_ringsNow 1 = .ok (.istore_n 1, 1) := by decide +kernel
theorem dX6_ringsNow_2 : decode cX6_ringsNow 2 = .ok (.iconst 0, 1) := by decide +kernel
theorem dX6_ringsNow_3 : decode cX6_ringsNow 3 = .ok (.istore_n 2, 1) := by decide +kernel
theorem dX6_ringsNow_4 : decode cX6_ringsNow 4 = .ok (.iload_n 2, 1) := by decide +kernel
theorem dX6_ringsNow_5 : decode cX6_ringsNow 5 = .ok (.aload_n 0, 1) := by decide +kernel
theorem dX6_ringsNow_6 : decode cX6_ringsNow 6 = .ok (.getfield 12, 3) := by decide +kernel
theorem dX6_ringsNow_9 : decode cX6_ringsNow 9 = .ok (.getfield 69, 3) := by decide +kernel
theorem dX6_ringsNow_12 : decode cX6_ringsNow 12 = .ok (.if_icmp .ge 48, 3) := by decide +kernel
theorem dX6_ringsNow_15 : decode cX6_ringsNow 15 = .ok (.iload_n 2, 1) := by decide +kernel
theorem dX6_ringsNow_16 : decode cX6_ringsNow 16 = .ok (.iconst 1, 1) := by decide +kernel
theorem dX6_ringsNow_17 : decode cX6_ringsNow 17 = .ok (.iadd, 1) := by decide +kernel
