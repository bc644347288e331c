theorem dX5_readPart_35 : decode cX5_readPart 35 = .ok (.if_icmp .ge 74, 3) := by decide +kernel
theorem dX5_readPart_38 : decode cX5_readPart 38 = .ok (.aload_n 0, 1) := by decide +kernel
theorem dX5_readPart_39 : decode cX5_readPart 39 = .ok (.invokevirtual 42, 3) := by decide +kernel
theorem dX5_readPart_42 : decode cX5_readPart 42 = .ok (.iload 4, 2) := by decide +kernel
theorem dX5_readPart_44 : decode cX5_readPart 44 = .ok (.if_icmp .lt 65, 3) := by decide +kernel
theorem dX5_readPart_47 : decode cX5_readPart 47 = .ok (.aload_n 0, 1) := by decide +kernel
theorem dX5_readPart_48 : decode cX5_readPart 48 = .ok (.invokevirtual 42, 3) := by decide +kernel
theorem dX5_readPart_51 : decode cX5_readPart 51 = .ok (.iload 5, 2) := by decide +kernel
theorem dX5_readPart_53 : decode cX5_readPart 53 = .ok (.if_icmp .gt 56, 3) := by decide +kernel
theorem dX5_readPart_56 : decode cX5_readPart 56 = .ok (.iload_n 3, 1) := by decide +kernel
theorem dX5_readPart_57 : decode cX5_readPart 57 = .ok (.ifCond .eq 21, 3) := by decide +kernel
theorem dX5_readPart_60 : decode cX5_readPart 60 = .ok (.iload 6, 2) := by decide +kernel
theorem dX5_readPart_62 : decode cX5_readPart 62 = .ok (.bipush 27, 2) := by decide +kernel
theorem dX5_readPart_64 : decode cX5_readPart 64 = .ok (.imul, 1) := by decide +kernel
theorem dX5_readPart_65 : decode cX5_readPart 65 = .ok (.aload_n 0, 1) := by decide +kernel
theorem dX5_readPart_66 : decode cX5_readPart 66 = .ok (.invokevirtual 42, 3) := by decide +kernel
theorem dX5_readPart_69 : decode cX5_readPart 69 = .ok (.iadd, 1) := by decide +kernel
theorem dX5_readPart_70 : decode cX5_readPart 70 = .ok (.bipush 97, 2) := by decide +kernel
theorem dX5_readPart_72 : decode cX5_readPart 72 = .ok (.isub, 1) := by decide +kernel
theorem dX5_readPart_73 : decode cX5_readPart 73 = .ok (.iconst 1, 1) := by decide +kernel
theorem dX5_readPart_74 : decode cX5_readPart 74 = .ok (.iadd, 1) := by decide +kernel
theorem dX5_readPart_75 : decode cX5_readPart 75 = .ok (.goto 16, 3) := by decide +kernel
theorem dX5_readPart_78 : decode cX5_readPart 78 = .ok (.iload 6, 2) := by decide +kernel
theorem dX5_readPart_80 : decode cX5_readPart 80 = .ok (.bipush 10, 2) := by decide +kernel
theorem dX5_readPart_82 : decode cX5_readPart 82 = .ok (.imul, 1) := by decide +kernel
theorem dX5_readPart_83 : decode cX5_readPart 83 = .ok (.aload_n 0, 1) := by decide +kernel
theorem dX5_readPart_84 : decode cX5_readPart 84 = .ok (.invokevirtual 42, 3) := by decide +kernel
theorem dX5_readPart_87 : decode cX5_readPart 87 = .ok (.iadd, 1) := by decide +kernel
theorem dX5_readPart_88 : decode cX5_readPart 88 = .ok (.bipush 48, 2) := by decide +kernel
theorem dX5_readPart_90 : decode cX5_readPart 90 = .ok (.isub, 1) := by decide +kernel
theorem dX5_readPart_91 : decode cX5_readPart 91 = .ok (.istore 6, 2) := by decide +kernel
theorem dX5_readPart_93 : decode cX5_readPart 93 = .ok (.iinc 7 1, 3) := by decide +kernel
theorem dX5_readPart_96 : decode cX5_readPart 96 = .ok (.aload_n 0, 1) := by decide +kernel
theorem dX5_readPart_97 : decode cX5_readPart 97 = .ok (.dup, 1) := by decide +kernel
theorem dX5_readPart_98 : decode cX5_readPart 98 = .ok (.getfield 26, 3) := by decide +kernel
theorem dX5_readPart_101 : decode cX5_readPart 101 = .ok (.iconst 1, 1) := by decide +kernel
theorem dX5_readPart_102 : decode cX5_readPart 102 = .ok (.iadd, 1) := by decide +kernel
theorem dX5_readPart_103 : decode cX5_readPart 103 = .ok (.putfield 26, 3) := by decide +kernel
theorem dX5_readPart_106 : decode cX5_readPart 106 = .ok (.goto (-74), 3) := by decide +kernel
theorem dX5_readPart_109 : decode cX5_readPart 109 = .ok (.aload_n 0, 1) := by decide +kernel
theorem dX5_readPart_110 : decode cX5_readPart 110 = .ok (.getfield 20, 3) := by decide +kernel
theorem dX5_readPart_113 : decode cX5_readPart 113 = .ok (.iload_n 1, 1) := by decide +kernel
theorem dX5_readPart_114 : decode cX5_readPart 114 = .ok (.iload_n 2, 1) := by decide +kernel
theorem dX5_readPart_115 : decode cX5_readPart 115 = .ok (.iload 6, 2) := by decide +kernel
theorem dX5_readPart_117 : decode cX5_readPart 117 = .ok (.invokevirtual 52, 3) := by decide +kernel
theorem dX5_readPart_120 : decode cX5_readPart 120 = .ok (.iload 7, 2) := by decide +kernel
theorem dX5_readPart_122 : decode cX5_readPart 122 = .ok (.ifCond .le 7, 3) := by decide +kernel
theorem dX5_readPart_125 : decode cX5_readPart 125 = .ok (.iconst 1, 1) := by decide +kernel
theorem dX5_readPart_126 : decode cX5_readPart 126 = .ok (.goto 4, 3) := by decide +kernel
theorem dX5_readPart_129 : decode cX5_readPart 129 = .ok (.iconst 0, 1) := by decide +kernel
theorem dX5_readPart_130 : decode cX5_readPart 130 = .ok (.ireturn, 1) := by decide +kernel
set_option maxRecDepth 20000 in
theorem ggX5_nextByte_X4_size : GoodIn wsX5_nextByte wsX4_size := goodIn_r _ [7, 8, 18, 19, 20, 21] (by decide +kernel) (by decide +kernel)
set_option maxRecDepth 20000 in
theorem gX5_nextByte_X4_size : GoodIn wsX5_nextByte (wsV RX5 34 RX4 yX4_size wsX4_size) := goodIn_app (goodIn_of _ (by decide +kernel)) ggX5_nextByte_X4_size
set_option maxRecDepth 20000 in
theorem ggX5_nextByte_X4_cell : GoodIn wsX5_nextByte wsX4_cell := goodIn_r _ [12, 8, 13, 14, 18, 19, 20, 21] (by decide +kernel) (by decide +kernel)
set_option maxRecDepth 20000 in
theorem gX5_nextByte_X4_cell : GoodIn wsX5_nextByte (wsV RX5 60 RX4 yX4_cell wsX4_cell) := goodIn_app (goodIn_of _ (by decide +kernel)) ggX5_nextByte_X4_cell
theorem dX5_nextByte_0 : decode cX5_nextByte 0 = .ok (.aload_n 0, 1) := by decide +kernel
theorem dX5_nextByte_1 : decode cX5_nextByte 1 = .ok (.getfield 26, 3) := by decide +kernel
theorem dX5_nextByte_4 : decode cX5_nextByte 4 = .ok (.aload_n 0, 1) := by decide +kernel
theorem dX5_nextByte_5 : decode cX5_nextByte 5 = .ok (.getfield 14, 3) := by decide +kernel
theorem dX5_nextByte_8 : decode cX5_nextByte 8 = .ok (.invokevirtual 34, 3) := by decide +kernel
theorem dX5_nextByte_11 : decode cX5_nextByte 11 = .ok (.if_icmp .ge 18, 3) := by decide +kernel
theorem dX5_nextByte_14 : decode cX5_nextByte 14 = .ok (.aload_n 0, 1) := by decide +kernel
theorem dX5_nextByte_15 : decode cX5_nextByte 15 = .ok (.getfield 14, 3) := by decide +kernel
theorem dX5_nextByte_18 : decode cX5_nextByte 18 = .ok (.aload_n 0, 1) := by decide +kernel
theorem dX5_nextByte_19 : decode cX5_nextByte 19 = .ok (.getfield 26, 3) := by decide +kernel
theorem dX5_nextByte_22 : decode cX5_nextByte 22 = .ok (.iconst 0, 1) := by decide +kernel
theorem dX5_nextByte_23 : decode cX5_nextByte 23 = .ok (.invokevirtual 60, 3) := by decide +kernel
theorem dX5_nextByte_26 : decode cX5_nextByte 26 = .ok (.goto 4, 3) := by decide +kernel
theorem dX5_nextByte_29 : decode cX5_nextByte 29 = .ok (.iconst (-1), 1) := by decide +kernel
theorem dX5_nextByte_30 : decode cX5_nextByte 30 = .ok (.ireturn, 1) := by decide +kernel
set_option maxRecDepth 20000 in
theorem ggX6_init_X2_init : GoodIn wsX6_init wsX2_init := goodIn_r _ [14, 15, 2, 3, 16, 17, 18, 19, 20, 21, 22, 23, 24, 25, 26, 9, 10, 27, 28, 29, 30, 31, 32, 33, 34, 35, 36, 37, 38, 39, 40, 41, 42, 43, 44, 45, 46, 47, 48, 49, 50, 51, 52, 53, 54, 55, 56, 57, 58, 59, 60, 61, 62, 63, 64, 65, 66, 67, 68, 69, 74, 75, 76, 77, 78, 79, 80, 81, 82, 83, 84, 85, 86, 87, 88, 89, 72, 73, 90, 91, 92, 93] (by decide +kernel) (by decide +kernel)
set_option maxRecDepth 20000 in
theorem gX6_init_X2_init : GoodIn wsX6_init (wsX2_init) := ggX6_init_X2_init
set_option maxRecDepth 20000 in
theorem ggX6_init_X0_init : GoodIn wsX6_init wsX0_init := goodIn_r _ [54, 55, 2, 3, 56, 37, 38, 57, 58, 43, 44, 45, 46, 47, 48, 49, 50, 51, 31, 52, 90, 91, 92, 93, 72, 73] (by decide +kernel) (by decide +kernel)
set_option maxRecDepth 20000 in
theorem gX6_init_X0_init_n20 : GoodIn wsX6_init (wsX0_init) := ggX6_init_X0_init
theorem dX6_init_0 : decode cX6_init 0 = .ok (.aload_n 0, 1) := by decide +kernel
theorem dX6_init_1 : decode cX6_init 1 = .ok (.invokespecial 3, 3) := by decide +kernel
theorem dX6_init_4 : decode cX6_init 4 = .ok (.aload_n 0, 1) := by decide +kernel
theorem dX6_init_5 : decode cX6_init 5 = .ok (.new 9, 3) := by decide +kernel
theorem dX6_init_8 : decode cX6_init 8 = .ok (.dup, 1) := by decide +kernel
theorem dX6_init_9 : decode cX6_init 9 = .ok (.invokespecial 11, 3) := by decide +kernel
theorem dX6_init_12 : decode cX6_init 12 = .ok (.putfield 12, 3) := by decide +kernel
theorem dX6_init_15 : decode cX6_init 15 = .ok (.aload_n 0, 1) := by decide +kernel
theorem dX6_init_16 : decode cX6_init 16 = .ok (.new 18, 3) := by decide +kernel
theorem dX6_init_19 : decode cX6_init 19 = .ok (.dup, 1) := by decide +kernel
theorem dX6_init_20 : decode cX6_init 20 = .ok (.invokespecial 20, 3) := by decide +kernel
theorem dX6_init_23 : decode cX6_init 23 = .ok (.putfield 21, 3) := by decide +kernel
theorem dX6_init_26 : decode cX6_init 26 = .ok (.return_, 1) := by decide +kernel
set_option maxRecDepth 20000 in
theorem ggX6_nextOf_X2_toolAt : GoodIn wsX6_nextOf wsX2_toolAt := goodIn_r _ [7, 8, 9, 49, 50, 51, 52, 53, 54, 55, 56, 57, 58, 59] (by decide +kernel) (by decide +kernel)
set_option maxRecDepth 20000 in
theorem gX6_nextOf_X2_toolAt : GoodIn wsX6_nextOf (wsV RX6 25 RX2 yX2_toolAt wsX2_toolAt) := goodIn_app (goodIn_of _ (by decide +kernel)) ggX6_nextOf_X2_toolAt
set_option maxRecDepth 20000 in
theorem ggX6_nextOf_X2_claimServed : GoodIn wsX6_nextOf wsX2_claimServed := goodIn_r _ [13, 14, 15, 16, 17, 18, 19, 20, 21, 22, 23, 24, 25, 26, 27, 28, 29, 30, 31, 32, 6, 33, 34, 35, 39, 40, 41, 42, 43, 44, 45, 46, 47, 48, 60, 61, 62, 63, 64, 65, 66, 67, 68, 69, 49, 50, 51, 52, 53, 54, 55, 56, 57, 58, 59] (by decide +kernel) (by decide +kernel)
set_option maxRecDepth 20000 in
theorem gX6_nextOf_X2_claimServed : GoodIn wsX6_nextOf (wsV RX6 29 RX2 yX2_claimServed wsX2_claimServed) := goodIn_app (goodIn_of _ (by decide +kernel)) ggX6_nextOf_X2_claimServed
set_option maxRecDepth 20000 in
theorem ggX6_nextOf_X4_cell : GoodIn wsX6_nextOf wsX4_cell := goodIn_r _ [27, 23, 28, 29, 66, 67, 68, 69] (by decide +kernel) (by decide +kernel)
set_option maxRecDepth 20000 in
theorem gX6_nextOf_X4_cell : GoodIn wsX6_nextOf (wsV RX6 39 RX4 yX4_cell wsX4_cell) := goodIn_app (goodIn_of _ (by decide +kernel)) ggX6_nextOf_X4_cell
theorem dX6_nextOf_0 : decode cX6_nextOf 0 = .ok (.aload_n 0, 1) := by decide +kernel
theorem dX6_nextOf_1 : decode cX6_nextOf 1 = .ok (.getfield 12, 3) := by decide +kernel
theorem dX6_nextOf_4 : decode cX6_nextOf 4 = .ok (.iload_n 1, 1) := by decide +kernel
theorem dX6_nextOf_5 : decode cX6_nextOf 5 = .ok (.invokevirtual 25, 3) := by decide +kernel
theorem dX6_nextOf_8 : decode cX6_nextOf 8 = .ok (.astore_n 2, 1) := by decide +kernel
theorem dX6_nextOf_9 : decode cX6_nextOf 9 = .ok (.aload_n 0, 1) := by decide +kernel
theorem dX6_nextOf_10 : decode cX6_nextOf 10 = .ok (.getfield 12, 3) := by decide +kernel
theorem dX6_nextOf_13 : decode cX6_nextOf 13 = .ok (.aload_n 2, 1) := by decide +kernel
theorem dX6_nextOf_14 : decode cX6_nextOf 14 = .ok (.invokevirtual 29, 3) := by decide +kernel
theorem dX6_nextOf_17 : decode cX6_nextOf 17 = .ok (.istore_n 3, 1) := by decide +kernel
theorem dX6_nextOf_18 : decode cX6_nextOf 18 = .ok (.iload_n 3, 1) := by decide +kernel
theorem dX6_nextOf_19 : decode cX6_nextOf 19 = .ok (.ifCond .ge 8, 3) := by decide +kernel
theorem dX6_nextOf_22 : decode cX6_nextOf 22 = .ok (.bipush (-2), 2) := by decide +kernel
theorem dX6_nextOf_24 : decode cX6_nextOf 24 = .ok (.goto 12, 3) := by decide +kernel
theorem dX6_nextOf_27 : decode cX6_nextOf 27 = .ok (.aload_n 2, 1) := by decide +kernel
theorem dX6_nextOf_28 : decode cX6_nextOf 28 = .ok (.getfield 33, 3) := by decide +kernel
theorem dX6_nextOf_31 : decode cX6_nextOf 31 = .ok (.iload_n 3, 1) := by decide +kernel
theorem dX6_nextOf_32 : decode cX6_nextOf 32 = .ok (.iconst 0, 1) := by decide +kernel
theorem dX6_nextOf_33 : decode cX6_nextOf 33 = .ok (.invokevirtual 39, 3) := by decide +kernel
theorem dX6_nextOf_36 : decode cX6_nextOf 36 = .ok (.ireturn, 1) := by decide +kernel
set_option maxRecDepth 20000 in
theorem ggX6_suspectsOf_X2_toolAt : GoodIn wsX6_suspectsOf wsX2_toolAt := goodIn_r _ [7, 8, 9, 63, 64, 65, 66, 67, 68, 69, 70, 71, 72, 73] (by decide +kernel) (by decide +kernel)
set_option maxRecDepth 20000 in
theorem gX6_suspectsOf_X2_toolAt : GoodIn wsX6_suspectsOf (wsV RX6 25 RX2 yX2_toolAt wsX2_toolAt) := goodIn_app (goodIn_of _ (by decide +kernel)) ggX6_suspectsOf_X2_toolAt
set_option maxRecDepth 20000 in
theorem ggX6_suspectsOf_X0_findFor : GoodIn wsX6_suspectsOf wsX0_findFor := goodIn_r _ [14, 15, 16, 17, 18, 19, 20, 21, 22, 23, 24, 25, 26, 27, 28, 29, 30, 31, 32, 33, 34, 35, 36, 37, 38, 39, 40, 41, 42, 13, 43, 44, 45, 46, 47, 48, 49, 50, 51, 52, 53, 54, 55, 56, 74, 75, 76, 77, 78, 79, 80, 81, 82, 83, 84, 85, 86, 87, 88, 89] (by decide +kernel) (by decide +kernel)
set_option maxRecDepth 20000 in
theorem gX6_suspectsOf_X0_findFor : GoodIn wsX6_suspectsOf (wsV RX6 45 RX0 yX0_findFor wsX0_findFor) := goodIn_app (goodIn_of _ (by decide +kernel)) ggX6_suspectsOf_X0_findFor
set_option maxRecDepth 20000 in
theorem ggX6_suspectsOf_X0_bits : GoodIn wsX6_suspectsOf wsX0_bits := goodIn_r _ [60, 16, 74, 75] (by decide +kernel) (by decide +kernel)
set_option maxRecDepth 20000 in
theorem gX6_suspectsOf_X0_bits : GoodIn wsX6_suspectsOf (wsV RX6 49 RX0 yX0_bits wsX0_bits) := goodIn_app (goodIn_of _ (by decide +kernel)) ggX6_suspectsOf_X0_bits
theorem dX6_suspectsOf_0 : decode cX6_suspectsOf 0 = .ok (.aload_n 0, 1) := by decide +kernel
theorem dX6_suspectsOf_1 : decode cX6_suspectsOf 1 = .ok (.getfield 21, 3) := by decide +kernel
theorem dX6_suspectsOf_4 : decode cX6_suspectsOf 4 = .ok (.aload_n 0, 1) := by decide +kernel
theorem dX6_suspectsOf_5 : decode cX6_suspectsOf 5 = .ok (.getfield 12, 3) := by decide +kernel
theorem dX6_suspectsOf_8 : decode cX6_suspectsOf 8 = .ok (.iload_n 1, 1) := by decide +kernel
theorem dX6_suspectsOf_9 : decode cX6_suspectsOf 9 = .ok (.invokevirtual 25, 3) := by decide +kernel
theorem dX6_suspectsOf_12 : decode cX6_suspectsOf 12 = .ok (.invokevirtual 45, 3) := by decide +kernel
theorem dX6_suspectsOf_15 : decode cX6_suspectsOf 15 = .ok (.aload_n 0, 1) := by decide +kernel
theorem dX6_suspectsOf_16 : decode cX6_suspectsOf 16 = .ok (.getfield 21, 3) := by decide +kernel
theorem dX6_suspectsOf_19 : decode cX6_suspectsOf 19 = .ok (.invokevirtual 49, 3) := by decide +kernel
theorem dX6_suspectsOf_22 : decode cX6_suspectsOf 22 = .ok (.ireturn, 1) := by decide +kernel
set_option maxRecDepth 20000 in
theorem ggX6_shareOf_X2_toolAt : GoodIn wsX6_shareOf wsX2_toolAt := goodIn_r _ [7, 8, 9, 82, 83, 84, 85, 86, 87, 88, 89, 90, 91, 92] (by decide +kernel) (by decide +kernel)
set_option maxRecDepth 20000 in
theorem gX6_shareOf_X2_toolAt : GoodIn wsX6_shareOf (wsV RX6 25 RX2 yX2_toolAt wsX2_toolAt) := goodIn_app (goodIn_of _ (by decide +kernel)) ggX6_shareOf_X2_toolAt
set_option maxRecDepth 20000 in
theorem ggX6_shareOf_X0_findFor : GoodIn wsX6_shareOf wsX0_findFor := goodIn_r _ [14, 15, 16, 17, 18, 19, 20, 21, 22, 23, 24, 25, 26, 27, 28, 29, 30, 31, 32, 33, 34, 35, 36, 37, 38, 39, 40, 41, 42, 13, 43, 44, 45, 46, 47, 48, 49, 50, 51, 52, 53, 54, 55, 56, 93, 94, 95, 96, 97, 98, 99, 100, 101, 102, 103, 104, 105, 106, 107, 108] (by decide +kernel) (by decide +kernel)
set_option maxRecDepth 20000 in
theorem gX6_shareOf_X0_findFor : GoodIn wsX6_shareOf (wsV RX6 45 RX0 yX0_findFor wsX0_findFor) := goodIn_app (goodIn_of _ (by decide +kernel)) ggX6_shareOf_X0_findFor
set_option maxRecDepth 20000 in
theorem ggX6_shareOf_X7_cost : GoodIn wsX6_shareOf wsX7_cost := goodIn_r _ [61, 62, 63, 21, 22, 23, 64, 65, 66, 60, 67, 68, 69, 70, 31, 32, 27, 33, 29, 71, 35, 36, 37, 38, 39, 95, 96, 97, 98, 99, 100, 101, 102, 103, 104, 105, 106, 107, 108] (by decide +kernel) (by decide +kernel)
set_option maxRecDepth 20000 in
theorem gX6_shareOf_X7_cost : GoodIn wsX6_shareOf (wsV RX6 53 RX7 yX7_cost wsX7_cost) := goodIn_app (goodIn_of _ (by decide +kernel)) ggX6_shareOf_X7_cost
set_option maxRecDepth 20000 in
theorem ggX6_shareOf_X0_shareOf : GoodIn wsX6_shareOf wsX0_shareOf := goodIn_r _ [75, 15, 30, 31, 32, 27, 33, 29, 44, 45, 46, 13, 47, 16, 76, 77, 78, 79, 34, 35, 36, 37, 38, 39, 93, 94, 105, 106, 107, 108] (by decide +kernel) (by decide +kernel)
set_option maxRecDepth 20000 in
theorem gX6_shareOf_X0_shareOf : GoodIn wsX6_shareOf (wsV RX6 56 RX0 yX0_shareOf wsX0_shareOf) := goodIn_app (goodIn_of _ (by decide +kernel)) ggX6_shareOf_X0_shareOf
theorem dX6_shareOf_0 : decode cX6_shareOf 0 = .ok (.aload_n 0, 1) := by decide +kernel
theorem dX6_shareOf_1 : decode cX6_shareOf 1 = .ok (.getfield 12, 3) := by decide +kernel
theorem dX6_shareOf_4 : decode cX6_shareOf 4 = .ok (.iload_n 1, 1) := by decide +kernel
theorem dX6_shareOf_5 : decode cX6_shareOf 5 = .ok (.invokevirtual 25, 3) := by decide +kernel
theorem dX6_shareOf_8 : decode cX6_shareOf 8 = .ok (.astore_n 3, 1) := by decide +kernel
theorem dX6_shareOf_9 : decode cX6_shareOf 9 = .ok (.aload_n 0, 1) := by decide +kernel
theorem dX6_shareOf_10 : decode cX6_shareOf 10 = .ok (.getfield 21, 3) := by decide +kernel
theorem dX6_shareOf_13 : decode cX6_shareOf 13 = .ok (.aload_n 3, 1) := by decide +kernel
theorem dX6_shareOf_14 : decode cX6_shareOf 14 = .ok (.invokevirtual 45, 3) := by decide +kernel
theorem dX6_shareOf_17 : decode cX6_shareOf 17 = .ok (.aload_n 0, 1) := by decide +kernel
theorem dX6_shareOf_18 : decode cX6_shareOf 18 = .ok (.getfield 21, 3) := by decide +kernel
theorem dX6_shareOf_21 : decode cX6_shareOf 21 = .ok (.iload_n 2, 1) := by decide +kernel
theorem dX6_shareOf_22 : decode cX6_shareOf 22 = .ok (.aload_n 3, 1) := by decide +kernel
theorem dX6_shareOf_23 : decode cX6_shareOf 23 = .ok (.invokevirtual 53, 3) := by decide +kernel
theorem dX6_shareOf_26 : decode cX6_shareOf 26 = .ok (.invokevirtual 56, 3) := by decide +kernel
theorem dX6_shareOf_29 : decode cX6_shareOf 29 = .ok (.ireturn, 1) := by decide +kernel
set_option maxRecDepth 20000 in
theorem ggX6_canBeSwapped_X2_haveTwoHolders : GoodIn wsX6_canBeSwapped wsX2_haveTwoHolders := goodIn_r _ [6, 7, 8, 9, 10, 5, 11, 12, 13, 14, 15, 16, 17, 18, 19, 20, 21, 22, 23, 24, 59, 60, 61, 62, 63, 64, 65, 66, 67, 68, 69, 70, 71, 72, 73, 74, 75, 76, 77, 78, 79] (by decide +kernel) (by decide +kernel)
set_option maxRecDepth 20000 in
theorem gX6_canBeSwapped_X2_haveTwoHolders : GoodIn wsX6_canBeSwapped (wsV RX6 59 RX2 yX2_haveTwoHolders wsX2_haveTwoHolders) := goodIn_app (goodIn_of _ (by decide +kernel)) ggX6_canBeSwapped_X2_haveTwoHolders
set_option maxRecDepth 20000 in
theorem ggX6_canBeSwapped_X2_gainOf : GoodIn wsX6_canBeSwapped wsX2_gainOf := goodIn_r _ [28, 29, 30, 31, 5, 32, 7, 13, 14, 15, 16, 17, 18, 33, 34, 35, 36, 37, 38, 39, 40, 41, 42, 43, 44, 59, 60, 61, 62, 63, 64, 65, 66, 67, 68, 69, 70, 71, 72, 73, 74, 75, 76, 77, 78, 79, 80, 81, 82, 83, 84, 85] (by decide +kernel) (by decide +kernel)
set_option maxRecDepth 20000 in
theorem gX6_canBeSwapped_X2_gainOf : GoodIn wsX6_canBeSwapped (wsV RX6 63 RX2 yX2_gainOf wsX2_gainOf) := goodIn_app (goodIn_of _ (by decide +kernel)) ggX6_canBeSwapped_X2_gainOf
set_option maxRecDepth 20000 in
theorem ggX6_canBeSwapped_X2_whyNotBothPassed : GoodIn wsX6_canBeSwapped wsX2_whyNotBothPassed := goodIn_r _ [48, 7, 49, 50, 13, 14, 15, 5, 16, 17, 18, 33, 34, 35, 36, 37, 38, 51, 52, 53, 54, 55, 56, 59, 60, 61, 62, 63, 64, 65, 66, 67, 68, 80, 81, 82, 83, 84, 85, 69, 70, 71, 72, 73, 74, 75, 76, 77, 78, 79] (by decide +kernel) (by decide +kernel)
set_option maxRecDepth 20000 in
theorem gX6_canBeSwapped_X2_whyNotBothPassed : GoodIn wsX6_canBeSwapped (wsV RX6 66 RX2 yX2_whyNotBothPassed wsX2_whyNotBothPassed) := goodIn_app (goodIn_of _ (by decide +kernel)) ggX6_canBeSwapped_X2_whyNotBothPassed
theorem dX6_canBeSwapped_0 : decode cX6_canBeSwapped 0 = .ok (.aload_n 0, 1) := by decide +kernel
theorem dX6_canBeSwapped_1 : decode cX6_canBeSwapped 1 = .ok (.getfield 12, 3) := by decide +kernel
theorem dX6_canBeSwapped_4 : decode cX6_canBeSwapped 4 = .ok (.iload_n 1, 1) := by decide +kernel
theorem dX6_canBeSwapped_5 : decode cX6_canBeSwapped 5 = .ok (.iload_n 2, 1) := by decide +kernel
theorem dX6_canBeSwapped_6 : decode cX6_canBeSwapped 6 = .ok (.invokevirtual 59, 3) := by decide +kernel
theorem dX6_canBeSwapped_9 : decode cX6_canBeSwapped 9 = .ok (.ifCond .eq 31, 3) := by decide +kernel
theorem dX6_canBeSwapped_12 : decode cX6_canBeSwapped 12 = .ok (.aload_n 0, 1) := by decide +kernel
theorem dX6_canBeSwapped_13 : decode cX6_canBeSwapped 13 = .ok (.getfield 12, 3) := by decide +kernel
theorem dX6_canBeSwapped_16 : decode cX6_canBeSwapped 16 = .ok (.iload_n 1, 1) := by decide +kernel
theorem dX6_canBeSwapped_17 : decode cX6_canBeSwapped 17 = .ok (.iload_n 2, 1) := by decide +kernel
theorem dX6_canBeSwapped_18 : decode cX6_canBeSwapped 18 = .ok (.invokevirtual 63, 3) := by decide +kernel
theorem dX6_canBeSwapped_21 : decode cX6_canBeSwapped 21 = .ok (.ifCond .le 19, 3) := by decide +kernel
theorem dX6_canBeSwapped_24 : decode cX6_canBeSwapped 24 = .ok (.aload_n 0, 1) := by decide +kernel
theorem dX6_canBeSwapped_25 : decode cX6_canBeSwapped 25 = .ok (.getfield 12, 3) := by decide +kernel
theorem dX6_canBeSwapped_28 : decode cX6_canBeSwapped 28 = .ok (.iload_n 1, 1) := by decide +kernel
theorem dX6_canBeSwapped_29 : decode cX6_canBeSwapped 29 = .ok (.iload_n 2, 1) := by decide +kernel
theorem dX6_canBeSwapped_30 : decode cX6_canBeSwapped 30 = .ok (.invokevirtual 66, 3) := by decide +kernel
theorem dX6_canBeSwapped_33 : decode cX6_canBeSwapped 33 = .ok (.ifCond .ne 7, 3) := by decide +kernel
theorem dX6_canBeSwapped_36 : decode cX6_canBeSwapped 36 = .ok (.iconst 1, 1) := by decide +kernel
theorem dX6_canBeSwapped_37 : decode cX6_canBeSwapped 37 = .ok (.goto 4, 3) := by decide +kernel
theorem dX6_canBeSwapped_40 : decode cX6_canBeSwapped 40 = .ok (.iconst 0, 1) := by decide +kernel
theorem dX6_canBeSwapped_41 : decode cX6_canBeSwapped 41 = .ok (.ireturn, 1) := by decide +kernel
set_option maxRecDepth 20000 in
theorem ggX6_swapsNow_X6_canBeSwapped : GoodIn wsX6_swapsNow wsX6_canBeSwapped := goodIn_r _ [7, 1, 8, 9, 10, 11, 12, 13, 14, 15, 16, 17, 18, 19, 20, 21, 22, 23, 24, 25, 26, 27, 28, 29, 30, 31, 32, 33, 34, 35, 36, 37, 38, 39, 40, 41, 42, 43, 44, 45, 46, 47, 48, 49, 50, 51, 52, 53, 54, 55, 56, 57, 58, 59, 60, 61, 62, 63, 64, 76, 77, 78, 79, 80, 81, 82, 83, 84, 85, 65, 66, 67, 68, 69, 70, 71, 72, 73, 74, 75, 86, 87, 88, 89, 90, 91] (by decide +kernel) (by decide +kernel)
set_option maxRecDepth 20000 in
theorem gX6_swapsNow_X6_canBeSwapped : GoodIn wsX6_swapsNow (wsV RX6 73 RX6 yX6_canBeSwapped wsX6_canBeSwapped) := goodIn_app (goodIn_of _ (by decide +kernel)) ggX6_swapsNow_X6_canBeSwapped
theorem dX6_swapsNow_0 : decode cX6_swapsNow 0 = .ok (.iconst 0, 1) := by decide +kernel
theorem dX6_swapsNow_1 : decode cX6_swapsNow 1 = .ok (.istore_n 1, 1) := by decide +kernel
theorem dX6_swapsNow_2 : decode cX6_swapsNow 2 = .ok (.iconst 0, 1) := by decide +kernel
theorem dX6_swapsNow_3 : decode cX6_swapsNow 3 = .ok (.istore_n 2, 1) := by decide +kernel
theorem dX6_swapsNow_4 : decode cX6_swapsNow 4 = .ok (.iload_n 2, 1) := by decide +kernel
theorem dX6_swapsNow_5 : decode cX6_swapsNow 5 = .ok (.aload_n 0, 1) := by decide +kernel
theorem dX6_swapsNow_6 : decode cX6_swapsNow 6 = .ok (.getfield 12, 3) := by decide +kernel
theorem dX6_swapsNow_9 : decode cX6_swapsNow 9 = .ok (.getfield 69, 3) := by decide +kernel
theorem dX6_swapsNow_12 : decode cX6_swapsNow 12 = .ok (.if_icmp .ge 42, 3) := by decide +kernel
theorem dX6_swapsNow_15 : decode cX6_swapsNow 15 = .ok (.iload_n 2, 1) := by decide +kernel
theorem dX6_swapsNow_16 : decode cX6_swapsNow 16 = .ok (.iconst 1, 1) := by decide +kernel
theorem dX6_swapsNow_17 : decode cX6_swapsNow 17 = .ok (.iadd, 1) := by decide +kernel
theorem dX6_swapsNow_18 : decode cX6_swapsNow 18 = .ok (.istore_n 3, 1) := by decide +kernel
theorem dX6_swapsNow_19 : decode cX6_swapsNow 19 = .ok (.iload_n 3, 1) := by decide +kernel
theorem dX6_swapsNow_20 : decode cX6_swapsNow 20 = .ok (.aload_n 0, 1) := by decide +kernel
theorem dX6_swapsNow_21 : decode cX6_swapsNow 21 = .ok (.getfield 12, 3) := by decide +kernel
theorem dX6_swapsNow_24 : decode cX6_swapsNow 24 = .ok (.getfield 69, 3) := by decide +kernel
theorem dX6_swapsNow_27 : decode cX6_swapsNow 27 = .ok (.if_icmp .ge 21, 3) := by decide +kernel
theorem dX6_swapsNow_30 : decode cX6_swapsNow 30 = .ok (.aload_n 0, 1) := by decide +kernel
theorem dX6_swapsNow_31 : decode cX6_swapsNow 31 = .ok (.iload_n 2, 1) := by decide +kernel
theorem dX6_swapsNow_32 : decode cX6_swapsNow 32 = .ok (.iload_n 3, 1) := by decide +kernel
theorem dX6_swapsNow_33 : decode cX6_swapsNow 33 = .ok (.invokevirtual 73, 3) := by decide +kernel
theorem dX6_swapsNow_36 : decode cX6_swapsNow 36 = .ok (.ifCond .eq 6, 3) := by decide +kernel
theorem dX6_swapsNow_39 : decode cX6_swapsNow 39 = .ok (.iinc 1 1, 3) := by decide +kernel
theorem dX6_swapsNow_42 : decode cX6_swapsNow 42 = .ok (.iinc 3 1, 3) := by decide +kernel
theorem dX6_swapsNow_45 : decode cX6_swapsNow 45 = .ok (.goto (-26), 3) := by decide +kernel
theorem dX6_swapsNow_48 : decode cX6_swapsNow 48 = .ok (.iinc 2 1, 3) := by decide +kernel
theorem dX6_swapsNow_51 : decode cX6_swapsNow 51 = .ok (.goto (-47), 3) := by decide +kernel
theorem dX6_swapsNow_54 : decode cX6_swapsNow 54 = .ok (.iload_n 1, 1) := by decide +kernel
theorem dX6_swapsNow_55 : decode cX6_swapsNow 55 = .ok (.ireturn, 1) := by decide +kernel
set_option maxRecDepth 20000 in
theorem ggX6_bestSwap_X2_gainOf : GoodIn wsX6_bestSwap wsX2_gainOf := goodIn_r _ [7, 8, 9, 10, 6, 11, 12, 13, 14, 15, 16, 17, 18, 19, 20, 21, 22, 23, 24, 25, 26, 27, 28, 29, 30, 76, 77, 78, 79, 80, 81, 82, 83, 84, 85, 65, 66, 67, 68, 69, 70, 71, 72, 73, 74, 75, 86, 87, 88, 89, 90, 91] (by decide +kernel) (by decide +kernel)
set_option maxRecDepth 20000 in
theorem gX6_bestSwap_X2_gainOf : GoodIn wsX6_bestSwap (wsV RX6 63 RX2 yX2_gainOf wsX2_gainOf) := goodIn_app (goodIn_of _ (by decide +kernel)) ggX6_bestSwap_X2_gainOf
set_option maxRecDepth 20000 in
theorem ggX6_bestSwap_X6_canBeSwapped : GoodIn wsX6_bestSwap wsX6_canBeSwapped := goodIn_r _ [35, 1, 36, 37, 38, 6, 39, 12, 40, 41, 42, 43, 44, 13, 14, 15, 16, 17, 18, 45, 46, 47, 48, 49, 50, 3, 4, 5, 7, 8, 9, 10, 11, 19, 20, 21, 22, 23, 24, 25, 26, 27, 28, 29, 30, 51, 52, 53, 54, 55, 56, 57, 58, 59, 60, 61, 62, 63, 64, 76, 77, 78, 79, 80, 81, 82, 83, 84, 85, 65, 66, 67, 68, 69, 70, 71, 72, 73, 74, 75, 86, 87, 88, 89, 90, 91] (by decide +kernel) (by decide +kernel)
set_option maxRecDepth 20000 in
theorem gX6_bestSwap_X6_canBeSwapped : GoodIn wsX6_bestSwap (wsV RX6 73 RX6 yX6_canBeSwapped wsX6_canBeSwapped) := goodIn_app (goodIn_of _ (by decide +kernel)) ggX6_bestSwap_X6_canBeSwapped
theorem dX6_bestSwap_0 : decode cX6_bestSwap 0 = .ok (.bipush (-2), 2) := by decide +kernel
theorem dX6_bestSwap_2 : decode cX6_bestSwap 2 = .ok (.istore_n 1, 1) := by decide +kernel
theorem dX6_bestSwap_3 : decode cX6_bestSwap 3 = .ok (.iconst 0, 1) := by decide +kernel
theorem dX6_bestSwap_4 : decode cX6_bestSwap 4 = .ok (.istore_n 2, 1) := by decide +kernel
theorem dX6_bestSwap_5 : decode cX6_bestSwap 5 = .ok (.iconst 0, 1) := by decide +kernel
theorem dX6_bestSwap_6 : decode cX6_bestSwap 6 = .ok (.istore_n 3, 1) := by decide +kernel
theorem dX6_bestSwap_7 : decode cX6_bestSwap 7 = .ok (.iload_n 3, 1) := by decide +kernel
theorem dX6_bestSwap_8 : decode cX6_bestSwap 8 = .ok (.aload_n 0, 1) := by decide +kernel
theorem dX6_bestSwap_9 : decode cX6_bestSwap 9 = .ok (.getfield 12, 3) := by decide +kernel
theorem dX6_bestSwap_12 : decode cX6_bestSwap 12 = .ok (.getfield 69, 3) := by decide +kernel
theorem dX6_bestSwap_15 : decode cX6_bestSwap 15 = .ok (.if_icmp .ge 75, 3) := by decide +kernel
theorem dX6_bestSwap_18 : decode cX6_bestSwap 18 = .ok (.iload_n 3, 1) := by decide +kernel
theorem dX6_bestSwap_19 : decode cX6_bestSwap 19 = .ok (.iconst 1, 1) := by decide +kernel
theorem dX6_bestSwap_20 : decode cX6_bestSwap 20 = .ok (.iadd, 1) := by decide +kernel
theorem dX6_bestSwap_21 : decode cX6_bestSwap 21 = .ok (.istore 4, 2) := by decide +kernel
theorem dX6_bestSwap_23 : decode cX6_bestSwap 23 = .ok (.iload 4, 2) := by decide +kernel
theorem dX6_bestSwap_25 : decode cX6_bestSwap 25 = .ok (.aload_n 0, 1) := by decide +kernel
theorem dX6_bestSwap_26 : decode cX6_bestSwap 26 = .ok (.getfield 12, 3) := by decide +kernel
theorem dX6_bestSwap_29 : decode cX6_bestSwap 29 = .ok (.getfield 69, 3) := by decide +kernel
theorem dX6_bestSwap_32 : decode cX6_bestSwap 32 = .ok (.if_icmp .ge 52, 3) := by decide +kernel
theorem dX6_bestSwap_35 : decode cX6_bestSwap 35 = .ok (.aload_n 0, 1) := by decide +kernel
theorem dX6_bestSwap_36 : decode cX6_bestSwap 36 = .ok (.getfield 12, 3) := by decide +kernel
theorem dX6_bestSwap_39 : decode cX6_bestSwap 39 = .ok (.iload_n 3, 1) := by decide +kernel
theorem dX6_bestSwap_40 : decode cX6_bestSwap 40 = .ok (.iload 4, 2) := by decide +kernel
theorem dX6_bestSwap_42 : decode cX6_bestSwap 42 = .ok (.invokevirtual 63, 3) := by decide +kernel
theorem dX6_bestSwap_45 : decode cX6_bestSwap 45 = .ok (.iload_n 2, 1) := by decide +kernel
theorem dX6_bestSwap_46 : decode cX6_bestSwap 46 = .ok (.if_icmp .le 32, 3) := by decide +kernel
theorem dX6_bestSwap_49 : decode cX6_bestSwap 49 = .ok (.aload_n 0, 1) := by decide +kernel
theorem dX6_bestSwap_50 : decode cX6_bestSwap 50 = .ok (.iload_n 3, 1) := by decide +kernel
theorem dX6_bestSwap_51 : decode cX6_bestSwap 51 = .ok (.iload 4, 2) := by decide +kernel
theorem dX6_bestSwap_53 : decode cX6_bestSwap 53 = .ok (.invokevirtual 73, 3) := by decide +kernel
theorem dX6_bestSwap_56 : decode cX6_bestSwap 56 = .ok (.ifCond .eq 22, 3) := by decide +kernel
theorem dX6_bestSwap_59 : decode cX6_bestSwap 59 = .ok (.aload_n 0, 1) := by decide +kernel
theorem dX6_bestSwap_60 : decode cX6_bestSwap 60 = .ok (.getfield 12, 3) := by decide +kernel
theorem dX6_bestSwap_63 : decode cX6_bestSwap 63 = .ok (.iload_n 3, 1) := by decide +kernel
theorem dX6_bestSwap_64 : decode cX6_bestSwap 64 = .ok (.iload 4, 2) := by decide +kernel
theorem dX6_bestSwap_66 : decode cX6_bestSwap 66 = .ok (.invokevirtual 63, 3) := by decide +kernel
theorem dX6_bestSwap_69 : decode cX6_bestSwap 69 = .ok (.istore_n 2, 1) := by decide +kernel
theorem dX6_bestSwap_70 : decode cX6_bestSwap 70 = .ok (.bipush 10, 2) := by decide +kernel
theorem dX6_bestSwap_72 : decode cX6_bestSwap 72 = .ok (.iload_n 3, 1) := by decide +kernel
theorem dX6_bestSwap_73 : decode cX6_bestSwap 73 = .ok (.imul, 1) := by decide +kernel
theorem dX6_bestSwap_74 : decode cX6_bestSwap 74 = .ok (.iload 4, 2) := by decide +kernel
theorem dX6_bestSwap_76 : decode cX6_bestSwap 76 = .ok (.iadd, 1) := by decide +kernel
theorem dX6_bestSwap_77 : decode cX6_bestSwap 77 = .ok (.istore_n 1, 1) := by decide +kernel
theorem dX6_bestSwap_78 : decode cX6_bestSwap 78 = .ok (.iinc 4 1, 3) := by decide +kernel
theorem dX6_bestSwap_81 : decode cX6_bestSwap 81 = .ok (.goto (-58), 3) := by decide +kernel
theorem dX6_bestSwap_84 : decode cX6_bestSwap 84 = .ok (.iinc 3 1, 3) := by decide +kernel
theorem dX6_bestSwap_87 : decode cX6_bestSwap 87 = .ok (.goto (-80), 3) := by decide +kernel
theorem dX6_bestSwap_90 : decode cX6_bestSwap 90 = .ok (.iload_n 1, 1) := by decide +kernel
theorem dX6_bestSwap_91 : decode cX6_bestSwap 91 = .ok (.ireturn, 1) := by decide +kernel
set_option maxRecDepth 20000 in
theorem ggX6_ringsNow_X6_wishesMore : GoodIn wsX6_ringsNow wsX6_wishesMore := goodIn_r _ [7, 1, 8, 9, 10, 11, 12, 13, 14, 15, 16, 17, 18, 19, 20, 21, 22, 23, 24, 25, 26, 27, 28, 29, 30, 31, 32, 33, 34, 35, 36, 37, 38, 39, 40, 41, 42, 43, 44, 45, 46, 51, 52, 64, 65, 66, 67, 68, 69, 70, 71, 72, 73, 53, 54, 55, 56, 57, 58, 59, 60, 61, 62, 63, 74, 75, 76, 77, 78, 79] (by decide +kernel) (by decide +kernel)
set_option maxRecDepth 20000 in
theorem gX6_ringsNow_X6_wishesMore : GoodIn wsX6_ringsNow (wsV RX6 76 RX6 yX6_wishesMore wsX6_wishesMore) := goodIn_app (goodIn_of _ (by decide +kernel)) ggX6_ringsNow_X6_wishesMore
set_option maxRecDepth 20000 in
theorem ggX6_ringsNow_X6_ringsOver : GoodIn wsX6_ringsNow wsX6_ringsOver := goodIn_r _ [50, 1, 2, 3, 4, 5, 6, 7, 8, 9, 10, 11, 12, 13, 14, 15, 16, 17, 18, 19, 20, 21, 22, 23, 24, 25, 26, 27, 28, 29, 30, 31, 32, 33, 34, 35, 36, 37, 38, 39, 40, 41, 42, 43, 44, 45, 46, 51, 52, 53, 54, 55, 56, 57, 58, 59, 60, 61, 62, 63, 64, 65, 66, 67, 68, 69, 70, 71, 72, 73, 74, 75, 76, 77, 78, 79] (by decide +kernel) (by decide +kernel)
set_option maxRecDepth 20000 in
theorem gX6_ringsNow_X6_ringsOver : GoodIn wsX6_ringsNow (wsV RX6 79 RX6 yX6_ringsOver wsX6_ringsOver) := goodIn_app (goodIn_of _ (by decide +kernel)) ggX6_ringsNow_X6_ringsOver
theorem dX6_ringsNow_0 : decode cX6_ringsNow 0 = .ok (.iconst 0, 1) := by decide +kernel
theorem dX6_ringsNow_1 : decode cX6_ringsNow 1 = .ok (.istore_n 1, 1) := by decide +kernel
theorem dX6_ringsNow_2 : decode cX6_ringsNow 2 = .ok (.iconst 0, 1) := by decide +kernel
theorem dX6_ringsNow_3 : decode cX6_ringsNow 3 = .ok (.istore_n 2, 1) := by decide +kernel
theorem dX6_ringsNow_4 : decode cX6_ringsNow 4 = .ok (.iload_n 2, 1) := by decide +kernel
theorem dX6_ringsNow_5 : decode cX6_ringsNow 5 = .ok (.aload_n 0, 1) := by decide +kernel
theorem dX6_ringsNow_6 : decode cX6_ringsNow 6 = .ok (.getfield 12, 3) := by decide +kernel
theorem dX6_ringsNow_9 : decode cX6_ringsNow 9 = .ok (.getfield 69, 3) := by decide +kernel
theorem dX6_ringsNow_12 : decode cX6_ringsNow 12 = .ok (.if_icmp .ge 48, 3) := by decide +kernel
theorem dX6_ringsNow_15 : decode cX6_ringsNow 15 = .ok (.iload_n 2, 1) := by decide +kernel
theorem dX6_ringsNow_16 : decode cX6_ringsNow 16 = .ok (.iconst 1, 1) := by decide +kernel
theorem dX6_ringsNow_17 : decode cX6_ringsNow 17 = .ok (.iadd, 1) := by decide +kernel
theorem dX6_ringsNow_18 : decode cX6_ringsNow 18 = .ok (.istore_n 3, 1) := by decide +kernel
theorem dX6_ringsNow_19 : decode cX6_ringsNow 19 = .ok (.iload_n 3, 1) := by decide +kernel
theorem dX6_ringsNow_20 : decode cX6_ringsNow 20 = .ok (.aload_n 0, 1) := by decide +kernel
theorem dX6_ringsNow_21 : decode cX6_ringsNow 21 = .ok (.getfield 12, 3) := by decide +kernel
theorem dX6_ringsNow_24 : decode cX6_ringsNow 24 = .ok (.getfield 69, 3) := by decide +kernel
theorem dX6_ringsNow_27 : decode cX6_ringsNow 27 = .ok (.if_icmp .ge 27, 3) := by decide +kernel
theorem dX6_ringsNow_30 : decode cX6_ringsNow 30 = .ok (.aload_n 0, 1) := by decide +kernel
theorem dX6_ringsNow_31 : decode cX6_ringsNow 31 = .ok (.iload_n 2, 1) := by decide +kernel
theorem dX6_ringsNow_32 : decode cX6_ringsNow 32 = .ok (.iload_n 3, 1) := by decide +kernel
theorem dX6_ringsNow_33 : decode cX6_ringsNow 33 = .ok (.invokevirtual 76, 3) := by decide +kernel
theorem dX6_ringsNow_36 : decode cX6_ringsNow 36 = .ok (.ifCond .eq 12, 3) := by decide +kernel
theorem dX6_ringsNow_39 : decode cX6_ringsNow 39 = .ok (.iload_n 1, 1) := by decide +kernel
theorem dX6_ringsNow_40 : decode cX6_ringsNow 40 = .ok (.aload_n 0, 1) := by decide +kernel
theorem dX6_ringsNow_41 : decode cX6_ringsNow 41 = .ok (.iload_n 2, 1) := by decide +kernel
theorem dX6_ringsNow_42 : decode cX6_ringsNow 42 = .ok (.iload_n 3, 1) := by decide +kernel
theorem dX6_ringsNow_43 : decode cX6_ringsNow 43 = .ok (.invokevirtual 79, 3) := by decide +kernel
theorem dX6_ringsNow_46 : decode cX6_ringsNow 46 = .ok (.iadd, 1) := by decide +kernel
theorem dX6_ringsNow_47 : decode cX6_ringsNow 47 = .ok (.istore_n 1, 1) := by decide +kernel
theorem dX6_ringsNow_48 : decode cX6_ringsNow 48 = .ok (.iinc 3 1, 3) := by decide +kernel
theorem dX6_ringsNow_51 : decode cX6_ringsNow 51 = .ok (.goto (-32), 3) := by decide +kernel
theorem dX6_ringsNow_54 : decode cX6_ringsNow 54 = .ok (.iinc 2 1, 3) := by decide +kernel
theorem dX6_ringsNow_57 : decode cX6_ringsNow 57 = .ok (.goto (-53), 3) := by decide +kernel
theorem dX6_ringsNow_60 : decode cX6_ringsNow 60 = .ok (.iload_n 1, 1) := by decide +kernel
theorem dX6_ringsNow_61 : decode cX6_ringsNow 61 = .ok (.ireturn, 1) := by decide +kernel
set_option maxRecDepth 20000 in
theorem ggX6_ringsOver_X6_wishesMore : GoodIn wsX6_ringsOver wsX6_wishesMore := goodIn_r _ [7, 1, 8, 9, 10, 11, 12, 13, 14, 15, 16, 17, 18, 19, 20, 21, 22, 23, 24, 25, 26, 27, 28, 29, 30, 31, 32, 33, 34, 35, 36, 37, 38, 39, 40, 41, 42, 43, 44, 45, 46, 47, 48, 60, 61, 62, 63, 64, 65, 66, 67, 68, 69, 49, 50, 51, 52, 53, 54, 55, 56, 57, 58, 59, 70, 71, 72, 73, 74, 75] (by decide +kernel) (by decide +kernel)
set_option maxRecDepth 20000 in
theorem gX6_ringsOver_X6_wishesMore : GoodIn wsX6_ringsOver (wsV RX6 76 RX6 yX6_wishesMore wsX6_wishesMore) := goodIn_app (goodIn_of _ (by decide +kernel)) ggX6_ringsOver_X6_wishesMore
theorem dX6_ringsOver_0 : decode cX6_ringsOver 0 = .ok (.iconst 0, 1) := by decide +kernel
theorem dX6_ringsOver_1 : decode cX6_ringsOver 1 = .ok (.istore_n 3, 1) := by decide +kernel
theorem dX6_ringsOver_2 : decode cX6_ringsOver 2 = .ok (.iload_n 1, 1) := by decide +kernel
theorem dX6_ringsOver_3 : decode cX6_ringsOver 3 = .ok (.iconst 1, 1) := by decide +kernel
theorem dX6_ringsOver_4 : decode cX6_ringsOver 4 = .ok (.iadd, 1) := by decide +kernel
theorem dX6_ringsOver_5 : decode cX6_ringsOver 5 = .ok (.istore 4, 2) := by decide +kernel
theorem dX6_ringsOver_7 : decode cX6_ringsOver 7 = .ok (.iload 4, 2) := by decide +kernel
theorem dX6_ringsOver_9 : decode cX6_ringsOver 9 = .ok (.aload_n 0, 1) := by decide +kernel
theorem dX6_ringsOver_10 : decode cX6_ringsOver 10 = .ok (.getfield 12, 3) := by decide +kernel
theorem dX6_ringsOver_13 : decode cX6_ringsOver 13 = .ok (.getfield 69, 3) := by decide +kernel
theorem dX6_ringsOver_16 : decode cX6_ringsOver 16 = .ok (.if_icmp .ge 32, 3) := by decide +kernel
theorem dX6_ringsOver_19 : decode cX6_ringsOver 19 = .ok (.aload_n 0, 1) := by decide +kernel
theorem dX6_ringsOver_20 : decode cX6_ringsOver 20 = .ok (.iload_n 2, 1) := by decide +kernel
theorem dX6_ringsOver_21 : decode cX6_ringsOver 21 = .ok (.iload 4, 2) := by decide +kernel
theorem dX6_ringsOver_23 : decode cX6_ringsOver 23 = .ok (.invokevirtual 76, 3) := by decide +kernel
theorem dX6_ringsOver_26 : decode cX6_ringsOver 26 = .ok (.ifCond .eq 16, 3) := by decide +kernel
theorem dX6_ringsOver_29 : decode cX6_ringsOver 29 = .ok (.aload_n 0, 1) := by decide +kernel
theorem dX6_ringsOver_30 : decode cX6_ringsOver 30 = .ok (.iload 4, 2) := by decide +kernel
theorem dX6_ringsOver_32 : decode cX6_ringsOver 32 = .ok (.iload_n 1, 1) := by decide +kernel
theorem dX6_ringsOver_33 : decode cX6_ringsOver 33 = .ok (.invokevirtual 76, 3) := by decide +kernel
theorem dX6_ringsOver_36 : decode cX6_ringsOver 36 = .ok (.ifCond .eq 6, 3) := by decide +kernel
theorem dX6_ringsOver_39 : decode cX6_ringsOver 39 = .ok (.iinc 3 1, 3) := by decide +kernel
theorem dX6_ringsOver_42 : decode cX6_ringsOver 42 = .ok (.iinc 4 1, 3) := by decide +kernel
theorem dX6_ringsOver_45 : decode cX6_ringsOver 45 = .ok (.goto (-38), 3) := by decide +kernel
theorem dX6_ringsOver_48 : decode cX6_ringsOver 48 = .ok (.iload_n 3, 1) := by decide +kernel
theorem dX6_ringsOver_49 : decode cX6_ringsOver 49 = .ok (.ireturn, 1) := by decide +kernel
set_option maxRecDepth 20000 in
theorem ggX6_wishesMore_X2_haveTwoHolders : GoodIn wsX6_wishesMore wsX2_haveTwoHolders := goodIn_r _ [6, 7, 8, 9, 10, 5, 11, 12, 13, 14, 15, 16, 17, 18, 19, 20, 21, 22, 23, 24, 43, 44, 45, 46, 47, 48, 49, 50, 51, 52, 53, 54, 55, 56, 57, 58, 59, 60, 61, 62, 63] (by decide +kernel) (by decide +kernel)
set_option maxRecDepth 20000 in
theorem gX6_wishesMore_X2_haveTwoHolders : GoodIn wsX6_wishesMore (wsV RX6 59 RX2 yX2_haveTwoHolders wsX2_haveTwoHolders) := goodIn_app (goodIn_of _ (by decide +kernel)) ggX6_wishesMore_X2_haveTwoHolders
set_option maxRecDepth 20000 in
theorem ggX6_wishesMore_X2_riseOf : GoodIn wsX6_wishesMore wsX2_riseOf := goodIn_r _ [28, 7, 13, 14, 15, 5, 16, 17, 18, 29, 30, 31, 32, 33, 34, 35, 36, 37, 38, 39, 40, 43, 44, 45, 46, 47, 48, 49, 50, 51, 52, 53, 54, 55, 56, 57, 58, 59, 60, 61, 62, 63, 64, 65, 66, 67, 68, 69] (by decide +kernel) (by decide +kernel)
set_option maxRecDepth 20000 in
theorem gX6_wishesMore_X2_riseOf : GoodIn wsX6_wishesMore (wsV RX6 82 RX2 yX2_riseOf wsX2_riseOf) := goodIn_app (goodIn_of _ (by decide +kernel)) ggX6_wishesMore_X2_riseOf
theorem dX6_wishesMore_0 : decode cX6_wishesMore 0 = .ok (.aload_n 0, 1) := by decide +kernel
theorem dX6_wishesMore_1 : decode cX6_wishesMore 1 = .ok (.getfield 12, 3) := by decide +kernel
theorem dX6_wishesMore_4 : decode cX6_wishesMore 4 = .ok (.iload_n 1, 1) := by decide +kernel
theorem dX6_wishesMore_5 : decode cX6_wishesMore 5 = .ok (.iload_n 2, 1) := by decide +kernel
theorem dX6_wishesMore_6 : decode cX6_wishesMore 6 = .ok (.invokevirtual 59, 3) := by decide +kernel
theorem dX6_wishesMore_9 : decode cX6_wishesMore 9 = .ok (.ifCond .eq 19, 3) := by decide +kernel
theorem dX6_wishesMore_12 : decode cX6_wishesMore 12 = .ok (.aload_n 0, 1) := by decide +kernel
theorem dX6_wishesMore_13 : decode cX6_wishesMore 13 = .ok (.getfield 12, 3) := by decide +kernel
theorem dX6_wishesMore_16 : decode cX6_wishesMore 16 = .ok (.iload_n 1, 1) := by decide +kernel
theorem dX6_wishesMore_17 : decode cX6_wishesMore 17 = .ok (.iload_n 2, 1) := by decide +kernel
theorem dX6_wishesMore_18 : decode cX6_wishesMore 18 = .ok (.invokevirtual 82, 3) := by decide +kernel
theorem dX6_wishesMore_21 : decode cX6_wishesMore 21 = .ok (.ifCond .le 7, 3) := by decide +kernel
theorem dX6_wishesMore_24 : decode cX6_wishesMore 24 = .ok (.iconst 1, 1) := by decide +kernel
theorem dX6_wishesMore_25 : decode cX6_wishesMore 25 = .ok (.goto 4, 3) := by decide +kernel
theorem dX6_wishesMore_28 : decode cX6_wishesMore 28 = .ok (.iconst 0, 1) := by decide +kernel
theorem dX6_wishesMore_29 : decode cX6_wishesMore 29 = .ok (.ireturn, 1) := by decide +kernel
set_option maxRecDepth 20000 in
theorem ggX6_allCoins_X2_personAt : GoodIn wsX6_allCoins wsX2_personAt := goodIn_r _ [11, 12, 13, 22, 23, 24, 25, 26, 27, 28, 29, 30, 31, 32] (by decide +kernel) (by decide +kernel)
set_option maxRecDepth 20000 in
theorem gX6_allCoins_X2_personAt : GoodIn wsX6_allCoins (wsV RX6 91 RX2 yX2_personAt wsX2_personAt) := goodIn_app (goodIn_of _ (by decide +kernel)) ggX6_allCoins_X2_personAt
set_option maxRecDepth 20000 in
theorem ggX6_allCoins_X2_toolAt : GoodIn wsX6_allCoins wsX2_toolAt := goodIn_r _ [17, 18, 19, 22, 23, 24, 25, 26, 27, 28, 29, 30, 31, 32] (by decide +kernel) (by decide +kernel)
set_option maxRecDepth 20000 in
theorem gX6_allCoins_X2_toolAt : GoodIn wsX6_allCoins (wsV RX6 25 RX2 yX2_toolAt wsX2_toolAt) := goodIn_app (goodIn_of _ (by decide +kernel)) ggX6_allCoins_X2_toolAt
theorem dX6_allCoins_0 : decode cX6_allCoins 0 = .ok (.aload_n 0, 1) := by decide +kernel
theorem dX6_allCoins_1 : decode cX6_allCoins 1 = .ok (.getfield 12, 3) := by decide +kernel
theorem dX6_allCoins_4 : decode cX6_allCoins 4 = .ok (.getfield 85, 3) := by decide +kernel
theorem dX6_allCoins_7 : decode cX6_allCoins 7 = .ok (.istore_n 1, 1) := by decide +kernel
theorem dX6_allCoins_8 : decode cX6_allCoins 8 = .ok (.iconst 0, 1) := by decide +kernel
theorem dX6_allCoins_9 : decode cX6_allCoins 9 = .ok (.istore_n 2, 1) := by decide +kernel
theorem dX6_allCoins_10 : decode cX6_allCoins 10 = .ok (.iload_n 2, 1) := by decide +kernel
theorem dX6_allCoins_11 : decode cX6_allCoins 11 = .ok (.aload_n 0, 1) := by decide +kernel
theorem dX6_allCoins_12 : decode cX6_allCoins 12 = .ok (.getfield 12, 3) := by decide +kernel
theorem dX6_allCoins_15 : decode cX6_allCoins 15 = .ok (.getfield 88, 3) := by decide +kernel
theorem dX6_allCoins_18 : decode cX6_allCoins 18 = .ok (.if_icmp .ge 23, 3) := by decide +kernel
theorem dX6_allCoins_21 : decode cX6_allCoins 21 = .ok (.iload_n 1, 1) := by decide +kernel
theorem dX6_allCoins_22 : decode cX6_allCoins 22 = .ok (.aload_n 0, 1) := by decide +kernel
theorem dX6_allCoins_23 : decode cX6_allCoins 23 = .ok (.getfield 12, 3) := by decide +kernel
theorem dX6_allCoins_26 : decode cX6_allCoins 26 = .ok (.iload_n 2, 1) := by decide +kernel
theorem dX6_allCoins_27 : decode cX6_allCoins 27 = .ok (.invokevirtual 91, 3) := by decide +kernel
theorem dX6_allCoins_30 : decode cX6_allCoins 30 = .ok (.getfield 95, 3) := by decide +kernel
theorem dX6_allCoins_33 : decode cX6_allCoins 33 = .ok (.iadd, 1) := by decide +kernel
theorem dX6_allCoins_34 : decode cX6_allCoins 34 = .ok (.istore_n 1, 1) := by decide +kernel
theorem dX6_allCoins_35 : decode cX6_allCoins 35 = .ok (.iinc 2 1, 3) := by decide +kernel
theorem dX6_allCoins_38 : decode cX6_allCoins 38 = .ok (.goto (-28), 3) := by decide +kernel
theorem dX6_allCoins_41 : decode cX6_allCoins 41 = .ok (.iconst 0, 1) := by decide +kernel
theorem dX6_allCoins_42 : decode cX6_allCoins 42 = .ok (.istore_n 2, 1) := by decide +kernel
theorem dX6_allCoins_43 : decode cX6_allCoins 43 = .ok (.iload_n 2, 1) := by decide +kernel
theorem dX6_allCoins_44 : decode cX6_allCoins 44 = .ok (.aload_n 0, 1) := by decide +kernel
theorem dX6_allCoins_45 : decode cX6_allCoins 45 = .ok (.getfield 12, 3) := by decide +kernel
theorem dX6_allCoins_48 : decode cX6_allCoins 48 = .ok (.getfield 69, 3) := by decide +kernel
theorem dX6_allCoins_51 : decode cX6_allCoins 51 = .ok (.if_icmp .ge 23, 3) := by decide +kernel
theorem dX6_allCoins_54 : decode cX6_allCoins 54 = .ok (.iload_n 1, 1) := by decide +kernel
theorem dX6_allCoins_55 : decode cX6_allCoins 55 = .ok (.aload_n 0, 1) := by decide +kernel
theorem dX6_allCoins_56 : decode cX6_allCoins 56 = .ok (.getfield 12, 3) := by decide +kernel
theorem dX6_allCoins_59 : decode cX6_allCoins 59 = .ok (.iload_n 2, 1) := by decide +kernel
theorem dX6_allCoins_60 : decode cX6_allCoins 60 = .ok (.invokevirtual 25, 3) := by decide +kernel
theorem dX6_allCoins_63 : decode cX6_allCoins 63 = .ok (.getfield 100, 3) := by decide +kernel
theorem dX6_allCoins_66 : decode cX6_allCoins 66 = .ok (.iadd, 1) := by decide +kernel
theorem dX6_allCoins_67 : decode cX6_allCoins 67 = .ok (.istore_n 1, 1) := by decide +kernel
theorem dX6_allCoins_68 : decode cX6_allCoins 68 = .ok (.iinc 2 1, 3) := by decide +kernel
theorem dX6_allCoins_71 : decode cX6_allCoins 71 = .ok (.goto (-28), 3) := by decide +kernel
theorem dX6_allCoins_74 : decode cX6_allCoins 74 = .ok (.iload_n 1, 1) := by decide +kernel
theorem dX6_allCoins_75 : decode cX6_allCoins 75 = .ok (.ireturn, 1) := by decide +kernel
set_option maxRecDepth 20000 in
theorem ggX6_allDebts_X2_personAt : GoodIn wsX6_allDebts wsX2_personAt := goodIn_r _ [8, 9, 10, 13, 14, 15, 16, 17, 18, 19, 20, 21, 22, 23] (by decide +kernel) (by decide +kernel)
set_option maxRecDepth 20000 in
theorem gX6_allDebts_X2_personAt : GoodIn wsX6_allDebts (wsV RX6 91 RX2 yX2_personAt wsX2_personAt) := goodIn_app (goodIn_of _ (by decide +kernel)) ggX6_allDebts_X2_personAt
theorem dX6_allDebts_0 : decode cX6_allDebts 0 = .ok (.iconst 0, 1) := by decide +kernel
theorem dX6_allDebts_1 : decode cX6_allDebts 1 = .ok (.istore_n 1, 1) := by decide +kernel
theorem dX6_allDebts_2 : decode cX6_allDebts 2 = .ok (.iconst 0, 1) := by decide +kernel
theorem dX6_allDebts_3 : decode cX6_allDebts 3 = .ok (.istore_n 2, 1) := by decide +kernel
theorem dX6_allDebts_4 : decode cX6_allDebts 4 = .ok (.iload_n 2, 1) := by decide +kernel
theorem dX6_allDebts_5 : decode cX6_allDebts 5 = .ok (.aload_n 0, 1) := by decide +kernel
theorem dX6_allDebts_6 : decode cX6_allDebts 6 = .ok (.getfield 12, 3) := by decide +kernel
theorem dX6_allDebts_9 : decode cX6_allDebts 9 = .ok (.getfield 88, 3) := by decide +kernel
theorem dX6_allDebts_12 : decode cX6_allDebts 12 = .ok (.if_icmp .ge 23, 3) := by decide +kernel
theorem dX6_allDebts_15 : decode cX6_allDebts 15 = .ok (.iload_n 1, 1) := by decide +kernel
theorem dX6_allDebts_16 : decode cX6_allDebts 16 = .ok (.aload_n 0, 1) := by decide +kernel
theorem dX6_allDebts_17 : decode cX6_allDebts 17 = .ok (.getfield 12, 3) := by decide +kernel
theorem dX6_allDebts_20 : decode cX6_allDebts 20 = .ok (.iload_n 2, 1) := by decide +kernel
theorem dX6_allDebts_21 : decode cX6_allDebts 21 = .ok (.invokevirtual 91, 3) := by decide +kernel
theorem dX6_allDebts_24 : decode cX6_allDebts 24 = .ok (.getfield 103, 3) := by decide +kernel
theorem dX6_allDebts_27 : decode cX6_allDebts 27 = .ok (.iadd, 1) := by decide +kernel
theorem dX6_allDebts_28 : decode cX6_allDebts 28 = .ok (.istore_n 1, 1) := by decide +kernel
theorem dX6_allDebts_29 : decode cX6_allDebts 29 = .ok (.iinc 2 1, 3) := by decide +kernel
theorem dX6_allDebts_32 : decode cX6_allDebts 32 = .ok (.goto (-28), 3) := by decide +kernel
theorem dX6_allDebts_35 : decode cX6_allDebts 35 = .ok (.iload_n 1, 1) := by decide +kernel
theorem dX6_allDebts_36 : decode cX6_allDebts 36 = .ok (.ireturn, 1) := by decide +kernel
set_option maxRecDepth 20000 in
theorem ggX6_toolsDueBefore_X2_toolAt : GoodIn wsX6_toolsDueBefore wsX2_toolAt := goodIn_r _ [7, 8, 9, 27, 28, 29, 30, 31, 32, 33, 34, 35, 36, 37] (by decide +kernel) (by decide +kernel)
set_option maxRecDepth 20000 in
theorem gX6_toolsDueBefore_X2_toolAt : GoodIn wsX6_toolsDueBefore (wsV RX6 25 RX2 yX2_toolAt wsX2_toolAt) := goodIn_app (goodIn_of _ (by decide +kernel)) ggX6_toolsDueBefore_X2_toolAt
set_option maxRecDepth 20000 in
theorem ggX6_toolsDueBefore_X7_daysLateOn : GoodIn wsX6_toolsDueBefore wsX7_daysLateOn := goodIn_r _ [14, 15, 16, 17, 18, 19, 20, 21, 22, 13, 23, 24, 38, 39, 40, 41, 42, 43, 44, 45, 46, 47] (by decide +kernel) (by decide +kernel)
set_option maxRecDepth 20000 in
theorem gX6_toolsDueBefore_X7_daysLateOn : GoodIn wsX6_toolsDueBefore (wsV RX6 106 RX7 yX7_daysLateOn wsX7_daysLateOn) := goodIn_app (goodIn_of _ (by decide +kernel)) ggX6_toolsDueBefore_X7_daysLateOn
theorem dX6_toolsDueBefore_0 : decode cX6_toolsDueBefore 0 = .ok (.iconst 0, 1) := by decide +kernel
theorem dX6_toolsDueBefore_1 : decode cX6_toolsDueBefore 1 = .ok (.istore_n 2, 1) := by decide +kernel
theorem dX6_toolsDueBefore_2 : decode cX6_toolsDueBefore 2 = .ok (.iconst 0, 1) := by decide +kernel
theorem dX6_toolsDueBefore_3 : decode cX6_toolsDueBefore 3 = .ok (.istore_n 3, 1) := by decide +kernel
theorem dX6_toolsDueBefore_4 : decode cX6_toolsDueBefore 4 = .ok (.iload_n 3, 1) := by decide +kernel
theorem dX6_toolsDueBefore_5 : decode cX6_toolsDueBefore 5 = .ok (.aload_n 0, 1) := by decide +kernel
theorem dX6_toolsDueBefore_6 : decode cX6_toolsDueBefore 6 = .ok (.getfield 12, 3) := by decide +kernel
theorem dX6_toolsDueBefore_9 : decode cX6_toolsDueBefore 9 = .ok (.getfield 69, 3) := by decide +kernel
theorem dX6_toolsDueBefore_12 : decode cX6_toolsDueBefore 12 = .ok (.if_icmp .ge 27, 3) := by decide +kernel
theorem dX6_toolsDueBefore_15 : decode cX6_toolsDueBefore 15 = .ok (.aload_n 0, 1) := by decide +kernel
theorem dX6_toolsDueBefore_16 : decode cX6_toolsDueBefore 16 = .ok (.getfield 12, 3) := by decide +kernel
theorem dX6_toolsDueBefore_19 : decode cX6_toolsDueBefore 19 = .ok (.iload_n 3, 1) := by decide +kernel
theorem dX6_toolsDueBefore_20 : decode cX6_toolsDueBefore 20 = .ok (.invokevirtual 25, 3) := by decide +kernel
theorem dX6_toolsDueBefore_23 : decode cX6_toolsDueBefore 23 = .ok (.iload_n 1, 1) := by decide +kernel
theorem dX6_toolsDueBefore_24 : decode cX6_toolsDueBefore 24 = .ok (.invokevirtual 106, 3) := by decide +kernel
theorem dX6_toolsDueBefore_27 : decode cX6_toolsDueBefore 27 = .ok (.ifCond .le 6, 3) := by decide +kernel
theorem dX6_toolsDueBefore_30 : decode cX6_toolsDueBefore 30 = .ok (.iinc 2 1, 3) := by decide +kernel
theorem dX6_toolsDueBefore_33 : decode cX6_toolsDueBefore 33 = .ok (.iinc 3 1, 3) := by decide +kernel
theorem dX6_toolsDueBefore_36 : decode cX6_toolsDueBefore 36 = .ok (.goto (-32), 3) := by decide +kernel
theorem dX6_toolsDueBefore_39 : decode cX6_toolsDueBefore 39 = .ok (.iload_n 2, 1) := by decide +kernel
theorem dX6_toolsDueBefore_40 : decode cX6_toolsDueBefore 40 = .ok (.ireturn, 1) := by decide +kernel
set_option maxRecDepth 20000 in
theorem ggX6_feesOn_X2_toolAt : GoodIn wsX6_feesOn wsX2_toolAt := goodIn_r _ [7, 8, 9, 36, 37, 38, 39, 40, 41, 42, 43, 44, 45, 46] (by decide +kernel) (by decide +kernel)
set_option maxRecDepth 20000 in
theorem gX6_feesOn_X2_toolAt : GoodIn wsX6_feesOn (wsV RX6 25 RX2 yX2_toolAt wsX2_toolAt) := goodIn_app (goodIn_of _ (by decide +kernel)) ggX6_feesOn_X2_toolAt
set_option maxRecDepth 20000 in
theorem ggX6_feesOn_X7_feeOn : GoodIn wsX6_feesOn wsX7_feeOn := goodIn_r _ [14, 15, 16, 17, 18, 19, 20, 21, 22, 23, 13, 24, 25, 26, 27, 28, 29, 30, 31, 32, 33, 47, 48, 49, 50, 51, 52, 53, 54, 55, 56] (by decide +kernel) (by decide +kernel)
set_option maxRecDepth 20000 in
theorem gX6_feesOn_X7_feeOn : GoodIn wsX6_feesOn (wsV RX6 110 RX7 yX7_feeOn wsX7_feeOn) := goodIn_app (goodIn_of _ (by decide +kernel)) ggX6_feesOn_X7_feeOn
theorem dX6_feesOn_0 : decode cX6_feesOn 0 = .ok (.iconst 0, 1) := by decide +kernel
theorem dX6_feesOn_1 : decode cX6_feesOn 1 = .ok (.istore_n 2, 1) := by decide +kernel
theorem dX6_feesOn_2 : decode cX6_feesOn 2 = .ok (.iconst 0, 1) := by decide +kernel
theorem dX6_feesOn_3 : decode cX6_feesOn 3 = .ok (.istore_n 3, 1) := by decide +kernel
theorem dX6_feesOn_4 : decode cX6_feesOn 4 = .ok (.iload_n 3, 1) := by decide +kernel
theorem dX6_feesOn_5 : decode cX6_feesOn 5 = .ok (.aload_n 0, 1) := by decide +kernel
theorem dX6_feesOn_6 : decode cX6_feesOn 6 = .ok (.getfield 12, 3) := by decide +kernel
theorem dX6_feesOn_9 : decode cX6_feesOn 9 = .ok (.getfield 69, 3) := by decide +kernel
theorem dX6_feesOn_12 : decode cX6_feesOn 12 = .ok (.if_icmp .ge 24, 3) := by decide +kernel
theorem dX6_feesOn_15 : decode cX6_feesOn 15 = .ok (.iload_n 2, 1) := by decide +kernel
theorem dX6_feesOn_16 : decode cX6_feesOn 16 = .ok (.aload_n 0, 1) := by decide +kernel
theorem dX6_feesOn_17 : decode cX6_feesOn 17 = .ok (.getfield 12, 3) := by decide +kernel
theorem dX6_feesOn_20 : decode cX6_feesOn 20 = .ok (.iload_n 3, 1) := by decide +kernel
theorem dX6_feesOn_21 : decode cX6_feesOn 21 = .ok (.invokevirtual 25, 3) := by decide +kernel
theorem dX6_feesOn_24 : decode cX6_feesOn 24 = .ok (.iload_n 1, 1) := by decide +kernel
theorem dX6_feesOn_25 : decode cX6_feesOn 25 = .ok (.invokevirtual 110, 3) := by decide +kernel
theorem dX6_feesOn_28 : decode cX6_feesOn 28 = .ok (.iadd, 1) := by decide +kernel
theorem dX6_feesOn_29 : decode cX6_feesOn 29 = .ok (.istore_n 2, 1) := by decide +kernel
theorem dX6_feesOn_30 : decode cX6_feesOn 30 = .ok (.iinc 3 1, 3) := by decide +kernel
theorem dX6_feesOn_33 : decode cX6_feesOn 33 = .ok (.goto (-29), 3) := by decide +kernel
theorem dX6_feesOn_36 : decode cX6_feesOn 36 = .ok (.iload_n 2, 1) := by decide +kernel
theorem dX6_feesOn_37 : decode cX6_feesOn 37 = .ok (.ireturn, 1) := by decide +kernel
set_option maxRecDepth 20000 in
theorem ggX6_leasedCount_X2_toolAt : GoodIn wsX6_leasedCount wsX2_toolAt := goodIn_r _ [7, 8, 9, 18, 19, 20, 21, 22, 23, 24, 25, 26, 27, 28] (by decide +kernel) (by decide +kernel)
set_option maxRecDepth 20000 in
theorem gX6_leasedCount_X2_toolAt : GoodIn wsX6_leasedCount (wsV RX6 25 RX2 yX2_toolAt wsX2_toolAt) := goodIn_app (goodIn_of _ (by decide +kernel)) ggX6_leasedCount_X2_toolAt
set_option maxRecDepth 20000 in
theorem ggX6_leasedCount_X7_isLeased : GoodIn wsX6_leasedCount wsX7_isLeased := goodIn_r _ [14, 15, 29, 30, 31, 32, 33, 34, 35, 36, 37, 38] (by decide +kernel) (by decide +kernel)
set_option maxRecDepth 20000 in
theorem gX6_leasedCount_X7_isLeased : GoodIn wsX6_leasedCount (wsV RX6 113 RX7 yX7_isLeased wsX7_isLeased) := goodIn_app (goodIn_of _ (by decide +kernel)) ggX6_leasedCount_X7_isLeased
theorem dX6_leasedCount_0 : decode cX6_leasedCount 0 = .ok (.iconst 0, 1) := by decide +kernel
theorem dX6_leasedCount_1 : decode cX6_leasedCount 1 = .ok (.istore_n 1, 1) := by decide +kernel
theorem dX6_leasedCount_2 : decode cX6_leasedCount 2 = .ok (.iconst 0, 1) := by decide +kernel
theorem dX6_leasedCount_3 : decode cX6_leasedCount 3 = .ok (.istore_n 2, 1) := by decide +kernel
theorem dX6_leasedCount_4 : decode cX6_leasedCount 4 = .ok (.iload_n 2, 1) := by decide +kernel
theorem dX6_leasedCount_5 : decode cX6_leasedCount 5 = .ok (.aload_n 0, 1) := by decide +kernel
theorem dX6_leasedCount_6 : decode cX6_leasedCount 6 = .ok (.getfield 12, 3) := by decide +kernel
theorem dX6_leasedCount_9 : decode cX6_leasedCount 9 = .ok (.getfield 69, 3) := by decide +kernel
theorem dX6_leasedCount_12 : decode cX6_leasedCount 12 = .ok (.if_icmp .ge 26, 3) := by decide +kernel
theorem dX6_leasedCount_15 : decode cX6_leasedCount 15 = .ok (.aload_n 0, 1) := by decide +kernel
theorem dX6_leasedCount_16 : decode cX6_leasedCount 16 = .ok (.getfield 12, 3) := by decide +kernel
theorem dX6_leasedCount_19 : decode cX6_leasedCount 19 = .ok (.iload_n 2, 1) := by decide +kernel
theorem dX6_leasedCount_20 : decode cX6_leasedCount 20 = .ok (.invokevirtual 25, 3) := by decide +kernel
theorem dX6_leasedCount_23 : decode cX6_leasedCount 23 = .ok (.invokevirtual 113, 3) := by decide +kernel
theorem dX6_leasedCount_26 : decode cX6_leasedCount 26 = .ok (.ifCond .eq 6, 3) := by decide +kernel
theorem dX6_leasedCount_29 : decode cX6_leasedCount 29 = .ok (.iinc 1 1, 3) := by decide +kernel
theorem dX6_leasedCount_32 : decode cX6_leasedCount 32 = .ok (.iinc 2 1, 3) := by decide +kernel
theorem dX6_leasedCount_35 : decode cX6_leasedCount 35 = .ok (.goto (-31), 3) := by decide +kernel
theorem dX6_leasedCount_38 : decode cX6_leasedCount 38 = .ok (.iload_n 1, 1) := by decide +kernel
theorem dX6_leasedCount_39 : decode cX6_leasedCount 39 = .ok (.ireturn, 1) := by decide +kernel
set_option maxRecDepth 20000 in
theorem ggX6_claimCount_X2_toolAt : GoodIn wsX6_claimCount wsX2_toolAt := goodIn_r _ [8, 9, 10, 19, 20, 21, 22, 23, 24, 25, 26, 27, 28, 29] (by decide +kernel) (by decide +kernel)
set_option maxRecDepth 20000 in
theorem gX6_claimCount_X2_toolAt : GoodIn wsX6_claimCount (wsV RX6 25 RX2 yX2_toolAt wsX2_toolAt) := goodIn_app (goodIn_of _ (by decide +kernel)) ggX6_claimCount_X2_toolAt
set_option maxRecDepth 20000 in
theorem ggX6_claimCount_X4_size : GoodIn wsX6_claimCount wsX4_size := goodIn_r _ [15, 16, 40, 41, 42, 43] (by decide +kernel) (by decide +kernel)
set_option maxRecDepth 20000 in
theorem gX6_claimCount_X4_size : GoodIn wsX6_claimCount (wsV RX6 117 RX4 yX4_size wsX4_size) := goodIn_app (goodIn_of _ (by decide +kernel)) ggX6_claimCount_X4_size
theorem dX6_claimCount_0 : decode cX6_claimCount 0 = .ok (.iconst 0, 1) := by decide +kernel
theorem dX6_claimCount_1 : decode cX6_claimCount 1 = .ok (.istore_n 1, 1) := by decide +kernel
theorem dX6_claimCount_2 : decode cX6_claimCount 2 = .ok (.iconst 0, 1) := by decide +kernel
theorem dX6_claimCount_3 : decode cX6_claimCount 3 = .ok (.istore_n 2, 1) := by decide +kernel
theorem dX6_claimCount_4 : decode cX6_claimCount 4 = .ok (.iload_n 2, 1) := by decide +kernel
theorem dX6_claimCount_5 : decode cX6_claimCount 5 = .ok (.aload_n 0, 1) := by decide +kernel
theorem dX6_claimCount_6 : decode cX6_claimCount 6 = .ok (.getfield 12, 3) := by decide +kernel
theorem dX6_claimCount_9 : decode cX6_claimCount 9 = .ok (.getfield 69, 3) := by decide +kernel
theorem dX6_claimCount_12 : decode cX6_claimCount 12 = .ok (.if_icmp .ge 26, 3) := by decide +kernel
theorem dX6_claimCount_15 : decode cX6_claimCount 15 = .ok (.iload_n 1, 1) := by decide +kernel
theorem dX6_claimCount_16 : decode cX6_claimCount 16 = .ok (.aload_n 0, 1) := by decide +kernel
theorem dX6_claimCount_17 : decode cX6_claimCount 17 = .ok (.getfield 12, 3) := by decide +kernel
theorem dX6_claimCount_20 : decode cX6_claimCount 20 = .ok (.iload_n 2, 1) := by decide +kernel
theorem dX6_claimCount_21 : decode cX6_claimCount 21 = .ok (.invokevirtual 25, 3) := by decide +kernel
theorem dX6_claimCount_24 : decode cX6_claimCount 24 = .ok (.getfield 33, 3) := by decide +kernel
theorem dX6_claimCount_27 : decode cX6_claimCount 27 = .ok (.invokevirtual 117, 3) := by decide +kernel
theorem dX6_claimCount_30 : decode cX6_claimCount 30 = .ok (.iadd, 1) := by decide +kernel
theorem dX6_claimCount_31 : decode cX6_claimCount 31 = .ok (.istore_n 1, 1) := by decide +kernel
theorem dX6_claimCount_32 : decode cX6_claimCount 32 = .ok (.iinc 2 1, 3) := by decide +kernel
theorem dX6_claimCount_35 : decode cX6_claimCount 35 = .ok (.goto (-31), 3) := by decide +kernel
theorem dX6_claimCount_38 : decode cX6_claimCount 38 = .ok (.iload_n 1, 1) := by decide +kernel
theorem dX6_claimCount_39 : decode cX6_claimCount 39 = .ok (.ireturn, 1) := by decide +kernel
set_option maxRecDepth 20000 in
theorem ggX7_init_X4_init : GoodIn wsX7_init wsX4_init := goodIn_r _ [12, 13, 2, 3, 14, 15, 16, 17, 18, 19, 20, 21, 22, 23, 24, 25] (by decide +kernel) (by decide +kernel)
set_option maxRecDepth 20000 in
theorem gX7_init_X4_init : GoodIn wsX7_init (wsX4_init) := ggX7_init_X4_init
theorem dX7_init_0 : decode cX7_init 0 = .ok (.aload_n 0, 1) := by decide +kernel
theorem dX7_init_1 : decode cX7_init 1 = .ok (.invokespecial 3, 3) := by decide +kernel
theorem dX7_init_4 : decode cX7_init 4 = .ok (.aload_n 0, 1) := by decide +kernel
theorem dX7_init_5 : decode cX7_init 5 = .ok (.new 9, 3) := by decide +kernel
theorem dX7_init_8 : decode cX7_init 8 = .ok (.dup, 1) := by decide +kernel
theorem dX7_init_9 : decode cX7_init 9 = .ok (.bipush 8, 2) := by decide +kernel
theorem dX7_init_11 : decode cX7_init 11 = .ok (.iconst 3, 1) := by decide +kernel
theorem dX7_init_12 : decode cX7_init 12 = .ok (.invokespecial 11, 3) := by decide +kernel
theorem dX7_init_15 : decode cX7_init 15 = .ok (.putfield 14, 3) := by decide +kernel
theorem dX7_init_18 : decode cX7_init 18 = .ok (.aload_n 0, 1) := by decide +kernel
theorem dX7_init_19 : decode cX7_init 19 = .ok (.new 9, 3) := by decide +kernel
theorem dX7_init_22 : decode cX7_init 22 = .ok (.dup, 1) := by decide +kernel
theorem dX7_init_23 : decode cX7_init 23 = .ok (.bipush 6, 2) := by decide +kernel
theorem dX7_init_25 : decode cX7_init 25 = .ok (.iconst 4, 1) := by decide +kernel
theorem dX7_init_26 : decode cX7_init 26 = .ok (.invokespecial 11, 3) := by decide +kernel
theorem dX7_init_29 : decode cX7_init 29 = .ok (.putfield 20, 3) := by decide +kernel
theorem dX7_init_32 : decode cX7_init 32 = .ok (.aload_n 0, 1) := by decide +kernel
theorem dX7_init_33 : decode cX7_init 33 = .ok (.new 9, 3) := by decide +kernel
theorem dX7_init_36 : decode cX7_init 36 = .ok (.dup, 1) := by decide +kernel
theorem dX7_init_37 : decode cX7_init 37 = .ok (.bipush 8, 2) := by decide +kernel
theorem dX7_init_39 : decode cX7_init 39 = .ok (.iconst 4, 1) := by decide +kernel
theorem dX7_init_40 : decode cX7_init 40 = .ok (.invokespecial 11, 3) := by decide +kernel
theorem dX7_init_43 : decode cX7_init 43 = .ok (.putfield 23, 3) := by decide +kernel
theorem dX7_init_46 : decode cX7_init 46 = .ok (.return_, 1) := by decide +kernel
set_option maxRecDepth 20000 in
theorem ggX7_comeIn_X4_clear : GoodIn wsX7_comeIn wsX4_clear := goodIn_r _ [11, 12, 51, 52, 53, 54] (by decide +kernel) (by decide +kernel)
set_option maxRecDepth 20000 in
theorem gX7_comeIn_X4_clear : GoodIn wsX7_comeIn (wsV RX7 36 RX4 yX4_clear wsX4_clear) := goodIn_app (goodIn_of _ (by decide +kernel)) ggX7_comeIn_X4_clear
set_option maxRecDepth 20000 in
theorem ggX7_comeIn_X7_stayAtOffice : GoodIn wsX7_comeIn wsX7_stayAtOffice := goodIn_r _ [17, 18, 19, 20, 21, 41, 42, 43, 44, 45, 46, 47, 48, 49, 50] (by decide +kernel) (by decide +kernel)
set_option maxRecDepth 20000 in
theorem gX7_comeIn_X7_stayAtOffice : GoodIn wsX7_comeIn (wsV RX7 39 RX7 yX7_stayAtOffice wsX7_stayAtOffice) := goodIn_app (goodIn_of _ (by decide +kernel)) ggX7_comeIn_X7_stayAtOffice
set_option maxRecDepth 20000 in
theorem ggX7_comeIn_X7_noteLook : GoodIn wsX7_comeIn wsX7_noteLook := goodIn_r _ [25, 5, 2, 3, 26, 27, 28, 10, 29, 12, 30, 31, 32, 33, 34, 35, 36, 37, 38, 39, 16, 40, 18, 41, 42, 43, 44, 45, 46, 47, 48, 49, 50, 51, 52, 53, 54] (by decide +kernel) (by decide +kernel)
set_option maxRecDepth 20000 in
theorem gX7_comeIn_X7_noteLook : GoodIn wsX7_comeIn (wsV RX7 42 RX7 yX7_noteLook wsX7_noteLook) := goodIn_app (goodIn_of _ (by decide +kernel)) ggX7_comeIn_X7_noteLook
theorem dX7_comeIn_0 : decode cX7_comeIn 0 = .ok (.aload_n 0, 1) := by decide +kernel
theorem dX7_comeIn_1 : decode cX7_comeIn 1 = .ok (.iload_n 1, 1) := by decide +kernel
theorem dX7_comeIn_2 : decode cX7_comeIn 2 = .ok (.putfield 26, 3) := by decide +kernel
theorem dX7_comeIn_5 : decode cX7_comeIn 5 = .ok (.aload_n 0, 1) := by decide +kernel
theorem dX7_comeIn_6 : decode cX7_comeIn 6 = .ok (.iconst 0, 1) := by decide +kernel
theorem dX7_comeIn_7 : decode cX7_comeIn 7 = .ok (.putfield 30, 3) := by decide +kernel
theorem dX7_comeIn_10 : decode cX7_comeIn 10 = .ok (.aload_n 0, 1) := by decide +kernel
theorem dX7_comeIn_11 : decode cX7_comeIn 11 = .ok (.iconst 0, 1) := by decide +kernel
theorem dX7_comeIn_12 : decode cX7_comeIn 12 = .ok (.putfield 33, 3) := by decide +kernel
theorem dX7_comeIn_15 : decode cX7_comeIn 15 = .ok (.aload_n 0, 1) := by decide +kernel
theorem dX7_comeIn_16 : decode cX7_comeIn 16 = .ok (.getfield 14, 3) := by decide +kernel
theorem dX7_comeIn_19 : decode cX7_comeIn 19 = .ok (.invokevirtual 36, 3) := by decide +kernel
theorem dX7_comeIn_22 : decode cX7_comeIn 22 = .ok (.aload_n 0, 1) := by decide +kernel
theorem dX7_comeIn_23 : decode cX7_comeIn 23 = .ok (.getfield 20, 3) := by decide +kernel
theorem dX7_comeIn_26 : decode cX7_comeIn 26 = .ok (.invokevirtual 36, 3) := by decide +kernel
theorem dX7_comeIn_29 : decode cX7_comeIn 29 = .ok (.aload_n 0, 1) := by decide +kernel
theorem dX7_comeIn_30 : decode cX7_comeIn 30 = .ok (.getfield 23, 3) := by decide +kernel
theorem dX7_comeIn_33 : decode cX7_comeIn 33 = .ok (.invokevirtual 36, 3) := by decide +kernel
theorem dX7_comeIn_36 : decode cX7_comeIn 36 = .ok (.aload_n 0, 1) := by decide +kernel
theorem dX7_comeIn_37 : decode cX7_comeIn 37 = .ok (.invokevirtual 39, 3) := by decide +kernel
theorem dX7_comeIn_40 : decode cX7_comeIn 40 = .ok (.aload_n 0, 1) := by decide +kernel
theorem dX7_comeIn_41 : decode cX7_comeIn 41 = .ok (.iload_n 2, 1) := by decide +kernel
theorem dX7_comeIn_42 : decode cX7_comeIn 42 = .ok (.invokevirtual 42, 3) := by decide +kernel
theorem dX7_comeIn_45 : decode cX7_comeIn 45 = .ok (.return_, 1) := by decide +kernel
theorem dX7_isLeased_0 : decode cX7_isLeased 0 = .ok (.aload_n 0, 1) := by decide +kernel
theorem dX7_isLeased_1 : decode cX7_isLeased 1 = .ok (.getfield 46, 3) := by decide +kernel
theorem dX7_isLeased_4 : decode cX7_isLeased 4 = .ok (.ifCond .lt 7, 3) := by decide +kernel
theorem dX7_isLeased_7 : decode cX7_isLeased 7 = .ok (.iconst 1, 1) := by decide +kernel
theorem dX7_isLeased_8 : decode cX7_isLeased 8 = .ok (.goto 4, 3) := by decide +kernel
theorem dX7_isLeased_11 : decode cX7_isLeased 11 = .ok (.iconst 0, 1) := by decide +kernel
theorem dX7_isLeased_12 : decode cX7_isLeased 12 = .ok (.ireturn, 1) := by decide +kernel
theorem dX7_stayAtOffice_0 : decode cX7_stayAtOffice 0 = .ok (.aload_n 0, 1) := by decide +kernel
theorem dX7_stayAtOffice_1 : decode cX7_stayAtOffice 1 = .ok (.bipush (-2), 2) := by decide +kernel
theorem dX7_stayAtOffice_3 : decode cX7_stayAtOffice 3 = .ok (.putfield 46, 3) := by decide +kernel
theorem dX7_stayAtOffice_6 : decode cX7_stayAtOffice 6 = .ok (.aload_n 0, 1) := by decide +kernel
theorem dX7_stayAtOffice_7 : decode cX7_stayAtOffice 7 = .ok (.bipush (-2), 2) := by decide +kernel
theorem dX7_stayAtOffice_9 : decode cX7_stayAtOffice 9 = .ok (.putfield 49, 3) := by decide +kernel
theorem dX7_stayAtOffice_12 : decode cX7_stayAtOffice 12 = .ok (.aload_n 0, 1) := by decide +kernel
theorem dX7_stayAtOffice_13 : decode cX7_stayAtOffice 13 = .ok (.bipush (-2), 2) := by decide +kernel
theorem dX7_stayAtOffice_15 : decode cX7_stayAtOffice 15 = .ok (.putfield 52, 3) := by decide +kernel
theorem dX7_stayAtOffice_18 : decode cX7_stayAtOffice 18 = .ok (.aload_n 0, 1) := by decide +kernel
theorem dX7_stayAtOffice_19 : decode cX7_stayAtOffice 19 = .ok (.iconst 0, 1) := by decide +kernel
theorem dX7_stayAtOffice_20 : decode cX7_stayAtOffice 20 = .ok (.putfield 55, 3) := by decide +kernel
theorem dX7_stayAtOffice_23 : decode cX7_stayAtOffice 23 = .ok (.return_, 1) := by decide +kernel
set_option maxRecDepth 20000 in
theorem ggX7_goTo_X4_append : GoodIn wsX7_goTo wsX4_append := goodIn_r _ [9, 10, 11, 12, 13, 28, 29, 30, 31] (by decide +kernel) (by decide +kernel)
set_option maxRecDepth 20000 in
theorem gX7_goTo_X4_append : GoodIn wsX7_goTo (wsV RX7 58 RX4 yX4_append wsX4_append) := goodIn_app (goodIn_of _ (by decide +kernel)) ggX7_goTo_X4_append
set_option maxRecDepth 20000 in
theorem ggX7_goTo_X4_setCell : GoodIn wsX7_goTo wsX4_setCell := goodIn_r _ [17, 10, 13, 12, 28, 29, 30, 31] (by decide +kernel) (by decide +kernel)
set_option maxRecDepth 20000 in
theorem gX7_goTo_X4_setCell : GoodIn wsX7_goTo (wsV RX7 62 RX4 yX4_setCell wsX4_setCell) := goodIn_app (goodIn_of _ (by decide +kernel)) ggX7_goTo_X4_setCell
theorem dX7_goTo_0 : decode cX7_goTo 0 = .ok (.aload_n 0, 1) := by decide +kernel
theorem dX7_goTo_1 : decode cX7_goTo 1 = .ok (.iload_n 1, 1) := by decide +kernel
theorem dX7_goTo_2 : decode cX7_goTo 2 = .ok (.putfield 46, 3) := by decide +kernel
theorem dX7_goTo_5 : decode cX7_goTo 5 = .ok (.aload_n 0, 1) := by decide +kernel
theorem dX7_goTo_6 : decode cX7_goTo 6 = .ok (.iload_n 2, 1) := by decide +kernel
theorem dX7_goTo_7 : decode cX7_goTo 7 = .ok (.putfield 49, 3) := by decide +kernel
theorem dX7_goTo_10 : decode cX7_goTo 10 = .ok (.aload_n 0, 1) := by decide +kernel
theorem dX7_goTo_11 : decode cX7_goTo 11 = .ok (.getfield 14, 3) := by decide +kernel
theorem dX7_goTo_14 : decode cX7_goTo 14 = .ok (.invokevirtual 58, 3) := by decide +kernel
theorem dX7_goTo_17 : decode cX7_goTo 17 = .ok (.istore_n 3, 1) := by decide +kernel
theorem dX7_goTo_18 : decode cX7_goTo 18 = .ok (.aload_n 0, 1) := by decide +kernel
theorem dX7_goTo_19 : decode cX7_goTo 19 = .ok (.getfield 14, 3) := by decide +kernel
theorem dX7_goTo_22 : decode cX7_goTo 22 = .ok (.iload_n 3, 1) := by decide +kernel
theorem dX7_goTo_23 : decode cX7_goTo 23 = .ok (.iconst 0, 1) := by decide +kernel
theorem dX7_goTo_24 : decode cX7_goTo 24 = .ok (.iload_n 1, 1) := by decide +kernel
theorem dX7_goTo_25 : decode cX7_goTo 25 = .ok (.invokevirtual 62, 3) := by decide +kernel
theorem dX7_goTo_28 : decode cX7_goTo 28 = .ok (.aload_n 0, 1) := by decide +kernel
theorem dX7_goTo_29 : decode cX7_goTo 29 = .ok (.getfield 14, 3) := by decide +kernel
theorem dX7_goTo_32 : decode cX7_goTo 32 = .ok (.iload_n 3, 1) := by decide +kernel
theorem dX7_goTo_33 : decode cX7_goTo 33 = .ok (.iconst 1, 1) := by decide +kernel
theorem dX7_goTo_34 : decode cX7_goTo 34 = .ok (.iload_n 2, 1) := by decide +kernel
theorem dX7_goTo_35 : decode cX7_goTo 35 = .ok (.invokevirtual 62, 3) := by decide +kernel
theorem dX7_goTo_38 : decode cX7_goTo 38 = .ok (.aload_n 0, 1) := by decide +kernel
theorem dX7_goTo_39 : decode cX7_goTo 39 = .ok (.getfield 14, 3) := by decide +kernel
theorem dX7_goTo_42 : decode cX7_goTo 42 = .ok (.iload_n 3, 1) := by decide +kernel
theorem dX7_goTo_43 : decode cX7_goTo 43 = .ok (.iconst 2, 1) := by decide +kernel
theorem dX7_goTo_44 : decode cX7_goTo 44 = .ok (.bipush (-2), 2) := by decide +kernel
theorem dX7_goTo_46 : decode cX7_goTo 46 = .ok (.invokevirtual 62, 3) := by decide +kernel
theorem dX7_goTo_49 : decode cX7_goTo 49 = .ok (.aload_n 0, 1) := by decide +kernel
theorem dX7_goTo_50 : decode cX7_goTo 50 = .ok (.dup, 1) := by decide +kernel
theorem dX7_goTo_51 : decode cX7_goTo 51 = .ok (.getfield 33, 3) := by decide +kernel
theorem dX7_goTo_54 : decode cX7_goTo 54 = .ok (.iconst 1, 1) := by decide +kernel
theorem dX7_goTo_55 : decode cX7_goTo 55 = .ok (.iadd, 1) := by decide +kernel
theorem dX7_goTo_56 : decode cX7_goTo 56 = .ok (.putfield 33, 3) := by decide +kernel
theorem dX7_goTo_59 : decode cX7_goTo 59 = .ok (.return_, 1) := by decide +kernel
set_option maxRecDepth 20000 in
theorem ggX7_endLink_X4_size : GoodIn wsX7_endLink wsX4_size := goodIn_r _ [6, 7, 24, 25, 26, 27] (by decide +kernel) (by decide +kernel)
set_option maxRecDepth 20000 in
theorem gX7_endLink_X4_size : GoodIn wsX7_endLink (wsV RX7 66 RX4 yX4_size wsX4_size) := goodIn_app (goodIn_of _ (by decide +kernel)) ggX7_endLink_X4_size
set_option maxRecDepth 20000 in
theorem ggX7_endLink_X4_setCell : GoodIn wsX7_endLink wsX4_setCell := goodIn_r _ [11, 7, 12, 13, 24, 25, 26, 27] (by decide +kernel) (by decide +kernel)
set_option maxRecDepth 20000 in
theorem gX7_endLink_X4_setCell : GoodIn wsX7_endLink (wsV RX7 62 RX4 yX4_setCell wsX4_setCell) := goodIn_app (goodIn_of _ (by decide +kernel)) ggX7_endLink_X4_setCell
theorem dX7_endLink_0 : decode cX7_endLink 0 = .ok (.aload_n 0, 1) := by decide +kernel
theorem dX7_endLink_1 : decode cX7_endLink 1 = .ok (.getfield 14, 3) := by decide +kernel
theorem dX7_endLink_4 : decode cX7_endLink 4 = .ok (.aload_n 0, 1) := by decide +kernel
theorem dX7_endLink_5 : decode cX7_endLink 5 = .ok (.getfield 14, 3) := by decide +kernel
theorem dX7_endLink_8 : decode cX7_endLink 8 = .ok (.invokevirtual 66, 3) := by decide +kernel
theorem dX7_endLink_11 : decode cX7_endLink 11 = .ok (.iconst 1, 1) := by decide +kernel
theorem dX7_endLink_12 : decode cX7_endLink 12 = .ok (.isub, 1) := by decide +kernel
theorem dX7_endLink_13 : decode cX7_endLink 13 = .ok (.iconst 2, 1) := by decide +kernel
theorem dX7_endLink_14 : decode cX7_endLink 14 = .ok (.iload_n 1, 1) := by decide +kernel
theorem dX7_endLink_15 : decode cX7_endLink 15 = .ok (.invokevirtual 62, 3) := by decide +kernel
theorem dX7_endLink_18 : decode cX7_endLink 18 = .ok (.return_, 1) := by decide +kernel
set_option maxRecDepth 20000 in
theorem ggX7_noteLook_X4_append : GoodIn wsX7_noteLook wsX4_append := goodIn_r _ [8, 9, 10, 11, 12, 33, 34, 35, 36] (by decide +kernel) (by decide +kernel)
set_option maxRecDepth 20000 in
theorem gX7_noteLook_X4_append : GoodIn wsX7_noteLook (wsV RX7 58 RX4 yX4_append wsX4_append) := goodIn_app (goodIn_of _ (by decide +kernel)) ggX7_noteLook_X4_append
set_option maxRecDepth 20000 in
theorem ggX7_noteLook_X4_setCell : GoodIn wsX7_noteLook wsX4_setCell := goodIn_r _ [16, 9, 12, 11, 33, 34, 35, 36] (by decide +kernel) (by decide +kernel)
set_option maxRecDepth 20000 in
theorem gX7_noteLook_X4_setCell : GoodIn wsX7_noteLook (wsV RX7 62 RX4 yX4_setCell wsX4_setCell) := goodIn_app (goodIn_of _ (by decide +kernel)) ggX7_noteLook_X4_setCell
set_option maxRecDepth 20000 in
theorem ggX7_noteLook_X7_isLeased : GoodIn wsX7_noteLook wsX7_isLeased := goodIn_r _ [21, 22, 23, 24, 25, 26, 27, 28, 29, 30, 31, 32] (by decide +kernel) (by decide +kernel)
set_option maxRecDepth 20000 in
theorem gX7_noteLook_X7_isLeased : GoodIn wsX7_noteLook (wsV RX7 69 RX7 yX7_isLeased wsX7_isLeased) := goodIn_app (goodIn_of _ (by decide +kernel)) ggX7_noteLook_X7_isLeased
theorem dX7_noteLook_0 : decode cX7_noteLook 0 = .ok (.aload_n 0, 1) := by decide +kernel
theorem dX7_noteLook_1 : decode cX7_noteLook 1 = .ok (.getfield 20, 3) := by decide +kernel
theorem dX7_noteLook_4 : decode cX7_noteLook 4 = .ok (.invokevirtual 58, 3) := by decide +kernel
theorem dX7_noteLook_7 : decode cX7_noteLook 7 = .ok (.istore_n 2, 1) := by decide +kernel
theorem dX7_noteLook_8 : decode cX7_noteLook 8 = .ok (.aload_n 0, 1) := by decide +kernel
theorem dX7_noteLook_9 : decode cX7_noteLook 9 = .ok (.getfield 20, 3) := by decide +kernel
theorem dX7_noteLook_12 : decode cX7_noteLook 12 = .ok (.iload_n 2, 1) := by decide +kernel
theorem dX7_noteLook_13 : decode cX7_noteLook 13 = .ok (.iconst 0, 1) := by decide +kernel
theorem dX7_noteLook_14 : decode cX7_noteLook 14 = .ok (.iload_n 1, 1) := by decide +kernel
theorem dX7_noteLook_15 : decode cX7_noteLook 15 = .ok (.invokevirtual 62, 3) := by decide +kernel
theorem dX7_noteLook_18 : decode cX7_noteLook 18 = .ok (.aload_n 0, 1) := by decide +kernel
theorem dX7_noteLook_19 : decode cX7_noteLook 19 = .ok (.getfield 20, 3) := by decide +kernel
theorem dX7_noteLook_22 : decode cX7_noteLook 22 = .ok (.iload_n 2, 1) := by decide +kernel
theorem dX7_noteLook_23 : decode cX7_noteLook 23 = .ok (.iconst 1, 1) := by decide +kernel
theorem dX7_noteLook_24 : decode cX7_noteLook 24 = .ok (.aload_n 0, 1) := by decide +kernel
theorem dX7_noteLook_25 : decode cX7_noteLook 25 = .ok (.getfield 30, 3) := by decide +kernel
theorem dX7_noteLook_28 : decode cX7_noteLook 28 = .ok (.invokevirtual 62, 3) := by decide +kernel
theorem dX7_noteLook_31 : decode cX7_noteLook 31 = .ok (.aload_n 0, 1) := by decide +kernel
theorem dX7_noteLook_32 : decode cX7_noteLook 32 = .ok (.getfield 20, 3) := by decide +kernel
theorem dX7_noteLook_35 : decode cX7_noteLook 35 = .ok (.iload_n 2, 1) := by decide +kernel
theorem dX7_noteLook_36 : decode cX7_noteLook 36 = .ok (.iconst 2, 1) := by decide +kernel
theorem dX7_noteLook_37 : decode cX7_noteLook 37 = .ok (.aload_n 0, 1) := by decide +kernel
theorem dX7_noteLook_38 : decode cX7_noteLook 38 = .ok (.getfield 33, 3) := by decide +kernel
theorem dX7_noteLook_41 : decode cX7_noteLook 41 = .ok (.invokevirtual 62, 3) := by decide +kernel
theorem dX7_noteLook_44 : decode cX7_noteLook 44 = .ok (.aload_n 0, 1) := by decide +kernel
theorem dX7_noteLook_45 : decode cX7_noteLook 45 = .ok (.getfield 20, 3) := by decide +kernel
theorem dX7_noteLook_48 : decode cX7_noteLook 48 = .ok (.iload_n 2, 1) := by decide +kernel
theorem dX7_noteLook_49 : decode cX7_noteLook 49 = .ok (.iconst 3, 1) := by decide +kernel
theorem dX7_noteLook_50 : decode cX7_noteLook 50 = .ok (.aload_n 0, 1) := by decide +kernel
theorem dX7_noteLook_51 : decode cX7_noteLook 51 = .ok (.invokevirtual 69, 3) := by decide +kernel
theorem dX7_noteLook_54 : decode cX7_noteLook 54 = .ok (.ifCond .eq 7, 3) := by decide +kernel
theorem dX7_noteLook_57 : decode cX7_noteLook 57 = .ok (.iconst 1, 1) := by decide +kernel
theorem dX7_noteLook_58 : decode cX7_noteLook 58 = .ok (.goto 4, 3) := by decide +kernel
theorem dX7_noteLook_61 : decode cX7_noteLook 61 = .ok (.iconst 0, 1) := by decide +kernel
theorem dX7_noteLook_62 : decode cX7_noteLook 62 = .ok (.invokevirtual 62, 3) := by decide +kernel
theorem dX7_noteLook_65 : decode cX7_noteLook 65 = .ok (.return_, 1) := by decide +kernel
set_option maxRecDepth 20000 in
theorem ggX7_wearSinceLook_X4_size : GoodIn wsX7_wearSinceLook wsX4_size := goodIn_r _ [7, 8, 25, 26, 27, 28] (by decide +kernel) (by decide +kernel)
set_option maxRecDepth 20000 in
theorem gX7_wearSinceLook_X4_size : GoodIn wsX7_wearSinceLook (wsV RX7 66 RX4 yX4_size wsX4_size) := goodIn_app (goodIn_of _ (by decide +kernel)) ggX7_wearSinceLook_X4_size
set_option maxRecDepth 20000 in
theorem ggX7_wearSinceLook_X4_cell : GoodIn wsX7_wearSinceLook wsX4_cell := goodIn_r _ [12, 8, 13, 14, 25, 26, 27, 28] (by decide +kernel) (by decide +kernel)
set_option maxRecDepth 20000 in
theorem gX7_wearSinceLook_X4_cell : GoodIn wsX7_wearSinceLook (wsV RX7 73 RX4 yX4_cell wsX4_cell) := goodIn_app (goodIn_of _ (by decide +kernel)) ggX7_wearSinceLook_X4_cell
theorem dX7_wearSinceLook_0 : decode cX7_wearSinceLook 0 = .ok (.aload_n 0, 1) := by decide +kernel
theorem dX7_wearSinceLook_1 : decode cX7_wearSinceLook 1 = .ok (.getfield 30, 3) := by decide +kernel
theorem dX7_wearSinceLook_4 : decode cX7_wearSinceLook 4 = .ok (.aload_n 0, 1) := by decide +kernel
theorem dX7_wearSinceLook_5 : decode cX7_wearSinceLook 5 = .ok (.getfield 20, 3) := by decide +kernel
theorem dX7_wearSinceLook_8 : decode cX7_wearSinceLook 8 = .ok (.aload_n 0, 1) := by decide +kernel
theorem dX7_wearSinceLook_9 : decode cX7_wearSinceLook 9 = .ok (.getfield 20, 3) := by decide +kernel
theorem dX7_wearSinceLook_12 : decode cX7_wearSinceLook 12 = .ok (.invokevirtual 66, 3) := by decide +kernel
theorem dX7_wearSinceLook_15 : decode cX7_wearSinceLook 15 = .ok (.iconst 1, 1) := by decide +kernel
theorem dX7_wearSinceLook_16 : decode cX7_wearSinceLook 16 = .ok (.isub, 1) := by decide +kernel
theorem dX7_wearSinceLook_17 : decode cX7_wearSinceLook 17 = .ok (.iconst 1, 1) := by decide +kernel
theorem dX7_wearSinceLook_18 : decode cX7_wearSinceLook 18 = .ok (.invokevirtual 73, 3) := by decide +kernel
theorem dX7_wearSinceLook_21 : decode cX7_wearSinceLook 21 = .ok (.isub, 1) := by decide +kernel
theorem dX7_wearSinceLook_22 : decode cX7_wearSinceLook 22 = .ok (.ireturn, 1) := by decide +kernel
set_option maxRecDepth 20000 in
theorem ggX7_cost_X7_wearSinceLook : GoodIn wsX7_cost wsX7_wearSinceLook := goodIn_r _ [10, 11, 12, 13, 14, 15, 16, 17, 18, 19, 20, 21, 22, 23, 24, 25, 26, 27, 28, 29, 30, 31, 32, 33, 34, 35, 36, 37, 38] (by decide +kernel) (by decide +kernel)
set_option maxRecDepth 20000 in
theorem gX7_cost_X7_wearSinceLook : GoodIn wsX7_cost (wsV RX7 77 RX7 yX7_wearSinceLook wsX7_wearSinceLook) := goodIn_app (goodIn_of _ (by decide +kernel)) ggX7_cost_X7_wearSinceLook
theorem dX7_cost_0 : decode cX7_cost 0 = .ok (.aload_n 0, 1) := by decide +kernel
theorem dX7_cost_1 : decode cX7_cost 1 = .ok (.getfield 26, 3) := by decide +kernel
theorem dX7_cost_4 : decode cX7_cost 4 = .ok (.aload_n 0, 1) := by decide +kernel
theorem dX7_cost_5 : decode cX7_cost 5 = .ok (.invokevirtual 77, 3) := by decide +kernel
theorem dX7_cost_8 : decode cX7_cost 8 = .ok (.iconst 0, 1) := by decide +kernel
theorem dX7_cost_9 : decode cX7_cost 9 = .ok (.invokestatic 80, 3) := by decide +kernel
theorem dX7_cost_12 : decode cX7_cost 12 = .ok (.imul, 1) := by decide +kernel
theorem dX7_cost_13 : decode cX7_cost 13 = .ok (.bipush 9, 2) := by decide +kernel
theorem dX7_cost_15 : decode cX7_cost 15 = .ok (.idiv, 1) := by decide +kernel
theorem dX7_cost_16 : decode cX7_cost 16 = .ok (.ireturn, 1) := by decide +kernel
set_option maxRecDepth 20000 in
theorem ggX7_daysLateOn_X7_isLeased : GoodIn wsX7_daysLateOn wsX7_isLeased := goodIn_r _ [10, 11, 12, 13, 14, 15, 16, 17, 18, 19, 20, 21] (by decide +kernel) (by decide +kernel)
set_option maxRecDepth 20000 in
theorem gX7_daysLateOn_X7_isLeased : GoodIn wsX7_daysLateOn (wsV RX7 69 RX7 yX7_isLeased wsX7_isLeased) := goodIn_app (goodIn_of _ (by decide +kernel)) ggX7_daysLateOn_X7_isLeased
theorem dX7_daysLateOn_0 : decode cX7_daysLateOn 0 = .ok (.aload_n 0, 1) := by decide +kernel
theorem dX7_daysLateOn_1 : decode cX7_daysLateOn 1 = .ok (.invokevirtual 69, 3) := by decide +kernel
theorem dX7_daysLateOn_4 : decode cX7_daysLateOn 4 = .ok (.ifCond .eq 16, 3) := by decide +kernel
theorem dX7_daysLateOn_7 : decode cX7_daysLateOn 7 = .ok (.iload_n 1, 1) := by decide +kernel
theorem dX7_daysLateOn_8 : decode cX7_daysLateOn 8 = .ok (.aload_n 0, 1) := by decide +kernel
theorem dX7_daysLateOn_9 : decode cX7_daysLateOn 9 = .ok (.getfield 52, 3) := by decide +kernel
theorem dX7_daysLateOn_12 : decode cX7_daysLateOn 12 = .ok (.isub, 1) := by decide +kernel
theorem dX7_daysLateOn_13 : decode cX7_daysLateOn 13 = .ok (.iconst 0, 1) := by decide +kernel
theorem dX7_daysLateOn_14 : decode cX7_daysLateOn 14 = .ok (.invokestatic 80, 3) := by decide +kernel
theorem dX7_daysLateOn_17 : decode cX7_daysLateOn 17 = .ok (.goto 4, 3) := by decide +kernel
theorem dX7_daysLateOn_20 : decode cX7_daysLateOn 20 = .ok (.iconst 0, 1) := by decide +kernel
theorem dX7_daysLateOn_21 : decode cX7_daysLateOn 21 = .ok (.ireturn, 1) := by decide +kernel
set_option maxRecDepth 20000 in
theorem ggX7_feeOn_X7_daysLateOn : GoodIn wsX7_feeOn wsX7_daysLateOn := goodIn_r _ [11, 12, 13, 14, 5, 15, 16, 17, 18, 10, 19, 20, 21, 22, 23, 24, 25, 26, 27, 28, 29, 30] (by decide +kernel) (by decide +kernel)
set_option maxRecDepth 20000 in
theorem gX7_feeOn_X7_daysLateOn : GoodIn wsX7_feeOn (wsV RX7 85 RX7 yX7_daysLateOn wsX7_daysLateOn) := goodIn_app (goodIn_of _ (by decide +kernel)) ggX7_feeOn_X7_daysLateOn
theorem dX7_feeOn_0 : decode cX7_feeOn 0 = .ok (.aload_n 0, 1) := by decide +kernel
theorem dX7_feeOn_1 : decode cX7_feeOn 1 = .ok (.iload_n 1, 1) := by decide +kernel
theorem dX7_feeOn_2 : decode cX7_feeOn 2 = .ok (.invokevirtual 85, 3) := by decide +kernel
theorem dX7_feeOn_5 : decode cX7_feeOn 5 = .ok (.iconst 1, 1) := by decide +kernel
theorem dX7_feeOn_6 : decode cX7_feeOn 6 = .ok (.aload_n 0, 1) := by decide +kernel
theorem dX7_feeOn_7 : decode cX7_feeOn 7 = .ok (.getfield 26, 3) := by decide +kernel
theorem dX7_feeOn_10 : decode cX7_feeOn 10 = .ok (.bipush 10, 2) := by decide +kernel
theorem dX7_feeOn_12 : decode cX7_feeOn 12 = .ok (.idiv, 1) := by decide +kernel
theorem dX7_feeOn_13 : decode cX7_feeOn 13 = .ok (.iadd, 1) := by decide +kernel
theorem dX7_feeOn_14 : decode cX7_feeOn 14 = .ok (.imul, 1) := by decide +kernel
theorem dX7_feeOn_15 : decode cX7_feeOn 15 = .ok (.aload_n 0, 1) := by decide +kernel
theorem dX7_feeOn_16 : decode cX7_feeOn 16 = .ok (.getfield 55, 3) := by decide +kernel
theorem dX7_feeOn_19 : decode cX7_feeOn 19 = .ok (.invokestatic 89, 3) := by decide +kernel
theorem dX7_feeOn_22 : decode cX7_feeOn 22 = .ok (.ireturn, 1) := by decide +kernel
set_option maxRecDepth 20000 in
theorem ggX7_placeOfClaim_X4_size : GoodIn wsX7_placeOfClaim wsX4_size := goodIn_r _ [6, 7, 24, 25, 26, 27] (by decide +kernel) (by decide +kernel)
set_option maxRecDepth 20000 in
theorem gX7_placeOfClaim_X4_size : GoodIn wsX7_placeOfClaim (wsV RX7 66 RX4 yX4_size wsX4_size) := goodIn_app (goodIn_of _ (by decide +kernel)) ggX7_placeOfClaim_X4_size
set_option maxRecDepth 20000 in
theorem ggX7_placeOfClaim_X4_cell : GoodIn wsX7_placeOfClaim wsX4_cell := goodIn_r _ [11, 7, 12, 13, 24, 25, 26, 27] (by decide +kernel) (by decide +kernel)
set_option maxRecDepth 20000 in
theorem gX7_placeOfClaim_X4_cell : GoodIn wsX7_placeOfClaim (wsV RX7 73 RX4 yX4_cell wsX4_cell) := goodIn_app (goodIn_of _ (by decide +kernel)) ggX7_placeOfClaim_X4_cell
theorem dX7_placeOfClaim_0 : decode cX7_placeOfClaim 0 = .ok (.iconst 0, 1) := by decide +kernel
theorem dX7_placeOfClaim_1 : decode cX7_placeOfClaim 1 = .ok (.istore_n 2, 1) := by decide +kernel
theorem dX7_placeOfClaim_2 : decode cX7_placeOfClaim 2 = .ok (.iload_n 2, 1) := by decide +kernel
theorem dX7_placeOfClaim_3 : decode cX7_placeOfClaim 3 = .ok (.aload_n 0, 1) := by decide +kernel
theorem dX7_placeOfClaim_4 : decode cX7_placeOfClaim 4 = .ok (.getfield 23, 3) := by decide +kernel
theorem dX7_placeOfClaim_7 : decode cX7_placeOfClaim 7 = .ok (.invokevirtual 66, 3) := by decide +kernel
theorem dX7_placeOfClaim_10 : decode cX7_placeOfClaim 10 = .ok (.if_icmp .ge 24, 3) := by decide +kernel
theorem dX7_placeOfClaim_13 : decode cX7_placeOfClaim 13 = .ok (.aload_n 0, 1) := by decide +kernel
theorem dX7_placeOfClaim_14 : decode cX7_placeOfClaim 14 = .ok (.getfield 23, 3) := by decide +kernel
theorem dX7_placeOfClaim_17 : decode cX7_placeOfClaim 17 = .ok (.iload_n 2, 1) := by decide +kernel
theorem dX7_placeOfClaim_18 : decode cX7_placeOfClaim 18 = .ok (.iconst 0, 1) := by decide +kernel
theorem dX7_placeOfClaim_19 : decode cX7_placeOfClaim 19 = .ok (.invokevirtual 73, 3) := by decide +kernel
theorem dX7_placeOfClaim_22 : decode cX7_placeOfClaim 22 = .ok (.iload_n 1, 1) := by decide +kernel
theorem dX7_placeOfClaim_23 : decode cX7_placeOfClaim 23 = .ok (.if_icmp .ne 5, 3) := by decide +kernel
theorem dX7_placeOfClaim_26 : decode cX7_placeOfClaim 26 = .ok (.iload_n 2, 1) := by decide +kernel
theorem dX7_placeOfClaim_27 : decode cX7_placeOfClaim 27 = .ok (.ireturn, 1) := by decide +kernel
theorem dX7_placeOfClaim_28 : decode cX7_placeOfClaim 28 = .ok (.iinc 2 1, 3) := by decide +kernel
theorem dX7_placeOfClaim_31 : decode cX7_placeOfClaim 31 = .ok (.goto (-29), 3) := by decide +kernel
theorem dX7_placeOfClaim_34 : decode cX7_placeOfClaim 34 = .ok (.iconst (-1), 1) := by decide +kernel
theorem dX7_placeOfClaim_35 : decode cX7_placeOfClaim 35 = .ok (.ireturn, 1) := by decide +kernel
set_option maxRecDepth 20000 in
theorem ggX7_addClaim_X4_size : GoodIn wsX7_addClaim wsX4_size := goodIn_r _ [6, 7, 46, 47, 48, 49] (by decide +kernel) (by decide +kernel)
set_option maxRecDepth 20000 in
theorem gX7_addClaim_X4_size : GoodIn wsX7_addClaim (wsV RX7 66 RX4 yX4_size wsX4_size) := goodIn_app (goodIn_of _ (by decide +kernel)) ggX7_addClaim_X4_size
set_option maxRecDepth 20000 in
theorem ggX7_addClaim_X7_claimGoesAhead : GoodIn wsX7_addClaim wsX7_claimGoesAhead := goodIn_r _ [12, 1, 13, 14, 15, 5, 16, 7, 17, 18, 36, 37, 38, 39, 40, 41, 42, 43, 44, 45, 46, 47, 48, 49] (by decide +kernel) (by decide +kernel)
set_option maxRecDepth 20000 in
theorem gX7_addClaim_X7_claimGoesAhead : GoodIn wsX7_addClaim (wsV RX7 92 RX7 yX7_claimGoesAhead wsX7_claimGoesAhead) := goodIn_app (goodIn_of _ (by decide +kernel)) ggX7_addClaim_X7_claimGoesAhead
set_option maxRecDepth 20000 in
theorem ggX7_addClaim_X4_insert : GoodIn wsX7_addClaim wsX4_insert := goodIn_r _ [22, 23, 24, 25, 26, 17, 18, 27, 28, 29, 5, 30, 7, 31, 46, 47, 48, 49] (by decide +kernel) (by decide +kernel)
set_option maxRecDepth 20000 in
theorem gX7_addClaim_X4_insert : GoodIn wsX7_addClaim (wsV RX7 96 RX4 yX4_insert wsX4_insert) := goodIn_app (goodIn_of _ (by decide +kernel)) ggX7_addClaim_X4_insert
set_option maxRecDepth 20000 in
theorem ggX7_addClaim_X4_setCell : GoodIn wsX7_addClaim wsX4_setCell := goodIn_r _ [35, 7, 17, 18, 46, 47, 48, 49] (by decide +kernel) (by decide +kernel)
set_option maxRecDepth 20000 in
theorem gX7_addClaim_X4_setCell : GoodIn wsX7_addClaim (wsV RX7 62 RX4 yX4_setCell wsX4_setCell) := goodIn_app (goodIn_of _ (by decide +kernel)) ggX7_addClaim_X4_setCell
theorem dX7_addClaim_0 : decode cX7_addClaim 0 = .ok (.iconst 0, 1) := by decide +kernel
theorem dX7_addClaim_1 : decode cX7_addClaim 1 = .ok (.istore 5, 2) := by decide +kernel
theorem dX7_addClaim_3 : decode cX7_addClaim 3 = .ok (.iload 5, 2) := by decide +kernel
theorem dX7_addClaim_5 : decode cX7_addClaim 5 = .ok (.aload_n 0, 1) := by decide +kernel
theorem dX7_addClaim_6 : decode cX7_addClaim 6 = .ok (.getfield 23, 3) := by decide +kernel
theorem dX7_addClaim_9 : decode cX7_addClaim 9 = .ok (.invokevirtual 66, 3) := by decide +kernel
theorem dX7_addClaim_12 : decode cX7_addClaim 12 = .ok (.if_icmp .ge 22, 3) := by decide +kernel
theorem dX7_addClaim_15 : decode cX7_addClaim 15 = .ok (.aload_n 0, 1) := by decide +kernel
theorem dX7_addClaim_16 : decode cX7_addClaim 16 = .ok (.iload 5, 2) := by decide +kernel
theorem dX7_addClaim_18 : decode cX7_addClaim 18 = .ok (.iload_n 2, 1) := by decide +kernel
theorem dX7_addClaim_19 : decode cX7_addClaim 19 = .ok (.iload 4, 2) := by decide +kernel
theorem dX7_addClaim_21 : decode cX7_addClaim 21 = .ok (.iload_n 1, 1) := by decide +kernel
theorem dX7_addClaim_22 : decode cX7_addClaim 22 = .ok (.invokevirtual 92, 3) := by decide +kernel
theorem dX7_addClaim_25 : decode cX7_addClaim 25 = .ok (.ifCond .eq 9, 3) := by decide +kernel
theorem dX7_addClaim_28 : decode cX7_addClaim 28 = .ok (.iinc 5 1, 3) := by decide +kernel
theorem dX7_addClaim_31 : decode cX7_addClaim 31 = .ok (.goto (-28), 3) := by decide +kernel
theorem dX7_addClaim_34 : decode cX7_addClaim 34 = .ok (.aload_n 0, 1) := by decide +kernel
theorem dX7_addClaim_35 : decode cX7_addClaim 35 = .ok (.getfield 23, 3) := by decide +kernel
theorem dX7_addClaim_38 : decode cX7_addClaim 38 = .ok (.iload 5, 2) := by decide +kernel
theorem dX7_addClaim_40 : decode cX7_addClaim 40 = .ok (.invokevirtual 96, 3) := by decide +kernel
theorem dX7_addClaim_43 : decode cX7_addClaim 43 = .ok (.aload_n 0, 1) := by decide +kernel
theorem dX7_addClaim_44 : decode cX7_addClaim 44 = .ok (.getfield 23, 3) := by decide +kernel
theorem dX7_addClaim_47 : decode cX7_addClaim 47 = .ok (.iload 5, 2) := by decide +kernel
theorem dX7_addClaim_49 : decode cX7_addClaim 49 = .ok (.iconst 0, 1) := by decide +kernel
theorem dX7_addClaim_50 : decode cX7_addClaim 50 = .ok (.iload_n 1, 1) := by decide +kernel
theorem dX7_addClaim_51 : decode cX7_addClaim 51 = .ok (.invokevirtual 62, 3) := by decide +kernel
theorem dX7_addClaim_54 : decode cX7_addClaim 54 = .ok (.aload_n 0, 1) := by decide +kernel
theorem dX7_addClaim_55 : decode cX7_addClaim 55 = .ok (.getfield 23, 3) := by decide +kernel
theorem dX7_addClaim_58 : decode cX7_addClaim 58 = .ok (.iload 5, 2) := by decide +kernel
theorem dX7_addClaim_60 : decode cX7_addClaim 60 = .ok (.iconst 1, 1) := by decide +kernel
theorem dX7_addClaim_61 : decode cX7_addClaim 61 = .ok (.iload_n 2, 1) := by decide +kernel
theorem dX7_addClaim_62 : decode cX7_addClaim 62 = .ok (.invokevirtual 62, 3) := by decide +kernel
theorem dX7_addClaim_65 : decode cX7_addClaim 65 = .ok (.aload_n 0, 1) := by decide +kernel
theorem dX7_addClaim_66 : decode cX7_addClaim 66 = .ok (.getfield 23, 3) := by decide +kernel
theorem dX7_addClaim_69 : decode cX7_addClaim 69 = .ok (.iload 5, 2) := by decide +kernel
theorem dX7_addClaim_71 : decode cX7_addClaim 71 = .ok (.iconst 2, 1) := by decide +kernel
theorem dX7_addClaim_72 : decode cX7_addClaim 72 = .ok (.iload_n 3, 1) := by decide +kernel
theorem dX7_addClaim_73 : decode cX7_addClaim 73 = .ok (.invokevirtual 62, 3) := by decide +kernel
theorem dX7_addClaim_76 : decode cX7_addClaim 76 = .ok (.aload_n 0, 1) := by decide +kernel
theorem dX7_addClaim_77 : decode cX7_addClaim 77 = .ok (.getfield 23, 3) := by decide +kernel
theorem dX7_addClaim_80 : decode cX7_addClaim 80 = .ok (.iload 5, 2) := by decide +kernel
theorem dX7_addClaim_82 : decode cX7_addClaim 82 = .ok (.iconst 3, 1) := by decide +kernel
theorem dX7_addClaim_83 : decode cX7_addClaim 83 = .ok (.iload 4, 2) := by decide +kernel
theorem dX7_addClaim_85 : decode cX7_addClaim 85 = .ok (.invokevirtual 62, 3) := by decide +kernel
theorem dX7_addClaim_88 : decode cX7_addClaim 88 = .ok (.iload 5, 2) := by decide +kernel
theorem dX7_addClaim_90 : decode cX7_addClaim 90 = .ok (.ireturn, 1) := by decide +kernel
set_option maxRecDepth 20000 in
theorem ggX7_claimGoesAhead_X4_cell : GoodIn wsX7_claimGoesAhead wsX4_cell := goodIn_r _ [6, 7, 8, 9, 20, 21, 22, 23] (by decide +kernel) (by decide +kernel)
set_option maxRecDepth 20000 in
theorem gX7_claimGoesAhead_X4_cell : GoodIn wsX7_claimGoesAhead (wsV RX7 73 RX4 yX4_cell wsX4_cell) := goodIn_app (goodIn_of _ (by decide +kernel)) ggX7_claimGoesAhead_X4_cell
theorem dX7_claimGoesAhead_0 : decode cX7_claimGoesAhead 0 = .ok (.aload_n 0, 1) := by decide +kernel
theorem dX7_claimGoesAhead_1 : decode cX7_claimGoesAhead 1 = .ok (.getfield 23, 3) := by decide +kernel
theorem dX7_claimGoesAhead_4 : decode cX7_claimGoesAhead 4 = .ok (.iload_n 1, 1) := by decide +kernel
theorem dX7_claimGoesAhead_5 : decode cX7_claimGoesAhead 5 = .ok (.iconst 1, 1) := by decide +kernel
theorem dX7_claimGoesAhead_6 : decode cX7_claimGoesAhead 6 = .ok (.invokevirtual 73, 3) := by decide +kernel
theorem dX7_claimGoesAhead_9 : decode cX7_claimGoesAhead 9 = .ok (.iload_n 2, 1) := by decide +kernel
theorem dX7_claimGoesAhead_10 : decode cX7_claimGoesAhead 10 = .ok (.if_icmp .eq 22, 3) := by decide +kernel
theorem dX7_claimGoesAhead_13 : decode cX7_claimGoesAhead 13 = .ok (.aload_n 0, 1) := by decide +kernel
theorem dX7_claimGoesAhead_14 : decode cX7_claimGoesAhead 14 = .ok (.getfield 23, 3) := by decide +kernel
theorem dX7_claimGoesAhead_17 : decode cX7_claimGoesAhead 17 = .ok (.iload_n 1, 1) := by decide +kernel
theorem dX7_claimGoesAhead_18 : decode cX7_claimGoesAhead 18 = .ok (.iconst 1, 1) := by decide +kernel
theorem dX7_claimGoesAhead_19 : decode cX7_claimGoesAhead 19 = .ok (.invokevirtual 73, 3) := by decide +kernel
theorem dX7_claimGoesAhead_22 : decode cX7_claimGoesAhead 22 = .ok (.iload_n 2, 1) := by decide +kernel
theorem dX7_claimGoesAhead_23 : decode cX7_claimGoesAhead 23 = .ok (.if_icmp .le 7, 3) := by decide +kernel
theorem dX7_claimGoesAhead_26 : decode cX7_claimGoesAhead 26 = .ok (.iconst 1, 1) := by decide +kernel
theorem dX7_claimGoesAhead_27 : decode cX7_claimGoesAhead 27 = .ok (.goto 4, 3) := by decide +kernel
theorem dX7_claimGoesAhead_30 : decode cX7_claimGoesAhead 30 = .ok (.iconst 0, 1) := by decide +kernel
theorem dX7_claimGoesAhead_31 : decode cX7_claimGoesAhead 31 = .ok (.ireturn, 1) := by decide +kernel
theorem dX7_claimGoesAhead_32 : decode cX7_claimGoesAhead 32 = .ok (.aload_n 0, 1) := by decide +kernel
theorem dX7_claimGoesAhead_33 : decode cX7_claimGoesAhead 33 = .ok (.getfield 23, 3) := by decide +kernel
theorem dX7_claimGoesAhead_36 : decode cX7_claimGoesAhead 36 = .ok (.iload_n 1, 1) := by decide +kernel
theorem dX7_claimGoesAhead_37 : decode cX7_claimGoesAhead 37 = .ok (.iconst 3, 1) := by decide +kernel
theorem dX7_claimGoesAhead_38 : decode cX7_claimGoesAhead 38 = .ok (.invokevirtual 73, 3) := by decide +kernel
theorem dX7_claimGoesAhead_41 : decode cX7_claimGoesAhead 41 = .ok (.iload_n 3, 1) := by decide +kernel
theorem dX7_claimGoesAhead_42 : decode cX7_claimGoesAhead 42 = .ok (.if_icmp .eq 22, 3) := by decide +kernel
theorem dX7_claimGoesAhead_45 : decode cX7_claimGoesAhead 45 = .ok (.aload_n 0, 1) := by decide +kernel
theorem dX7_claimGoesAhead_46 : decode cX7_claimGoesAhead 46 = .ok (.getfield 23, 3) := by decide +kernel
theorem dX7_claimGoesAhead_49 : decode cX7_claimGoesAhead 49 = .ok (.iload_n 1, 1) := by decide +kernel
theorem dX7_claimGoesAhead_50 : decode cX7_claimGoesAhead 50 = .ok (.iconst 3, 1) := by decide +kernel
theorem dX7_claimGoesAhead_51 : decode cX7_claimGoesAhead 51 = .ok (.invokevirtual 73, 3) := by decide +kernel
theorem dX7_claimGoesAhead_54 : decode cX7_claimGoesAhead 54 = .ok (.iload_n 3, 1) := by decide +kernel
theorem dX7_claimGoesAhead_55 : decode cX7_claimGoesAhead 55 = .ok (.if_icmp .ge 7, 3) := by decide +kernel
theorem dX7_claimGoesAhead_58 : decode cX7_claimGoesAhead 58 = .ok (.iconst 1, 1) := by decide +kernel
theorem dX7_claimGoesAhead_59 : decode cX7_claimGoesAhead 59 = .ok (.goto 4, 3) := by decide +kernel
theorem dX7_claimGoesAhead_62 : decode cX7_claimGoesAhead 62 = .ok (.iconst 0, 1) := by decide +kernel
theorem dX7_claimGoesAhead_63 : decode cX7_claimGoesAhead 63 = .ok (.ireturn, 1) := by decide +kernel
theorem dX7_claimGoesAhead_64 : decode cX7_claimGoesAhead 64 = .ok (.aload_n 0, 1) := by decide +kernel
theorem dX7_claimGoesAhead_65 : decode cX7_claimGoesAhead 65 = .ok (.getfield 23, 3) := by decide +kernel
theorem dX7_claimGoesAhead_68 : decode cX7_claimGoesAhead 68 = .ok (.iload_n 1, 1) := by decide +kernel
theorem dX7_claimGoesAhead_69 : decode cX7_claimGoesAhead 69 = .ok (.iconst 0, 1) := by decide +kernel
theorem dX7_claimGoesAhead_70 : decode cX7_claimGoesAhead 70 = .ok (.invokevirtual 73, 3) := by decide +kernel
theorem dX7_claimGoesAhead_73 : decode cX7_claimGoesAhead 73 = .ok (.iload 4, 2) := by decide +kernel
theorem dX7_claimGoesAhead_75 : decode cX7_claimGoesAhead 75 = .ok (.if_icmp .ge 7, 3) := by decide +kernel
theorem dX7_claimGoesAhead_78 : decode cX7_claimGoesAhead 78 = .ok (.iconst 1, 1) := by decide +kernel
theorem dX7_claimGoesAhead_79 : decode cX7_claimGoesAhead 79 = .ok (.goto 4, 3) := by decide +kernel
theorem dX7_claimGoesAhead_82 : decode cX7_claimGoesAhead 82 = .ok (.iconst 0, 1) := by decide +kernel
theorem dX7_claimGoesAhead_83 : decode cX7_claimGoesAhead 83 = .ok (.ireturn, 1) := by decide +kernel
set_option maxRecDepth 20000 in
theorem ggX7_copyFrom_X4_copyFrom : GoodIn wsX7_copyFrom wsX4_copyFrom := goodIn_r _ [15, 16, 17, 18, 19, 20, 21, 22, 23, 24, 25, 14, 26, 27, 28, 29, 30, 31, 42, 43, 44, 45] (by decide +kernel) (by decide +kernel)
set_option maxRecDepth 20000 in
theorem gX7_copyFrom_X4_copyFrom : GoodIn wsX7_copyFrom (wsV RX7 99 RX4 yX4_copyFrom wsX4_copyFrom) := goodIn_app (goodIn_of _ (by decide +kernel)) ggX7_copyFrom_X4_copyFrom
theorem dX7_copyFrom_0 : decode cX7_copyFrom 0 = .ok (.aload_n 0, 1) := by decide +kernel
theorem dX7_copyFrom_1 : decode cX7_copyFrom 1 = .ok (.aload_n 1, 1) := by decide +kernel
theorem dX7_copyFrom_2 : decode cX7_copyFrom 2 = .ok (.getfield 26, 3) := by decide +kernel
theorem dX7_copyFrom_5 : decode cX7_copyFrom 5 = .ok (.putfield 26, 3) := by decide +kernel
theorem dX7_copyFrom_8 : decode cX7_copyFrom 8 = .ok (.aload_n 0, 1) := by decide +kernel
theorem dX7_copyFrom_9 : decode cX7_copyFrom 9 = .ok (.aload_n 1, 1) := by decide +kernel
theorem dX7_copyFrom_10 : decode cX7_copyFrom 10 = .ok (.getfield 30, 3) := by decide +kernel
theorem dX7_copyFrom_13 : decode cX7_copyFrom 13 = .ok (.putfield 30, 3) := by decide +kernel
theorem dX7_copyFrom_16 : decode cX7_copyFrom 16 = .ok (.aload_n 0, 1) := by decide +kernel
theorem dX7_copyFrom_17 : decode cX7_copyFrom 17 = .ok (.aload_n 1, 1) := by decide +kernel
theorem dX7_copyFrom_18 : decode cX7_copyFrom 18 = .ok (.getfield 46, 3) := by decide +kernel
theorem dX7_copyFrom_21 : decode cX7_copyFrom 21 = .ok (.putfield 46, 3) := by decide +kernel
theorem dX7_copyFrom_24 : decode cX7_copyFrom 24 = .ok (.aload_n 0, 1) := by decide +kernel
theorem dX7_copyFrom_25 : decode cX7_copyFrom 25 = .ok (.aload_n 1, 1) := by decide +kernel
theorem dX7_copyFrom_26 : decode cX7_copyFrom 26 = .ok (.getfield 49, 3) := by decide +kernel
theorem dX7_copyFrom_29 : decode cX7_copyFrom 29 = .ok (.putfield 49, 3) := by decide +kernel
theorem dX7_copyFrom_32 : decode cX7_copyFrom 32 = .ok (.aload_n 0, 1) := by decide +kernel
theorem dX7_copyFrom_33 : decode cX7_copyFrom 33 = .ok (.aload_n 1, 1) := by decide +kernel
theorem dX7_copyFrom_34 : decode cX7_copyFrom 34 = .ok (.getfield 52, 3) := by decide +kernel
theorem dX7_copyFrom_37 : decode cX7_copyFrom 37 = .ok (.putfield 52, 3) := by decide +kernel
theorem dX7_copyFrom_40 : decode cX7_copyFrom 40 = .ok (.aload_n 0, 1) := by decide +kernel
theorem dX7_copyFrom_41 : decode cX7_copyFrom 41 = .ok (.aload_n 1, 1) := by decide +kernel
theorem dX7_copyFrom_42 : decode cX7_copyFrom 42 = .ok (.getfield 55, 3) := by decide +kernel
theorem dX7_copyFrom_45 : decode cX7_copyFrom 45 = .ok (.putfield 55, 3) := by decide +kernel
theorem dX7_copyFrom_48 : decode cX7_copyFrom 48 = .ok (.aload_n 0, 1) := by decide +kernel
theorem dX7_copyFrom_49 : decode cX7_copyFrom 49 = .ok (.aload_n 1, 1) := by decide +kernel
theorem dX7_copyFrom_50 : decode cX7_copyFrom 50 = .ok (.getfield 33, 3) := by decide +kernel
theorem dX7_copyFrom_53 : decode cX7_copyFrom 53 = .ok (.putfield 33, 3) := by decide +kernel
theorem dX7_copyFrom_56 : decode cX7_copyFrom 56 = .ok (.aload_n 0, 1) := by decide +kernel
theorem dX7_copyFrom_57 : decode cX7_copyFrom 57 = .ok (.getfield 14, 3) := by decide +kernel
theorem dX7_copyFrom_60 : decode cX7_copyFrom 60 = .ok (.aload_n 1, 1) := by decide +kernel
theorem dX7_copyFrom_61 : decode cX7_copyFrom 61 = .ok (.getfield 14, 3) := by decide +kernel
theorem dX7_copyFrom_64 : decode cX7_copyFrom 64 = .ok (.invokevirtual 99, 3) := by decide +kernel
theorem dX7_copyFrom_67 : decode cX7_copyFrom 67 = .ok (.aload_n 0, 1) := by decide +kernel
theorem dX7_copyFrom_68 : decode cX7_copyFrom 68 = .ok (.getfield 20, 3) := by decide +kernel
theorem dX7_copyFrom_71 : decode cX7_copyFrom 71 = .ok (.aload_n 1, 1) := by decide +kernel
theorem dX7_copyFrom_72 : decode cX7_copyFrom 72 = .ok (.getfield 20, 3) := by decide +kernel
theorem dX7_copyFrom_75 : decode cX7_copyFrom 75 = .ok (.invokevirtual 99, 3) := by decide +kernel
theorem dX7_copyFrom_78 : decode cX7_copyFrom 78 = .ok (.aload_n 0, 1) := by decide +kernel
theorem dX7_copyFrom_79 : decode cX7_copyFrom 79 = .ok (.getfield 23, 3) := by decide +kernel
theorem dX7_copyFrom_82 : decode cX7_copyFrom 82 = .ok (.aload_n 1, 1) := by decide +kernel
theorem dX7_copyFrom_83 : decode cX7_copyFrom 83 = .ok (.getfield 23, 3) := by decide +kernel
theorem dX7_copyFrom_86 : decode cX7_copyFrom 86 = .ok (.invokevirtual 99, 3) := by decide +kernel
theorem dX7_copyFrom_89 : decode cX7_copyFrom 89 = .ok (.return_, 1) := by decide +kernel
set_option maxRecDepth 20000 in
theorem ggX8_init_X6_init : GoodIn wsX8_init wsX6_init := goodIn_r _ [27, 28, 2, 3, 29, 11, 12, 30, 31, 32, 33, 34, 35, 36, 37, 38, 39, 40, 41, 42, 43, 44, 45, 46, 47, 48, 49, 50, 51, 52, 53, 54, 55, 56, 57, 58, 59, 60, 61, 62, 63, 64, 65, 66, 67, 68, 69, 70, 71, 72, 73, 74, 75, 76, 77, 78, 79, 80, 81, 108, 109, 110, 111, 112, 113, 114, 115, 116, 117, 118, 97, 98, 125, 126, 127, 128, 129, 130, 131, 132, 133, 134, 135, 136, 137, 138, 139, 140, 141, 142, 143, 144, 145, 146] (by decide +kernel) (by decide +kernel)
set_option maxRecDepth 20000 in
theorem gX8_init_X6_init_n11 : GoodIn wsX8_init (wsX6_init) := ggX8_init_X6_init
set_option maxRecDepth 20000 in
theorem ggX8_init_X2_init : GoodIn wsX8_init wsX2_init := goodIn_r _ [37, 38, 2, 3, 39, 40, 41, 42, 43, 44, 45, 46, 47, 48, 49, 32, 33, 50, 51, 52, 53, 54, 55, 56, 57, 58, 59, 60, 61, 62, 63, 64, 65, 66, 67, 68, 69, 70, 71, 72, 73, 74, 75, 76, 77, 78, 79, 80, 81, 108, 109, 110, 111, 112, 113, 114, 115, 116, 117, 118, 127, 128, 129, 130, 131, 132, 133, 134, 135, 136, 137, 138, 139, 140, 141, 142, 125, 126, 143, 144, 145, 146] (by decide +kernel) (by decide +kernel)
set_option maxRecDepth 20000 in
theorem gX8_init_X2_init : GoodIn wsX8_init (wsX2_init) := ggX8_init_X2_init
set_option maxRecDepth 20000 in
theorem ggX8_init_X5_init : GoodIn wsX8_init wsX5_init := goodIn_r _ [84, 85, 2, 3, 86, 60, 61, 87, 88, 89, 66, 67, 68, 69, 70, 71, 72, 73, 74, 54, 75, 143, 144, 145, 146, 119, 120, 121] (by decide +kernel) (by decide +kernel)
set_option maxRecDepth 20000 in
theorem gX8_init_X5_init_n32 : GoodIn wsX8_init (wsX5_init) := ggX8_init_X5_init
set_option maxRecDepth 20000 in
theorem ggX8_init_X1_init : GoodIn wsX8_init wsX1_init := goodIn_r _ [91, 92, 2, 3, 93, 94, 60, 61, 95, 96, 66, 67, 68, 69, 70, 71, 72, 73, 74, 54, 75, 122, 123, 124, 143, 144, 145, 146] (by decide +kernel) (by decide +kernel)
set_option maxRecDepth 20000 in
theorem gX8_init_X1_init_n48 : GoodIn wsX8_init (wsX1_init) := ggX8_init_X1_init
theorem dX8_init_0 : decode cX8_init 0 = .ok (.aload_n 0, 1) := by decide +kernel
theorem dX8_init_1 : decode cX8_init 1 = .ok (.invokespecial 3, 3) := by decide +kernel
theorem dX8_init_4 : decode cX8_init 4 = .ok (.aload_n 0, 1) := by decide +kernel
theorem dX8_init_5 : decode cX8_init 5 = .ok (.new 9, 3) := by decide +kernel
theorem dX8_init_8 : decode cX8_init 8 = .ok (.dup, 1) := by decide +kernel
theorem dX8_init_9 : decode cX8_init 9 = .ok (.invokespecial 11, 3) := by decide +kernel
theorem dX8_init_12 : decode cX8_init 12 = .ok (.putfield 12, 3) := by decide +kernel
theorem dX8_init_15 : decode cX8_init 15 = .ok (.aload_n 0, 1) := by decide +kernel
theorem dX8_init_16 : decode cX8_init 16 = .ok (.aload_n 0, 1) := by decide +kernel
theorem dX8_init_17 : decode cX8_init 17 = .ok (.getfield 12, 3) := by decide +kernel
theorem dX8_init_20 : decode cX8_init 20 = .ok (.getfield 16, 3) := by decide +kernel
theorem dX8_init_23 : decode cX8_init 23 = .ok (.putfield 20, 3) := by decide +kernel
theorem dX8_init_26 : decode cX8_init 26 = .ok (.aload_n 0, 1) := by decide +kernel
theorem dX8_init_27 : decode cX8_init 27 = .ok (.new 21, 3) := by decide +kernel
theorem dX8_init_30 : decode cX8_init 30 = .ok (.dup, 1) := by decide +kernel
theorem dX8_init_31 : decode cX8_init 31 = .ok (.invokespecial 23, 3) := by decide +kernel
theorem dX8_init_34 : decode cX8_init 34 = .ok (.putfield 24, 3) := by decide +kernel
theorem dX8_init_37 : decode cX8_init 37 = .ok (.aload_n 0, 1) := by decide +kernel
theorem dX8_init_38 : decode cX8_init 38 = .ok (.new 21, 3) := by decide +kernel
theorem dX8_init_41 : decode cX8_init 41 = .ok (.dup, 1) := by decide +kernel
theorem dX8_init_42 : decode cX8_init 42 = .ok (.invokespecial 23, 3) := by decide +kernel
theorem dX8_init_45 : decode cX8_init 45 = .ok (.putfield 27, 3) := by decide +kernel
theorem dX8_init_48 : decode cX8_init 48 = .ok (.aload_n 0, 1) := by decide +kernel
theorem dX8_init_49 : decode cX8_init 49 = .ok (.new 30, 3) := by decide +kernel
theorem dX8_init_52 : decode cX8_init 52 = .ok (.dup, 1) := by decide +kernel
theorem dX8_init_53 : decode cX8_init 53 = .ok (.invokespecial 32, 3) := by decide +kernel
theorem dX8_init_56 : decode cX8_init 56 = .ok (.putfield 33, 3) := by decide +kernel
theorem dX8_init_59 : decode cX8_init 59 = .ok (.aload_n 0, 1) := by decide +kernel
theorem dX8_init_60 : decode cX8_init 60 = .ok (.aload_n 0, 1) := by decide +kernel
theorem dX8_init_61 : decode cX8_init 61 = .ok (.getfield 33, 3) := by decide +kernel
theorem dX8_init_64 : decode cX8_init 64 = .ok (.getfield 37, 3) := by decide +kernel
theorem dX8_init_67 : decode cX8_init 67 = .ok (.putfield 41, 3) := by decide +kernel
theorem dX8_init_70 : decode cX8_init 70 = .ok (.aload_n 0, 1) := by decide +kernel
theorem dX8_init_71 : decode cX8_init 71 = .ok (.bipush 6, 2) := by decide +kernel
theorem dX8_init_73 : decode cX8_init 73 = .ok (.anewarray 42, 3) := by decide +kernel
theorem dX8_init_76 : decode cX8_init 76 = .ok (.putfield 44, 3) := by decide +kernel
theorem dX8_init_79 : decode cX8_init 79 = .ok (.aload_n 0, 1) := by decide +kernel
theorem dX8_init_80 : decode cX8_init 80 = .ok (.new 42, 3) := by decide +kernel
theorem dX8_init_83 : decode cX8_init 83 = .ok (.dup, 1) := by decide +kernel
theorem dX8_init_84 : decode cX8_init 84 = .ok (.invokespecial 48, 3) := by decide +kernel
theorem dX8_init_87 : decode cX8_init 87 = .ok (.putfield 49, 3) := by decide +kernel
theorem dX8_init_90 : decode cX8_init 90 = .ok (.iconst 0, 1) := by decide +kernel
theorem dX8_init_91 : decode cX8_init 91 = .ok (.istore_n 1, 1) := by decide +kernel
theorem dX8_init_92 : decode cX8_init 92 = .ok (.iload_n 1, 1) := by decide +kernel
theorem dX8_init_93 : decode cX8_init 93 = .ok (.aload_n 0, 1) := by decide +kernel
theorem dX8_init_94 : decode cX8_init 94 = .ok (.getfield 44, 3) := by decide +kernel
theorem dX8_init_97 : decode cX8_init 97 = .ok (.arraylength, 1) := by decide +kernel
theorem dX8_init_98 : decode cX8_init 98 = .ok (.if_icmp .ge 22, 3) := by decide +kernel
theorem dX8_init_101 : decode cX8_init 101 = .ok (.aload_n 0, 1) := by decide +kernel
theorem dX8_init_102 : decode cX8_init 102 = .ok (.getfield 44, 3) := by decide +kernel
theorem dX8_init_105 : decode cX8_init 105 = .ok (.iload_n 1, 1) := by decide +kernel
theorem dX8_init_106 : decode cX8_init 106 = .ok (.new 42, 3) := by decide +kernel
theorem dX8_init_109 : decode cX8_init 109 = .ok (.dup, 1) := by decide +kernel
theorem dX8_init_110 : decode cX8_init 110 = .ok (.invokespecial 48, 3) := by decide +kernel
theorem dX8_init_113 : decode cX8_init 113 = .ok (.aastore, 1) := by decide +kernel
theorem dX8_init_114 : decode cX8_init 114 = .ok (.iinc 1 1, 3) := by decide +kernel
theorem dX8_init_117 : decode cX8_init 117 = .ok (.goto (-25), 3) := by decide +kernel
theorem dX8_init_120 : decode cX8_init 120 = .ok (.return_, 1) := by decide +kernel
set_option maxRecDepth 20000 in
theorem ggX8_person_X2_enterPerson : GoodIn wsX8_person wsX2_enterPerson := goodIn_r _ [6, 7, 8, 9, 10, 5, 11, 12, 13, 14, 15, 16, 17, 18, 19, 20, 21, 22, 23, 24, 25, 26, 27, 28, 38, 39, 40, 41, 42, 43, 44, 45, 46, 47, 48, 49, 50, 51, 52, 53, 54] (by decide +kernel) (by decide +kernel)
set_option maxRecDepth 20000 in
theorem gX8_person_X2_enterPerson : GoodIn wsX8_person (wsV RX8 53 RX2 yX2_enterPerson wsX2_enterPerson) := goodIn_app (goodIn_of _ (by decide +kernel)) ggX8_person_X2_enterPerson
theorem dX8_person_0 : decode cX8_person 0 = .ok (.aload_n 0, 1) := by decide +kernel
theorem dX8_person_1 : decode cX8_person 1 = .ok (.getfield 20, 3) := by decide +kernel
theorem dX8_person_4 : decode cX8_person 4 = .ok (.iload_n 1, 1) := by decide +kernel
theorem dX8_person_5 : decode cX8_person 5 = .ok (.iload_n 2, 1) := by decide +kernel
theorem dX8_person_6 : decode cX8_person 6 = .ok (.invokevirtual 53, 3) := by decide +kernel
theorem dX8_person_9 : decode cX8_person 9 = .ok (.ireturn, 1) := by decide +kernel
set_option maxRecDepth 20000 in
theorem ggX8_tool_X2_enterTool : GoodIn wsX8_tool wsX2_enterTool := goodIn_r _ [6, 7, 8, 9, 10, 11, 5, 12, 13, 14, 15, 16, 17, 18, 19, 20, 21, 22, 23, 24, 25, 26, 27, 28, 29, 30, 31, 32, 33, 34, 35, 36, 37, 38, 39, 40, 41, 42, 43, 44, 45, 46, 47, 48, 49, 50, 51, 52, 53, 54, 55, 56, 57, 58, 68, 69, 70, 71, 72, 73, 74, 75, 76, 77, 78, 79, 80, 81, 82, 83, 84, 85, 86, 87, 88, 89, 90, 91, 92] (by decide +kernel) (by decide +kernel)
set_option maxRecDepth 20000 in
theorem gX8_tool_X2_enterTool : GoodIn wsX8_tool (wsV RX8 57 RX2 yX2_enterTool wsX2_enterTool) := goodIn_app (goodIn_of _ (by decide +kernel)) ggX8_tool_X2_enterTool
theorem dX8_tool_0 : decode cX8_tool 0 = .ok (.aload_n 0, 1) := by decide +kernel
theorem dX8_tool_1 : decode cX8_tool 1 = .ok (.getfield 20, 3) := by decide +kernel
theorem dX8_tool_4 : decode cX8_tool 4 = .ok (.iload_n 1, 1) := by decide +kernel
theorem dX8_tool_5 : decode cX8_tool 5 = .ok (.invokevirtual 57, 3) := by decide +kernel
theorem dX8_tool_8 : decode cX8_tool 8 = .ok (.ireturn, 1) := by decide +kernel
set_option maxRecDepth 20000 in
theorem ggX8_wish_X2_setWish : GoodIn wsX8_wish wsX2_setWish := goodIn_r _ [6, 7, 8, 9, 5, 10, 11, 12, 13, 14, 15, 16, 17, 18, 19, 20, 21, 22, 23, 24, 25, 26, 27, 28, 29, 30, 31, 32, 42, 43, 44, 45, 46, 47, 48, 49, 50, 51, 52, 53, 54, 55, 56, 57, 58] (by decide +kernel) (by decide +kernel)
set_option maxRecDepth 20000 in
theorem gX8_wish_X2_setWish : GoodIn wsX8_wish (wsV RX8 61 RX2 yX2_setWish wsX2_setWish) := goodIn_app (goodIn_of _ (by decide +kernel)) ggX8_wish_X2_setWish
theorem dX8_wish_0 : decode cX8_wish 0 = .ok (.aload_n 0, 1) := by decide +kernel
theorem dX8_wish_1 : decode cX8_wish 1 = .ok (.getfield 20, 3) := by decide +kernel
theorem dX8_wish_4 : decode cX8_wish 4 = .ok (.iload_n 1, 1) := by decide +kernel
theorem dX8_wish_5 : decode cX8_wish 5 = .ok (.iload_n 2, 1) := by decide +kernel
theorem dX8_wish_6 : decode cX8_wish 6 = .ok (.iload_n 3, 1) := by decide +kernel
theorem dX8_wish_7 : decode cX8_wish 7 = .ok (.invokevirtual 61, 3) := by decide +kernel
theorem dX8_wish_10 : decode cX8_wish 10 = .ok (.ireturn, 1) := by decide +kernel
set_option maxRecDepth 20000 in
theorem ggX8_fund_X2_bringCoins : GoodIn wsX8_fund wsX2_bringCoins := goodIn_r _ [6, 7, 8, 9, 10, 11, 12, 13, 14, 15, 16, 5, 17, 18, 19, 20, 21, 22, 23, 24, 34, 35, 36, 37, 38, 39, 40, 41, 42, 43, 44, 45, 46, 47, 48, 49, 50] (by decide +kernel) (by decide +kernel)
set_option maxRecDepth 20000 in
theorem gX8_fund_X2_bringCoins : GoodIn wsX8_fund (wsV RX8 65 RX2 yX2_bringCoins wsX2_bringCoins) := goodIn_app (goodIn_of _ (by decide +kernel)) ggX8_fund_X2_bringCoins
theorem dX8_fund_0 : decode cX8_fund 0 = .ok (.aload_n 0, 1) := by decide +kernel
theorem dX8_fund_1 : decode cX8_fund 1 = .ok (.getfield 20, 3) := by decide +kernel
theorem dX8_fund_4 : decode cX8_fund 4 = .ok (.iload_n 1, 1) := by decide +kernel
theorem dX8_fund_5 : decode cX8_fund 5 = .ok (.iload_n 2, 1) := by decide +kernel
theorem dX8_fund_6 : decode cX8_fund 6 = .ok (.invokevirtual 65, 3) := by decide +kernel
theorem dX8_fund_9 : decode cX8_fund 9 = .ok (.ireturn, 1) := by decide +kernel
set_option maxRecDepth 20000 in
theorem ggX8_personOf_X2_isPerson : GoodIn wsX8_personOf wsX2_isPerson := goodIn_r _ [11, 12, 85, 86, 87, 88, 89, 90, 91, 92, 93, 94, 95] (by decide +kernel) (by decide +kernel)
set_option maxRecDepth 20000 in
theorem gX8_personOf_X2_isPerson : GoodIn wsX8_personOf (wsV RX8 68 RX2 yX2_isPerson wsX2_isPerson) := goodIn_app (goodIn_of _ (by decide +kernel)) ggX8_personOf_X2_isPerson
set_option maxRecDepth 20000 in
theorem ggX8_personOf_X2_personAt : GoodIn wsX8_personOf wsX2_personAt := goodIn_r _ [16, 17, 18, 85, 86, 87, 88, 89, 90, 91, 92, 93, 94, 95] (by decide +kernel) (by decide +kernel)
set_option maxRecDepth 20000 in
theorem gX8_personOf_X2_personAt : GoodIn wsX8_personOf (wsV RX8 72 RX2 yX2_personAt wsX2_personAt) := goodIn_app (goodIn_of _ (by decide +kernel)) ggX8_personOf_X2_personAt
set_option maxRecDepth 20000 in
theorem ggX8_personOf_X2_toolsWith : GoodIn wsX8_personOf wsX2_toolsWith := goodIn_r _ [22, 23, 24, 25, 26, 27, 10, 28, 29, 30, 85, 86, 87, 88, 89, 90, 91, 92, 93, 94, 95, 96, 97, 98, 99, 100, 101, 102, 103, 104, 105] (by decide +kernel) (by decide +kernel)
set_option maxRecDepth 20000 in
theorem gX8_personOf_X2_toolsWith : GoodIn wsX8_personOf (wsV RX8 94 RX2 yX2_toolsWith wsX2_toolsWith) := goodIn_app (goodIn_of _ (by decide +kernel)) ggX8_personOf_X2_toolsWith
set_option maxRecDepth 20000 in
theorem ggX8_personOf_X2_placeInRank : GoodIn wsX8_personOf wsX2_placeInRank := goodIn_r _ [34, 12, 35, 14, 15, 10, 16, 17, 18, 36, 37, 38, 39, 40, 41, 42, 43, 44, 45, 46, 47, 85, 86, 87, 88, 89, 90, 91, 92, 93, 94, 95, 79, 80, 81, 82, 83, 84] (by decide +kernel) (by decide +kernel)
set_option maxRecDepth 20000 in
theorem gX8_personOf_X2_placeInRank : GoodIn wsX8_personOf (wsV RX8 97 RX2 yX2_placeInRank wsX2_placeInRank) := goodIn_app (goodIn_of _ (by decide +kernel)) ggX8_personOf_X2_placeInRank
set_option maxRecDepth 20000 in
theorem ggX8_personOf_X2_claimsOf : GoodIn wsX8_personOf wsX2_claimsOf := goodIn_r _ [51, 23, 25, 26, 27, 10, 28, 29, 30, 52, 53, 54, 55, 56, 57, 58, 59, 60, 61, 62, 63, 64, 65, 66, 67, 68, 69, 85, 86, 87, 88, 89, 90, 91, 92, 93, 94, 95, 96, 97, 98, 99, 100, 101, 102, 103, 104, 105, 106, 107, 108, 109] (by decide +kernel) (by decide +kernel)
set_option maxRecDepth 20000 in
theorem gX8_personOf_X2_claimsOf : GoodIn wsX8_personOf (wsV RX8 100 RX2 yX2_claimsOf wsX2_claimsOf) := goodIn_app (goodIn_of _ (by decide +kernel)) ggX8_personOf_X2_claimsOf
theorem dX8_personOf_0 : decode cX8_personOf 0 = .ok (.aload_n 0, 1) := by decide +kernel
theorem dX8_personOf_1 : decode cX8_personOf 1 = .ok (.getfield 20, 3) := by decide +kernel
theorem dX8_personOf_4 : decode cX8_personOf 4 = .ok (.iload_n 1, 1) := by decide +kernel
theorem dX8_personOf_5 : decode cX8_personOf 5 = .ok (.invokevirtual 68, 3) := by decide +kernel
theorem dX8_personOf_8 : decode cX8_personOf 8 = .ok (.ifCond .ne 5, 3) := by decide +kernel
theorem dX8_personOf_11 : decode cX8_personOf 11 = .ok (.iconst (-1), 1) := by decide +kernel
theorem dX8_personOf_12 : decode cX8_personOf 12 = .ok (.ireturn, 1) := by decide +kernel
theorem dX8_personOf_13 : decode cX8_personOf 13 = .ok (.aload_n 0, 1) := by decide +kernel
theorem dX8_personOf_14 : decode cX8_personOf 14 = .ok (.getfield 20, 3) := by decide +kernel
theorem dX8_personOf_17 : decode cX8_personOf 17 = .ok (.iload_n 1, 1) := by decide +kernel
theorem dX8_personOf_18 : decode cX8_personOf 18 = .ok (.invokevirtual 72, 3) := by decide +kernel
theorem dX8_personOf_21 : decode cX8_personOf 21 = .ok (.astore_n 3, 1) := by decide +kernel
theorem dX8_personOf_22 : decode cX8_personOf 22 = .ok (.iload_n 2, 1) := by decide +kernel
theorem dX8_personOf_23 : decode cX8_personOf 23 = .ok (.tableswitch 97 0 7 #[45, 50, 55, 60, 65, 70, 79, 88], 45) := by decide +kernel
theorem dX8_personOf_68 : decode cX8_personOf 68 = .ok (.aload_n 3, 1) := by decide +kernel
theorem dX8_personOf_69 : decode cX8_personOf 69 = .ok (.getfield 76, 3) := by decide +kernel
theorem dX8_personOf_72 : decode cX8_personOf 72 = .ok (.ireturn, 1) := by decide +kernel
theorem dX8_personOf_73 : decode cX8_personOf 73 = .ok (.aload_n 3, 1) := by decide +kernel
theorem dX8_personOf_74 : decode cX8_personOf 74 = .ok (.getfield 82, 3) := by decide +kernel
theorem dX8_personOf_77 : decode cX8_personOf 77 = .ok (.ireturn, 1) := by decide +kernel
theorem dX8_personOf_78 : decode cX8_personOf 78 = .ok (.aload_n 3, 1) := by decide +kernel
theorem dX8_personOf_79 : decode cX8_personOf 79 = .ok (.getfield 85, 3) := by decide +kernel
theorem dX8_personOf_82 : decode cX8_personOf 82 = .ok (.ireturn, 1) := by decide +kernel
theorem dX8_personOf_83 : decode cX8_personOf 83 = .ok (.aload_n 3, 1) := by decide +kernel
theorem dX8_personOf_84 : decode cX8_personOf 84 = .ok (.getfield 88, 3) := by decide +kernel
theorem dX8_personOf_87 : decode cX8_personOf 87 = .ok (.ireturn, 1) := by decide +kernel
theorem dX8_personOf_88 : decode cX8_personOf 88 = .ok (.aload_n 3, 1) := by decide +kernel
theorem dX8_personOf_89 : decode cX8_personOf 89 = .ok (.getfield 91, 3) := by decide +kernel
theorem dX8_personOf_92 : decode cX8_personOf 92 = .ok (.ireturn, 1) := by decide +kernel
theorem dX8_personOf_93 : decode cX8_personOf 93 = .ok (.aload_n 0, 1) := by decide +kernel
theorem dX8_personOf_94 : decode cX8_personOf 94 = .ok (.getfield 20, 3) := by decide +kernel
theorem dX8_personOf_97 : decode cX8_personOf 97 = .ok (.iload_n 1, 1) := by decide +kernel
theorem dX8_personOf_98 : decode cX8_personOf 98 = .ok (.invokevirtual 94, 3) := by decide +kernel
theorem dX8_personOf_101 : decode cX8_personOf 101 = .ok (.ireturn, 1) := by decide +kernel
theorem dX8_personOf_102 : decode cX8_personOf 102 = .ok (.aload_n 0, 1) := by decide +kernel
theorem dX8_personOf_103 : decode cX8_personOf 103 = .ok (.getfield 20, 3) := by decide +kernel
theorem dX8_personOf_106 : decode cX8_personOf 106 = .ok (.iload_n 1, 1) := by decide +kernel
theorem dX8_personOf_107 : decode cX8_personOf 107 = .ok (.invokevirtual 97, 3) := by decide +kernel
theorem dX8_personOf_110 : decode cX8_personOf 110 = .ok (.ireturn, 1) := by decide +kernel
theorem dX8_personOf_111 : decode cX8_personOf 111 = .ok (.aload_n 0, 1) := by decide +kernel
theorem dX8_personOf_112 : decode cX8_personOf 112 = .ok (.getfield 20, 3) := by decide +kernel
theorem dX8_personOf_115 : decode cX8_personOf 115 = .ok (.iload_n 1, 1) := by decide +kernel
theorem dX8_personOf_116 : decode cX8_personOf 116 = .ok (.invokevirtual 100, 3) := by decide +kernel
theorem dX8_personOf_119 : decode cX8_personOf 119 = .ok (.ireturn, 1) := by decide +kernel
theorem dX8_personOf_120 : decode cX8_personOf 120 = .ok (.iconst (-1), 1) := by decide +kernel
theorem dX8_personOf_121 : decode cX8_personOf 121 = .ok (.ireturn, 1) := by decide +kernel
set_option maxRecDepth 20000 in
theorem ggX8_toolOf_X2_isTool : GoodIn wsX8_toolOf wsX2_isTool := goodIn_r _ [15, 16, 48, 49, 50, 51, 52, 53, 54, 55, 56, 57, 58] (by decide +kernel) (by decide +kernel)
set_option maxRecDepth 20000 in
theorem gX8_toolOf_X2_isTool : GoodIn wsX8_toolOf (wsV RX8 103 RX2 yX2_isTool wsX2_isTool) := goodIn_app (goodIn_of _ (by decide +kernel)) ggX8_toolOf_X2_isTool
set_option maxRecDepth 20000 in
theorem ggX8_toolOf_X2_toolAt : GoodIn wsX8_toolOf wsX2_toolAt := goodIn_r _ [20, 21, 22, 48, 49, 50, 51, 52, 53, 54, 55, 56, 57, 58] (by decide +kernel) (by decide +kernel)
set_option maxRecDepth 20000 in
theorem gX8_toolOf_X2_toolAt : GoodIn wsX8_toolOf (wsV RX8 106 RX2 yX2_toolAt wsX2_toolAt) := goodIn_app (goodIn_of _ (by decide +kernel)) ggX8_toolOf_X2_toolAt
set_option maxRecDepth 20000 in
theorem ggX8_toolOf_X4_size : GoodIn wsX8_toolOf wsX4_size := goodIn_r _ [27, 28, 59, 60, 61, 62] (by decide +kernel) (by decide +kernel)
set_option maxRecDepth 20000 in
theorem gX8_toolOf_X4_size : GoodIn wsX8_toolOf (wsV RX8 133 RX4 yX4_size wsX4_size) := goodIn_app (goodIn_of _ (by decide +kernel)) ggX8_toolOf_X4_size
theorem dX8_toolOf_0 : decode cX8_toolOf 0 = .ok (.aload_n 0, 1) := by decide +kernel
theorem dX8_toolOf_1 : decode cX8_toolOf 1 = .ok (.getfield 20, 3) := by decide +kernel
theorem dX8_toolOf_4 : decode cX8_toolOf 4 = .ok (.iload_n 1, 1) := by decide +kernel
theorem dX8_toolOf_5 : decode cX8_toolOf 5 = .ok (.invokevirtual 103, 3) := by decide +kernel
theorem dX8_toolOf_8 : decode cX8_toolOf 8 = .ok (.ifCond .ne 5, 3) := by decide +kernel
theorem dX8_toolOf_11 : decode cX8_toolOf 11 = .ok (.iconst (-1), 1) := by decide +kernel
theorem dX8_toolOf_12 : decode cX8_toolOf 12 = .ok (.ireturn, 1) := by decide +kernel
theorem dX8_toolOf_13 : decode cX8_toolOf 13 = .ok (.aload_n 0, 1) := by decide +kernel
theorem dX8_toolOf_14 : decode cX8_toolOf 14 = .ok (.getfield 20, 3) := by decide +kernel
theorem dX8_toolOf_17 : decode cX8_toolOf 17 = .ok (.iload_n 1, 1) := by decide +kernel
theorem dX8_toolOf_18 : decode cX8_toolOf 18 = .ok (.invokevirtual 106, 3) := by decide +kernel
theorem dX8_toolOf_21 : decode cX8_toolOf 21 = .ok (.astore_n 3, 1) := by decide +kernel
theorem dX8_toolOf_22 : decode cX8_toolOf 22 = .ok (.iload_n 2, 1) := by decide +kernel
theorem dX8_toolOf_23 : decode cX8_toolOf 23 = .ok (.tableswitch 103 0 8 #[49, 54, 59, 64, 69, 74, 79, 87, 95], 49) := by decide +kernel
theorem dX8_toolOf_72 : decode cX8_toolOf 72 = .ok (.aload_n 3, 1) := by decide +kernel
theorem dX8_toolOf_73 : decode cX8_toolOf 73 = .ok (.getfield 110, 3) := by decide +kernel
theorem dX8_toolOf_76 : decode cX8_toolOf 76 = .ok (.ireturn, 1) := by decide +kernel
theorem dX8_toolOf_77 : decode cX8_toolOf 77 = .ok (.aload_n 3, 1) := by decide +kernel
theorem dX8_toolOf_78 : decode cX8_toolOf 78 = .ok (.getfield 115, 3) := by decide +kernel
theorem dX8_toolOf_81 : decode cX8_toolOf 81 = .ok (.ireturn, 1) := by decide +kernel
theorem dX8_toolOf_82 : decode cX8_toolOf 82 = .ok (.aload_n 3, 1) := by decide +kernel
theorem dX8_toolOf_83 : decode cX8_toolOf 83 = .ok (.getfield 118, 3) := by decide +kernel
theorem dX8_toolOf_86 : decode cX8_toolOf 86 = .ok (.ireturn, 1) := by decide +kernel
theorem dX8_toolOf_87 : decode cX8_toolOf 87 = .ok (.aload_n 3, 1) := by decide +kernel
theorem dX8_toolOf_88 : decode cX8_toolOf 88 = .ok (.getfield 121, 3) := by decide +kernel
theorem dX8_toolOf_91 : decode cX8_toolOf 91 = .ok (.ireturn, 1) := by decide +kernel
theorem dX8_toolOf_92 : decode cX8_toolOf 92 = .ok (.aload_n 3, 1) := by decide +kernel
theorem dX8_toolOf_93 : decode cX8_toolOf 93 = .ok (.getfield 124, 3) := by decide +kernel
theorem dX8_toolOf_96 : decode cX8_toolOf 96 = .ok (.ireturn, 1) := by decide +kernel
theorem dX8_toolOf_97 : decode cX8_toolOf 97 = .ok (.aload_n 3, 1) := by decide +kernel
theorem dX8_toolOf_98 : decode cX8_toolOf 98 = .ok (.getfield 127, 3) := by decide +kernel
theorem dX8_toolOf_101 : decode cX8_toolOf 101 = .ok (.ireturn, 1) := by decide +kernel
theorem dX8_toolOf_102 : decode cX8_toolOf 102 = .ok (.aload_n 3, 1) := by decide +kernel
theorem dX8_toolOf_103 : decode cX8_toolOf 103 = .ok (.getfield 130, 3) := by decide +kernel
theorem dX8_toolOf_106 : decode cX8_toolOf 106 = .ok (.invokevirtual 133, 3) := by decide +kernel
theorem dX8_toolOf_109 : decode cX8_toolOf 109 = .ok (.ireturn, 1) := by decide +kernel
theorem dX8_toolOf_110 : decode cX8_toolOf 110 = .ok (.aload_n 3, 1) := by decide +kernel
theorem dX8_toolOf_111 : decode cX8_toolOf 111 = .ok (.getfield 139, 3) := by decide +kernel
theorem dX8_toolOf_114 : decode cX8_toolOf 114 = .ok (.invokevirtual 133, 3) := by decide +kernel
theorem dX8_toolOf_117 : decode cX8_toolOf 117 = .ok (.ireturn, 1) := by decide +kernel
theorem dX8_toolOf_118 : decode cX8_toolOf 118 = .ok (.aload_n 3, 1) := by decide +kernel
theorem dX8_toolOf_119 : decode cX8_toolOf 119 = .ok (.getfield 142, 3) := by decide +kernel
theorem dX8_toolOf_122 : decode cX8_toolOf 122 = .ok (.invokevirtual 133, 3) := by decide +kernel
theorem dX8_toolOf_125 : decode cX8_toolOf 125 = .ok (.ireturn, 1) := by decide +kernel
theorem dX8_toolOf_126 : decode cX8_toolOf 126 = .ok (.iconst (-1), 1) := by decide +kernel
theorem dX8_toolOf_127 : decode cX8_toolOf 127 = .ok (.ireturn, 1) := by decide +kernel
set_option maxRecDepth 20000 in
theorem ggX8_link_X2_isTool : GoodIn wsX8_link wsX2_isTool := goodIn_r _ [7, 8, 50, 51, 52, 53, 54, 55, 56, 57, 58, 59, 60] (by decide +kernel) (by decide +kernel)
set_option maxRecDepth 20000 in
theorem gX8_link_X2_isTool : GoodIn wsX8_link (wsV RX8 103 RX2 yX2_isTool wsX2_isTool) := goodIn_app (goodIn_of _ (by decide +kernel)) ggX8_link_X2_isTool
set_option maxRecDepth 20000 in
theorem ggX8_link_X2_toolAt : GoodIn wsX8_link wsX2_toolAt := goodIn_r _ [12, 13, 14, 50, 51, 52, 53, 54, 55, 56, 57, 58, 59, 60] (by decide +kernel) (by decide +kernel)
set_option maxRecDepth 20000 in
theorem gX8_link_X2_toolAt : GoodIn wsX8_link (wsV RX8 106 RX2 yX2_toolAt wsX2_toolAt) := goodIn_app (goodIn_of _ (by decide +kernel)) ggX8_link_X2_toolAt
set_option maxRecDepth 20000 in
theorem ggX8_link_X8_entryOf : GoodIn wsX8_link wsX8_entryOf := goodIn_r _ [18, 19, 20, 21, 22, 23, 24, 25, 26, 27, 28, 29, 30, 61, 62, 63, 64] (by decide +kernel) (by decide +kernel)
set_option maxRecDepth 20000 in
theorem gX8_link_X8_entryOf : GoodIn wsX8_link (va_wsS RX8 145 yX8_entryOf wsX8_entryOf) := goodIn_app (goodIn_of _ (by decide +kernel)) ggX8_link_X8_entryOf
theorem dX8_link_0 : decode cX8_link 0 = .ok (.aload_n 0, 1) := by decide +kernel
theorem dX8_link_1 : decode cX8_link 1 = .ok (.getfield 20, 3) := by decide +kernel
theorem dX8_link_4 : decode cX8_link 4 = .ok (.iload_n 1, 1) := by decide +kernel
theorem dX8_link_5 : decode cX8_link 5 = .ok (.invokevirtual 103, 3) := by decide +kernel
theorem dX8_link_8 : decode cX8_link 8 = .ok (.ifCond .eq 23, 3) := by decide +kernel
theorem dX8_link_11 : decode cX8_link 11 = .ok (.aload_n 0, 1) := by decide +kernel
theorem dX8_link_12 : decode cX8_link 12 = .ok (.getfield 20, 3) := by decide +kernel
theorem dX8_link_15 : decode cX8_link 15 = .ok (.iload_n 1, 1) := by decide +kernel
theorem dX8_link_16 : decode cX8_link 16 = .ok (.invokevirtual 106, 3) := by decide +kernel
theorem dX8_link_19 : decode cX8_link 19 = .ok (.getfield 139, 3) := by decide +kernel
theorem dX8_link_22 : decode cX8_link 22 = .ok (.iload_n 2, 1) := by decide +kernel
theorem dX8_link_23 : decode cX8_link 23 = .ok (.iload_n 3, 1) := by decide +kernel
theorem dX8_link_24 : decode cX8_link 24 = .ok (.iconst 2, 1) := by decide +kernel
theorem dX8_link_25 : decode cX8_link 25 = .ok (.invokestatic 145, 3) := by decide +kernel
theorem dX8_link_28 : decode cX8_link 28 = .ok (.goto 4, 3) := by decide +kernel
theorem dX8_link_31 : decode cX8_link 31 = .ok (.iconst (-1), 1) := by decide +kernel
theorem dX8_link_32 : decode cX8_link 32 = .ok (.ireturn, 1) := by decide +kernel
set_option maxRecDepth 20000 in
theorem ggX8_seen_X2_isTool : GoodIn wsX8_seen wsX2_isTool := goodIn_r _ [7, 8, 50, 51, 52, 53, 54, 55, 56, 57, 58, 59, 60] (by decide +kernel) (by decide +kernel)
set_option maxRecDepth 20000 in
theorem gX8_seen_X2_isTool : GoodIn wsX8_seen (wsV RX8 103 RX2 yX2_isTool wsX2_isTool) := goodIn_app (goodIn_of _ (by decide +kernel)) ggX8_seen_X2_isTool
set_option maxRecDepth 20000 in
theorem ggX8_seen_X2_toolAt : GoodIn wsX8_seen wsX2_toolAt := goodIn_r _ [12, 13, 14, 50, 51, 52, 53, 54, 55, 56, 57, 58, 59, 60] (by decide +kernel) (by decide +kernel)
set_option maxRecDepth 20000 in
theorem gX8_seen_X2_toolAt : GoodIn wsX8_seen (wsV RX8 106 RX2 yX2_toolAt wsX2_toolAt) := goodIn_app (goodIn_of _ (by decide +kernel)) ggX8_seen_X2_toolAt
set_option maxRecDepth 20000 in
theorem ggX8_seen_X8_entryOf : GoodIn wsX8_seen wsX8_entryOf := goodIn_r _ [18, 19, 20, 21, 22, 23, 24, 25, 26, 27, 28, 29, 30, 61, 62, 63, 64] (by decide +kernel) (by decide +kernel)
set_option maxRecDepth 20000 in
theorem gX8_seen_X8_entryOf : GoodIn wsX8_seen (va_wsS RX8 145 yX8_entryOf wsX8_entryOf) := goodIn_app (goodIn_of _ (by decide +kernel)) ggX8_seen_X8_entryOf
theorem dX8_seen_0 : decode cX8_seen 0 = .ok (.aload_n 0, 1) := by decide +kernel
theorem dX8_seen_1 : decode cX8_seen 1 = .ok (.getfield 20, 3) := by decide +kernel
theorem dX8_seen_4 : decode cX8_seen 4 = .ok (.iload_n 1, 1) := by decide +kernel
theorem dX8_seen_5 : decode cX8_seen 5 = .ok (.invokevirtual 103, 3) := by decide +kernel
theorem dX8_seen_8 : decode cX8_seen 8 = .ok (.ifCond .eq 23, 3) := by decide +kernel
theorem dX8_seen_11 : decode cX8_seen 11 = .ok (.aload_n 0, 1) := by decide +kernel
theorem dX8_seen_12 : decode cX8_seen 12 = .ok (.getfield 20, 3) := by decide +kernel
theorem dX8_seen_15 : decode cX8_seen 15 = .ok (.iload_n 1, 1) := by decide +kernel
theorem dX8_seen_16 : decode cX8_seen 16 = .ok (.invokevirtual 106, 3) := by decide +kernel
theorem dX8_seen_19 : decode cX8_seen 19 = .ok (.getfield 142, 3) := by decide +kernel
theorem dX8_seen_22 : decode cX8_seen 22 = .ok (.iload_n 2, 1) := by decide +kernel
theorem dX8_seen_23 : decode cX8_seen 23 = .ok (.iload_n 3, 1) := by decide +kernel
theorem dX8_seen_24 : decode cX8_seen 24 = .ok (.iconst 1, 1) := by decide +kernel
theorem dX8_seen_25 : decode cX8_seen 25 = .ok (.invokestatic 145, 3) := by decide +kernel
theorem dX8_seen_28 : decode cX8_seen 28 = .ok (.goto 4, 3) := by decide +kernel
theorem dX8_seen_31 : decode cX8_seen 31 = .ok (.iconst (-1), 1) := by decide +kernel
theorem dX8_seen_32 : decode cX8_seen 32 = .ok (.ireturn, 1) := by decide +kernel
set_option maxRecDepth 20000 in
theorem ggX8_claimOf_X2_isTool : GoodIn wsX8_claimOf wsX2_isTool := goodIn_r _ [7, 8, 50, 51, 52, 53, 54, 55, 56, 57, 58, 59, 60] (by decide +kernel) (by decide +kernel)
set_option maxRecDepth 20000 in
theorem gX8_claimOf_X2_isTool : GoodIn wsX8_claimOf (wsV RX8 103 RX2 yX2_isTool wsX2_isTool) := goodIn_app (goodIn_of _ (by decide +kernel)) ggX8_claimOf_X2_isTool
set_option maxRecDepth 20000 in
theorem ggX8_claimOf_X2_toolAt : GoodIn wsX8_claimOf wsX2_toolAt := goodIn_r _ [12, 13, 14, 50, 51, 52, 53, 54, 55, 56, 57, 58, 59, 60] (by decide +kernel) (by decide +kernel)
set_option maxRecDepth 20000 in
theorem gX8_claimOf_X2_toolAt : GoodIn wsX8_claimOf (wsV RX8 106 RX2 yX2_toolAt wsX2_toolAt) := goodIn_app (goodIn_of _ (by decide +kernel)) ggX8_claimOf_X2_toolAt
set_option maxRecDepth 20000 in
theorem ggX8_claimOf_X8_entryOf : GoodIn wsX8_claimOf wsX8_entryOf := goodIn_r _ [18, 19, 20, 21, 22, 23, 24, 25, 26, 27, 28, 29, 30, 61, 62, 63, 64] (by decide +kernel) (by decide +kernel)
set_option maxRecDepth 20000 in
theorem gX8_claimOf_X8_entryOf : GoodIn wsX8_claimOf (va_wsS RX8 145 yX8_entryOf wsX8_entryOf) := goodIn_app (goodIn_of _ (by decide +kernel)) ggX8_claimOf_X8_entryOf
theorem dX8_claimOf_0 : decode cX8_claimOf 0 = .ok (.aload_n 0, 1) := by decide +kernel
theorem dX8_claimOf_1 : decode cX8_claimOf 1 = .ok (.getfield 20, 3) := by decide +kernel
theorem dX8_claimOf_4 : decode cX8_claimOf 4 = .ok (.iload_n 1, 1) := by decide +kernel
theorem dX8_claimOf_5 : decode cX8_claimOf 5 = .ok (.invokevirtual 103, 3) := by decide +kernel
theorem dX8_claimOf_8 : decode cX8_claimOf 8 = .ok (.ifCond .eq 23, 3) := by decide +kernel
theorem dX8_claimOf_11 : decode cX8_claimOf 11 = .ok (.aload_n 0, 1) := by decide +kernel
theorem dX8_claimOf_12 : decode cX8_claimOf 12 = .ok (.getfield 20, 3) := by decide +kernel
theorem dX8_claimOf_15 : decode cX8_claimOf 15 = .ok (.iload_n 1, 1) := by decide +kernel
theorem dX8_claimOf_16 : decode cX8_claimOf 16 = .ok (.invokevirtual 106, 3) := by decide +kernel
theorem dX8_claimOf_19 : decode cX8_claimOf 19 = .ok (.getfield 130, 3) := by decide +kernel
theorem dX8_claimOf_22 : decode cX8_claimOf 22 = .ok (.iload_n 2, 1) := by decide +kernel
theorem dX8_claimOf_23 : decode cX8_claimOf 23 = .ok (.iload_n 3, 1) := by decide +kernel
theorem dX8_claimOf_24 : decode cX8_claimOf 24 = .ok (.iconst 3, 1) := by decide +kernel
theorem dX8_claimOf_25 : decode cX8_claimOf 25 = .ok (.invokestatic 145, 3) := by decide +kernel
theorem dX8_claimOf_28 : decode cX8_claimOf 28 = .ok (.goto 4, 3) := by decide +kernel
theorem dX8_claimOf_31 : decode cX8_claimOf 31 = .ok (.iconst (-1), 1) := by decide +kernel
theorem dX8_claimOf_32 : decode cX8_claimOf 32 = .ok (.ireturn, 1) := by decide +kernel
set_option maxRecDepth 20000 in
theorem ggX8_ranked_X2_personAtRank : GoodIn wsX8_ranked wsX2_personAtRank := goodIn_r _ [6, 7, 8, 9, 10, 5, 11, 12, 13, 14, 15, 16, 17, 18, 19, 20, 21, 22, 23, 24, 25, 26, 27, 28, 29, 39, 40, 41, 42, 43, 44, 45, 46, 47, 48, 49, 50, 51, 52, 53, 54, 55] (by decide +kernel) (by decide +kernel)
set_option maxRecDepth 20000 in
theorem gX8_ranked_X2_personAtRank : GoodIn wsX8_ranked (wsV RX8 149 RX2 yX2_personAtRank wsX2_personAtRank) := goodIn_app (goodIn_of _ (by decide +kernel)) ggX8_ranked_X2_personAtRank
theorem dX8_ranked_0 : decode cX8_ranked 0 = .ok (.iload_n 1, 1) := by decide +kernel
theorem dX8_ranked_1 : decode cX8_ranked 1 = .ok (.ifCond .ge 7, 3) := by decide +kernel
theorem dX8_ranked_4 : decode cX8_ranked 4 = .ok (.iconst (-1), 1) := by decide +kernel
theorem dX8_ranked_5 : decode cX8_ranked 5 = .ok (.goto 11, 3) := by decide +kernel
theorem dX8_ranked_8 : decode cX8_ranked 8 = .ok (.aload_n 0, 1) := by decide +kernel
theorem dX8_ranked_9 : decode cX8_ranked 9 = .ok (.getfield 20, 3) := by decide +kernel
theorem dX8_ranked_12 : decode cX8_ranked 12 = .ok (.iload_n 1, 1) := by decide +kernel
theorem dX8_ranked_13 : decode cX8_ranked 13 = .ok (.invokevirtual 149, 3) := by decide +kernel
theorem dX8_ranked_16 : decode cX8_ranked 16 = .ok (.ireturn, 1) := by decide +kernel
set_option maxRecDepth 20000 in
theorem ggX8_entryOf_X4_size : GoodIn wsX8_entryOf wsX4_size := goodIn_r _ [5, 6, 13, 14, 15, 16] (by decide +kernel) (by decide +kernel)
set_option maxRecDepth 20000 in
theorem gX8_entryOf_X4_size : GoodIn wsX8_entryOf (wsV RX8 133 RX4 yX4_size wsX4_size) := goodIn_app (goodIn_of _ (by decide +kernel)) ggX8_entryOf_X4_size
set_option maxRecDepth 20000 in
theorem ggX8_entryOf_X4_cell : GoodIn wsX8_entryOf wsX4_cell := goodIn_r _ [10, 6, 11, 12, 13, 14, 15, 16] (by decide +kernel) (by decide +kernel)
set_option maxRecDepth 20000 in
theorem gX8_entryOf_X4_cell : GoodIn wsX8_entryOf (wsV RX8 152 RX4 yX4_cell wsX4_cell) := goodIn_app (goodIn_of _ (by decide +kernel)) ggX8_entryOf_X4_cell
theorem dX8_entryOf_0 : decode cX8_entryOf 0 = .ok (.iload_n 1, 1) := by decide +kernel
theorem dX8_entryOf_1 : decode cX8_entryOf 1 = .ok (.ifCond .lt 12, 3) := by decide +kernel
theorem dX8_entryOf_4 : decode cX8_entryOf 4 = .ok (.iload_n 2, 1) := by decide +kernel
theorem dX8_entryOf_5 : decode cX8_entryOf 5 = .ok (.ifCond .lt 8, 3) := by decide +kernel
theorem dX8_entryOf_8 : decode cX8_entryOf 8 = .ok (.iload_n 2, 1) := by decide +kernel
theorem dX8_entryOf_9 : decode cX8_entryOf 9 = .ok (.iload_n 3, 1) := by decide +kernel
theorem dX8_entryOf_10 : decode cX8_entryOf 10 = .ok (.if_icmp .le 5, 3) := by decide +kernel
theorem dX8_entryOf_13 : decode cX8_entryOf 13 = .ok (.iconst (-1), 1) := by decide +kernel
theorem dX8_entryOf_14 : decode cX8_entryOf 14 = .ok (.ireturn, 1) := by decide +kernel
theorem dX8_entryOf_15 : decode cX8_entryOf 15 = .ok (.iload_n 1, 1) := by decide +kernel
theorem dX8_entryOf_16 : decode cX8_entryOf 16 = .ok (.aload_n 0, 1) := by decide +kernel
theorem dX8_entryOf_17 : decode cX8_entryOf 17 = .ok (.invokevirtual 133, 3) := by decide +kernel
theorem dX8_entryOf_20 : decode cX8_entryOf 20 = .ok (.if_icmp .ge 12, 3) := by decide +kernel
theorem dX8_entryOf_23 : decode cX8_entryOf 23 = .ok (.aload_n 0, 1) := by decide +kernel
theorem dX8_entryOf_24 : decode cX8_entryOf 24 = .ok (.iload_n 1, 1) := by decide +kernel
theorem dX8_entryOf_25 : decode cX8_entryOf 25 = .ok (.iload_n 2, 1) := by decide +kernel
theorem dX8_entryOf_26 : decode cX8_entryOf 26 = .ok (.invokevirtual 152, 3) := by decide +kernel
theorem dX8_entryOf_29 : decode cX8_entryOf 29 = .ok (.goto 5, 3) := by decide +kernel
theorem dX8_entryOf_32 : decode cX8_entryOf 32 = .ok (.bipush (-2), 2) := by decide +kernel
theorem dX8_entryOf_34 : decode cX8_entryOf 34 = .ok (.ireturn, 1) := by decide +kernel
set_option maxRecDepth 20000 in
theorem ggX8_lease_X2_leaseTo : GoodIn wsX8_lease wsX2_leaseTo := goodIn_r _ [6, 7, 8, 9, 10, 11, 12, 13, 5, 14, 15, 16, 17, 18, 19, 20, 21, 22, 23, 24, 25, 26, 27, 28, 29, 30, 31, 32, 33, 34, 35, 36, 37, 38, 39, 40, 41, 42, 43, 44, 45, 46, 47, 48, 49, 50, 51, 52, 53, 54, 55, 56, 57, 58, 59, 60, 61, 62, 63, 64, 65, 66, 67, 68, 69, 70, 80, 81, 82, 83, 84, 85, 86, 87, 88, 89, 90, 91, 92, 93, 94, 95, 96, 97, 98, 99, 100, 101, 102, 103, 104, 105, 106, 107, 108, 109, 110] (by decide +kernel) (by decide +kernel)
set_option maxRecDepth 20000 in
theorem gX8_lease_X2_leaseTo : GoodIn wsX8_lease (wsV RX8 155 RX2 yX2_leaseTo wsX2_leaseTo) := goodIn_app (goodIn_of _ (by decide +kernel)) ggX8_lease_X2_leaseTo
theorem dX8_lease_0 : decode cX8_lease 0 = .ok (.aload_n 0, 1) := by decide +kernel
theorem dX8_lease_1 : decode cX8_lease 1 = .ok (.getfield 20, 3) := by decide +kernel
theorem dX8_lease_4 : decode cX8_lease 4 = .ok (.iload_n 1, 1) := by decide +kernel
theorem dX8_lease_5 : decode cX8_lease 5 = .ok (.iload_n 2, 1) := by decide +kernel
theorem dX8_lease_6 : decode cX8_lease 6 = .ok (.iload_n 3, 1) := by decide +kernel
theorem dX8_lease_7 : decode cX8_lease 7 = .ok (.invokevirtual 155, 3) := by decide +kernel
theorem dX8_lease_10 : decode cX8_lease 10 = .ok (.ireturn, 1) := by decide +kernel
set_option maxRecDepth 20000 in
theorem ggX8_claim_X2_enterClaim : GoodIn wsX8_claim wsX2_enterClaim := goodIn_r _ [6, 7, 8, 9, 10, 11, 12, 5, 13, 14, 15, 16, 17, 18, 19, 20, 21, 22, 23, 24, 25, 26, 27, 28, 29, 30, 31, 32, 33, 34, 35, 36, 37, 38, 39, 40, 41, 42, 43, 44, 45, 46, 47, 48, 49, 50, 51, 52, 53, 54, 55, 56, 57, 58, 59, 60, 61, 62, 63, 64, 65, 66, 67, 68, 69, 79, 80, 81, 82, 83, 84, 85, 86, 87, 88, 89, 90, 91, 92, 93, 94, 95, 96, 97, 98, 99, 100, 101, 102, 103] (by decide +kernel) (by decide +kernel)
set_option maxRecDepth 20000 in
theorem gX8_claim_X2_enterClaim : GoodIn wsX8_claim (wsV RX8 158 RX2 yX2_enterClaim wsX2_enterClaim) := goodIn_app (goodIn_of _ (by decide +kernel)) ggX8_claim_X2_enterClaim
theorem dX8_claim_0 : decode cX8_claim 0 = .ok (.iload_n 3, 1) := by decide +kernel
theorem dX8_claim_1 : decode cX8_claim 1 = .ok (.ifCond .ge 7, 3) := by decide +kernel
theorem dX8_claim_4 : decode cX8_claim 4 = .ok (.iconst (-1), 1) := by decide +kernel
theorem dX8_claim_5 : decode cX8_claim 5 = .ok (.goto 20, 3) := by decide +kernel
theorem dX8_claim_8 : decode cX8_claim 8 = .ok (.aload_n 0, 1) := by decide +kernel
theorem dX8_claim_9 : decode cX8_claim 9 = .ok (.getfield 20, 3) := by decide +kernel
theorem dX8_claim_12 : decode cX8_claim 12 = .ok (.iload_n 1, 1) := by decide +kernel
theorem dX8_claim_13 : decode cX8_claim 13 = .ok (.iload_n 2, 1) := by decide +kernel
theorem dX8_claim_14 : decode cX8_claim 14 = .ok (.iload_n 3, 1) := by decide +kernel
theorem dX8_claim_15 : decode cX8_claim 15 = .ok (.bipush 100, 2) := by decide +kernel
theorem dX8_claim_17 : decode cX8_claim 17 = .ok (.idiv, 1) := by decide +kernel
theorem dX8_claim_18 : decode cX8_claim 18 = .ok (.iload_n 3, 1) := by decide +kernel
theorem dX8_claim_19 : decode cX8_claim 19 = .ok (.bipush 100, 2) := by decide +kernel
theorem dX8_claim_21 : decode cX8_claim 21 = .ok (.irem, 1) := by decide +kernel
theorem dX8_claim_22 : decode cX8_claim 22 = .ok (.invokevirtual 158, 3) := by decide +kernel
theorem dX8_claim_25 : decode cX8_claim 25 = .ok (.ireturn, 1) := by decide +kernel
set_option maxRecDepth 20000 in
theorem ggX8_waive_X2_dropClaim : GoodIn wsX8_waive wsX2_dropClaim := goodIn_r _ [6, 7, 8, 9, 10, 5, 11, 12, 13, 14, 15, 16, 17, 18, 19, 20, 21, 22, 23, 24, 25, 26, 27, 28, 29, 30, 31, 32, 33, 34, 35, 36, 37, 38, 39, 40, 41, 42, 43, 44, 45, 46, 56, 57, 58, 59, 60, 61, 62, 63, 64, 65, 66, 67, 68, 69, 70, 71, 72, 73, 74, 75, 76, 77, 78, 79, 80] (by decide +kernel) (by decide +kernel)
set_option maxRecDepth 20000 in
theorem gX8_waive_X2_dropClaim : GoodIn wsX8_waive (wsV RX8 162 RX2 yX2_dropClaim wsX2_dropClaim) := goodIn_app (goodIn_of _ (by decide +kernel)) ggX8_waive_X2_dropClaim
theorem dX8_waive_0 : decode cX8_waive 0 = .ok (.aload_n 0, 1) := by decide +kernel
theorem dX8_waive_1 : decode cX8_waive 1 = .ok (.getfield 20, 3) := by decide +kernel
theorem dX8_waive_4 : decode cX8_waive 4 = .ok (.iload_n 1, 1) := by decide +kernel
theorem dX8_waive_5 : decode cX8_waive 5 = .ok (.iload_n 2, 1) := by decide +kernel
theorem dX8_waive_6 : decode cX8_waive 6 = .ok (.invokevirtual 162, 3) := by decide +kernel
theorem dX8_waive_9 : decode cX8_waive 9 = .ok (.ireturn, 1) := by decide +kernel
set_option maxRecDepth 20000 in
theorem ggX8_returned_X2_giveBack : GoodIn wsX8_returned wsX2_giveBack := goodIn_r _ [6, 7, 8, 9, 10, 11, 12, 13, 14, 15, 5, 16, 17, 18, 19, 20, 21, 22, 23, 24, 25, 26, 27, 28, 29, 30, 31, 32, 33, 34, 35, 36, 37, 38, 39, 40, 41, 42, 43, 44, 45, 46, 47, 48, 49, 50, 51, 52, 53, 54, 55, 56, 57, 58, 59, 60, 61, 62, 63, 64, 65, 66, 67, 68, 69, 70, 71, 72, 73, 74, 75, 76, 77, 78, 79, 80, 81, 82, 83, 84, 85, 86, 87, 88, 89, 90, 91, 92, 93, 94, 95, 96, 97, 98, 99, 100, 101, 102, 103, 104, 105, 106, 107, 108, 109, 110, 111, 112, 113, 114, 115, 116, 117, 118, 119, 120, 121, 122, 123, 124, 125, 126, 127, 128, 129, 130, 131, 132, 133, 134, 135, 136, 137, 138, 139, 140, 141, 142, 143, 144, 145, 146, 147, 148, 149, 150, 151, 152, 153, 154, 155, 156, 157, 158, 159, 160, 161, 162, 163, 164, 165, 166, 167, 168, 169, 170, 171, 172, 173, 174, 175, 176, 177, 178, 179, 180, 181, 182, 183, 184, 185, 186, 187, 188, 189, 190, 191, 201, 202, 203, 204, 205, 206, 207, 208, 209, 210, 211, 212, 213, 214, 215, 216, 217, 218, 219, 220, 221, 222, 223, 224, 225, 226, 227, 228, 229, 230, 231, 232, 233] (by decide +kernel) (by decide +kernel)
set_option maxRecDepth 20000 in
theorem gX8_returned_X2_giveBack : GoodIn wsX8_returned (wsV RX8 165 RX2 yX2_giveBack wsX2_giveBack) := goodIn_app (goodIn_of _ (by decide +kernel)) ggX8_returned_X2_giveBack
theorem dX8_returned_0 : decode cX8_returned 0 = .ok (.aload_n 0, 1) := by decide +kernel
theorem dX8_returned_1 : decode cX8_returned 1 = .ok (.getfield 20, 3) := by decide +kernel
theorem dX8_returned_4 : decode cX8_returned 4 = .ok (.iload_n 1, 1) := by decide +kernel
theorem dX8_returned_5 : decode cX8_returned 5 = .ok (.invokevirtual 165, 3) := by decide +kernel
theorem dX8_returned_8 : decode cX8_returned 8 = .ok (.ireturn, 1) := by decide +kernel
set_option maxRecDepth 20000 in
theorem ggX8_pass_X2_passOn : GoodIn wsX8_pass wsX2_passOn := goodIn_r _ [6, 7, 8, 9, 10, 11, 5, 12, 13, 14, 15, 16, 17, 18, 19, 20, 21, 22, 23, 24, 25, 26, 27, 28, 29, 30, 31, 32, 33, 34, 35, 36, 37, 38, 39, 40, 41, 42, 43, 44, 45, 46, 47, 48, 49, 50, 51, 52, 53, 54, 55, 56, 57, 58, 59, 60, 61, 62, 63, 64, 65, 66, 67, 68, 69, 70, 71, 72, 73, 74, 75, 76, 77, 78, 79, 80, 81, 91, 92, 93, 94, 95, 96, 97, 98, 99, 100, 101, 102, 103, 104, 105, 106, 107, 108, 109, 110, 111, 112, 113, 114, 115, 116, 117, 118, 119, 120, 121] (by decide +kernel) (by decide +kernel)
set_option maxRecDepth 20000 in
theorem gX8_pass_X2_passOn : GoodIn wsX8_pass (wsV RX8 168 RX2 yX2_passOn wsX2_passOn) := goodIn_app (goodIn_of _ (by decide +kernel)) ggX8_pass_X2_passOn
theorem dX8_pass_0 : decode cX8_pass 0 = .ok (.aload_n 0, 1) := by decide +kernel
theorem dX8_pass_1 : decode cX8_pass 1 = .ok (.getfield 20, 3) := by decide +kernel
theorem dX8_pass_4 : decode cX8_pass 4 = .ok (.iload_n 1, 1) := by decide +kernel
theorem dX8_pass_5 : decode cX8_pass 5 = .ok (.iload_n 2, 1) := by decide +kernel
theorem dX8_pass_6 : decode cX8_pass 6 = .ok (.invokevirtual 168, 3) := by decide +kernel
theorem dX8_pass_9 : decode cX8_pass 9 = .ok (.ireturn, 1) := by decide +kernel
set_option maxRecDepth 20000 in
theorem ggX8_swap_X2_exchange : GoodIn wsX8_swap wsX2_exchange := goodIn_r _ [6, 7, 8, 9, 10, 5, 11, 12, 13, 14, 15, 16, 17, 18, 19, 20, 21, 22, 23, 24, 25, 26, 27, 28, 29, 30, 31, 32, 33, 34, 35, 36, 37, 38, 39, 40, 41, 42, 43, 44, 45, 46, 47, 48, 49, 50, 51, 52, 53, 54, 55, 56, 57, 58, 59, 60, 61, 62, 63, 64, 65, 66, 67, 68, 69, 70, 71, 72, 73, 74, 75, 76, 77, 78, 79, 80, 81, 82, 83, 84, 85, 86, 87, 88, 89, 90, 91, 92, 93, 94, 95, 96, 97, 98, 108, 109, 110, 111, 112, 113, 114, 115, 116, 117, 118, 119, 120, 121, 122, 123, 124, 125, 126, 127, 128, 129, 130, 131, 132, 133, 134, 135, 136, 137, 138] (by decide +kernel) (by decide +kernel)
set_option maxRecDepth 20000 in
theorem gX8_swap_X2_exchange : GoodIn wsX8_swap (wsV RX8 171 RX2 yX2_exchange wsX2_exchange) := goodIn_app (goodIn_of _ (by decide +kernel)) ggX8_swap_X2_exchange
theorem dX8_swap_0 : decode cX8_swap 0 = .ok (.aload_n 0, 1) := by decide +kernel
theorem dX8_swap_1 : decode cX8_swap 1 = .ok (.getfield 20, 3) := by decide +kernel
theorem dX8_swap_4 : decode cX8_swap 4 = .ok (.iload_n 1, 1) := by decide +kernel
theorem dX8_swap_5 : decode cX8_swap 5 = .ok (.iload_n 2, 1) := by decide +kernel
theorem dX8_swap_6 : decode cX8_swap 6 = .ok (.invokevirtual 171, 3) := by decide +kernel
theorem dX8_swap_9 : decode cX8_swap 9 = .ok (.ireturn, 1) := by decide +kernel
set_option maxRecDepth 20000 in
theorem ggX8_use_X2_wearDown : GoodIn wsX8_use wsX2_wearDown := goodIn_r _ [6, 7, 8, 9, 10, 11, 12, 13, 14, 5, 15, 16, 17, 18, 19, 20, 21, 22, 23, 24, 25, 26, 27, 28, 38, 39, 40, 41, 42, 43, 44, 45, 46, 47, 48, 49, 50, 51, 52, 53, 54, 55, 56, 57, 58] (by decide +kernel) (by decide +kernel)
set_option maxRecDepth 20000 in
theorem gX8_use_X2_wearDown : GoodIn wsX8_use (wsV RX8 174 RX2 yX2_wearDown wsX2_wearDown) := goodIn_app (goodIn_of _ (by decide +kernel)) ggX8_use_X2_wearDown
theorem dX8_use_0 : decode cX8_use 0 = .ok (.aload_n 0, 1) := by decide +kernel
theorem dX8_use_1 : decode cX8_use 1 = .ok (.getfield 20, 3) := by decide +kernel
theorem dX8_use_4 : decode cX8_use 4 = .ok (.iload_n 1, 1) := by decide +kernel
theorem dX8_use_5 : decode cX8_use 5 = .ok (.iload_n 2, 1) := by decide +kernel
theorem dX8_use_6 : decode cX8_use 6 = .ok (.invokevirtual 174, 3) := by decide +kernel
theorem dX8_use_9 : decode cX8_use 9 = .ok (.ireturn, 1) := by decide +kernel
set_option maxRecDepth 20000 in
theorem ggX8_look_X2_lookAt : GoodIn wsX8_look wsX2_lookAt := goodIn_r _ [6, 7, 8, 9, 10, 11, 12, 5, 13, 14, 15, 16, 17, 18, 19, 20, 21, 22, 23, 24, 25, 26, 27, 28, 29, 30, 31, 32, 33, 34, 35, 36, 37, 38, 39, 40, 41, 42, 43, 44, 45, 46, 47, 48, 49, 50, 51, 52, 53, 54, 55, 56, 57, 58, 59, 60, 61, 62, 63, 64, 65, 66, 67, 68, 69, 70, 71, 72, 73, 74, 75, 76, 77, 78, 79, 80, 81, 82, 83, 84, 85, 86, 87, 88, 89, 90, 91, 92, 93, 94, 95, 96, 97, 98, 99, 100, 101, 102, 103, 104, 105, 106, 107, 108, 109, 110, 111, 112, 113, 114, 115, 116, 117, 118, 119, 120, 121, 122, 123, 124, 125, 126, 127, 128, 129, 130, 140, 141, 142, 143, 144, 145, 146, 147, 148, 149, 150, 151, 152, 153, 154, 155, 156, 157, 158, 159, 160, 161, 162, 163, 164, 165, 166, 167, 168, 169, 170, 171, 172] (by decide +kernel) (by decide +kernel)
set_option maxRecDepth 20000 in
theorem gX8_look_X2_lookAt : GoodIn wsX8_look (wsV RX8 177 RX2 yX2_lookAt wsX2_lookAt) := goodIn_app (goodIn_of _ (by decide +kernel)) ggX8_look_X2_lookAt
theorem dX8_look_0 : decode cX8_look 0 = .ok (.aload_n 0, 1) := by decide +kernel
theorem dX8_look_1 : decode cX8_look 1 = .ok (.getfield 20, 3) := by decide +kernel
theorem dX8_look_4 : decode cX8_look 4 = .ok (.iload_n 1, 1) := by decide +kernel
theorem dX8_look_5 : decode cX8_look 5 = .ok (.invokevirtual 177, 3) := by decide +kernel
theorem dX8_look_8 : decode cX8_look 8 = .ok (.ireturn, 1) := by decide +kernel
set_option maxRecDepth 20000 in
theorem ggX8_days_X2_passDays : GoodIn wsX8_days wsX2_passDays := goodIn_r _ [6, 7, 17, 18, 19, 20, 21, 22, 23, 24, 25, 26, 27] (by decide +kernel) (by decide +kernel)
set_option maxRecDepth 20000 in
theorem gX8_days_X2_passDays : GoodIn wsX8_days (wsV RX8 180 RX2 yX2_passDays wsX2_passDays) := goodIn_app (goodIn_of _ (by decide +kernel)) ggX8_days_X2_passDays
theorem dX8_days_0 : decode cX8_days 0 = .ok (.aload_n 0, 1) := by decide +kernel
theorem dX8_days_1 : decode cX8_days 1 = .ok (.getfield 20, 3) := by decide +kernel
theorem dX8_days_4 : decode cX8_days 4 = .ok (.iload_n 1, 1) := by decide +kernel
theorem dX8_days_5 : decode cX8_days 5 = .ok (.invokevirtual 180, 3) := by decide +kernel
theorem dX8_days_8 : decode cX8_days 8 = .ok (.ireturn, 1) := by decide +kernel
theorem dX8_why_0 : decode cX8_why 0 = .ok (.iload_n 1, 1) := by decide +kernel
theorem dX8_why_1 : decode cX8_why 1 = .ok (.ifCond .ge 5, 3) := by decide +kernel
theorem dX8_why_4 : decode cX8_why 4 = .ok (.iconst (-1), 1) := by decide +kernel
theorem dX8_why_5 : decode cX8_why 5 = .ok (.ireturn, 1) := by decide +kernel
theorem dX8_why_6 : decode cX8_why 6 = .ok (.iload_n 1, 1) := by decide +kernel
theorem dX8_why_7 : decode cX8_why 7 = .ok (.ifCond .ne 13, 3) := by decide +kernel
theorem dX8_why_10 : decode cX8_why 10 = .ok (.aload_n 0, 1) := by decide +kernel
theorem dX8_why_11 : decode cX8_why 11 = .ok (.getfield 20, 3) := by decide +kernel
theorem dX8_why_14 : decode cX8_why 14 = .ok (.getfield 183, 3) := by decide +kernel
theorem dX8_why_17 : decode cX8_why 17 = .ok (.goto 19, 3) := by decide +kernel
theorem dX8_why_20 : decode cX8_why 20 = .ok (.iload_n 1, 1) := by decide +kernel
theorem dX8_why_21 : decode cX8_why 21 = .ok (.iconst 1, 1) := by decide +kernel
theorem dX8_why_22 : decode cX8_why 22 = .ok (.if_icmp .ne 13, 3) := by decide +kernel
theorem dX8_why_25 : decode cX8_why 25 = .ok (.aload_n 0, 1) := by decide +kernel
theorem dX8_why_26 : decode cX8_why 26 = .ok (.getfield 20, 3) := by decide +kernel
theorem dX8_why_29 : decode cX8_why 29 = .ok (.getfield 186, 3) := by decide +kernel
theorem dX8_why_32 : decode cX8_why 32 = .ok (.goto 4, 3) := by decide +kernel
theorem dX8_why_35 : decode cX8_why 35 = .ok (.iconst 0, 1) := by decide +kernel
theorem dX8_why_36 : decode cX8_why 36 = .ok (.istore_n 2, 1) := by decide +kernel
theorem dX8_why_37 : decode cX8_why 37 = .ok (.iload_n 2, 1) := by decide +kernel
theorem dX8_why_38 : decode cX8_why 38 = .ok (.ifCond .ne 8, 3) := by decide +kernel
theorem dX8_why_41 : decode cX8_why 41 = .ok (.bipush (-2), 2) := by decide +kernel
theorem dX8_why_43 : decode cX8_why 43 = .ok (.goto 4, 3) := by decide +kernel
theorem dX8_why_46 : decode cX8_why 46 = .ok (.iload_n 2, 1) := by decide +kernel
theorem dX8_why_47 : decode cX8_why 47 = .ok (.ireturn, 1) := by decide +kernel
set_option maxRecDepth 20000 in
theorem ggX8_told_X2_isTool : GoodIn wsX8_told wsX2_isTool := goodIn_r _ [8, 9, 127, 128, 129, 130, 131, 132, 133, 134, 135, 136, 137] (by decide +kernel) (by decide +kernel)
set_option maxRecDepth 20000 in
theorem gX8_told_X2_isTool : GoodIn wsX8_told (wsV RX8 103 RX2 yX2_isTool wsX2_isTool) := goodIn_app (goodIn_of _ (by decide +kernel)) ggX8_told_X2_isTool
set_option maxRecDepth 20000 in
theorem ggX8_told_X6_nextOf : GoodIn wsX8_told wsX6_nextOf := goodIn_r _ [14, 15, 16, 17, 18, 19, 7, 20, 21, 22, 23, 24, 25, 26, 27, 28, 29, 30, 31, 32, 33, 34, 35, 36, 37, 38, 39, 40, 41, 42, 43, 44, 45, 46, 47, 48, 49, 138, 139, 140, 141, 142, 143, 144, 145, 146, 147, 148, 149, 127, 128, 129, 130, 131, 132, 133, 134, 135, 136, 137, 150, 151, 152, 153, 154, 155, 156, 157, 158, 159] (by decide +kernel) (by decide +kernel)
set_option maxRecDepth 20000 in
theorem gX8_told_X6_nextOf : GoodIn wsX8_told (wsV RX8 189 RX6 yX6_nextOf wsX6_nextOf) := goodIn_app (goodIn_of _ (by decide +kernel)) ggX8_told_X6_nextOf
set_option maxRecDepth 20000 in
theorem ggX8_told_X6_suspectsOf : GoodIn wsX8_told wsX6_suspectsOf := goodIn_r _ [53, 54, 15, 17, 18, 19, 7, 20, 21, 22, 55, 56, 57, 58, 59, 60, 61, 62, 63, 64, 65, 66, 67, 68, 69, 70, 71, 34, 72, 36, 73, 32, 33, 35, 74, 38, 39, 40, 41, 42, 75, 76, 77, 78, 79, 80, 81, 82, 83, 84, 85, 86, 87, 88, 89, 90, 91, 92, 93, 94, 95, 138, 139, 127, 128, 129, 130, 131, 132, 133, 134, 135, 136, 137, 160, 161, 140, 141, 142, 143, 144, 145, 146, 147, 148, 149, 156, 157, 158, 159] (by decide +kernel) (by decide +kernel)
set_option maxRecDepth 20000 in
theorem gX8_told_X6_suspectsOf : GoodIn wsX8_told (wsV RX8 192 RX6 yX6_suspectsOf wsX6_suspectsOf) := goodIn_app (goodIn_of _ (by decide +kernel)) ggX8_told_X6_suspectsOf
set_option maxRecDepth 20000 in
theorem ggX8_told_X2_toolAt : GoodIn wsX8_told wsX2_toolAt := goodIn_r _ [20, 21, 22, 127, 128, 129, 130, 131, 132, 133, 134, 135, 136, 137] (by decide +kernel) (by decide +kernel)
set_option maxRecDepth 20000 in
theorem gX8_told_X2_toolAt : GoodIn wsX8_told (wsV RX8 106 RX2 yX2_toolAt wsX2_toolAt) := goodIn_app (goodIn_of _ (by decide +kernel)) ggX8_told_X2_toolAt
set_option maxRecDepth 20000 in
theorem ggX8_told_X7_feeOn : GoodIn wsX8_told wsX7_feeOn := goodIn_r _ [101, 102, 103, 104, 105, 67, 106, 107, 108, 109, 100, 110, 111, 112, 66, 68, 113, 114, 115, 116, 117, 140, 141, 142, 143, 144, 145, 146, 147, 148, 149] (by decide +kernel) (by decide +kernel)
set_option maxRecDepth 20000 in
theorem gX8_told_X7_feeOn : GoodIn wsX8_told (wsV RX8 198 RX7 yX7_feeOn wsX7_feeOn) := goodIn_app (goodIn_of _ (by decide +kernel)) ggX8_told_X7_feeOn
theorem dX8_told_0 : decode cX8_told 0 = .ok (.aload_n 0, 1) := by decide +kernel
theorem dX8_told_1 : decode cX8_told 1 = .ok (.getfield 20, 3) := by decide +kernel
theorem dX8_told_4 : decode cX8_told 4 = .ok (.iload_n 1, 1) := by decide +kernel
theorem dX8_told_5 : decode cX8_told 5 = .ok (.invokevirtual 103, 3) := by decide +kernel
theorem dX8_told_8 : decode cX8_told 8 = .ok (.ifCond .ne 5, 3) := by decide +kernel
theorem dX8_told_11 : decode cX8_told 11 = .ok (.iconst (-1), 1) := by decide +kernel
theorem dX8_told_12 : decode cX8_told 12 = .ok (.ireturn, 1) := by decide +kernel
theorem dX8_told_13 : decode cX8_told 13 = .ok (.iload_n 2, 1) := by decide +kernel
theorem dX8_told_14 : decode cX8_told 14 = .ok (.tableswitch 63 0 2 #[26, 35, 44], 26) := by decide +kernel
theorem dX8_told_40 : decode cX8_told 40 = .ok (.aload_n 0, 1) := by decide +kernel
theorem dX8_told_41 : decode cX8_told 41 = .ok (.getfield 12, 3) := by decide +kernel
theorem dX8_told_44 : decode cX8_told 44 = .ok (.iload_n 1, 1) := by decide +kernel
theorem dX8_told_45 : decode cX8_told 45 = .ok (.invokevirtual 189, 3) := by decide +kernel
theorem dX8_told_48 : decode cX8_told 48 = .ok (.ireturn, 1) := by decide +kernel
theorem dX8_told_49 : decode cX8_told 49 = .ok (.aload_n 0, 1) := by decide +kernel
theorem dX8_told_50 : decode cX8_told 50 = .ok (.getfield 12, 3) := by decide +kernel
theorem dX8_told_53 : decode cX8_told 53 = .ok (.iload_n 1, 1) := by decide +kernel
theorem dX8_told_54 : decode cX8_told 54 = .ok (.invokevirtual 192, 3) := by decide +kernel
theorem dX8_told_57 : decode cX8_told 57 = .ok (.ireturn, 1) := by decide +kernel
theorem dX8_told_58 : decode cX8_told 58 = .ok (.aload_n 0, 1) := by decide +kernel
theorem dX8_told_59 : decode cX8_told 59 = .ok (.getfield 20, 3) := by decide +kernel
theorem dX8_told_62 : decode cX8_told 62 = .ok (.iload_n 1, 1) := by decide +kernel
theorem dX8_told_63 : decode cX8_told 63 = .ok (.invokevirtual 106, 3) := by decide +kernel
theorem dX8_told_66 : decode cX8_told 66 = .ok (.aload_n 0, 1) := by decide +kernel
theorem dX8_told_67 : decode cX8_told 67 = .ok (.getfield 20, 3) := by decide +kernel
theorem dX8_told_70 : decode cX8_told 70 = .ok (.getfield 195, 3) := by decide +kernel
theorem dX8_told_73 : decode cX8_told 73 = .ok (.invokevirtual 198, 3) := by decide +kernel
theorem dX8_told_76 : decode cX8_told 76 = .ok (.ireturn, 1) := by decide +kernel
theorem dX8_told_77 : decode cX8_told 77 = .ok (.iconst (-1), 1) := by decide +kernel
theorem dX8_told_78 : decode cX8_told 78 = .ok (.ireturn, 1) := by decide +kernel
set_option maxRecDepth 20000 in
theorem ggX8_share_X2_isTool : GoodIn wsX8_share wsX2_isTool := goodIn_r _ [7, 8, 106, 107, 108, 109, 110, 111, 112, 113, 114, 115, 116] (by decide +kernel) (by decide +kernel)
set_option maxRecDepth 20000 in
theorem gX8_share_X2_isTool : GoodIn wsX8_share (wsV RX8 103 RX2 yX2_isTool wsX2_isTool) := goodIn_app (goodIn_of _ (by decide +kernel)) ggX8_share_X2_isTool
set_option maxRecDepth 20000 in
theorem ggX8_share_X2_isPerson : GoodIn wsX8_share wsX2_isPerson := goodIn_r _ [12, 13, 106, 107, 108, 109, 110, 111, 112, 113, 114, 115, 116] (by decide +kernel) (by decide +kernel)
set_option maxRecDepth 20000 in
theorem gX8_share_X2_isPerson : GoodIn wsX8_share (wsV RX8 68 RX2 yX2_isPerson wsX2_isPerson) := goodIn_app (goodIn_of _ (by decide +kernel)) ggX8_share_X2_isPerson
set_option maxRecDepth 20000 in
theorem ggX8_share_X6_shareOf : GoodIn wsX8_share wsX6_shareOf := goodIn_r _ [18, 19, 20, 21, 22, 23, 6, 24, 25, 26, 27, 28, 29, 30, 31, 32, 33, 34, 35, 36, 37, 38, 39, 40, 41, 42, 43, 44, 45, 46, 47, 48, 49, 50, 51, 52, 53, 54, 55, 56, 57, 58, 59, 60, 61, 62, 63, 64, 65, 66, 67, 68, 69, 70, 71, 72, 73, 74, 75, 76, 77, 78, 79, 80, 81, 82, 83, 84, 85, 86, 87, 88, 89, 90, 91, 92, 93, 94, 95, 96, 117, 118, 106, 107, 108, 109, 110, 111, 112, 113, 114, 115, 116, 119, 120, 121, 122, 123, 124, 125, 126, 127, 128, 129, 130, 131, 132, 133, 134] (by decide +kernel) (by decide +kernel)
set_option maxRecDepth 20000 in
theorem gX8_share_X6_shareOf : GoodIn wsX8_share (wsV RX8 201 RX6 yX6_shareOf wsX6_shareOf) := goodIn_app (goodIn_of _ (by decide +kernel)) ggX8_share_X6_shareOf
theorem dX8_share_0 : decode cX8_share 0 = .ok (.aload_n 0, 1) := by decide +kernel
theorem dX8_share_1 : decode cX8_share 1 = .ok (.getfield 20, 3) := by decide +kernel
theorem dX8_share_4 : decode cX8_share 4 = .ok (.iload_n 1, 1) := by decide +kernel
theorem dX8_share_5 : decode cX8_share 5 = .ok (.invokevirtual 103, 3) := by decide +kernel
theorem dX8_share_8 : decode cX8_share 8 = .ok (.ifCond .eq 14, 3) := by decide +kernel
theorem dX8_share_11 : decode cX8_share 11 = .ok (.aload_n 0, 1) := by decide +kernel
theorem dX8_share_12 : decode cX8_share 12 = .ok (.getfield 20, 3) := by decide +kernel
theorem dX8_share_15 : decode cX8_share 15 = .ok (.iload_n 2, 1) := by decide +kernel
theorem dX8_share_16 : decode cX8_share 16 = .ok (.invokevirtual 68, 3) := by decide +kernel
theorem dX8_share_19 : decode cX8_share 19 = .ok (.ifCond .ne 5, 3) := by decide +kernel
theorem dX8_share_22 : decode cX8_share 22 = .ok (.iconst (-1), 1) := by decide +kernel
theorem dX8_share_23 : decode cX8_share 23 = .ok (.ireturn, 1) := by decide +kernel
theorem dX8_share_24 : decode cX8_share 24 = .ok (.aload_n 0, 1) := by decide +kernel
theorem dX8_share_25 : decode cX8_share 25 = .ok (.getfield 12, 3) := by decide +kernel
theorem dX8_share_28 : decode cX8_share 28 = .ok (.iload_n 1, 1) := by decide +kernel
theorem dX8_share_29 : decode cX8_share 29 = .ok (.iload_n 2, 1) := by decide +kernel
theorem dX8_share_30 : decode cX8_share 30 = .ok (.invokevirtual 201, 3) := by decide +kernel
theorem dX8_share_33 : decode cX8_share 33 = .ok (.ireturn, 1) := by decide +kernel
set_option maxRecDepth 20000 in
theorem ggX8_swaps_X6_swapsNow : GoodIn wsX8_swaps wsX6_swapsNow := goodIn_r _ [6, 7, 8, 9, 10, 11, 5, 12, 13, 14, 15, 16, 17, 18, 19, 20, 21, 22, 23, 24, 25, 26, 27, 28, 29, 30, 31, 32, 33, 34, 35, 36, 37, 38, 39, 40, 41, 42, 43, 44, 45, 46, 47, 48, 49, 50, 51, 52, 53, 54, 55, 56, 57, 58, 59, 60, 61, 62, 63, 64, 65, 66, 67, 104, 105, 106, 107, 108, 109, 110, 111, 112, 113, 114, 115, 116, 117, 118, 119, 120, 121, 122, 123, 124, 125, 126, 127, 128, 129, 130, 131, 132] (by decide +kernel) (by decide +kernel)
set_option maxRecDepth 20000 in
theorem gX8_swaps_X6_swapsNow : GoodIn wsX8_swaps (wsV RX8 204 RX6 yX6_swapsNow wsX6_swapsNow) := goodIn_app (goodIn_of _ (by decide +kernel)) ggX8_swaps_X6_swapsNow
set_option maxRecDepth 20000 in
theorem ggX8_swaps_X6_bestSwap : GoodIn wsX8_swaps wsX6_bestSwap := goodIn_r _ [71, 7, 8, 36, 37, 38, 16, 39, 40, 41, 42, 43, 18, 24, 25, 26, 27, 28, 29, 44, 45, 46, 47, 48, 49, 50, 51, 52, 53, 54, 55, 9, 10, 11, 5, 12, 13, 14, 15, 17, 19, 20, 21, 22, 23, 30, 31, 32, 33, 34, 35, 56, 57, 58, 59, 60, 61, 62, 63, 64, 65, 66, 67, 104, 105, 106, 107, 108, 109, 110, 111, 112, 113, 114, 115, 116, 117, 118, 119, 120, 121, 122, 123, 124, 125, 126, 127, 128, 129, 130, 131, 132] (by decide +kernel) (by decide +kernel)
set_option maxRecDepth 20000 in
theorem gX8_swaps_X6_bestSwap : GoodIn wsX8_swaps (wsV RX8 207 RX6 yX6_bestSwap wsX6_bestSwap) := goodIn_app (goodIn_of _ (by decide +kernel)) ggX8_swaps_X6_bestSwap
set_option maxRecDepth 20000 in
theorem ggX8_swaps_X6_ringsNow : GoodIn wsX8_swaps wsX6_ringsNow := goodIn_r _ [75, 7, 8, 76, 77, 78, 5, 79, 13, 14, 15, 16, 17, 18, 19, 20, 21, 22, 23, 24, 25, 26, 27, 28, 29, 30, 31, 32, 33, 34, 35, 80, 41, 42, 43, 44, 45, 46, 47, 48, 49, 50, 51, 52, 53, 54, 55, 81, 82, 83, 84, 104, 105, 106, 107, 108, 109, 110, 111, 112, 113, 114, 115, 116, 117, 118, 119, 120, 121, 122, 123, 124, 125, 126, 127, 128, 129, 130, 131, 132] (by decide +kernel) (by decide +kernel)
set_option maxRecDepth 20000 in
theorem gX8_swaps_X6_ringsNow : GoodIn wsX8_swaps (wsV RX8 210 RX6 yX6_ringsNow wsX6_ringsNow) := goodIn_app (goodIn_of _ (by decide +kernel)) ggX8_swaps_X6_ringsNow
set_option maxRecDepth 20000 in
theorem ggX8_swaps_X6_allCoins : GoodIn wsX8_swaps wsX6_allCoins := goodIn_r _ [88, 7, 89, 90, 91, 8, 92, 93, 45, 46, 16, 47, 48, 49, 94, 25, 26, 27, 28, 29, 104, 105, 106, 107, 108, 109, 110, 111, 112, 113, 114, 115, 116, 127, 128, 129, 130, 131, 132, 117, 118, 119, 120, 121, 122, 123, 124, 125, 126] (by decide +kernel) (by decide +kernel)
set_option maxRecDepth 20000 in
theorem gX8_swaps_X6_allCoins : GoodIn wsX8_swaps (wsV RX8 213 RX6 yX6_allCoins wsX6_allCoins) := goodIn_app (goodIn_of _ (by decide +kernel)) ggX8_swaps_X6_allCoins
theorem dX8_swaps_0 : decode cX8_swaps 0 = .ok (.iload_n 1, 1) := by decide +kernel
theorem dX8_swaps_1 : decode cX8_swaps 1 = .ok (.tableswitch 63 0 3 #[31, 39, 47, 55], 31) := by decide +kernel
theorem dX8_swaps_32 : decode cX8_swaps 32 = .ok (.aload_n 0, 1) := by decide +kernel
theorem dX8_swaps_33 : decode cX8_swaps 33 = .ok (.getfield 12, 3) := by decide +kernel
theorem dX8_swaps_36 : decode cX8_swaps 36 = .ok (.invokevirtual 204, 3) := by decide +kernel
theorem dX8_swaps_39 : decode cX8_swaps 39 = .ok (.ireturn, 1) := by decide +kernel
theorem dX8_swaps_40 : decode cX8_swaps 40 = .ok (.aload_n 0, 1) := by decide +kernel
theorem dX8_swaps_41 : decode cX8_swaps 41 = .ok (.getfield 12, 3) := by decide +kernel
theorem dX8_swaps_44 : decode cX8_swaps 44 = .ok (.invokevirtual 207, 3) := by decide +kernel
theorem dX8_swaps_47 : decode cX8_swaps 47 = .ok (.ireturn, 1) := by decide +kernel
theorem dX8_swaps_48 : decode cX8_swaps 48 = .ok (.aload_n 0, 1) := by decide +kernel
theorem dX8_swaps_49 : decode cX8_swaps 49 = .ok (.getfield 12, 3) := by decide +kernel
theorem dX8_swaps_52 : decode cX8_swaps 52 = .ok (.invokevirtual 210, 3) := by decide +kernel
theorem dX8_swaps_55 : decode cX8_swaps 55 = .ok (.ireturn, 1) := by decide +kernel
theorem dX8_swaps_56 : decode cX8_swaps 56 = .ok (.aload_n 0, 1) := by decide +kernel
theorem dX8_swaps_57 : decode cX8_swaps 57 = .ok (.getfield 12, 3) := by decide +kernel
theorem dX8_swaps_60 : decode cX8_swaps 60 = .ok (.invokevirtual 213, 3) := by decide +kernel
theorem dX8_swaps_63 : decode cX8_swaps 63 = .ok (.ireturn, 1) := by decide +kernel
theorem dX8_swaps_64 : decode cX8_swaps 64 = .ok (.iconst (-1), 1) := by decide +kernel
theorem dX8_swaps_65 : decode cX8_swaps 65 = .ok (.ireturn, 1) := by decide +kernel
set_option maxRecDepth 20000 in
theorem ggX8_ahead_X6_toolsDueBefore : GoodIn wsX8_ahead wsX6_toolsDueBefore := goodIn_r _ [8, 9, 10, 11, 12, 13, 14, 15, 16, 17, 18, 19, 20, 21, 22, 23, 24, 25, 26, 27, 28, 29, 30, 31, 32, 67, 68, 56, 57, 58, 59, 60, 61, 62, 63, 64, 65, 66, 69, 70, 71, 72, 73, 74, 75, 76, 77, 78] (by decide +kernel) (by decide +kernel)
set_option maxRecDepth 20000 in
theorem gX8_ahead_X6_toolsDueBefore : GoodIn wsX8_ahead (wsV RX8 216 RX6 yX6_toolsDueBefore wsX6_toolsDueBefore) := goodIn_app (goodIn_of _ (by decide +kernel)) ggX8_ahead_X6_toolsDueBefore
set_option maxRecDepth 20000 in
theorem ggX8_ahead_X6_feesOn : GoodIn wsX8_ahead wsX6_feesOn := goodIn_r _ [36, 9, 10, 11, 12, 13, 14, 15, 16, 17, 37, 38, 39, 21, 40, 41, 42, 43, 44, 26, 45, 46, 19, 20, 22, 23, 24, 25, 27, 28, 29, 30, 31, 32, 67, 68, 56, 57, 58, 59, 60, 61, 62, 63, 64, 65, 66, 69, 70, 71, 72, 73, 74, 75, 76, 77, 78] (by decide +kernel) (by decide +kernel)
set_option maxRecDepth 20000 in
theorem gX8_ahead_X6_feesOn : GoodIn wsX8_ahead (wsV RX8 219 RX6 yX6_feesOn wsX6_feesOn) := goodIn_app (goodIn_of _ (by decide +kernel)) ggX8_ahead_X6_feesOn
theorem dX8_ahead_0 : decode cX8_ahead 0 = .ok (.iload_n 1, 1) := by decide +kernel
theorem dX8_ahead_1 : decode cX8_ahead 1 = .ok (.ifCond .lt 9, 3) := by decide +kernel
theorem dX8_ahead_4 : decode cX8_ahead 4 = .ok (.iload_n 1, 1) := by decide +kernel
theorem dX8_ahead_5 : decode cX8_ahead 5 = .ok (.bipush 60, 2) := by decide +kernel
theorem dX8_ahead_7 : decode cX8_ahead 7 = .ok (.if_icmp .le 5, 3) := by decide +kernel
theorem dX8_ahead_10 : decode cX8_ahead 10 = .ok (.iconst (-1), 1) := by decide +kernel
theorem dX8_ahead_11 : decode cX8_ahead 11 = .ok (.ireturn, 1) := by decide +kernel
theorem dX8_ahead_12 : decode cX8_ahead 12 = .ok (.iload_n 2, 1) := by decide +kernel
theorem dX8_ahead_13 : decode cX8_ahead 13 = .ok (.lookupswitch 61 #[(0, 27), (1, 44)], 27) := by decide +kernel
theorem dX8_ahead_40 : decode cX8_ahead 40 = .ok (.aload_n 0, 1) := by decide +kernel
theorem dX8_ahead_41 : decode cX8_ahead 41 = .ok (.getfield 12, 3) := by decide +kernel
theorem dX8_ahead_44 : decode cX8_ahead 44 = .ok (.aload_n 0, 1) := by decide +kernel
theorem dX8_ahead_45 : decode cX8_ahead 45 = .ok (.getfield 20, 3) := by decide +kernel
theorem dX8_ahead_48 : decode cX8_ahead 48 = .ok (.getfield 195, 3) := by decide +kernel
theorem dX8_ahead_51 : decode cX8_ahead 51 = .ok (.iload_n 1, 1) := by decide +kernel
theorem dX8_ahead_52 : decode cX8_ahead 52 = .ok (.iadd, 1) := by decide +kernel
theorem dX8_ahead_53 : decode cX8_ahead 53 = .ok (.invokevirtual 216, 3) := by decide +kernel
theorem dX8_ahead_56 : decode cX8_ahead 56 = .ok (.ireturn, 1) := by decide +kernel
theorem dX8_ahead_57 : decode cX8_ahead 57 = .ok (.aload_n 0, 1) := by decide +kernel
theorem dX8_ahead_58 : decode cX8_ahead 58 = .ok (.getfield 12, 3) := by decide +kernel
theorem dX8_ahead_61 : decode cX8_ahead 61 = .ok (.aload_n 0, 1) := by decide +kernel
theorem dX8_ahead_62 : decode cX8_ahead 62 = .ok (.getfield 20, 3) := by decide +kernel
theorem dX8_ahead_65 : decode cX8_ahead 65 = .ok (.getfield 195, 3) := by decide +kernel
theorem dX8_ahead_68 : decode cX8_ahead 68 = .ok (.iload_n 1, 1) := by decide +kernel
theorem dX8_ahead_69 : decode cX8_ahead 69 = .ok (.iadd, 1) := by decide +kernel
theorem dX8_ahead_70 : decode cX8_ahead 70 = .ok (.invokevirtual 219, 3) := by decide +kernel
theorem dX8_ahead_73 : decode cX8_ahead 73 = .ok (.ireturn, 1) := by decide +kernel
theorem dX8_ahead_74 : decode cX8_ahead 74 = .ok (.iconst (-1), 1) := by decide +kernel
theorem dX8_ahead_75 : decode cX8_ahead 75 = .ok (.ireturn, 1) := by decide +kernel
set_option maxRecDepth 20000 in
theorem ggX8_judge_X8_isHolder : GoodIn wsX8_judge wsX8_isHolder := goodIn_r _ [9] (by decide +kernel) (by decide +kernel)
set_option maxRecDepth 20000 in
theorem gX8_judge_X8_isHolder : GoodIn wsX8_judge (va_wsS RX8 222 yX8_isHolder wsX8_isHolder) := goodIn_app (goodIn_of _ (by decide +kernel)) ggX8_judge_X8_isHolder
set_option maxRecDepth 20000 in
theorem ggX8_judge_X2_isTool : GoodIn wsX8_judge wsX2_isTool := goodIn_r _ [14, 15, 83, 84, 85, 86, 87, 88, 89, 90, 91, 92, 93] (by decide +kernel) (by decide +kernel)
set_option maxRecDepth 20000 in
theorem gX8_judge_X2_isTool : GoodIn wsX8_judge (wsV RX8 103 RX2 yX2_isTool wsX2_isTool) := goodIn_app (goodIn_of _ (by decide +kernel)) ggX8_judge_X2_isTool
set_option maxRecDepth 20000 in
theorem ggX8_judge_X8_holderAt : GoodIn wsX8_judge wsX8_holderAt := goodIn_r _ [19, 20, 21, 71, 72, 73, 74, 75, 76, 77, 78, 79] (by decide +kernel) (by decide +kernel)
set_option maxRecDepth 20000 in
theorem gX8_judge_X8_holderAt : GoodIn wsX8_judge (wsV RX8 225 RX8 yX8_holderAt wsX8_holderAt) := goodIn_app (goodIn_of _ (by decide +kernel)) ggX8_judge_X8_holderAt
set_option maxRecDepth 20000 in
theorem ggX8_judge_X2_toolAt : GoodIn wsX8_judge wsX2_toolAt := goodIn_r _ [25, 26, 27, 83, 84, 85, 86, 87, 88, 89, 90, 91, 92, 93] (by decide +kernel) (by decide +kernel)
set_option maxRecDepth 20000 in
theorem gX8_judge_X2_toolAt : GoodIn wsX8_judge (wsV RX8 106 RX2 yX2_toolAt wsX2_toolAt) := goodIn_app (goodIn_of _ (by decide +kernel)) ggX8_judge_X2_toolAt
set_option maxRecDepth 20000 in
theorem ggX8_judge_X4_size : GoodIn wsX8_judge wsX4_size := goodIn_r _ [32, 33, 104, 105, 106, 107] (by decide +kernel) (by decide +kernel)
set_option maxRecDepth 20000 in
theorem gX8_judge_X4_size : GoodIn wsX8_judge (wsV RX8 133 RX4 yX4_size wsX4_size) := goodIn_app (goodIn_of _ (by decide +kernel)) ggX8_judge_X4_size
set_option maxRecDepth 20000 in
theorem ggX8_judge_X4_cell : GoodIn wsX8_judge wsX4_cell := goodIn_r _ [37, 33, 38, 39, 104, 105, 106, 107] (by decide +kernel) (by decide +kernel)
set_option maxRecDepth 20000 in
theorem gX8_judge_X4_cell : GoodIn wsX8_judge (wsV RX8 152 RX4 yX4_cell wsX4_cell) := goodIn_app (goodIn_of _ (by decide +kernel)) ggX8_judge_X4_cell
set_option maxRecDepth 20000 in
theorem ggX8_judge_X8_listedAt : GoodIn wsX8_judge wsX8_listedAt := goodIn_r _ [43, 1, 4, 44, 45, 46, 13, 47, 48, 49, 50, 51, 52, 53, 54, 55, 56, 57, 58, 59, 60, 61, 62, 63, 64, 65, 66, 67, 68, 69, 70, 22, 23, 24, 25, 26, 27, 34, 35, 36, 31, 37, 33, 38, 39, 71, 72, 73, 74, 75, 76, 77, 78, 79, 94, 95, 96, 97, 98, 99, 100, 101, 102, 103, 83, 84, 85, 86, 87, 88, 89, 90, 91, 92, 93, 108, 109, 110, 111, 112, 113, 104, 105, 106, 107] (by decide +kernel) (by decide +kernel)
set_option maxRecDepth 20000 in
theorem gX8_judge_X8_listedAt : GoodIn wsX8_judge (wsV RX8 238 RX8 yX8_listedAt wsX8_listedAt) := goodIn_app (goodIn_of _ (by decide +kernel)) ggX8_judge_X8_listedAt
theorem dX8_judge_0 : decode cX8_judge 0 = .ok (.iload_n 1, 1) := by decide +kernel
theorem dX8_judge_1 : decode cX8_judge 1 = .ok (.invokestatic 222, 3) := by decide +kernel
theorem dX8_judge_4 : decode cX8_judge 4 = .ok (.ifCond .eq 19, 3) := by decide +kernel
theorem dX8_judge_7 : decode cX8_judge 7 = .ok (.iload_n 2, 1) := by decide +kernel
theorem dX8_judge_8 : decode cX8_judge 8 = .ok (.iconst (-1), 1) := by decide +kernel
theorem dX8_judge_9 : decode cX8_judge 9 = .ok (.if_icmp .eq 16, 3) := by decide +kernel
theorem dX8_judge_12 : decode cX8_judge 12 = .ok (.aload_n 0, 1) := by decide +kernel
theorem dX8_judge_13 : decode cX8_judge 13 = .ok (.getfield 20, 3) := by decide +kernel
theorem dX8_judge_16 : decode cX8_judge 16 = .ok (.iload_n 2, 1) := by decide +kernel
theorem dX8_judge_17 : decode cX8_judge 17 = .ok (.invokevirtual 103, 3) := by decide +kernel
theorem dX8_judge_20 : decode cX8_judge 20 = .ok (.ifCond .ne 5, 3) := by decide +kernel
theorem dX8_judge_23 : decode cX8_judge 23 = .ok (.iconst (-1), 1) := by decide +kernel
theorem dX8_judge_24 : decode cX8_judge 24 = .ok (.ireturn, 1) := by decide +kernel
theorem dX8_judge_25 : decode cX8_judge 25 = .ok (.aload_n 0, 1) := by decide +kernel
theorem dX8_judge_26 : decode cX8_judge 26 = .ok (.iload_n 1, 1) := by decide +kernel
theorem dX8_judge_27 : decode cX8_judge 27 = .ok (.invokevirtual 225, 3) := by decide +kernel
theorem dX8_judge_30 : decode cX8_judge 30 = .ok (.astore_n 3, 1) := by decide +kernel
theorem dX8_judge_31 : decode cX8_judge 31 = .ok (.aload_n 3, 1) := by decide +kernel
theorem dX8_judge_32 : decode cX8_judge 32 = .ok (.getfield 229, 3) := by decide +kernel
theorem dX8_judge_35 : decode cX8_judge 35 = .ok (.ifCond .ne 6, 3) := by decide +kernel
theorem dX8_judge_38 : decode cX8_judge 38 = .ok (.bipush (-11), 2) := by decide +kernel
theorem dX8_judge_40 : decode cX8_judge 40 = .ok (.ireturn, 1) := by decide +kernel
theorem dX8_judge_41 : decode cX8_judge 41 = .ok (.aload_n 3, 1) := by decide +kernel
theorem dX8_judge_42 : decode cX8_judge 42 = .ok (.getfield 229, 3) := by decide +kernel
theorem dX8_judge_45 : decode cX8_judge 45 = .ok (.iconst 3, 1) := by decide +kernel
theorem dX8_judge_46 : decode cX8_judge 46 = .ok (.if_icmp .eq 6, 3) := by decide +kernel
theorem dX8_judge_49 : decode cX8_judge 49 = .ok (.bipush (-12), 2) := by decide +kernel
theorem dX8_judge_51 : decode cX8_judge 51 = .ok (.ireturn, 1) := by decide +kernel
theorem dX8_judge_52 : decode cX8_judge 52 = .ok (.iload_n 2, 1) := by decide +kernel
theorem dX8_judge_53 : decode cX8_judge 53 = .ok (.iconst (-1), 1) := by decide +kernel
theorem dX8_judge_54 : decode cX8_judge 54 = .ok (.if_icmp .ne 13, 3) := by decide +kernel
theorem dX8_judge_57 : decode cX8_judge 57 = .ok (.aload_n 0, 1) := by decide +kernel
theorem dX8_judge_58 : decode cX8_judge 58 = .ok (.getfield 20, 3) := by decide +kernel
theorem dX8_judge_61 : decode cX8_judge 61 = .ok (.getfield 232, 3) := by decide +kernel
theorem dX8_judge_64 : decode cX8_judge 64 = .ok (.goto 17, 3) := by decide +kernel
theorem dX8_judge_67 : decode cX8_judge 67 = .ok (.aload_n 0, 1) := by decide +kernel
theorem dX8_judge_68 : decode cX8_judge 68 = .ok (.getfield 20, 3) := by decide +kernel
theorem dX8_judge_71 : decode cX8_judge 71 = .ok (.iload_n 2, 1) := by decide +kernel
theorem dX8_judge_72 : decode cX8_judge 72 = .ok (.invokevirtual 106, 3) := by decide +kernel
theorem dX8_judge_75 : decode cX8_judge 75 = .ok (.getfield 130, 3) := by decide +kernel
theorem dX8_judge_78 : decode cX8_judge 78 = .ok (.invokevirtual 133, 3) := by decide +kernel
theorem dX8_judge_81 : decode cX8_judge 81 = .ok (.istore 4, 2) := by decide +kernel
theorem dX8_judge_83 : decode cX8_judge 83 = .ok (.aload_n 3, 1) := by decide +kernel
theorem dX8_judge_84 : decode cX8_judge 84 = .ok (.getfield 235, 3) := by decide +kernel
theorem dX8_judge_87 : decode cX8_judge 87 = .ok (.invokevirtual 133, 3) := by decide +kernel
theorem dX8_judge_90 : decode cX8_judge 90 = .ok (.istore 5, 2) := by decide +kernel
theorem dX8_judge_92 : decode cX8_judge 92 = .ok (.iconst 0, 1) := by decide +kernel
theorem dX8_judge_93 : decode cX8_judge 93 = .ok (.istore 6, 2) := by decide +kernel
theorem dX8_judge_95 : decode cX8_judge 95 = .ok (.iload 6, 2) := by decide +kernel
theorem dX8_judge_97 : decode cX8_judge 97 = .ok (.iload 5, 2) := by decide +kernel
theorem dX8_judge_99 : decode cX8_judge 99 = .ok (.if_icmp .ge 39, 3) := by decide +kernel
theorem dX8_judge_102 : decode cX8_judge 102 = .ok (.iload 6, 2) := by decide +kernel
theorem dX8_judge_104 : decode cX8_judge 104 = .ok (.iload 4, 2) := by decide +kernel
theorem dX8_judge_106 : decode cX8_judge 106 = .ok (.if_icmp .ge 23, 3) := by decide +kernel
theorem dX8_judge_109 : decode cX8_judge 109 = .ok (.aload_n 3, 1) := by decide +kernel
theorem dX8_judge_110 : decode cX8_judge 110 = .ok (.getfield 235, 3) := by decide +kernel
theorem dX8_judge_113 : decode cX8_judge 113 = .ok (.iload 6, 2) := by decide +kernel
theorem dX8_judge_115 : decode cX8_judge 115 = .ok (.iconst 0, 1) := by decide +kernel
theorem dX8_judge_116 : decode cX8_judge 116 = .ok (.invokevirtual 152, 3) := by decide +kernel
theorem dX8_judge_119 : decode cX8_judge 119 = .ok (.aload_n 0, 1) := by decide +kernel
theorem dX8_judge_120 : decode cX8_judge 120 = .ok (.iload_n 2, 1) := by decide +kernel
theorem dX8_judge_121 : decode cX8_judge 121 = .ok (.iload 6, 2) := by decide +kernel
theorem dX8_judge_123 : decode cX8_judge 123 = .ok (.invokevirtual 238, 3) := by decide +kernel
theorem dX8_judge_126 : decode cX8_judge 126 = .ok (.if_icmp .eq 6, 3) := by decide +kernel
theorem dX8_judge_129 : decode cX8_judge 129 = .ok (.iload 6, 2) := by decide +kernel
theorem dX8_judge_131 : decode cX8_judge 131 = .ok (.ireturn, 1) := by decide +kernel
theorem dX8_judge_132 : decode cX8_judge 132 = .ok (.iinc 6 1, 3) := by decide +kernel
theorem dX8_judge_135 : decode cX8_judge 135 = .ok (.goto (-40), 3) := by decide +kernel
theorem dX8_judge_138 : decode cX8_judge 138 = .ok (.iload 5, 2) := by decide +kernel
theorem dX8_judge_140 : decode cX8_judge 140 = .ok (.iload 4, 2) := by decide +kernel
theorem dX8_judge_142 : decode cX8_judge 142 = .ok (.if_icmp .ge 8, 3) := by decide +kernel
theorem dX8_judge_145 : decode cX8_judge 145 = .ok (.iload 5, 2) := by decide +kernel
theorem dX8_judge_147 : decode cX8_judge 147 = .ok (.goto 5, 3) := by decide +kernel
theorem dX8_judge_150 : decode cX8_judge 150 = .ok (.bipush (-2), 2) := by decide +kernel
theorem dX8_judge_152 : decode cX8_judge 152 = .ok (.ireturn, 1) := by decide +kernel
set_option maxRecDepth 20000 in
theorem ggX8_listedAt_X2_personAtRank : GoodIn wsX8_listedAt wsX2_personAtRank := goodIn_r _ [7, 8, 9, 10, 11, 6, 12, 13, 14, 15, 16, 17, 18, 19, 20, 21, 22, 23, 24, 25, 26, 27, 28, 29, 30, 64, 65, 66, 67, 68, 69, 70, 71, 72, 73, 74, 75, 76, 77, 78, 79, 80] (by decide +kernel) (by decide +kernel)
set_option maxRecDepth 20000 in
theorem gX8_listedAt_X2_personAtRank : GoodIn wsX8_listedAt (wsV RX8 149 RX2 yX2_personAtRank wsX2_personAtRank) := goodIn_app (goodIn_of _ (by decide +kernel)) ggX8_listedAt_X2_personAtRank
set_option maxRecDepth 20000 in
theorem ggX8_listedAt_X2_toolAt : GoodIn wsX8_listedAt wsX2_toolAt := goodIn_r _ [34, 35, 36, 64, 65, 66, 67, 68, 69, 70, 71, 72, 73, 74] (by decide +kernel) (by decide +kernel)
set_option maxRecDepth 20000 in
theorem gX8_listedAt_X2_toolAt : GoodIn wsX8_listedAt (wsV RX8 106 RX2 yX2_toolAt wsX2_toolAt) := goodIn_app (goodIn_of _ (by decide +kernel)) ggX8_listedAt_X2_toolAt
set_option maxRecDepth 20000 in
theorem ggX8_listedAt_X4_cell : GoodIn wsX8_listedAt wsX4_cell := goodIn_r _ [41, 42, 43, 44, 81, 82, 83, 84] (by decide +kernel) (by decide +kernel)
set_option maxRecDepth 20000 in
theorem gX8_listedAt_X4_cell : GoodIn wsX8_listedAt (wsV RX8 152 RX4 yX4_cell wsX4_cell) := goodIn_app (goodIn_of _ (by decide +kernel)) ggX8_listedAt_X4_cell
theorem dX8_listedAt_0 : decode cX8_listedAt 0 = .ok (.iload_n 1, 1) := by decide +kernel
theorem dX8_listedAt_1 : decode cX8_listedAt 1 = .ok (.iconst (-1), 1) := by decide +kernel
theorem dX8_listedAt_2 : decode cX8_listedAt 2 = .ok (.if_icmp .ne 14, 3) := by decide +kernel
theorem dX8_listedAt_5 : decode cX8_listedAt 5 = .ok (.aload_n 0, 1) := by decide +kernel
theorem dX8_listedAt_6 : decode cX8_listedAt 6 = .ok (.getfield 20, 3) := by decide +kernel
theorem dX8_listedAt_9 : decode cX8_listedAt 9 = .ok (.iload_n 2, 1) := by decide +kernel
theorem dX8_listedAt_10 : decode cX8_listedAt 10 = .ok (.invokevirtual 149, 3) := by decide +kernel
theorem dX8_listedAt_13 : decode cX8_listedAt 13 = .ok (.goto 19, 3) := by decide +kernel
theorem dX8_listedAt_16 : decode cX8_listedAt 16 = .ok (.aload_n 0, 1) := by decide +kernel
theorem dX8_listedAt_17 : decode cX8_listedAt 17 = .ok (.getfield 20, 3) := by decide +kernel
theorem dX8_listedAt_20 : decode cX8_listedAt 20 = .ok (.iload_n 1, 1) := by decide +kernel
theorem dX8_listedAt_21 : decode cX8_listedAt 21 = .ok (.invokevirtual 106, 3) := by decide +kernel
theorem dX8_listedAt_24 : decode cX8_listedAt 24 = .ok (.getfield 130, 3) := by decide +kernel
theorem dX8_listedAt_27 : decode cX8_listedAt 27 = .ok (.iload_n 2, 1) := by decide +kernel
theorem dX8_listedAt_28 : decode cX8_listedAt 28 = .ok (.iconst 0, 1) := by decide +kernel
theorem dX8_listedAt_29 : decode cX8_listedAt 29 = .ok (.invokevirtual 152, 3) := by decide +kernel
theorem dX8_listedAt_32 : decode cX8_listedAt 32 = .ok (.ireturn, 1) := by decide +kernel
set_option maxRecDepth 20000 in
theorem ggX8_feed_X4_size : GoodIn wsX8_feed wsX4_size := goodIn_r _ [6, 7, 28, 29, 30, 31] (by decide +kernel) (by decide +kernel)
set_option maxRecDepth 20000 in
theorem gX8_feed_X4_size : GoodIn wsX8_feed (wsV RX8 133 RX4 yX4_size wsX4_size) := goodIn_app (goodIn_of _ (by decide +kernel)) ggX8_feed_X4_size
set_option maxRecDepth 20000 in
theorem ggX8_feed_X4_append : GoodIn wsX8_feed wsX4_append := goodIn_r _ [11, 7, 12, 13, 14, 28, 29, 30, 31] (by decide +kernel) (by decide +kernel)
set_option maxRecDepth 20000 in
theorem gX8_feed_X4_append : GoodIn wsX8_feed (wsV RX8 241 RX4 yX4_append wsX4_append) := goodIn_app (goodIn_of _ (by decide +kernel)) ggX8_feed_X4_append
set_option maxRecDepth 20000 in
theorem ggX8_feed_X4_setCell : GoodIn wsX8_feed wsX4_setCell := goodIn_r _ [18, 7, 14, 13, 28, 29, 30, 31] (by decide +kernel) (by decide +kernel)
set_option maxRecDepth 20000 in
theorem gX8_feed_X4_setCell : GoodIn wsX8_feed (wsV RX8 244 RX4 yX4_setCell wsX4_setCell) := goodIn_app (goodIn_of _ (by decide +kernel)) ggX8_feed_X4_setCell
theorem dX8_feed_0 : decode cX8_feed 0 = .ok (.iload_n 1, 1) := by decide +kernel
theorem dX8_feed_1 : decode cX8_feed 1 = .ok (.ifCond .lt 10, 3) := by decide +kernel
theorem dX8_feed_4 : decode cX8_feed 4 = .ok (.iload_n 1, 1) := by decide +kernel
theorem dX8_feed_5 : decode cX8_feed 5 = .ok (.sipush 255, 3) := by decide +kernel
theorem dX8_feed_8 : decode cX8_feed 8 = .ok (.if_icmp .le 5, 3) := by decide +kernel
theorem dX8_feed_11 : decode cX8_feed 11 = .ok (.iconst (-1), 1) := by decide +kernel
theorem dX8_feed_12 : decode cX8_feed 12 = .ok (.ireturn, 1) := by decide +kernel
theorem dX8_feed_13 : decode cX8_feed 13 = .ok (.aload_n 0, 1) := by decide +kernel
theorem dX8_feed_14 : decode cX8_feed 14 = .ok (.getfield 41, 3) := by decide +kernel
theorem dX8_feed_17 : decode cX8_feed 17 = .ok (.invokevirtual 133, 3) := by decide +kernel
theorem dX8_feed_20 : decode cX8_feed 20 = .ok (.bipush 120, 2) := by decide +kernel
theorem dX8_feed_22 : decode cX8_feed 22 = .ok (.if_icmp .lt 6, 3) := by decide +kernel
theorem dX8_feed_25 : decode cX8_feed 25 = .ok (.bipush (-3), 2) := by decide +kernel
theorem dX8_feed_27 : decode cX8_feed 27 = .ok (.ireturn, 1) := by decide +kernel
theorem dX8_feed_28 : decode cX8_feed 28 = .ok (.aload_n 0, 1) := by decide +kernel
theorem dX8_feed_29 : decode cX8_feed 29 = .ok (.getfield 41, 3) := by decide +kernel
theorem dX8_feed_32 : decode cX8_feed 32 = .ok (.aload_n 0, 1) := by decide +kernel
theorem dX8_feed_33 : decode cX8_feed 33 = .ok (.getfield 41, 3) := by decide +kernel
theorem dX8_feed_36 : decode cX8_feed 36 = .ok (.invokevirtual 241, 3) := by decide +kernel
theorem dX8_feed_39 : decode cX8_feed 39 = .ok (.iconst 0, 1) := by decide +kernel
theorem dX8_feed_40 : decode cX8_feed 40 = .ok (.iload_n 1, 1) := by decide +kernel
theorem dX8_feed_41 : decode cX8_feed 41 = .ok (.invokevirtual 244, 3) := by decide +kernel
theorem dX8_feed_44 : decode cX8_feed 44 = .ok (.aload_n 0, 1) := by decide +kernel
theorem dX8_feed_45 : decode cX8_feed 45 = .ok (.getfield 41, 3) := by decide +kernel
theorem dX8_feed_48 : decode cX8_feed 48 = .ok (.invokevirtual 133, 3) := by decide +kernel
theorem dX8_feed_51 : decode cX8_feed 51 = .ok (.ireturn, 1) := by decide +kernel
set_option maxRecDepth 20000 in
theorem ggX8_script_X5_readText : GoodIn wsX8_script wsX5_readText := goodIn_r _ [11, 12, 13, 14, 15, 16, 17, 18, 19, 20, 21, 22, 23, 10, 24, 25, 26, 27, 28, 29, 30, 31, 32, 33, 34, 35, 36, 37, 38, 39, 40, 41, 42, 43, 44, 45, 46, 47, 48, 49, 50, 51, 52, 53, 54, 55, 56, 57, 58, 385, 386, 387, 388, 389, 390, 391] (by decide +kernel) (by decide +kernel)
set_option maxRecDepth 20000 in
theorem gX8_script_X5_readText : GoodIn wsX8_script (wsV RX8 248 RX5 yX5_readText wsX5_readText) := goodIn_app (goodIn_of _ (by decide +kernel)) ggX8_script_X5_readText
set_option maxRecDepth 20000 in
theorem ggX8_script_X4_clear : GoodIn wsX8_script wsX4_clear := goodIn_r _ [19, 20, 388, 389, 390, 391] (by decide +kernel) (by decide +kernel)
set_option maxRecDepth 20000 in
theorem gX8_script_X4_clear : GoodIn wsX8_script (wsV RX8 252 RX4 yX4_clear wsX4_clear) := goodIn_app (goodIn_of _ (by decide +kernel)) ggX8_script_X4_clear
set_option maxRecDepth 20000 in
theorem ggX8_script_X2_copyFrom : GoodIn wsX8_script wsX2_copyFrom := goodIn_r _ [64, 65, 66, 67, 68, 69, 70, 71, 72, 73, 63, 74, 75, 76, 77, 78, 79, 80, 81, 82, 83, 84, 85, 86, 87, 88, 89, 90, 91, 92, 93, 94, 95, 96, 97, 98, 99, 100, 101, 102, 103, 104, 105, 106, 107, 108, 109, 110, 111, 112, 113, 114, 115, 116, 117, 118, 119, 18, 120, 20, 46, 121, 122, 123, 124, 37, 125, 34, 35, 36, 38, 126, 48, 49, 50, 392, 393, 394, 395, 396, 397, 398, 399, 400, 401, 402, 403, 404, 405, 406, 407, 408, 409, 410, 411, 412, 413, 414, 415, 416, 417, 418, 388, 389, 390, 391] (by decide +kernel) (by decide +kernel)
set_option maxRecDepth 20000 in
theorem gX8_script_X2_copyFrom : GoodIn wsX8_script (wsV RX8 258 RX2 yX2_copyFrom wsX2_copyFrom) := goodIn_app (goodIn_of _ (by decide +kernel)) ggX8_script_X2_copyFrom
set_option maxRecDepth 20000 in
theorem ggX8_script_X4_size : GoodIn wsX8_script wsX4_size := goodIn_r _ [32, 20, 388, 389, 390, 391] (by decide +kernel) (by decide +kernel)
set_option maxRecDepth 20000 in
theorem gX8_script_X4_size : GoodIn wsX8_script (wsV RX8 133 RX4 yX4_size wsX4_size) := goodIn_app (goodIn_of _ (by decide +kernel)) ggX8_script_X4_size
set_option maxRecDepth 20000 in
theorem ggX8_script_X8_doLine : GoodIn wsX8_script wsX8_doLine := goodIn_r _ [132, 5, 133, 34, 35, 18, 36, 20, 37, 38, 134, 135, 136, 63, 137, 65, 138, 139, 140, 141, 71, 72, 73, 74, 75, 76, 142, 143, 144, 80, 145, 82, 83, 84, 85, 86, 91, 146, 147, 148, 149, 66, 67, 96, 97, 98, 99, 100, 101, 150, 151, 152, 105, 153, 107, 108, 113, 114, 115, 116, 154, 16, 17, 19, 155, 156, 157, 158, 109, 110, 111, 112, 159, 160, 161, 162, 163, 43, 44, 45, 46, 164, 48, 49, 50, 165, 166, 167, 168, 169, 170, 171, 172, 173, 174, 175, 176, 177, 178, 179, 180, 181, 88, 89, 90, 182, 93, 94, 95, 183, 184, 185, 186, 187, 188, 189, 190, 191, 192, 193, 194, 195, 69, 70, 196, 197, 198, 199, 200, 201, 202, 203, 204, 205, 206, 207, 208, 209, 210, 211, 212, 213, 214, 215, 30, 31, 32, 216, 217, 218, 219, 220, 221, 222, 223, 224, 225, 226, 227, 228, 229, 230, 231, 123, 232, 233, 234, 235, 236, 237, 68, 238, 239, 240, 241, 242, 243, 244, 245, 246, 247, 248, 249, 250, 251, 252, 253, 254, 255, 256, 257, 258, 259, 260, 261, 262, 263, 264, 265, 266, 267, 268, 269, 270, 271, 272, 273, 274, 275, 276, 277, 278, 279, 280, 281, 282, 283, 284, 285, 286, 287, 288, 289, 290, 291, 292, 293, 294, 295, 296, 122, 124, 297, 298, 299, 300, 301, 302, 303, 304, 305, 306, 307, 308, 309, 310, 311, 312, 313, 314, 315, 316, 317, 318, 319, 320, 321, 322, 323, 324, 325, 326, 327, 328, 329, 330, 331, 332, 333, 334, 335, 336, 337, 338, 339, 340, 341, 342, 343, 344, 345, 346, 347, 348, 349, 350, 351, 352, 353, 354, 355, 356, 357, 358, 359, 360, 361, 362, 363, 364, 365, 366, 367, 368, 369, 370, 371, 372, 373, 374, 375, 376, 377, 378, 379, 380, 381, 382, 383, 384, 388, 389, 390, 391, 392, 393, 394, 395, 396, 397, 398, 399, 400, 401, 402, 403, 404, 405, 406, 407, 408, 409, 410, 411, 412, 413, 414, 415, 416, 417, 418, 419, 420] (by decide +kernel) (by decide +kernel)
set_option maxRecDepth 20000 in
theorem gX8_script_X8_doLine : GoodIn wsX8_script (wsV RX8 265 RX8 yX8_doLine wsX8_doLine) := goodIn_app (goodIn_of _ (by decide +kernel)) ggX8_script_X8_doLine
theorem dX8_script_0 : decode cX8_script 0 = .ok (.aload_n 0, 1) := by decide +kernel
theorem dX8_script_1 : decode cX8_script 1 = .ok (.getfield 33, 3) := by decide +kernel
theorem dX8_script_4 : decode cX8_script 4 = .ok (.invokevirtual 248, 3) := by decide +kernel
theorem dX8_script_7 : decode cX8_script 7 = .ok (.istore_n 1, 1) := by decide +kernel
theorem dX8_script_8 : decode cX8_script 8 = .ok (.aload_n 0, 1) := by decide +kernel
theorem dX8_script_9 : decode cX8_script 9 = .ok (.getfield 41, 3) := by decide +kernel
theorem dX8_script_12 : decode cX8_script 12 = .ok (.invokevirtual 252, 3) := by decide +kernel
theorem dX8_script_15 : decode cX8_script 15 = .ok (.iload_n 1, 1) := by decide +kernel
theorem dX8_script_16 : decode cX8_script 16 = .ok (.ifCond .ne 15, 3) := by decide +kernel
theorem dX8_script_19 : decode cX8_script 19 = .ok (.sipush (-1000), 3) := by decide +kernel
theorem dX8_script_22 : decode cX8_script 22 = .ok (.aload_n 0, 1) := by decide +kernel
theorem dX8_script_23 : decode cX8_script 23 = .ok (.getfield 33, 3) := by decide +kernel
theorem dX8_script_26 : decode cX8_script 26 = .ok (.getfield 255, 3) := by decide +kernel
theorem dX8_script_29 : decode cX8_script 29 = .ok (.isub, 1) := by decide +kernel
theorem dX8_script_30 : decode cX8_script 30 = .ok (.ireturn, 1) := by decide +kernel
theorem dX8_script_31 : decode cX8_script 31 = .ok (.aload_n 0, 1) := by decide +kernel
theorem dX8_script_32 : decode cX8_script 32 = .ok (.getfield 27, 3) := by decide +kernel
theorem dX8_script_35 : decode cX8_script 35 = .ok (.aload_n 0, 1) := by decide +kernel
theorem dX8_script_36 : decode cX8_script 36 = .ok (.getfield 20, 3) := by decide +kernel
theorem dX8_script_39 : decode cX8_script 39 = .ok (.invokevirtual 258, 3) := by decide +kernel
theorem dX8_script_42 : decode cX8_script 42 = .ok (.iconst 0, 1) := by decide +kernel
theorem dX8_script_43 : decode cX8_script 43 = .ok (.istore_n 2, 1) := by decide +kernel
theorem dX8_script_44 : decode cX8_script 44 = .ok (.iload_n 2, 1) := by decide +kernel
theorem dX8_script_45 : decode cX8_script 45 = .ok (.aload_n 0, 1) := by decide +kernel
theorem dX8_script_46 : decode cX8_script 46 = .ok (.getfield 33, 3) := by decide +kernel
theorem dX8_script_49 : decode cX8_script 49 = .ok (.getfield 262, 3) := by decide +kernel
theorem dX8_script_52 : decode cX8_script 52 = .ok (.invokevirtual 133, 3) := by decide +kernel
theorem dX8_script_55 : decode cX8_script 55 = .ok (.if_icmp .ge 41, 3) := by decide +kernel
theorem dX8_script_58 : decode cX8_script 58 = .ok (.aload_n 0, 1) := by decide +kernel
theorem dX8_script_59 : decode cX8_script 59 = .ok (.aload_n 0, 1) := by decide +kernel
theorem dX8_script_60 : decode cX8_script 60 = .ok (.getfield 33, 3) := by decide +kernel
theorem dX8_script_63 : decode cX8_script 63 = .ok (.getfield 262, 3) := by decide +kernel
theorem dX8_script_66 : decode cX8_script 66 = .ok (.iload_n 2, 1) := by decide +kernel
theorem dX8_script_67 : decode cX8_script 67 = .ok (.invokevirtual 265, 3) := by decide +kernel
theorem dX8_script_70 : decode cX8_script 70 = .ok (.ifCond .ge 20, 3) := by decide +kernel
theorem dX8_script_73 : decode cX8_script 73 = .ok (.aload_n 0, 1) := by decide +kernel
theorem dX8_script_74 : decode cX8_script 74 = .ok (.getfield 20, 3) := by decide +kernel
theorem dX8_script_77 : decode cX8_script 77 = .ok (.aload_n 0, 1) := by decide +kernel
theorem dX8_script_78 : decode cX8_script 78 = .ok (.getfield 27, 3) := by decide +kernel
theorem dX8_script_81 : decode cX8_script 81 = .ok (.invokevirtual 258, 3) := by decide +kernel
theorem dX8_script_84 : decode cX8_script 84 = .ok (.sipush (-2000), 3) := by decide +kernel
theorem dX8_script_87 : decode cX8_script 87 = .ok (.iload_n 2, 1) := by decide +kernel
theorem dX8_script_88 : decode cX8_script 88 = .ok (.isub, 1) := by decide +kernel
theorem dX8_script_89 : decode cX8_script 89 = .ok (.ireturn, 1) := by decide +kernel
theorem dX8_script_90 : decode cX8_script 90 = .ok (.iinc 2 1, 3) := by decide +kernel
theorem dX8_script_93 : decode cX8_script 93 = .ok (.goto (-49), 3) := by decide +kernel
theorem dX8_script_96 : decode cX8_script 96 = .ok (.aload_n 0, 1) := by decide +kernel
theorem dX8_script_97 : decode cX8_script 97 = .ok (.getfield 33, 3) := by decide +kernel
theorem dX8_script_100 : decode cX8_script 100 = .ok (.getfield 262, 3) := by decide +kernel
theorem dX8_script_103 : decode cX8_script 103 = .ok (.invokevirtual 133, 3) := by decide +kernel
theorem dX8_script_106 : decode cX8_script 106 = .ok (.ireturn, 1) := by decide +kernel
set_option maxRecDepth 20000 in
theorem ggX8_doLine_X4_cell : GoodIn wsX8_doLine wsX4_cell := goodIn_r _ [6, 7, 8, 9, 320, 321, 322, 323] (by decide +kernel) (by decide +kernel)
set_option maxRecDepth 20000 in
theorem gX8_doLine_X4_cell : GoodIn wsX8_doLine (wsV RX8 152 RX4 yX4_cell wsX4_cell) := goodIn_app (goodIn_of _ (by decide +kernel)) ggX8_doLine_X4_cell
set_option maxRecDepth 20000 in
theorem ggX8_doLine_X2_enterPerson : GoodIn wsX8_doLine wsX2_enterPerson := goodIn_r _ [14, 15, 16, 17, 18, 13, 19, 20, 21, 22, 23, 24, 25, 26, 27, 28, 29, 30, 31, 32, 33, 34, 35, 36, 324, 325, 326, 327, 328, 329, 330, 331, 332, 333, 334, 335, 336, 337, 338, 339, 340] (by decide +kernel) (by decide +kernel)
set_option maxRecDepth 20000 in
theorem gX8_doLine_X2_enterPerson : GoodIn wsX8_doLine (wsV RX8 53 RX2 yX2_enterPerson wsX2_enterPerson) := goodIn_app (goodIn_of _ (by decide +kernel)) ggX8_doLine_X2_enterPerson
set_option maxRecDepth 20000 in
theorem ggX8_doLine_X2_enterTool : GoodIn wsX8_doLine wsX2_enterTool := goodIn_r _ [40, 41, 42, 43, 44, 45, 13, 46, 47, 48, 49, 50, 51, 52, 53, 54, 55, 56, 57, 58, 59, 60, 61, 62, 5, 63, 7, 64, 65, 66, 67, 68, 69, 70, 71, 72, 73, 74, 75, 76, 77, 78, 79, 80, 9, 8, 81, 82, 83, 84, 85, 86, 87, 88, 324, 325, 326, 327, 328, 329, 330, 331, 332, 333, 334, 341, 342, 343, 344, 345, 346, 347, 348, 349, 350, 320, 321, 322, 323] (by decide +kernel) (by decide +kernel)
set_option maxRecDepth 20000 in
theorem gX8_doLine_X2_enterTool : GoodIn wsX8_doLine (wsV RX8 57 RX2 yX2_enterTool wsX2_enterTool) := goodIn_app (goodIn_of _ (by decide +kernel)) ggX8_doLine_X2_enterTool
set_option maxRecDepth 20000 in
theorem ggX8_doLine_X2_setWish : GoodIn wsX8_doLine wsX2_setWish := goodIn_r _ [92, 93, 94, 95, 13, 96, 15, 97, 98, 99, 100, 41, 20, 21, 22, 23, 24, 25, 101, 102, 103, 29, 104, 36, 105, 106, 107, 108, 324, 325, 326, 327, 328, 329, 330, 331, 332, 333, 334, 335, 336, 337, 338, 339, 340] (by decide +kernel) (by decide +kernel)
set_option maxRecDepth 20000 in
theorem gX8_doLine_X2_setWish : GoodIn wsX8_doLine (wsV RX8 61 RX2 yX2_setWish wsX2_setWish) := goodIn_app (goodIn_of _ (by decide +kernel)) ggX8_doLine_X2_setWish
set_option maxRecDepth 20000 in
theorem ggX8_doLine_X2_leaseTo : GoodIn wsX8_doLine wsX2_leaseTo := goodIn_r _ [112, 113, 114, 115, 116, 93, 94, 95, 13, 96, 15, 97, 98, 99, 100, 41, 43, 44, 45, 46, 47, 48, 117, 86, 87, 52, 88, 68, 118, 119, 120, 121, 122, 123, 20, 21, 22, 23, 24, 25, 124, 125, 126, 127, 128, 42, 129, 130, 131, 132, 69, 57, 56, 76, 77, 78, 5, 79, 7, 80, 9, 8, 81, 82, 83, 84, 341, 342, 343, 344, 345, 346, 347, 348, 349, 350, 335, 336, 337, 338, 339, 340, 324, 325, 326, 327, 328, 329, 330, 331, 332, 333, 334, 320, 321, 322, 323] (by decide +kernel) (by decide +kernel)
set_option maxRecDepth 20000 in
theorem gX8_doLine_X2_leaseTo : GoodIn wsX8_doLine (wsV RX8 155 RX2 yX2_leaseTo wsX2_leaseTo) := goodIn_app (goodIn_of _ (by decide +kernel)) ggX8_doLine_X2_leaseTo
set_option maxRecDepth 20000 in
theorem ggX8_doLine_X2_enterClaim : GoodIn wsX8_doLine wsX2_enterClaim := goodIn_r _ [136, 137, 138, 42, 93, 94, 95, 13, 96, 15, 97, 98, 99, 100, 41, 43, 44, 45, 46, 47, 48, 139, 140, 141, 52, 142, 59, 143, 144, 145, 5, 146, 7, 147, 3, 4, 6, 8, 9, 148, 149, 150, 151, 152, 153, 154, 155, 156, 157, 158, 159, 160, 161, 162, 163, 164, 165, 77, 78, 79, 80, 81, 82, 83, 84, 341, 342, 343, 344, 345, 346, 347, 348, 349, 350, 324, 325, 326, 327, 328, 329, 330, 331, 332, 333, 334, 320, 321, 322, 323] (by decide +kernel) (by decide +kernel)
set_option maxRecDepth 20000 in
theorem gX8_doLine_X2_enterClaim : GoodIn wsX8_doLine (wsV RX8 158 RX2 yX2_enterClaim wsX2_enterClaim) := goodIn_app (goodIn_of _ (by decide +kernel)) ggX8_doLine_X2_enterClaim
set_option maxRecDepth 20000 in
theorem ggX8_doLine_X2_giveBack : GoodIn wsX8_doLine wsX2_giveBack := goodIn_r _ [169, 137, 42, 170, 114, 128, 171, 97, 98, 99, 13, 100, 41, 43, 44, 45, 46, 47, 48, 117, 86, 87, 52, 88, 68, 172, 173, 174, 175, 176, 177, 178, 179, 180, 55, 58, 143, 144, 145, 5, 146, 7, 147, 3, 4, 6, 8, 9, 181, 182, 183, 184, 54, 185, 162, 163, 164, 186, 187, 188, 189, 190, 191, 192, 193, 194, 195, 196, 197, 198, 61, 62, 63, 199, 200, 201, 202, 203, 204, 205, 206, 207, 208, 209, 77, 78, 79, 80, 210, 82, 83, 84, 211, 73, 74, 75, 56, 76, 81, 85, 212, 213, 214, 215, 216, 217, 218, 219, 20, 21, 22, 23, 24, 25, 220, 221, 222, 223, 224, 225, 226, 227, 29, 228, 32, 229, 230, 231, 35, 232, 233, 234, 235, 33, 236, 237, 238, 239, 240, 71, 241, 242, 243, 244, 245, 70, 246, 247, 248, 249, 250, 251, 252, 253, 254, 57, 255, 65, 66, 67, 69, 256, 257, 258, 259, 138, 260, 261, 262, 263, 113, 115, 148, 264, 265, 266, 267, 268, 124, 125, 126, 127, 116, 129, 130, 131, 132, 341, 342, 343, 344, 345, 346, 347, 348, 349, 350, 324, 325, 326, 327, 328, 329, 330, 331, 332, 333, 334, 335, 336, 337, 338, 339, 340, 320, 321, 322, 323, 351, 352] (by decide +kernel) (by decide +kernel)
set_option maxRecDepth 20000 in
theorem gX8_doLine_X2_giveBack : GoodIn wsX8_doLine (wsV RX8 165 RX2 yX2_giveBack wsX2_giveBack) := goodIn_app (goodIn_of _ (by decide +kernel)) ggX8_doLine_X2_giveBack
set_option maxRecDepth 20000 in
theorem ggX8_doLine_X2_passOn : GoodIn wsX8_doLine wsX2_passOn := goodIn_r _ [272, 137, 114, 97, 98, 99, 13, 100, 41, 93, 94, 95, 96, 15, 43, 44, 45, 46, 47, 48, 117, 86, 87, 52, 88, 68, 20, 21, 22, 23, 24, 25, 273, 274, 275, 276, 42, 116, 128, 118, 119, 120, 121, 122, 123, 277, 278, 279, 280, 251, 252, 253, 254, 57, 143, 144, 145, 5, 146, 7, 81, 82, 83, 84, 8, 9, 129, 130, 131, 132, 69, 56, 76, 77, 78, 79, 80, 341, 342, 343, 344, 345, 346, 347, 348, 349, 350, 335, 336, 337, 338, 339, 340, 324, 325, 326, 327, 328, 329, 330, 331, 332, 333, 334, 320, 321, 322, 323] (by decide +kernel) (by decide +kernel)
set_option maxRecDepth 20000 in
theorem gX8_doLine_X2_passOn : GoodIn wsX8_doLine (wsV RX8 168 RX2 yX2_passOn wsX2_passOn) := goodIn_app (goodIn_of _ (by decide +kernel)) ggX8_doLine_X2_passOn
set_option maxRecDepth 20000 in
theorem ggX8_doLine_X2_exchange : GoodIn wsX8_doLine wsX2_exchange := goodIn_r _ [284, 137, 285, 286, 287, 13, 288, 97, 98, 99, 100, 41, 43, 44, 45, 46, 47, 48, 117, 86, 87, 52, 88, 68, 289, 290, 291, 292, 293, 294, 295, 296, 20, 21, 22, 23, 24, 25, 101, 102, 103, 29, 104, 36, 118, 119, 120, 121, 122, 123, 297, 298, 299, 300, 114, 128, 273, 274, 275, 276, 42, 116, 277, 278, 279, 280, 251, 252, 253, 254, 57, 143, 144, 145, 5, 146, 7, 81, 82, 83, 84, 8, 9, 129, 130, 131, 132, 69, 56, 76, 77, 78, 79, 80, 341, 342, 343, 344, 345, 346, 347, 348, 349, 350, 324, 325, 326, 327, 328, 329, 330, 331, 332, 333, 334, 335, 336, 337, 338, 339, 340, 320, 321, 322, 323] (by decide +kernel) (by decide +kernel)
set_option maxRecDepth 20000 in
theorem gX8_doLine_X2_exchange : GoodIn wsX8_doLine (wsV RX8 171 RX2 yX2_exchange wsX2_exchange) := goodIn_app (goodIn_of _ (by decide +kernel)) ggX8_doLine_X2_exchange
set_option maxRecDepth 20000 in
theorem ggX8_doLine_X2_wearDown : GoodIn wsX8_doLine wsX2_wearDown := goodIn_r _ [304, 113, 305, 230, 163, 231, 97, 98, 99, 13, 100, 41, 43, 44, 45, 46, 47, 48, 117, 86, 87, 52, 88, 68, 341, 342, 343, 344, 345, 346, 347, 348, 349, 350, 324, 325, 326, 327, 328, 329, 330, 331, 332, 333, 334] (by decide +kernel) (by decide +kernel)
set_option maxRecDepth 20000 in
theorem gX8_doLine_X2_wearDown : GoodIn wsX8_doLine (wsV RX8 174 RX2 yX2_wearDown wsX2_wearDown) := goodIn_app (goodIn_of _ (by decide +kernel)) ggX8_doLine_X2_wearDown
set_option maxRecDepth 20000 in
theorem ggX8_doLine_X2_lookAt : GoodIn wsX8_doLine wsX2_lookAt := goodIn_r _ [175, 176, 42, 170, 97, 98, 99, 13, 100, 41, 43, 44, 45, 46, 47, 48, 177, 178, 179, 52, 180, 55, 58, 143, 144, 145, 5, 146, 7, 147, 3, 4, 6, 8, 9, 181, 182, 183, 184, 54, 185, 162, 163, 164, 186, 187, 188, 189, 190, 191, 192, 193, 194, 195, 196, 197, 198, 61, 62, 63, 199, 200, 201, 202, 203, 204, 205, 206, 207, 208, 209, 77, 78, 79, 80, 210, 82, 83, 84, 211, 73, 74, 75, 56, 76, 81, 85, 86, 87, 88, 68, 212, 213, 214, 215, 216, 217, 218, 219, 20, 21, 22, 23, 24, 25, 220, 221, 222, 223, 224, 225, 226, 227, 29, 228, 32, 229, 230, 231, 35, 232, 233, 234, 235, 33, 236, 324, 325, 326, 327, 328, 329, 330, 331, 332, 333, 334, 341, 342, 343, 344, 345, 346, 347, 348, 349, 350, 320, 321, 322, 323, 351, 352, 335, 336, 337, 338, 339, 340] (by decide +kernel) (by decide +kernel)
set_option maxRecDepth 20000 in
theorem gX8_doLine_X2_lookAt : GoodIn wsX8_doLine (wsV RX8 177 RX2 yX2_lookAt wsX2_lookAt) := goodIn_app (goodIn_of _ (by decide +kernel)) ggX8_doLine_X2_lookAt
set_option maxRecDepth 20000 in
theorem ggX8_doLine_X2_passDays : GoodIn wsX8_doLine wsX2_passDays := goodIn_r _ [310, 42, 324, 325, 326, 327, 328, 329, 330, 331, 332, 333, 334] (by decide +kernel) (by decide +kernel)
set_option maxRecDepth 20000 in
theorem gX8_doLine_X2_passDays : GoodIn wsX8_doLine (wsV RX8 180 RX2 yX2_passDays wsX2_passDays) := goodIn_app (goodIn_of _ (by decide +kernel)) ggX8_doLine_X2_passDays
theorem dX8_doLine_0 : decode cX8_doLine 0 = .ok (.aload_n 1, 1) := by decide +kernel
theorem dX8_doLine_1 : decode cX8_doLine 1 = .ok (.iload_n 2, 1) := by decide +kernel
theorem dX8_doLine_2 : decode cX8_doLine 2 = .ok (.iconst 1, 1) := by decide +kernel
theorem dX8_doLine_3 : decode cX8_doLine 3 = .ok (.invokevirtual 152, 3) := by decide +kernel
theorem dX8_doLine_6 : decode cX8_doLine 6 = .ok (.istore_n 3, 1) := by decide +kernel
theorem dX8_doLine_7 : decode cX8_doLine 7 = .ok (.aload_n 1, 1) := by decide +kernel
theorem dX8_doLine_8 : decode cX8_doLine 8 = .ok (.iload_n 2, 1) := by decide +kernel
theorem dX8_doLine_9 : decode cX8_doLine 9 = .ok (.iconst 2, 1) := by decide +kernel
theorem dX8_doLine_10 : decode cX8_doLine 10 = .ok (.invokevirtual 152, 3) := by decide +kernel
theorem dX8_doLine_13 : decode cX8_doLine 13 = .ok (.istore 4, 2) := by decide +kernel
theorem dX8_doLine_15 : decode cX8_doLine 15 = .ok (.aload_n 1, 1) := by decide +kernel
theorem dX8_doLine_16 : decode cX8_doLine 16 = .ok (.iload_n 2, 1) := by decide +kernel
theorem dX8_doLine_17 : decode cX8_doLine 17 = .ok (.iconst 3, 1) := by decide +kernel
theorem dX8_doLine_18 : decode cX8_doLine 18 = .ok (.invokevirtual 152, 3) := by decide +kernel
theorem dX8_doLine_21 : decode cX8_doLine 21 = .ok (.istore 5, 2) := by decide +kernel
theorem dX8_doLine_23 : decode cX8_doLine 23 = .ok (.aload_n 1, 1) := by decide +kernel
theorem dX8_doLine_24 : decode cX8_doLine 24 = .ok (.iload_n 2, 1) := by decide +kernel
theorem dX8_doLine_25 : decode cX8_doLine 25 = .ok (.iconst 4, 1) := by decide +kernel
theorem dX8_doLine_26 : decode cX8_doLine 26 = .ok (.invokevirtual 152, 3) := by decide +kernel
theorem dX8_doLine_29 : decode cX8_doLine 29 = .ok (.istore 6, 2) := by decide +kernel
theorem dX8_doLine_31 : decode cX8_doLine 31 = .ok (.aload_n 1, 1) := by decide +kernel
theorem dX8_doLine_32 : decode cX8_doLine 32 = .ok (.iload_n 2, 1) := by decide +kernel
theorem dX8_doLine_33 : decode cX8_doLine 33 = .ok (.iconst 0, 1) := by decide +kernel
theorem dX8_doLine_34 : decode cX8_doLine 34 = .ok (.invokevirtual 152, 3) := by decide +kernel
theorem dX8_doLine_37 : decode cX8_doLine 37 = .ok (.tableswitch 220 99 119 #[145, 211, 220, 220, 169, 220, 220, 220, 202, 132, 220, 220, 220, 99, 220, 160, 180, 110, 191, 220, 119], 99) := by decide +kernel
theorem dX8_doLine_136 : decode cX8_doLine 136 = .ok (.aload_n 0, 1) := by decide +kernel
theorem dX8_doLine_137 : decode cX8_doLine 137 = .ok (.getfield 20, 3) := by decide +kernel
theorem dX8_doLine_140 : decode cX8_doLine 140 = .ok (.iload_n 3, 1) := by decide +kernel
theorem dX8_doLine_141 : decode cX8_doLine 141 = .ok (.iload 4, 2) := by decide +kernel
theorem dX8_doLine_143 : decode cX8_doLine 143 = .ok (.invokevirtual 53, 3) := by decide +kernel
theorem dX8_doLine_146 : decode cX8_doLine 146 = .ok (.ireturn, 1) := by decide +kernel
theorem dX8_doLine_147 : decode cX8_doLine 147 = .ok (.aload_n 0, 1) := by decide +kernel
theorem dX8_doLine_148 : decode cX8_doLine 148 = .ok (.getfield 20, 3) := by decide +kernel
theorem dX8_doLine_151 : decode cX8_doLine 151 = .ok (.iload_n 3, 1) := by decide +kernel
theorem dX8_doLine_152 : decode cX8_doLine 152 = .ok (.invokevirtual 57, 3) := by decide +kernel
theorem dX8_doLine_155 : decode cX8_doLine 155 = .ok (.ireturn, 1) := by decide +kernel
theorem dX8_doLine_156 : decode cX8_doLine 156 = .ok (.aload_n 0, 1) := by decide +kernel
theorem dX8_doLine_157 : decode cX8_doLine 157 = .ok (.getfield 20, 3) := by decide +kernel
theorem dX8_doLine_160 : decode cX8_doLine 160 = .ok (.iload_n 3, 1) := by decide +kernel
theorem dX8_doLine_161 : decode cX8_doLine 161 = .ok (.iload 4, 2) := by decide +kernel
theorem dX8_doLine_163 : decode cX8_doLine 163 = .ok (.iload 5, 2) := by decide +kernel
theorem dX8_doLine_165 : decode cX8_doLine 165 = .ok (.invokevirtual 61, 3) := by decide +kernel
theorem dX8_doLine_168 : decode cX8_doLine 168 = .ok (.ireturn, 1) := by decide +kernel
theorem dX8_doLine_169 : decode cX8_doLine 169 = .ok (.aload_n 0, 1) := by decide +kernel
theorem dX8_doLine_170 : decode cX8_doLine 170 = .ok (.getfield 20, 3) := by decide +kernel
theorem dX8_doLine_173 : decode cX8_doLine 173 = .ok (.iload_n 3, 1) := by decide +kernel
theorem dX8_doLine_174 : decode cX8_doLine 174 = .ok (.iload 4, 2) := by decide +kernel
theorem dX8_doLine_176 : decode cX8_doLine 176 = .ok (.iload 5, 2) := by decide +kernel
theorem dX8_doLine_178 : decode cX8_doLine 178 = .ok (.invokevirtual 155, 3) := by decide +kernel
theorem dX8_doLine_181 : decode cX8_doLine 181 = .ok (.ireturn, 1) := by decide +kernel
theorem dX8_doLine_182 : decode cX8_doLine 182 = .ok (.aload_n 0, 1) := by decide +kernel
theorem dX8_doLine_183 : decode cX8_doLine 183 = .ok (.getfield 20, 3) := by decide +kernel
theorem dX8_doLine_186 : decode cX8_doLine 186 = .ok (.iload_n 3, 1) := by decide +kernel
theorem dX8_doLine_187 : decode cX8_doLine 187 = .ok (.iload 4, 2) := by decide +kernel
theorem dX8_doLine_189 : decode cX8_doLine 189 = .ok (.iload 5, 2) := by decide +kernel
theorem dX8_doLine_191 : decode cX8_doLine 191 = .ok (.iload 6, 2) := by decide +kernel
theorem dX8_doLine_193 : decode cX8_doLine 193 = .ok (.invokevirtual 158, 3) := by decide +kernel
theorem dX8_doLine_196 : decode cX8_doLine 196 = .ok (.ireturn, 1) := by decide +kernel
theorem dX8_doLine_197 : decode cX8_doLine 197 = .ok (.aload_n 0, 1) := by decide +kernel
theorem dX8_doLine_198 : decode cX8_doLine 198 = .ok (.getfield 20, 3) := by decide +kernel
theorem dX8_doLine_201 : decode cX8_doLine 201 = .ok (.iload_n 3, 1) := by decide +kernel
theorem dX8_doLine_202 : decode cX8_doLine 202 = .ok (.invokevirtual 165, 3) := by decide +kernel
theorem dX8_doLine_205 : decode cX8_doLine 205 = .ok (.ireturn, 1) := by decide +kernel
theorem dX8_doLine_206 : decode cX8_doLine 206 = .ok (.aload_n 0, 1) := by decide +kernel
theorem dX8_doLine_207 : decode cX8_doLine 207 = .ok (.getfield 20, 3) := by decide +kernel
theorem dX8_doLine_210 : decode cX8_doLine 210 = .ok (.iload_n 3, 1) := by decide +kernel
theorem dX8_doLine_211 : decode cX8_doLine 211 = .ok (.iload 4, 2) := by decide +kernel
theorem dX8_doLine_213 : decode cX8_doLine 213 = .ok (.invokevirtual 168, 3) := by decide +kernel
theorem dX8_doLine_216 : decode cX8_doLine 216 = .ok (.ireturn, 1) := by decide +kernel
theorem dX8_doLine_217 : decode cX8_doLine 217 = .ok (.aload_n 0, 1) := by decide +kernel
theorem dX8_doLine_218 : decode cX8_doLine 218 = .ok (.getfield 20, 3) := by decide +kernel
theorem dX8_doLine_221 : decode cX8_doLine 221 = .ok (.iload_n 3, 1) := by decide +kernel
theorem dX8_doLine_222 : decode cX8_doLine 222 = .ok (.iload 4, 2) := by decide +kernel
theorem dX8_doLine_224 : decode cX8_doLine 224 = .ok (.invokevirtual 171, 3) := by decide +kernel
theorem dX8_doLine_227 : decode cX8_doLine 227 = .ok (.ireturn, 1) := by decide +kernel
theorem dX8_doLine_228 : decode cX8_doLine 228 = .ok (.aload_n 0, 1) := by decide +kernel
theorem dX8_doLine_229 : decode cX8_doLine 229 = .ok (.getfield 20, 3) := by decide +kernel
theorem dX8_doLine_232 : decode cX8_doLine 232 = .ok (.iload_n 3, 1) := by decide +kernel
theorem dX8_doLine_233 : decode cX8_doLine 233 = .ok (.iload 4, 2) := by decide +kernel
theorem dX8_doLine_235 : decode cX8_doLine 235 = .ok (.invokevirtual 174, 3) := by decide +kernel
theorem dX8_doLine_238 : decode cX8_doLine 238 = .ok (.ireturn, 1) := by decide +kernel
theorem dX8_doLine_239 : decode cX8_doLine 239 = .ok (.aload_n 0, 1) := by decide +kernel
theorem dX8_doLine_240 : decode cX8_doLine 240 = .ok (.getfield 20, 3) := by decide +kernel
theorem dX8_doLine_243 : decode cX8_doLine 243 = .ok (.iload_n 3, 1) := by decide +kernel
theorem dX8_doLine_244 : decode cX8_doLine 244 = .ok (.invokevirtual 177, 3) := by decide +kernel
theorem dX8_doLine_247 : decode cX8_doLine 247 = .ok (.ireturn, 1) := by decide +kernel
theorem dX8_doLine_248 : decode cX8_doLine 248 = .ok (.aload_n 0, 1) := by decide +kernel
theorem dX8_doLine_249 : decode cX8_doLine 249 = .ok (.getfield 20, 3) := by decide +kernel
theorem dX8_doLine_252 : decode cX8_doLine 252 = .ok (.iload_n 3, 1) := by decide +kernel
theorem dX8_doLine_253 : decode cX8_doLine 253 = .ok (.invokevirtual 180, 3) := by decide +kernel
theorem dX8_doLine_256 : decode cX8_doLine 256 = .ok (.ireturn, 1) := by decide +kernel
theorem dX8_doLine_257 : decode cX8_doLine 257 = .ok (.iconst (-1), 1) := by decide +kernel
theorem dX8_doLine_258 : decode cX8_doLine 258 = .ok (.ireturn, 1) := by decide +kernel
set_option maxRecDepth 20000 in
theorem ggX8_image_X2_copyFrom : GoodIn wsX8_image wsX2_copyFrom := goodIn_r _ [9, 10, 11, 12, 13, 14, 15, 16, 17, 18, 8, 19, 20, 21, 22, 23, 24, 25, 26, 27, 28, 29, 30, 31, 32, 33, 34, 35, 36, 37, 38, 39, 40, 41, 42, 43, 44, 45, 46, 47, 48, 49, 50, 51, 52, 53, 54, 55, 56, 57, 58, 59, 60, 61, 62, 63, 64, 65, 66, 67, 68, 69, 70, 71, 72, 73, 74, 75, 76, 77, 78, 79, 80, 81, 82, 92, 93, 94, 95, 96, 97, 98, 99, 100, 101, 102, 103, 104, 105, 106, 107, 108, 109, 110, 111, 112, 113, 114, 115, 116, 117, 118, 119, 120, 121, 122] (by decide +kernel) (by decide +kernel)
set_option maxRecDepth 20000 in
theorem gX8_image_X2_copyFrom : GoodIn wsX8_image (wsV RX8 258 RX2 yX2_copyFrom wsX2_copyFrom) := goodIn_app (goodIn_of _ (by decide +kernel)) ggX8_image_X2_copyFrom
theorem dX8_image_0 : decode cX8_image 0 = .ok (.aload_n 0, 1) := by decide +kernel
theorem dX8_image_1 : decode cX8_image 1 = .ok (.getfield 24, 3) := by decide +kernel
theorem dX8_image_4 : decode cX8_image 4 = .ok (.aload_n 0, 1) := by decide +kernel
theorem dX8_image_5 : decode cX8_image 5 = .ok (.getfield 20, 3) := by decide +kernel
theorem dX8_image_8 : decode cX8_image 8 = .ok (.invokevirtual 258, 3) := by decide +kernel
theorem dX8_image_11 : decode cX8_image 11 = .ok (.aload_n 0, 1) := by decide +kernel
theorem dX8_image_12 : decode cX8_image 12 = .ok (.iconst 1, 1) := by decide +kernel
theorem dX8_image_13 : decode cX8_image 13 = .ok (.putfield 269, 3) := by decide +kernel
theorem dX8_image_16 : decode cX8_image 16 = .ok (.aload_n 0, 1) := by decide +kernel
theorem dX8_image_17 : decode cX8_image 17 = .ok (.getfield 20, 3) := by decide +kernel
theorem dX8_image_20 : decode cX8_image 20 = .ok (.getfield 195, 3) := by decide +kernel
theorem dX8_image_23 : decode cX8_image 23 = .ok (.ireturn, 1) := by decide +kernel
set_option maxRecDepth 20000 in
theorem ggX8_back_X2_copyFrom : GoodIn wsX8_back wsX2_copyFrom := goodIn_r _ [11, 12, 13, 14, 15, 16, 17, 18, 19, 20, 10, 21, 22, 23, 24, 25, 26, 27, 28, 29, 30, 31, 32, 33, 34, 35, 36, 37, 38, 39, 40, 41, 42, 43, 44, 45, 46, 47, 48, 49, 50, 51, 52, 53, 54, 55, 56, 57, 58, 59, 60, 61, 62, 63, 64, 65, 66, 67, 68, 69, 70, 71, 72, 73, 74, 75, 76, 77, 78, 79, 80, 81, 82, 83, 84, 119, 120, 121, 122, 123, 124, 125, 126, 127, 128, 129, 130, 131, 132, 133, 134, 135, 136, 137, 138, 139, 140, 141, 142, 143, 144, 145, 146, 147, 148, 149] (by decide +kernel) (by decide +kernel)
set_option maxRecDepth 20000 in
theorem gX8_back_X2_copyFrom : GoodIn wsX8_back (wsV RX8 258 RX2 yX2_copyFrom wsX2_copyFrom) := goodIn_app (goodIn_of _ (by decide +kernel)) ggX8_back_X2_copyFrom
set_option maxRecDepth 20000 in
theorem ggX8_back_X8_holderAt : GoodIn wsX8_back wsX8_holderAt := goodIn_r _ [89, 90, 91, 107, 108, 109, 110, 111, 112, 113, 114, 115] (by decide +kernel) (by decide +kernel)
set_option maxRecDepth 20000 in
theorem gX8_back_X8_holderAt : GoodIn wsX8_back (wsV RX8 225 RX8 yX8_holderAt wsX8_holderAt) := goodIn_app (goodIn_of _ (by decide +kernel)) ggX8_back_X8_holderAt
set_option maxRecDepth 20000 in
theorem ggX8_back_X2_isPerson : GoodIn wsX8_back wsX2_isPerson := goodIn_r _ [95, 12, 119, 120, 121, 122, 123, 124, 125, 126, 127, 128, 129] (by decide +kernel) (by decide +kernel)
set_option maxRecDepth 20000 in
theorem gX8_back_X2_isPerson : GoodIn wsX8_back (wsV RX8 68 RX2 yX2_isPerson wsX2_isPerson) := goodIn_app (goodIn_of _ (by decide +kernel)) ggX8_back_X2_isPerson
set_option maxRecDepth 20000 in
theorem ggX8_back_X2_isTool : GoodIn wsX8_back wsX2_isTool := goodIn_r _ [99, 13, 119, 120, 121, 122, 123, 124, 125, 126, 127, 128, 129] (by decide +kernel) (by decide +kernel)
set_option maxRecDepth 20000 in
theorem gX8_back_X2_isTool : GoodIn wsX8_back (wsV RX8 103 RX2 yX2_isTool wsX2_isTool) := goodIn_app (goodIn_of _ (by decide +kernel)) ggX8_back_X2_isTool
set_option maxRecDepth 20000 in
theorem ggX8_back_X1_take : GoodIn wsX8_back wsX1_take := goodIn_r _ [104, 105, 106, 116, 117, 118] (by decide +kernel) (by decide +kernel)
set_option maxRecDepth 20000 in
theorem gX8_back_X1_take : GoodIn wsX8_back (wsV RX8 276 RX1 yX1_take wsX1_take) := goodIn_app (goodIn_of _ (by decide +kernel)) ggX8_back_X1_take
theorem dX8_back_0 : decode cX8_back 0 = .ok (.aload_n 0, 1) := by decide +kernel
theorem dX8_back_1 : decode cX8_back 1 = .ok (.getfield 269, 3) := by decide +kernel
theorem dX8_back_4 : decode cX8_back 4 = .ok (.ifCond .ne 6, 3) := by decide +kernel
theorem dX8_back_7 : decode cX8_back 7 = .ok (.bipush (-5), 2) := by decide +kernel
theorem dX8_back_9 : decode cX8_back 9 = .ok (.ireturn, 1) := by decide +kernel
theorem dX8_back_10 : decode cX8_back 10 = .ok (.aload_n 0, 1) := by decide +kernel
theorem dX8_back_11 : decode cX8_back 11 = .ok (.getfield 20, 3) := by decide +kernel
theorem dX8_back_14 : decode cX8_back 14 = .ok (.aload_n 0, 1) := by decide +kernel
theorem dX8_back_15 : decode cX8_back 15 = .ok (.getfield 24, 3) := by decide +kernel
theorem dX8_back_18 : decode cX8_back 18 = .ok (.invokevirtual 258, 3) := by decide +kernel
theorem dX8_back_21 : decode cX8_back 21 = .ok (.iconst 0, 1) := by decide +kernel
theorem dX8_back_22 : decode cX8_back 22 = .ok (.istore_n 1, 1) := by decide +kernel
theorem dX8_back_23 : decode cX8_back 23 = .ok (.iload_n 1, 1) := by decide +kernel
theorem dX8_back_24 : decode cX8_back 24 = .ok (.bipush 6, 2) := by decide +kernel
theorem dX8_back_26 : decode cX8_back 26 = .ok (.if_icmp .ge 87, 3) := by decide +kernel
theorem dX8_back_29 : decode cX8_back 29 = .ok (.aload_n 0, 1) := by decide +kernel
theorem dX8_back_30 : decode cX8_back 30 = .ok (.iload_n 1, 1) := by decide +kernel
theorem dX8_back_31 : decode cX8_back 31 = .ok (.invokevirtual 225, 3) := by decide +kernel
theorem dX8_back_34 : decode cX8_back 34 = .ok (.astore_n 2, 1) := by decide +kernel
theorem dX8_back_35 : decode cX8_back 35 = .ok (.aload_n 2, 1) := by decide +kernel
theorem dX8_back_36 : decode cX8_back 36 = .ok (.getfield 229, 3) := by decide +kernel
theorem dX8_back_39 : decode cX8_back 39 = .ok (.iconst 1, 1) := by decide +kernel
theorem dX8_back_40 : decode cX8_back 40 = .ok (.if_icmp .ne 21, 3) := by decide +kernel
theorem dX8_back_43 : decode cX8_back 43 = .ok (.aload_n 0, 1) := by decide +kernel
theorem dX8_back_44 : decode cX8_back 44 = .ok (.getfield 20, 3) := by decide +kernel
theorem dX8_back_47 : decode cX8_back 47 = .ok (.aload_n 2, 1) := by decide +kernel
theorem dX8_back_48 : decode cX8_back 48 = .ok (.getfield 273, 3) := by decide +kernel
theorem dX8_back_51 : decode cX8_back 51 = .ok (.invokevirtual 68, 3) := by decide +kernel
theorem dX8_back_54 : decode cX8_back 54 = .ok (.ifCond .ne 7, 3) := by decide +kernel
theorem dX8_back_57 : decode cX8_back 57 = .ok (.iconst 1, 1) := by decide +kernel
theorem dX8_back_58 : decode cX8_back 58 = .ok (.goto 4, 3) := by decide +kernel
theorem dX8_back_61 : decode cX8_back 61 = .ok (.iconst 0, 1) := by decide +kernel
theorem dX8_back_62 : decode cX8_back 62 = .ok (.istore_n 3, 1) := by decide +kernel
theorem dX8_back_63 : decode cX8_back 63 = .ok (.aload_n 2, 1) := by decide +kernel
theorem dX8_back_64 : decode cX8_back 64 = .ok (.getfield 229, 3) := by decide +kernel
theorem dX8_back_67 : decode cX8_back 67 = .ok (.iconst 2, 1) := by decide +kernel
theorem dX8_back_68 : decode cX8_back 68 = .ok (.if_icmp .ne 21, 3) := by decide +kernel
theorem dX8_back_71 : decode cX8_back 71 = .ok (.aload_n 0, 1) := by decide +kernel
theorem dX8_back_72 : decode cX8_back 72 = .ok (.getfield 20, 3) := by decide +kernel
theorem dX8_back_75 : decode cX8_back 75 = .ok (.aload_n 2, 1) := by decide +kernel
theorem dX8_back_76 : decode cX8_back 76 = .ok (.getfield 273, 3) := by decide +kernel
theorem dX8_back_79 : decode cX8_back 79 = .ok (.invokevirtual 103, 3) := by decide +kernel
theorem dX8_back_82 : decode cX8_back 82 = .ok (.ifCond .ne 7, 3) := by decide +kernel
theorem dX8_back_85 : decode cX8_back 85 = .ok (.iconst 1, 1) := by decide +kernel
theorem dX8_back_86 : decode cX8_back 86 = .ok (.goto 4, 3) := by decide +kernel
theorem dX8_back_89 : decode cX8_back 89 = .ok (.iconst 0, 1) := by decide +kernel
theorem dX8_back_90 : decode cX8_back 90 = .ok (.istore 4, 2) := by decide +kernel
theorem dX8_back_92 : decode cX8_back 92 = .ok (.iload_n 3, 1) := by decide +kernel
theorem dX8_back_93 : decode cX8_back 93 = .ok (.ifCond .ne 8, 3) := by decide +kernel
theorem dX8_back_96 : decode cX8_back 96 = .ok (.iload 4, 2) := by decide +kernel
theorem dX8_back_98 : decode cX8_back 98 = .ok (.ifCond .eq 9, 3) := by decide +kernel
theorem dX8_back_101 : decode cX8_back 101 = .ok (.aload_n 2, 1) := by decide +kernel
theorem dX8_back_102 : decode cX8_back 102 = .ok (.iconst 0, 1) := by decide +kernel
theorem dX8_back_103 : decode cX8_back 103 = .ok (.iconst 0, 1) := by decide +kernel
theorem dX8_back_104 : decode cX8_back 104 = .ok (.invokevirtual 276, 3) := by decide +kernel
theorem dX8_back_107 : decode cX8_back 107 = .ok (.iinc 1 1, 3) := by decide +kernel
theorem dX8_back_110 : decode cX8_back 110 = .ok (.goto (-87), 3) := by decide +kernel
theorem dX8_back_113 : decode cX8_back 113 = .ok (.aload_n 0, 1) := by decide +kernel
theorem dX8_back_114 : decode cX8_back 114 = .ok (.getfield 20, 3) := by decide +kernel
theorem dX8_back_117 : decode cX8_back 117 = .ok (.getfield 195, 3) := by decide +kernel
theorem dX8_back_120 : decode cX8_back 120 = .ok (.ireturn, 1) := by decide +kernel
set_option maxRecDepth 20000 in
theorem ggX8_hold_X2_isPerson : GoodIn wsX8_hold wsX2_isPerson := goodIn_r _ [6, 7, 39, 40, 41, 42, 43, 44, 45, 46, 47, 48, 49] (by decide +kernel) (by decide +kernel)
set_option maxRecDepth 20000 in
theorem gX8_hold_X2_isPerson : GoodIn wsX8_hold (wsV RX8 68 RX2 yX2_isPerson wsX2_isPerson) := goodIn_app (goodIn_of _ (by decide +kernel)) ggX8_hold_X2_isPerson
set_option maxRecDepth 20000 in
theorem ggX8_hold_X2_isTool : GoodIn wsX8_hold wsX2_isTool := goodIn_r _ [11, 12, 39, 40, 41, 42, 43, 44, 45, 46, 47, 48, 49] (by decide +kernel) (by decide +kernel)
set_option maxRecDepth 20000 in
theorem gX8_hold_X2_isTool : GoodIn wsX8_hold (wsV RX8 103 RX2 yX2_isTool wsX2_isTool) := goodIn_app (goodIn_of _ (by decide +kernel)) ggX8_hold_X2_isTool
set_option maxRecDepth 20000 in
theorem ggX8_hold_X8_isHolder : GoodIn wsX8_hold wsX8_isHolder := goodIn_r _ [16] (by decide +kernel) (by decide +kernel)
set_option maxRecDepth 20000 in
theorem gX8_hold_X8_isHolder : GoodIn wsX8_hold (va_wsS RX8 222 yX8_isHolder wsX8_isHolder) := goodIn_app (goodIn_of _ (by decide +kernel)) ggX8_hold_X8_isHolder
set_option maxRecDepth 20000 in
theorem ggX8_hold_X8_holderAt : GoodIn wsX8_hold wsX8_holderAt := goodIn_r _ [20, 21, 22, 30, 31, 32, 33, 34, 35, 36, 37, 38] (by decide +kernel) (by decide +kernel)
set_option maxRecDepth 20000 in
theorem gX8_hold_X8_holderAt : GoodIn wsX8_hold (wsV RX8 225 RX8 yX8_holderAt wsX8_holderAt) := goodIn_app (goodIn_of _ (by decide +kernel)) ggX8_hold_X8_holderAt
set_option maxRecDepth 20000 in
theorem ggX8_hold_X1_take : GoodIn wsX8_hold wsX1_take := goodIn_r _ [27, 28, 29, 50, 51, 52] (by decide +kernel) (by decide +kernel)
set_option maxRecDepth 20000 in
theorem gX8_hold_X1_take : GoodIn wsX8_hold (wsV RX8 276 RX1 yX1_take wsX1_take) := goodIn_app (goodIn_of _ (by decide +kernel)) ggX8_hold_X1_take
theorem dX8_hold_0 : decode cX8_hold 0 = .ok (.iload_n 2, 1) := by decide +kernel
theorem dX8_hold_1 : decode cX8_hold 1 = .ok (.ifCond .eq 35, 3) := by decide +kernel
theorem dX8_hold_4 : decode cX8_hold 4 = .ok (.iload_n 2, 1) := by decide +kernel
theorem dX8_hold_5 : decode cX8_hold 5 = .ok (.iconst 1, 1) := by decide +kernel
theorem dX8_hold_6 : decode cX8_hold 6 = .ok (.if_icmp .ne 14, 3) := by decide +kernel
theorem dX8_hold_9 : decode cX8_hold 9 = .ok (.aload_n 0, 1) := by decide +kernel
theorem dX8_hold_10 : decode cX8_hold 10 = .ok (.getfield 20, 3) := by decide +kernel
theorem dX8_hold_13 : decode cX8_hold 13 = .ok (.iload_n 3, 1) := by decide +kernel
theorem dX8_hold_14 : decode cX8_hold 14 = .ok (.invokevirtual 68, 3) := by decide +kernel
theorem dX8_hold_17 : decode cX8_hold 17 = .ok (.ifCond .ne 19, 3) := by decide +kernel
theorem dX8_hold_20 : decode cX8_hold 20 = .ok (.iload_n 2, 1) := by decide +kernel
theorem dX8_hold_21 : decode cX8_hold 21 = .ok (.iconst 2, 1) := by decide +kernel
theorem dX8_hold_22 : decode cX8_hold 22 = .ok (.if_icmp .ne 18, 3) := by decide +kernel
theorem dX8_hold_25 : decode cX8_hold 25 = .ok (.aload_n 0, 1) := by decide +kernel
theorem dX8_hold_26 : decode cX8_hold 26 = .ok (.getfield 20, 3) := by decide +kernel
theorem dX8_hold_29 : decode cX8_hold 29 = .ok (.iload_n 3, 1) := by decide +kernel
theorem dX8_hold_30 : decode cX8_hold 30 = .ok (.invokevirtual 103, 3) := by decide +kernel
theorem dX8_hold_33 : decode cX8_hold 33 = .ok (.ifCond .eq 7, 3) := by decide +kernel
theorem dX8_hold_36 : decode cX8_hold 36 = .ok (.iconst 1, 1) := by decide +kernel
theorem dX8_hold_37 : decode cX8_hold 37 = .ok (.goto 4, 3) := by decide +kernel
theorem dX8_hold_40 : decode cX8_hold 40 = .ok (.iconst 0, 1) := by decide +kernel
theorem dX8_hold_41 : decode cX8_hold 41 = .ok (.istore 4, 2) := by decide +kernel
theorem dX8_hold_43 : decode cX8_hold 43 = .ok (.iload_n 1, 1) := by decide +kernel
theorem dX8_hold_44 : decode cX8_hold 44 = .ok (.invokestatic 222, 3) := by decide +kernel
theorem dX8_hold_47 : decode cX8_hold 47 = .ok (.ifCond .eq 8, 3) := by decide +kernel
theorem dX8_hold_50 : decode cX8_hold 50 = .ok (.iload 4, 2) := by decide +kernel
theorem dX8_hold_52 : decode cX8_hold 52 = .ok (.ifCond .ne 5, 3) := by decide +kernel
theorem dX8_hold_55 : decode cX8_hold 55 = .ok (.iconst (-1), 1) := by decide +kernel
theorem dX8_hold_56 : decode cX8_hold 56 = .ok (.ireturn, 1) := by decide +kernel
theorem dX8_hold_57 : decode cX8_hold 57 = .ok (.aload_n 0, 1) := by decide +kernel
theorem dX8_hold_58 : decode cX8_hold 58 = .ok (.iload_n 1, 1) := by decide +kernel
theorem dX8_hold_59 : decode cX8_hold 59 = .ok (.invokevirtual 225, 3) := by decide +kernel
theorem dX8_hold_62 : decode cX8_hold 62 = .ok (.iload_n 2, 1) := by decide +kernel
theorem dX8_hold_63 : decode cX8_hold 63 = .ok (.iload_n 3, 1) := by decide +kernel
theorem dX8_hold_64 : decode cX8_hold 64 = .ok (.invokevirtual 276, 3) := by decide +kernel
theorem dX8_hold_67 : decode cX8_hold 67 = .ok (.iconst 1, 1) := by decide +kernel
theorem dX8_hold_68 : decode cX8_hold 68 = .ok (.ireturn, 1) := by decide +kernel
set_option maxRecDepth 20000 in
theorem ggX8_row_X8_isHolder : GoodIn wsX8_row wsX8_isHolder := goodIn_r _ [4] (by decide +kernel) (by decide +kernel)
set_option maxRecDepth 20000 in
theorem gX8_row_X8_isHolder : GoodIn wsX8_row (va_wsS RX8 222 yX8_isHolder wsX8_isHolder) := goodIn_app (goodIn_of _ (by decide +kernel)) ggX8_row_X8_isHolder
set_option maxRecDepth 20000 in
theorem ggX8_row_X8_holderAt : GoodIn wsX8_row wsX8_holderAt := goodIn_r _ [8, 9, 10, 36, 37, 38, 39, 40, 41, 42, 43, 44] (by decide +kernel) (by decide +kernel)
set_option maxRecDepth 20000 in
theorem gX8_row_X8_holderAt : GoodIn wsX8_row (wsV RX8 225 RX8 yX8_holderAt wsX8_holderAt) := goodIn_app (goodIn_of _ (by decide +kernel)) ggX8_row_X8_holderAt
set_option maxRecDepth 20000 in
theorem ggX8_row_X1_takeRow : GoodIn wsX8_row wsX1_takeRow := goodIn_r _ [15, 16, 17, 18, 19, 14, 20, 21, 22, 23, 24, 25, 26, 27, 28, 29, 30, 31, 32, 33, 34, 35, 45, 46, 47, 48, 49, 50, 51] (by decide +kernel) (by decide +kernel)
set_option maxRecDepth 20000 in
theorem gX8_row_X1_takeRow : GoodIn wsX8_row (wsV RX8 280 RX1 yX1_takeRow wsX1_takeRow) := goodIn_app (goodIn_of _ (by decide +kernel)) ggX8_row_X1_takeRow
theorem dX8_row_0 : decode cX8_row 0 = .ok (.iload_n 1, 1) := by decide +kernel
theorem dX8_row_1 : decode cX8_row 1 = .ok (.invokestatic 222, 3) := by decide +kernel
theorem dX8_row_4 : decode cX8_row 4 = .ok (.ifCond .eq 9, 3) := by decide +kernel
theorem dX8_row_7 : decode cX8_row 7 = .ok (.iload_n 2, 1) := by decide +kernel
theorem dX8_row_8 : decode cX8_row 8 = .ok (.bipush 60, 2) := by decide +kernel
theorem dX8_row_10 : decode cX8_row 10 = .ok (.if_icmp .le 5, 3) := by decide +kernel
theorem dX8_row_13 : decode cX8_row 13 = .ok (.iconst (-1), 1) := by decide +kernel
theorem dX8_row_14 : decode cX8_row 14 = .ok (.ireturn, 1) := by decide +kernel
theorem dX8_row_15 : decode cX8_row 15 = .ok (.iload_n 2, 1) := by decide +kernel
theorem dX8_row_16 : decode cX8_row 16 = .ok (.ifCond .ge 6, 3) := by decide +kernel
theorem dX8_row_19 : decode cX8_row 19 = .ok (.bipush (-14), 2) := by decide +kernel
theorem dX8_row_21 : decode cX8_row 21 = .ok (.ireturn, 1) := by decide +kernel
theorem dX8_row_22 : decode cX8_row 22 = .ok (.aload_n 0, 1) := by decide +kernel
theorem dX8_row_23 : decode cX8_row 23 = .ok (.iload_n 1, 1) := by decide +kernel
theorem dX8_row_24 : decode cX8_row 24 = .ok (.invokevirtual 225, 3) := by decide +kernel
theorem dX8_row_27 : decode cX8_row 27 = .ok (.iload_n 2, 1) := by decide +kernel
theorem dX8_row_28 : decode cX8_row 28 = .ok (.invokevirtual 280, 3) := by decide +kernel
theorem dX8_row_31 : decode cX8_row 31 = .ok (.iconst 1, 1) := by decide +kernel
theorem dX8_row_32 : decode cX8_row 32 = .ok (.ireturn, 1) := by decide +kernel
set_option maxRecDepth 20000 in
theorem ggX8_put_X8_holderAt : GoodIn wsX8_put wsX8_holderAt := goodIn_r _ [8, 9, 10, 30, 31, 32, 33, 34, 35, 36, 37, 38] (by decide +kernel) (by decide +kernel)
set_option maxRecDepth 20000 in
theorem gX8_put_X8_holderAt : GoodIn wsX8_put (wsV RX8 225 RX8 yX8_holderAt wsX8_holderAt) := goodIn_app (goodIn_of _ (by decide +kernel)) ggX8_put_X8_holderAt
set_option maxRecDepth 20000 in
theorem ggX8_put_X4_size : GoodIn wsX8_put wsX4_size := goodIn_r _ [15, 16, 39, 40, 41, 42] (by decide +kernel) (by decide +kernel)
set_option maxRecDepth 20000 in
theorem gX8_put_X4_size : GoodIn wsX8_put (wsV RX8 133 RX4 yX4_size wsX4_size) := goodIn_app (goodIn_of _ (by decide +kernel)) ggX8_put_X4_size
set_option maxRecDepth 20000 in
theorem ggX8_put_X4_cell : GoodIn wsX8_put wsX4_cell := goodIn_r _ [20, 16, 21, 22, 39, 40, 41, 42] (by decide +kernel) (by decide +kernel)
set_option maxRecDepth 20000 in
theorem gX8_put_X4_cell : GoodIn wsX8_put (wsV RX8 152 RX4 yX4_cell wsX4_cell) := goodIn_app (goodIn_of _ (by decide +kernel)) ggX8_put_X4_cell
set_option maxRecDepth 20000 in
theorem ggX8_put_X4_setCell : GoodIn wsX8_put wsX4_setCell := goodIn_r _ [26, 16, 21, 22, 39, 40, 41, 42] (by decide +kernel) (by decide +kernel)
set_option maxRecDepth 20000 in
theorem gX8_put_X4_setCell : GoodIn wsX8_put (wsV RX8 244 RX4 yX4_setCell wsX4_setCell) := goodIn_app (goodIn_of _ (by decide +kernel)) ggX8_put_X4_setCell
theorem dX8_put_0 : decode cX8_put 0 = .ok (.aload_n 0, 1) := by decide +kernel
theorem dX8_put_1 : decode cX8_put 1 = .ok (.iload_n 1, 1) := by decide +kernel
theorem dX8_put_2 : decode cX8_put 2 = .ok (.invokevirtual 225, 3) := by decide +kernel
theorem dX8_put_5 : decode cX8_put 5 = .ok (.astore 4, 2) := by decide +kernel
theorem dX8_put_7 : decode cX8_put 7 = .ok (.aload 4, 2) := by decide +kernel
theorem dX8_put_9 : decode cX8_put 9 = .ok (.getfield 229, 3) := by decide +kernel
theorem dX8_put_12 : decode cX8_put 12 = .ok (.iconst 3, 1) := by decide +kernel
theorem dX8_put_13 : decode cX8_put 13 = .ok (.if_icmp .ne 19, 3) := by decide +kernel
theorem dX8_put_16 : decode cX8_put 16 = .ok (.iload_n 2, 1) := by decide +kernel
theorem dX8_put_17 : decode cX8_put 17 = .ok (.ifCond .lt 15, 3) := by decide +kernel
theorem dX8_put_20 : decode cX8_put 20 = .ok (.iload_n 2, 1) := by decide +kernel
theorem dX8_put_21 : decode cX8_put 21 = .ok (.aload 4, 2) := by decide +kernel
theorem dX8_put_23 : decode cX8_put 23 = .ok (.getfield 235, 3) := by decide +kernel
theorem dX8_put_26 : decode cX8_put 26 = .ok (.invokevirtual 133, 3) := by decide +kernel
theorem dX8_put_29 : decode cX8_put 29 = .ok (.if_icmp .lt 7, 3) := by decide +kernel
theorem dX8_put_32 : decode cX8_put 32 = .ok (.ldc_w 284, 3) := by decide +kernel
theorem dX8_put_35 : decode cX8_put 35 = .ok (.ireturn, 1) := by decide +kernel
theorem dX8_put_36 : decode cX8_put 36 = .ok (.aload 4, 2) := by decide +kernel
theorem dX8_put_38 : decode cX8_put 38 = .ok (.getfield 235, 3) := by decide +kernel
theorem dX8_put_41 : decode cX8_put 41 = .ok (.iload_n 2, 1) := by decide +kernel
theorem dX8_put_42 : decode cX8_put 42 = .ok (.iconst 0, 1) := by decide +kernel
theorem dX8_put_43 : decode cX8_put 43 = .ok (.invokevirtual 152, 3) := by decide +kernel
theorem dX8_put_46 : decode cX8_put 46 = .ok (.istore 5, 2) := by decide +kernel
theorem dX8_put_48 : decode cX8_put 48 = .ok (.aload 4, 2) := by decide +kernel
theorem dX8_put_50 : decode cX8_put 50 = .ok (.getfield 235, 3) := by decide +kernel
theorem dX8_put_53 : decode cX8_put 53 = .ok (.iload_n 2, 1) := by decide +kernel
theorem dX8_put_54 : decode cX8_put 54 = .ok (.iconst 0, 1) := by decide +kernel
theorem dX8_put_55 : decode cX8_put 55 = .ok (.iload_n 3, 1) := by decide +kernel
theorem dX8_put_56 : decode cX8_put 56 = .ok (.invokevirtual 244, 3) := by decide +kernel
theorem dX8_put_59 : decode cX8_put 59 = .ok (.iload 5, 2) := by decide +kernel
theorem dX8_put_61 : decode cX8_put 61 = .ok (.ireturn, 1) := by decide +kernel
set_option maxRecDepth 20000 in
theorem ggX8_tells_X8_isHolder : GoodIn wsX8_tells wsX8_isHolder := goodIn_r _ [10] (by decide +kernel) (by decide +kernel)
set_option maxRecDepth 20000 in
theorem gX8_tells_X8_isHolder : GoodIn wsX8_tells (va_wsS RX8 222 yX8_isHolder wsX8_isHolder) := goodIn_app (goodIn_of _ (by decide +kernel)) ggX8_tells_X8_isHolder
set_option maxRecDepth 20000 in
theorem ggX8_tells_X8_holderAt : GoodIn wsX8_tells wsX8_holderAt := goodIn_r _ [14, 15, 16, 39, 40, 41, 42, 43, 44, 45, 46, 47] (by decide +kernel) (by decide +kernel)
set_option maxRecDepth 20000 in
theorem gX8_tells_X8_holderAt : GoodIn wsX8_tells (wsV RX8 225 RX8 yX8_holderAt wsX8_holderAt) := goodIn_app (goodIn_of _ (by decide +kernel)) ggX8_tells_X8_holderAt
set_option maxRecDepth 20000 in
theorem ggX8_tells_X2_personAt : GoodIn wsX8_tells wsX2_personAt := goodIn_r _ [21, 22, 23, 64, 65, 66, 67, 68, 69, 70, 71, 72, 73, 74] (by decide +kernel) (by decide +kernel)
set_option maxRecDepth 20000 in
theorem gX8_tells_X2_personAt : GoodIn wsX8_tells (wsV RX8 72 RX2 yX2_personAt wsX2_personAt) := goodIn_app (goodIn_of _ (by decide +kernel)) ggX8_tells_X2_personAt
set_option maxRecDepth 20000 in
theorem ggX8_tells_X2_toolAt : GoodIn wsX8_tells wsX2_toolAt := goodIn_r _ [27, 28, 29, 64, 65, 66, 67, 68, 69, 70, 71, 72, 73, 74] (by decide +kernel) (by decide +kernel)
set_option maxRecDepth 20000 in
theorem gX8_tells_X2_toolAt : GoodIn wsX8_tells (wsV RX8 106 RX2 yX2_toolAt wsX2_toolAt) := goodIn_app (goodIn_of _ (by decide +kernel)) ggX8_tells_X2_toolAt
set_option maxRecDepth 20000 in
theorem ggX8_tells_X7_isLeased : GoodIn wsX8_tells wsX7_isLeased := goodIn_r _ [34, 35, 54, 55, 56, 57, 58, 59, 60, 61, 62, 63] (by decide +kernel) (by decide +kernel)
set_option maxRecDepth 20000 in
theorem gX8_tells_X7_isLeased : GoodIn wsX8_tells (wsV RX8 285 RX7 yX7_isLeased wsX7_isLeased) := goodIn_app (goodIn_of _ (by decide +kernel)) ggX8_tells_X7_isLeased
theorem dX8_tells_0 : decode cX8_tells 0 = .ok (.iload_n 1, 1) := by decide +kernel
theorem dX8_tells_1 : decode cX8_tells 1 = .ok (.invokestatic 222, 3) := by decide +kernel
theorem dX8_tells_4 : decode cX8_tells 4 = .ok (.ifCond .eq 12, 3) := by decide +kernel
theorem dX8_tells_7 : decode cX8_tells 7 = .ok (.iload_n 2, 1) := by decide +kernel
theorem dX8_tells_8 : decode cX8_tells 8 = .ok (.ifCond .lt 8, 3) := by decide +kernel
theorem dX8_tells_11 : decode cX8_tells 11 = .ok (.iload_n 2, 1) := by decide +kernel
theorem dX8_tells_12 : decode cX8_tells 12 = .ok (.iconst 3, 1) := by decide +kernel
theorem dX8_tells_13 : decode cX8_tells 13 = .ok (.if_icmp .le 5, 3) := by decide +kernel
theorem dX8_tells_16 : decode cX8_tells 16 = .ok (.iconst (-1), 1) := by decide +kernel
theorem dX8_tells_17 : decode cX8_tells 17 = .ok (.ireturn, 1) := by decide +kernel
theorem dX8_tells_18 : decode cX8_tells 18 = .ok (.aload_n 0, 1) := by decide +kernel
theorem dX8_tells_19 : decode cX8_tells 19 = .ok (.iload_n 1, 1) := by decide +kernel
theorem dX8_tells_20 : decode cX8_tells 20 = .ok (.invokevirtual 225, 3) := by decide +kernel
theorem dX8_tells_23 : decode cX8_tells 23 = .ok (.astore_n 3, 1) := by decide +kernel
theorem dX8_tells_24 : decode cX8_tells 24 = .ok (.aload_n 3, 1) := by decide +kernel
theorem dX8_tells_25 : decode cX8_tells 25 = .ok (.getfield 229, 3) := by decide +kernel
theorem dX8_tells_28 : decode cX8_tells 28 = .ok (.ifCond .ne 6, 3) := by decide +kernel
theorem dX8_tells_31 : decode cX8_tells 31 = .ok (.bipush (-11), 2) := by decide +kernel
theorem dX8_tells_33 : decode cX8_tells 33 = .ok (.ireturn, 1) := by decide +kernel
theorem dX8_tells_34 : decode cX8_tells 34 = .ok (.iload_n 2, 1) := by decide +kernel
theorem dX8_tells_35 : decode cX8_tells 35 = .ok (.ifCond .ne 16, 3) := by decide +kernel
theorem dX8_tells_38 : decode cX8_tells 38 = .ok (.aload_n 3, 1) := by decide +kernel
theorem dX8_tells_39 : decode cX8_tells 39 = .ok (.getfield 229, 3) := by decide +kernel
theorem dX8_tells_42 : decode cX8_tells 42 = .ok (.iconst 3, 1) := by decide +kernel
theorem dX8_tells_43 : decode cX8_tells 43 = .ok (.if_icmp .eq 8, 3) := by decide +kernel
theorem dX8_tells_46 : decode cX8_tells 46 = .ok (.aload_n 3, 1) := by decide +kernel
theorem dX8_tells_47 : decode cX8_tells 47 = .ok (.getfield 273, 3) := by decide +kernel
theorem dX8_tells_50 : decode cX8_tells 50 = .ok (.ireturn, 1) := by decide +kernel
theorem dX8_tells_51 : decode cX8_tells 51 = .ok (.iload_n 2, 1) := by decide +kernel
theorem dX8_tells_52 : decode cX8_tells 52 = .ok (.iconst 1, 1) := by decide +kernel
theorem dX8_tells_53 : decode cX8_tells 53 = .ok (.if_icmp .ne 26, 3) := by decide +kernel
theorem dX8_tells_56 : decode cX8_tells 56 = .ok (.aload_n 3, 1) := by decide +kernel
theorem dX8_tells_57 : decode cX8_tells 57 = .ok (.getfield 229, 3) := by decide +kernel
theorem dX8_tells_60 : decode cX8_tells 60 = .ok (.iconst 1, 1) := by decide +kernel
theorem dX8_tells_61 : decode cX8_tells 61 = .ok (.if_icmp .ne 18, 3) := by decide +kernel
theorem dX8_tells_64 : decode cX8_tells 64 = .ok (.aload_n 0, 1) := by decide +kernel
theorem dX8_tells_65 : decode cX8_tells 65 = .ok (.getfield 20, 3) := by decide +kernel
theorem dX8_tells_68 : decode cX8_tells 68 = .ok (.aload_n 3, 1) := by decide +kernel
theorem dX8_tells_69 : decode cX8_tells 69 = .ok (.getfield 273, 3) := by decide +kernel
theorem dX8_tells_72 : decode cX8_tells 72 = .ok (.invokevirtual 72, 3) := by decide +kernel
theorem dX8_tells_75 : decode cX8_tells 75 = .ok (.getfield 85, 3) := by decide +kernel
theorem dX8_tells_78 : decode cX8_tells 78 = .ok (.ireturn, 1) := by decide +kernel
theorem dX8_tells_79 : decode cX8_tells 79 = .ok (.iload_n 2, 1) := by decide +kernel
theorem dX8_tells_80 : decode cX8_tells 80 = .ok (.iconst 2, 1) := by decide +kernel
theorem dX8_tells_81 : decode cX8_tells 81 = .ok (.if_icmp .ne 26, 3) := by decide +kernel
theorem dX8_tells_84 : decode cX8_tells 84 = .ok (.aload_n 3, 1) := by decide +kernel
theorem dX8_tells_85 : decode cX8_tells 85 = .ok (.getfield 229, 3) := by decide +kernel
theorem dX8_tells_88 : decode cX8_tells 88 = .ok (.iconst 2, 1) := by decide +kernel
theorem dX8_tells_89 : decode cX8_tells 89 = .ok (.if_icmp .ne 18, 3) := by decide +kernel
theorem dX8_tells_92 : decode cX8_tells 92 = .ok (.aload_n 0, 1) := by decide +kernel
theorem dX8_tells_93 : decode cX8_tells 93 = .ok (.getfield 20, 3) := by decide +kernel
theorem dX8_tells_96 : decode cX8_tells 96 = .ok (.aload_n 3, 1) := by decide +kernel
theorem dX8_tells_97 : decode cX8_tells 97 = .ok (.getfield 273, 3) := by decide +kernel
theorem dX8_tells_100 : decode cX8_tells 100 = .ok (.invokevirtual 106, 3) := by decide +kernel
theorem dX8_tells_103 : decode cX8_tells 103 = .ok (.getfield 110, 3) := by decide +kernel
theorem dX8_tells_106 : decode cX8_tells 106 = .ok (.ireturn, 1) := by decide +kernel
theorem dX8_tells_107 : decode cX8_tells 107 = .ok (.iload_n 2, 1) := by decide +kernel
theorem dX8_tells_108 : decode cX8_tells 108 = .ok (.iconst 3, 1) := by decide +kernel
theorem dX8_tells_109 : decode cX8_tells 109 = .ok (.if_icmp .ne 43, 3) := by decide +kernel
theorem dX8_tells_112 : decode cX8_tells 112 = .ok (.aload_n 3, 1) := by decide +kernel
theorem dX8_tells_113 : decode cX8_tells 113 = .ok (.getfield 229, 3) := by decide +kernel
theorem dX8_tells_116 : decode cX8_tells 116 = .ok (.iconst 2, 1) := by decide +kernel
theorem dX8_tells_117 : decode cX8_tells 117 = .ok (.if_icmp .ne 35, 3) := by decide +kernel
theorem dX8_tells_120 : decode cX8_tells 120 = .ok (.aload_n 0, 1) := by decide +kernel
theorem dX8_tells_121 : decode cX8_tells 121 = .ok (.getfield 20, 3) := by decide +kernel
theorem dX8_tells_124 : decode cX8_tells 124 = .ok (.aload_n 3, 1) := by decide +kernel
theorem dX8_tells_125 : decode cX8_tells 125 = .ok (.getfield 273, 3) := by decide +kernel
theorem dX8_tells_128 : decode cX8_tells 128 = .ok (.invokevirtual 106, 3) := by decide +kernel
theorem dX8_tells_131 : decode cX8_tells 131 = .ok (.invokevirtual 285, 3) := by decide +kernel
theorem dX8_tells_134 : decode cX8_tells 134 = .ok (.ifCond .eq 18, 3) := by decide +kernel
theorem dX8_tells_137 : decode cX8_tells 137 = .ok (.aload_n 0, 1) := by decide +kernel
theorem dX8_tells_138 : decode cX8_tells 138 = .ok (.getfield 20, 3) := by decide +kernel
theorem dX8_tells_141 : decode cX8_tells 141 = .ok (.aload_n 3, 1) := by decide +kernel
theorem dX8_tells_142 : decode cX8_tells 142 = .ok (.getfield 273, 3) := by decide +kernel
theorem dX8_tells_145 : decode cX8_tells 145 = .ok (.invokevirtual 106, 3) := by decide +kernel
theorem dX8_tells_148 : decode cX8_tells 148 = .ok (.getfield 118, 3) := by decide +kernel
theorem dX8_tells_151 : decode cX8_tells 151 = .ok (.ireturn, 1) := by decide +kernel
theorem dX8_tells_152 : decode cX8_tells 152 = .ok (.bipush (-12), 2) := by decide +kernel
theorem dX8_tells_154 : decode cX8_tells 154 = .ok (.ireturn, 1) := by decide +kernel
set_option maxRecDepth 20000 in
theorem ggX8_count_X6_leasedCount : GoodIn wsX8_count wsX6_leasedCount := goodIn_r _ [12, 13, 14, 15, 16, 17, 18, 19, 20, 21, 22, 23, 24, 25, 26, 27, 84, 85, 73, 74, 75, 76, 77, 78, 79, 80, 81, 82, 83, 86, 87, 88, 89, 90, 91, 92, 93, 94, 95] (by decide +kernel) (by decide +kernel)
set_option maxRecDepth 20000 in
theorem gX8_count_X6_leasedCount : GoodIn wsX8_count (wsV RX8 291 RX6 yX6_leasedCount wsX6_leasedCount) := goodIn_app (goodIn_of _ (by decide +kernel)) ggX8_count_X6_leasedCount
set_option maxRecDepth 20000 in
theorem ggX8_count_X6_claimCount : GoodIn wsX8_count wsX6_claimCount := goodIn_r _ [31, 13, 14, 32, 15, 16, 17, 18, 19, 20, 21, 33, 34, 35, 36, 37, 38, 84, 85, 73, 74, 75, 76, 77, 78, 79, 80, 81, 82, 83, 86, 87, 88, 89, 90, 91, 92, 93, 94, 95, 96, 97, 98, 99] (by decide +kernel) (by decide +kernel)
set_option maxRecDepth 20000 in
theorem gX8_count_X6_claimCount : GoodIn wsX8_count (wsV RX8 294 RX6 yX6_claimCount wsX6_claimCount) := goodIn_app (goodIn_of _ (by decide +kernel)) ggX8_count_X6_claimCount
set_option maxRecDepth 20000 in
theorem ggX8_count_X6_allDebts : GoodIn wsX8_count wsX6_allDebts := goodIn_r _ [42, 13, 43, 44, 45, 46, 47, 18, 48, 49, 50, 84, 85, 73, 74, 75, 76, 77, 78, 79, 80, 81, 82, 83, 100, 101, 102, 103, 104, 105] (by decide +kernel) (by decide +kernel)
set_option maxRecDepth 20000 in
theorem gX8_count_X6_allDebts : GoodIn wsX8_count (wsV RX8 300 RX6 yX6_allDebts wsX6_allDebts) := goodIn_app (goodIn_of _ (by decide +kernel)) ggX8_count_X6_allDebts
set_option maxRecDepth 20000 in
theorem ggX8_count_X4_size : GoodIn wsX8_count wsX4_size := goodIn_r _ [37, 38, 96, 97, 98, 99] (by decide +kernel) (by decide +kernel)
set_option maxRecDepth 20000 in
theorem gX8_count_X4_size : GoodIn wsX8_count (wsV RX8 133 RX4 yX4_size wsX4_size) := goodIn_app (goodIn_of _ (by decide +kernel)) ggX8_count_X4_size
set_option maxRecDepth 20000 in
theorem ggX8_count_X8_holdersInUse : GoodIn wsX8_count wsX8_holdersInUse := goodIn_r _ [56, 57, 58, 59, 60, 55, 61, 62, 63, 106, 107, 108, 64, 65, 66, 67, 68, 69, 70, 71, 72] (by decide +kernel) (by decide +kernel)
set_option maxRecDepth 20000 in
theorem gX8_count_X8_holdersInUse : GoodIn wsX8_count (wsV RX8 303 RX8 yX8_holdersInUse wsX8_holdersInUse) := goodIn_app (goodIn_of _ (by decide +kernel)) ggX8_count_X8_holdersInUse
theorem dX8_count_0 : decode cX8_count 0 = .ok (.iload_n 1, 1) := by decide +kernel
theorem dX8_count_1 : decode cX8_count 1 = .ok (.tableswitch 120 0 8 #[51, 59, 67, 75, 83, 91, 99, 107, 115], 51) := by decide +kernel
theorem dX8_count_52 : decode cX8_count 52 = .ok (.aload_n 0, 1) := by decide +kernel
theorem dX8_count_53 : decode cX8_count 53 = .ok (.getfield 20, 3) := by decide +kernel
theorem dX8_count_56 : decode cX8_count 56 = .ok (.getfield 232, 3) := by decide +kernel
theorem dX8_count_59 : decode cX8_count 59 = .ok (.ireturn, 1) := by decide +kernel
theorem dX8_count_60 : decode cX8_count 60 = .ok (.aload_n 0, 1) := by decide +kernel
theorem dX8_count_61 : decode cX8_count 61 = .ok (.getfield 20, 3) := by decide +kernel
theorem dX8_count_64 : decode cX8_count 64 = .ok (.getfield 288, 3) := by decide +kernel
theorem dX8_count_67 : decode cX8_count 67 = .ok (.ireturn, 1) := by decide +kernel
theorem dX8_count_68 : decode cX8_count 68 = .ok (.aload_n 0, 1) := by decide +kernel
theorem dX8_count_69 : decode cX8_count 69 = .ok (.getfield 12, 3) := by decide +kernel
theorem dX8_count_72 : decode cX8_count 72 = .ok (.invokevirtual 291, 3) := by decide +kernel
theorem dX8_count_75 : decode cX8_count 75 = .ok (.ireturn, 1) := by decide +kernel
theorem dX8_count_76 : decode cX8_count 76 = .ok (.aload_n 0, 1) := by decide +kernel
theorem dX8_count_77 : decode cX8_count 77 = .ok (.getfield 12, 3) := by decide +kernel
theorem dX8_count_80 : decode cX8_count 80 = .ok (.invokevirtual 294, 3) := by decide +kernel
theorem dX8_count_83 : decode cX8_count 83 = .ok (.ireturn, 1) := by decide +kernel
theorem dX8_count_84 : decode cX8_count 84 = .ok (.aload_n 0, 1) := by decide +kernel
theorem dX8_count_85 : decode cX8_count 85 = .ok (.getfield 20, 3) := by decide +kernel
theorem dX8_count_88 : decode cX8_count 88 = .ok (.getfield 195, 3) := by decide +kernel
theorem dX8_count_91 : decode cX8_count 91 = .ok (.ireturn, 1) := by decide +kernel
theorem dX8_count_92 : decode cX8_count 92 = .ok (.aload_n 0, 1) := by decide +kernel
theorem dX8_count_93 : decode cX8_count 93 = .ok (.getfield 20, 3) := by decide +kernel
theorem dX8_count_96 : decode cX8_count 96 = .ok (.getfield 297, 3) := by decide +kernel
theorem dX8_count_99 : decode cX8_count 99 = .ok (.ireturn, 1) := by decide +kernel
theorem dX8_count_100 : decode cX8_count 100 = .ok (.aload_n 0, 1) := by decide +kernel
theorem dX8_count_101 : decode cX8_count 101 = .ok (.getfield 12, 3) := by decide +kernel
theorem dX8_count_104 : decode cX8_count 104 = .ok (.invokevirtual 300, 3) := by decide +kernel
theorem dX8_count_107 : decode cX8_count 107 = .ok (.ireturn, 1) := by decide +kernel
theorem dX8_count_108 : decode cX8_count 108 = .ok (.aload_n 0, 1) := by decide +kernel
theorem dX8_count_109 : decode cX8_count 109 = .ok (.getfield 41, 3) := by decide +kernel
theorem dX8_count_112 : decode cX8_count 112 = .ok (.invokevirtual 133, 3) := by decide +kernel
theorem dX8_count_115 : decode cX8_count 115 = .ok (.ireturn, 1) := by decide +kernel
theorem dX8_count_116 : decode cX8_count 116 = .ok (.aload_n 0, 1) := by decide +kernel
theorem dX8_count_117 : decode cX8_count 117 = .ok (.invokevirtual 303, 3) := by decide +kernel
theorem dX8_count_120 : decode cX8_count 120 = .ok (.ireturn, 1) := by decide +kernel
theorem dX8_count_121 : decode cX8_count 121 = .ok (.iconst (-1), 1) := by decide +kernel
theorem dX8_count_122 : decode cX8_count 122 = .ok (.ireturn, 1) := by decide +kernel
set_option maxRecDepth 20000 in
theorem ggX8_holdersInUse_X8_holderAt : GoodIn wsX8_holdersInUse wsX8_holderAt := goodIn_r _ [6, 7, 8, 12, 13, 14, 15, 16, 17, 18, 19, 20] (by decide +kernel) (by decide +kernel)
set_option maxRecDepth 20000 in
theorem gX8_holdersInUse_X8_holderAt : GoodIn wsX8_holdersInUse (wsV RX8 225 RX8 yX8_holderAt wsX8_holderAt) := goodIn_app (goodIn_of _ (by decide +kernel)) ggX8_holdersInUse_X8_holderAt
theorem dX8_holdersInUse_0 : decode cX8_holdersInUse 0 = .ok (.iconst 0, 1) := by decide +kernel
theorem dX8_holdersInUse_1 : decode cX8_holdersInUse 1 = .ok (.istore_n 1, 1) := by decide +kernel
theorem dX8_holdersInUse_2 : decode cX8_holdersInUse 2 = .ok (.iconst 0, 1) := by decide +kernel
theorem dX8_holdersInUse_3 : decode cX8_holdersInUse 3 = .ok (.istore_n 2, 1) := by decide +kernel
theorem dX8_holdersInUse_4 : decode cX8_holdersInUse 4 = .ok (.iload_n 2, 1) := by decide +kernel
theorem dX8_holdersInUse_5 : decode cX8_holdersInUse 5 = .ok (.bipush 6, 2) := by decide +kernel
theorem dX8_holdersInUse_7 : decode cX8_holdersInUse 7 = .ok (.if_icmp .ge 23, 3) := by decide +kernel
theorem dX8_holdersInUse_10 : decode cX8_holdersInUse 10 = .ok (.aload_n 0, 1) := by decide +kernel
theorem dX8_holdersInUse_11 : decode cX8_holdersInUse 11 = .ok (.iload_n 2, 1) := by decide +kernel
theorem dX8_holdersInUse_12 : decode cX8_holdersInUse 12 = .ok (.invokevirtual 225, 3) := by decide +kernel
theorem dX8_holdersInUse_15 : decode cX8_holdersInUse 15 = .ok (.getfield 229, 3) := by decide +kernel
theorem dX8_holdersInUse_18 : decode cX8_holdersInUse 18 = .ok (.ifCond .eq 6, 3) := by decide +kernel
theorem dX8_holdersInUse_21 : decode cX8_holdersInUse 21 = .ok (.iinc 1 1, 3) := by decide +kernel
theorem dX8_holdersInUse_24 : decode cX8_holdersInUse 24 = .ok (.iinc 2 1, 3) := by decide +kernel
theorem dX8_holdersInUse_27 : decode cX8_holdersInUse 27 = .ok (.goto (-23), 3) := by decide +kernel
theorem dX8_holdersInUse_30 : decode cX8_holdersInUse 30 = .ok (.iload_n 1, 1) := by decide +kernel
theorem dX8_holdersInUse_31 : decode cX8_holdersInUse 31 = .ok (.ireturn, 1) := by decide +kernel
theorem dX8_isHolder_0 : decode cX8_isHolder 0 = .ok (.iload_n 0, 1) := by decide +kernel
theorem dX8_isHolder_1 : decode cX8_isHolder 1 = .ok (.ifCond .lt 13, 3) := by decide +kernel
theorem dX8_isHolder_4 : decode cX8_isHolder 4 = .ok (.iload_n 0, 1) := by decide +kernel
theorem dX8_isHolder_5 : decode cX8_isHolder 5 = .ok (.bipush 6, 2) := by decide +kernel
theorem dX8_isHolder_7 : decode cX8_isHolder 7 = .ok (.if_icmp .ge 7, 3) := by decide +kernel
theorem dX8_isHolder_10 : decode cX8_isHolder 10 = .ok (.iconst 1, 1) := by decide +kernel
theorem dX8_isHolder_11 : decode cX8_isHolder 11 = .ok (.goto 4, 3) := by decide +kernel
theorem dX8_isHolder_14 : decode cX8_isHolder 14 = .ok (.iconst 0, 1) := by decide +kernel
theorem dX8_isHolder_15 : decode cX8_isHolder 15 = .ok (.ireturn, 1) := by decide +kernel
theorem dX8_holderAt_0 : decode cX8_holderAt 0 = .ok (.iload_n 1, 1) := by decide +kernel
theorem dX8_holderAt_1 : decode cX8_holderAt 1 = .ok (.ifCond .lt 21, 3) := by decide +kernel
theorem dX8_holderAt_4 : decode cX8_holderAt 4 = .ok (.iload_n 1, 1) := by decide +kernel
theorem dX8_holderAt_5 : decode cX8_holderAt 5 = .ok (.aload_n 0, 1) := by decide +kernel
theorem dX8_holderAt_6 : decode cX8_holderAt 6 = .ok (.getfield 44, 3) := by decide +kernel
theorem dX8_holderAt_9 : decode cX8_holderAt 9 = .ok (.arraylength, 1) := by decide +kernel
theorem dX8_holderAt_10 : decode cX8_holderAt 10 = .ok (.if_icmp .ge 12, 3) := by decide +kernel
theorem dX8_holderAt_13 : decode cX8_holderAt 13 = .ok (.aload_n 0, 1) := by decide +kernel
theorem dX8_holderAt_14 : decode cX8_holderAt 14 = .ok (.getfield 44, 3) := by decide +kernel
theorem dX8_holderAt_17 : decode cX8_holderAt 17 = .ok (.iload_n 1, 1) := by decide +kernel
theorem dX8_holderAt_18 : decode cX8_holderAt 18 = .ok (.aaload, 1) := by decide +kernel
theorem dX8_holderAt_19 : decode cX8_holderAt 19 = .ok (.goto 7, 3) := by decide +kernel
theorem dX8_holderAt_22 : decode cX8_holderAt 22 = .ok (.aload_n 0, 1) := by decide +kernel
theorem dX8_holderAt_23 : decode cX8_holderAt 23 = .ok (.getfield 49, 3) := by decide +kernel
theorem dX8_holderAt_26 : decode cX8_holderAt 26 = .ok (.areturn, 1) := by decide +kernel
