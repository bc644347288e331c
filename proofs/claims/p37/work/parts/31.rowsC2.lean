theorem dX6_ringsNow_18 : decode cX6_ringsNow 18 = .ok (.istore_n 3, 1) := by decide +kernel
theorem dX6_ringsNow_19 : decode cX6_ringsNow 19 = .ok (.iload_n 3, 1) := by decide +kernel
theorem dX6_ringsNow_20 : decode cX6_ringsNow 20 = .ok (.aload_n 0, 1) := by decide +kernel
theorem dX6_ringsNow_21 : decode cX6_ringsNow 21 = .ok (.getfield 12, 3) := by decide +kernel
theorem dX6_ringsNow_24 : decode cX6_ringsNow 24 = .ok (.getfield 69, 3) := by decide +kernel
theorem dX6_ringsNow_27 : decode cX6_ringsNow 27 = .ok (.if_icmp .ge 27, 3) := by decide +kernel
theorem dX6_ringsNow_30 : decode cX6_ringsNow 30 = .ok (.aload_n 0, 1) := by decide +kernel
theorem dX6_ringsNow_31 : decode cX6_ringsNow 31 = .ok (.iload_n 2, 1) := by decide +kernel
theorem dX6_ringsNow_32 : decode cX6_ringsNow 32 = .ok (.iload_n 3, 1) := by decide +kernel
theorem dX6_ringsNow_33 : decode cX6_ringsNow 33 = .ok (.invokevirtual 76, 3) := by decide +kernel
theorem dX6_ringsNow_36 : decode cX6_ringsNow 36 = .ok (.ifCond .eq 12, 3) := by decide +kernel
theorem dX6_ringsNow_39 : decode cX6_ringsNow 39 = .ok (.iload_n 1, 1) := by decide +kernel
theorem dX6_ringsNow_40 : decode cX6_ringsNow 40 = .ok (.aload_n 0, 1) := by decide +kernel
theorem dX6_ringsNow_41 : decode cX6_ringsNow 41 = .ok (.iload_n 2, 1) := by decide +kernel
theorem dX6_ringsNow_42 : decode cX6_ringsNow 42 = .ok (.iload_n 3, 1) := by decide +kernel
theorem dX6_ringsNow_43 : decode cX6_ringsNow 43 = .ok (.invokevirtual 79, 3) := by decide +kernel
theorem dX6_ringsNow_46 : decode cX6_ringsNow 46 = .ok (.iadd, 1) := by decide +kernel
theorem dX6_ringsNow_47 : decode cX6_ringsNow 47 = .ok (.istore_n 1, 1) := by decide +kernel
theorem dX6_ringsNow_48 : decode cX6_ringsNow 48 = .ok (.iinc 3 1, 3) := by decide +kernel
theorem dX6_ringsNow_51 : decode cX6_ringsNow 51 = .ok (.goto (-32), 3) := by decide +kernel
theorem dX6_ringsNow_54 : decode cX6_ringsNow 54 = .ok (.iinc 2 1, 3) := by decide +kernel
theorem dX6_ringsNow_57 : decode cX6_ringsNow 57 = .ok (.goto (-53), 3) := by decide +kernel
theorem dX6_ringsNow_60 : decode cX6_ringsNow 60 = .ok (.iload_n 1, 1) := by decide +kernel
theorem dX6_ringsNow_61 : decode cX6_ringsNow 61 = .ok (.ireturn, 1) := by decide +kernel
set_option maxRecDepth 20000 in
theorem ggX6_ringsOver_X6_wishesMore : GoodIn wsX6_ringsOver wsX6_wishesMore := goodIn_r _ [7, 1, 8, 9, 10, 11, 12, 13, 14, 15, 16, 17, 18, 19, 20, 21, 22, 23, 24, 25, 26, 27, 28, 29, 30, 31, 32, 33, 34, 35, 36, 37, 38, 39, 40, 41, 42, 43, 44, 45, 46, 47, 48, 60, 61, 62, 63, 64, 65, 66, 67, 68, 69, 49, 50, 51, 52, 53, 54, 55, 56, 57, 58, 59, 70, 71, 72, 73, 74, 75] (by decide +kernel) (by decide +kernel)
set_option maxRecDepth 20000 in
theorem gX6_ringsOver_X6_wishesMore : GoodIn wsX6_ringsOver (wsV RX6 76 RX6 yX6_wishesMore wsX6_wishesMore) := goodIn_app (goodIn_of _ (by decide +kernel)) ggX6_ringsOver_X6_wishesMore
theorem dX6_ringsOver_0 : decode cX6_ringsOver 0 = .ok (.iconst 0, 1) := by decide +kernel
theorem dX6_ringsOver_1 : decode cX6_ringsOver 1 = .ok (.istore_n 3, 1) := by decide +kernel
theorem dX6_ringsOver_2 : decode cX6_ringsOver 2 = .ok (.iload_n 1, 1) := by decide +kernel
theorem dX6_ringsOver_3 : decode cX6_ringsOver 3 = .ok (.iconst 1, 1) := by decide +kernel
theorem dX6_ringsOver_4 : decode cX6_ringsOver 4 = .ok (.iadd, 1) := by decide +kernel
theorem dX6_ringsOver_5 : decode cX6_ringsOver 5 = .ok (.istore 4, 2) := by decide +kernel
theorem dX6_ringsOver_7 : decode cX6_ringsOver 7 = .ok (.iload 4, 2) := by decide +kernel
theorem dX6_ringsOver_9 : decode cX6_ringsOver 9 = .ok (.aload_n 0, 1) := by decide +kernel
theorem dX6_ringsOver_10 : decode cX6_ringsOver 10 = .ok (.getfield 12, 3) := by decide +kernel
theorem dX6_ringsOver_13 : decode cX6_ringsOver 13 = .ok (.getfield 69, 3) := by decide +kernel
theorem dX6_ringsOver_16 : decode cX6_ringsOver 16 = .ok (.if_icmp .ge 32, 3) := by decide +kernel
theorem dX6_ringsOver_19 : decode cX6_ringsOver 19 = .ok (.aload_n 0, 1) := by decide +kernel
theorem dX6_ringsOver_20 : decode cX6_ringsOver 20 = .ok (.iload_n 2, 1) := by decide +kernel
theorem dX6_ringsOver_21 : decode cX6_ringsOver 21 = .ok (.iload 4, 2) := by decide +kernel
theorem dX6_ringsOver_23 : decode cX6_ringsOver 23 = .ok (.invokevirtual 76, 3) := by decide +kernel
theorem dX6_ringsOver_26 : decode cX6_ringsOver 26 = .ok (.ifCond .eq 16, 3) := by decide +kernel
theorem dX6_ringsOver_29 : decode cX6_ringsOver 29 = .ok (.aload_n 0, 1) := by decide +kernel
theorem dX6_ringsOver_30 : decode cX6_ringsOver 30 = .ok (.iload 4, 2) := by decide +kernel
theorem dX6_ringsOver_32 : decode cX6_ringsOver 32 = .ok (.iload_n 1, 1) := by decide +kernel
theorem dX6_ringsOver_33 : decode cX6_ringsOver 33 = .ok (.invokevirtual 76, 3) := by decide +kernel
theorem dX6_ringsOver_36 : decode cX6_ringsOver 36 = .ok (.ifCond .eq 6, 3) := by decide +kernel
theorem dX6_ringsOver_39 : decode cX6_ringsOver 39 = .ok (.iinc 3 1, 3) := by decide +kernel
theorem dX6_ringsOver_42 : decode cX6_ringsOver 42 = .ok (.iinc 4 1, 3) := by decide +kernel
theorem dX6_ringsOver_45 : decode cX6_ringsOver 45 = .ok (.goto (-38), 3) := by decide +kernel
theorem dX6_ringsOver_48 : decode cX6_ringsOver 48 = .ok (.iload_n 3, 1) := by decide +kernel
theorem dX6_ringsOver_49 : decode cX6_ringsOver 49 = .ok (.ireturn, 1) := by decide +kernel
set_option maxRecDepth 20000 in
theorem ggX6_wishesMore_X2_haveTwoHolders : GoodIn wsX6_wishesMore wsX2_haveTwoHolders := goodIn_r _ [6, 7, 8, 9, 10, 5, 11, 12, 13, 14, 15, 16, 17, 18, 19, 20, 21, 22, 23, 24, 43, 44, 45, 46, 47, 48, 49, 50, 51, 52, 53, 54, 55, 56, 57, 58, 59, 60, 61, 62, 63] (by decide +kernel) (by decide +kernel)
set_option maxRecDepth 20000 in
theorem gX6_wishesMore_X2_haveTwoHolders : GoodIn wsX6_wishesMore (wsV RX6 59 RX2 yX2_haveTwoHolders wsX2_haveTwoHolders) := goodIn_app (goodIn_of _ (by decide +kernel)) ggX6_wishesMore_X2_haveTwoHolders
set_option maxRecDepth 20000 in
theorem ggX6_wishesMore_X2_riseOf : GoodIn wsX6_wishesMore wsX2_riseOf := goodIn_r _ [28, 7, 13, 14, 15, 5, 16, 17, 18, 29, 30, 31, 32, 33, 34, 35, 36, 37, 38, 39, 40, 43, 44, 45, 46, 47, 48, 49, 50, 51, 52, 53, 54, 55, 56, 57, 58, 59, 60, 61, 62, 63, 64, 65, 66, 67, 68, 69] (by decide +kernel) (by decide +kernel)
set_option maxRecDepth 20000 in
theorem gX6_wishesMore_X2_riseOf : GoodIn wsX6_wishesMore (wsV RX6 82 RX2 yX2_riseOf wsX2_riseOf) := goodIn_app (goodIn_of _ (by decide +kernel)) ggX6_wishesMore_X2_riseOf
theorem dX6_wishesMore_0 : decode cX6_wishesMore 0 = .ok (.aload_n 0, 1) := by decide +kernel
theorem dX6_wishesMore_1 : decode cX6_wishesMore 1 = .ok (.getfield 12, 3) := by decide +kernel
theorem dX6_wishesMore_4 : decode cX6_wishesMore 4 = .ok (.iload_n 1, 1) := by decide +kernel
theorem dX6_wishesMore_5 : decode cX6_wishesMore 5 = .ok (.iload_n 2, 1) := by decide +kernel
theorem dX6_wishesMore_6 : decode cX6_wishesMore 6 = .ok (.invokevirtual 59, 3) := by decide +kernel
theorem dX6_wishesMore_9 : decode cX6_wishesMore 9 = .ok (.ifCond .eq 19, 3) := by decide +kernel
theorem dX6_wishesMore_12 : decode cX6_wishesMore 12 = .ok (.aload_n 0, 1) := by decide +kernel
theorem dX6_wishesMore_13 : decode cX6_wishesMore 13 = .ok (.getfield 12, 3) := by decide +kernel
theorem dX6_wishesMore_16 : decode cX6_wishesMore 16 = .ok (.iload_n 1, 1) := by decide +kernel
theorem dX6_wishesMore_17 : decode cX6_wishesMore 17 = .ok (.iload_n 2, 1) := by decide +kernel
theorem dX6_wishesMore_18 : decode cX6_wishesMore 18 = .ok (.invokevirtual 82, 3) := by decide +kernel
theorem dX6_wishesMore_21 : decode cX6_wishesMore 21 = .ok (.ifCond .le 7, 3) := by decide +kernel
theorem dX6_wishesMore_24 : decode cX6_wishesMore 24 = .ok (.iconst 1, 1) := by decide +kernel
theorem dX6_wishesMore_25 : decode cX6_wishesMore 25 = .ok (.goto 4, 3) := by decide +kernel
theorem dX6_wishesMore_28 : decode cX6_wishesMore 28 = .ok (.iconst 0, 1) := by decide +kernel
theorem dX6_wishesMore_29 : decode cX6_wishesMore 29 = .ok (.ireturn, 1) := by decide +kernel
set_option maxRecDepth 20000 in
theorem ggX6_allCoins_X2_personAt : GoodIn wsX6_allCoins wsX2_personAt := goodIn_r _ [11, 12, 13, 22, 23, 24, 25, 26, 27, 28, 29, 30, 31, 32] (by decide +kernel) (by decide +kernel)
set_option maxRecDepth 20000 in
theorem gX6_allCoins_X2_personAt : GoodIn wsX6_allCoins (wsV RX6 91 RX2 yX2_personAt wsX2_personAt) := goodIn_app (goodIn_of _ (by decide +kernel)) ggX6_allCoins_X2_personAt
set_option maxRecDepth 20000 in
theorem ggX6_allCoins_X2_toolAt : GoodIn wsX6_allCoins wsX2_toolAt := goodIn_r _ [17, 18, 19, 22, 23, 24, 25, 26, 27, 28, 29, 30, 31, 32] (by decide +kernel) (by decide +kernel)
set_option maxRecDepth 20000 in
theorem gX6_allCoins_X2_toolAt : GoodIn wsX6_allCoins (wsV RX6 25 RX2 yX2_toolAt wsX2_toolAt) := goodIn_app (goodIn_of _ (by decide +kernel)) ggX6_allCoins_X2_toolAt
theorem dX6_allCoins_0 : decode cX6_allCoins 0 = .ok (.aload_n 0, 1) := by decide +kernel
theorem dX6_allCoins_1 : decode cX6_allCoins 1 = .ok (.getfield 12, 3) := by decide +kernel
theorem dX6_allCoins_4 : decode cX6_allCoins 4 = .ok (.getfield 85, 3) := by decide +kernel
theorem dX6_allCoins_7 : decode cX6_allCoins 7 = .ok (.istore_n 1, 1) := by decide +kernel
theorem dX6_allCoins_8 : decode cX6_allCoins 8 = .ok (.iconst 0, 1) := by decide +kernel
theorem dX6_allCoins_9 : decode cX6_allCoins 9 = .ok (.istore_n 2, 1) := by decide +kernel
theorem dX6_allCoins_10 : decode cX6_allCoins 10 = .ok (.iload_n 2, 1) := by decide +kernel
theorem dX6_allCoins_11 : decode cX6_allCoins 11 = .ok (.aload_n 0, 1) := by decide +kernel
theorem dX6_allCoins_12 : decode cX6_allCoins 12 = .ok (.getfield 12, 3) := by decide +kernel
theorem dX6_allCoins_15 : decode cX6_allCoins 15 = .ok (.getfield 88, 3) := by decide +kernel
theorem dX6_allCoins_18 : decode cX6_allCoins 18 = .ok (.if_icmp .ge 23, 3) := by decide +kernel
theorem dX6_allCoins_21 : decode cX6_allCoins 21 = .ok (.iload_n 1, 1) := by decide +kernel
theorem dX6_allCoins_22 : decode cX6_allCoins 22 = .ok (.aload_n 0, 1) := by decide +kernel
theorem dX6_allCoins_23 : decode cX6_allCoins 23 = .ok (.getfield 12, 3) := by decide +kernel
theorem dX6_allCoins_26 : decode cX6_allCoins 26 = .ok (.iload_n 2, 1) := by decide +kernel
theorem dX6_allCoins_27 : decode cX6_allCoins 27 = .ok (.invokevirtual 91, 3) := by decide +kernel
theorem dX6_allCoins_30 : decode cX6_allCoins 30 = .ok (.getfield 95, 3) := by decide +kernel
theorem dX6_allCoins_33 : decode cX6_allCoins 33 = .ok (.iadd, 1) := by decide +kernel
theorem dX6_allCoins_34 : decode cX6_allCoins 34 = .ok (.istore_n 1, 1) := by decide +kernel
theorem dX6_allCoins_35 : decode cX6_allCoins 35 = .ok (.iinc 2 1, 3) := by decide +kernel
theorem dX6_allCoins_38 : decode cX6_allCoins 38 = .ok (.goto (-28), 3) := by decide +kernel
theorem dX6_allCoins_41 : decode cX6_allCoins 41 = .ok (.iconst 0, 1) := by decide +kernel
theorem dX6_allCoins_42 : decode cX6_allCoins 42 = .ok (.istore_n 2, 1) := by decide +kernel
theorem dX6_allCoins_43 : decode cX6_allCoins 43 = .ok (.iload_n 2, 1) := by decide +kernel
theorem dX6_allCoins_44 : decode cX6_allCoins 44 = .ok (.aload_n 0, 1) := by decide +kernel
theorem dX6_allCoins_45 : decode cX6_allCoins 45 = .ok (.getfield 12, 3) := by decide +kernel
theorem dX6_allCoins_48 : decode cX6_allCoins 48 = .ok (.getfield 69, 3) := by decide +kernel
theorem dX6_allCoins_51 : decode cX6_allCoins 51 = .ok (.if_icmp .ge 23, 3) := by decide +kernel
theorem dX6_allCoins_54 : decode cX6_allCoins 54 = .ok (.iload_n 1, 1) := by decide +kernel
theorem dX6_allCoins_55 : decode cX6_allCoins 55 = .ok (.aload_n 0, 1) := by decide +kernel
theorem dX6_allCoins_56 : decode cX6_allCoins 56 = .ok (.getfield 12, 3) := by decide +kernel
theorem dX6_allCoins_59 : decode cX6_allCoins 59 = .ok (.iload_n 2, 1) := by decide +kernel
theorem dX6_allCoins_60 : decode cX6_allCoins 60 = .ok (.invokevirtual 25, 3) := by decide +kernel
theorem dX6_allCoins_63 : decode cX6_allCoins 63 = .ok (.getfield 100, 3) := by decide +kernel
theorem dX6_allCoins_66 : decode cX6_allCoins 66 = .ok (.iadd, 1) := by decide +kernel
theorem dX6_allCoins_67 : decode cX6_allCoins 67 = .ok (.istore_n 1, 1) := by decide +kernel
theorem dX6_allCoins_68 : decode cX6_allCoins 68 = .ok (.iinc 2 1, 3) := by decide +kernel
theorem dX6_allCoins_71 : decode cX6_allCoins 71 = .ok (.goto (-28), 3) := by decide +kernel
theorem dX6_allCoins_74 : decode cX6_allCoins 74 = .ok (.iload_n 1, 1) := by decide +kernel
theorem dX6_allCoins_75 : decode cX6_allCoins 75 = .ok (.ireturn, 1) := by decide +kernel
set_option maxRecDepth 20000 in
theorem ggX6_allDebts_X2_personAt : GoodIn wsX6_allDebts wsX2_personAt := goodIn_r _ [8, 9, 10, 13, 14, 15, 16, 17, 18, 19, 20, 21, 22, 23] (by decide +kernel) (by decide +kernel)
set_option maxRecDepth 20000 in
theorem gX6_allDebts_X2_personAt : GoodIn wsX6_allDebts (wsV RX6 91 RX2 yX2_personAt wsX2_personAt) := goodIn_app (goodIn_of _ (by decide +kernel)) ggX6_allDebts_X2_personAt
theorem dX6_allDebts_0 : decode cX6_allDebts 0 = .ok (.iconst 0, 1) := by decide +kernel
theorem dX6_allDebts_1 : decode cX6_allDebts 1 = .ok (.istore_n 1, 1) := by decide +kernel
theorem dX6_allDebts_2 : decode cX6_allDebts 2 = .ok (.iconst 0, 1) := by decide +kernel
theorem dX6_allDebts_3 : decode cX6_allDebts 3 = .ok (.istore_n 2, 1) := by decide +kernel
theorem dX6_allDebts_4 : decode cX6_allDebts 4 = .ok (.iload_n 2, 1) := by decide +kernel
theorem dX6_allDebts_5 : decode cX6_allDebts 5 = .ok (.aload_n 0, 1) := by decide +kernel
theorem dX6_allDebts_6 : decode cX6_allDebts 6 = .ok (.getfield 12, 3) := by decide +kernel
theorem dX6_allDebts_9 : decode cX6_allDebts 9 = .ok (.getfield 88, 3) := by decide +kernel
theorem dX6_allDebts_12 : decode cX6_allDebts 12 = .ok (.if_icmp .ge 23, 3) := by decide +kernel
theorem dX6_allDebts_15 : decode cX6_allDebts 15 = .ok (.iload_n 1, 1) := by decide +kernel
theorem dX6_allDebts_16 : decode cX6_allDebts 16 = .ok (.aload_n 0, 1) := by decide +kernel
theorem dX6_allDebts_17 : decode cX6_allDebts 17 = .ok (.getfield 12, 3) := by decide +kernel
theorem dX6_allDebts_20 : decode cX6_allDebts 20 = .ok (.iload_n 2, 1) := by decide +kernel
theorem dX6_allDebts_21 : decode cX6_allDebts 21 = .ok (.invokevirtual 91, 3) := by decide +kernel
theorem dX6_allDebts_24 : decode cX6_allDebts 24 = .ok (.getfield 103, 3) := by decide +kernel
theorem dX6_allDebts_27 : decode cX6_allDebts 27 = .ok (.iadd, 1) := by decide +kernel
theorem dX6_allDebts_28 : decode cX6_allDebts 28 = .ok (.istore_n 1, 1) := by decide +kernel
theorem dX6_allDebts_29 : decode cX6_allDebts 29 = .ok (.iinc 2 1, 3) := by decide +kernel
theorem dX6_allDebts_32 : decode cX6_allDebts 32 = .ok (.goto (-28), 3) := by decide +kernel
theorem dX6_allDebts_35 : decode cX6_allDebts 35 = .ok (.iload_n 1, 1) := by decide +kernel
theorem dX6_allDebts_36 : decode cX6_allDebts 36 = .ok (.ireturn, 1) := by decide +kernel
set_option maxRecDepth 20000 in
theorem ggX6_toolsDueBefore_X2_toolAt : GoodIn wsX6_toolsDueBefore wsX2_toolAt := goodIn_r _ [7, 8, 9, 27, 28, 29, 30, 31, 32, 33, 34, 35, 36, 37] (by decide +kernel) (by decide +kernel)
set_option maxRecDepth 20000 in
theorem gX6_toolsDueBefore_X2_toolAt : GoodIn wsX6_toolsDueBefore (wsV RX6 25 RX2 yX2_toolAt wsX2_toolAt) := goodIn_app (goodIn_of _ (by decide +kernel)) ggX6_toolsDueBefore_X2_toolAt
set_option maxRecDepth 20000 in
theorem ggX6_toolsDueBefore_X7_daysLateOn : GoodIn wsX6_toolsDueBefore wsX7_daysLateOn := goodIn_r _ [14, 15, 16, 17, 18, 19, 20, 21, 22, 13, 23, 24, 38, 39, 40, 41, 42, 43, 44, 45, 46, 47] (by decide +kernel) (by decide +kernel)
set_option maxRecDepth 20000 in
theorem gX6_toolsDueBefore_X7_daysLateOn : GoodIn wsX6_toolsDueBefore (wsV RX6 106 RX7 yX7_daysLateOn wsX7_daysLateOn) := goodIn_app (goodIn_of _ (by decide +kernel)) ggX6_toolsDueBefore_X7_daysLateOn
theorem dX6_toolsDueBefore_0 : decode cX6_toolsDueBefore 0 = .ok (.iconst 0, 1) := by decide +kernel
theorem dX6_toolsDueBefore_1 : decode cX6_toolsDueBefore 1 = .ok (.istore_n 2, 1) := by decide +kernel
theorem dX6_toolsDueBefore_2 : decode cX6_toolsDueBefore 2 = .ok (.iconst 0, 1) := by decide +kernel
theorem dX6_toolsDueBefore_3 : decode cX6_toolsDueBefore 3 = .ok (.istore_n 3, 1) := by decide +kernel
theorem dX6_toolsDueBefore_4 : decode cX6_toolsDueBefore 4 = .ok (.iload_n 3, 1) := by decide +kernel
theorem dX6_toolsDueBefore_5 : decode cX6_toolsDueBefore 5 = .ok (.aload_n 0, 1) := by decide +kernel
theorem dX6_toolsDueBefore_6 : decode cX6_toolsDueBefore 6 = .ok (.getfield 12, 3) := by decide +kernel
theorem dX6_toolsDueBefore_9 : decode cX6_toolsDueBefore 9 = .ok (.getfield 69, 3) := by decide +kernel
theorem dX6_toolsDueBefore_12 : decode cX6_toolsDueBefore 12 = .ok (.if_icmp .ge 27, 3) := by decide +kernel
theorem dX6_toolsDueBefore_15 : decode cX6_toolsDueBefore 15 = .ok (.aload_n 0, 1) := by decide +kernel
theorem dX6_toolsDueBefore_16 : decode cX6_toolsDueBefore 16 = .ok (.getfield 12, 3) := by decide +kernel
theorem dX6_toolsDueBefore_19 : decode cX6_toolsDueBefore 19 = .ok (.iload_n 3, 1) := by decide +kernel
theorem dX6_toolsDueBefore_20 : decode cX6_toolsDueBefore 20 = .ok (.invokevirtual 25, 3) := by decide +kernel
theorem dX6_toolsDueBefore_23 : decode cX6_toolsDueBefore 23 = .ok (.iload_n 1, 1) := by decide +kernel
theorem dX6_toolsDueBefore_24 : decode cX6_toolsDueBefore 24 = .ok (.invokevirtual 106, 3) := by decide +kernel
theorem dX6_toolsDueBefore_27 : decode cX6_toolsDueBefore 27 = .ok (.ifCond .le 6, 3) := by decide +kernel
theorem dX6_toolsDueBefore_30 : decode cX6_toolsDueBefore 30 = .ok (.iinc 2 1, 3) := by decide +kernel
theorem dX6_toolsDueBefore_33 : decode cX6_toolsDueBefore 33 = .ok (.iinc 3 1, 3) := by decide +kernel
theorem dX6_toolsDueBefore_36 : decode cX6_toolsDueBefore 36 = .ok (.goto (-32), 3) := by decide +kernel
theorem dX6_toolsDueBefore_39 : decode cX6_toolsDueBefore 39 = .ok (.iload_n 2, 1) := by decide +kernel
theorem dX6_toolsDueBefore_40 : decode cX6_toolsDueBefore 40 = .ok (.ireturn, 1) := by decide +kernel
set_option maxRecDepth 20000 in
theorem ggX6_feesOn_X2_toolAt : GoodIn wsX6_feesOn wsX2_toolAt := goodIn_r _ [7, 8, 9, 36, 37, 38, 39, 40, 41, 42, 43, 44, 45, 46] (by decide +kernel) (by decide +kernel)
set_option maxRecDepth 20000 in
theorem gX6_feesOn_X2_toolAt : GoodIn wsX6_feesOn (wsV RX6 25 RX2 yX2_toolAt wsX2_toolAt) := goodIn_app (goodIn_of _ (by decide +kernel)) ggX6_feesOn_X2_toolAt
set_option maxRecDepth 20000 in
theorem ggX6_feesOn_X7_feeOn : GoodIn wsX6_feesOn wsX7_feeOn := goodIn_r _ [14, 15, 16, 17, 18, 19, 20, 21, 22, 23, 13, 24, 25, 26, 27, 28, 29, 30, 31, 32, 33, 47, 48, 49, 50, 51, 52, 53, 54, 55, 56] (by decide +kernel) (by decide +kernel)
set_option maxRecDepth 20000 in
theorem gX6_feesOn_X7_feeOn : GoodIn wsX6_feesOn (wsV RX6 110 RX7 yX7_feeOn wsX7_feeOn) := goodIn_app (goodIn_of _ (by decide +kernel)) ggX6_feesOn_X7_feeOn
theorem dX6_feesOn_0 : decode cX6_feesOn 0 = .ok (.iconst 0, 1) := by decide +kernel
theorem dX6_feesOn_1 : decode cX6_feesOn 1 = .ok (.istore_n 2, 1) := by decide +kernel
theorem dX6_feesOn_2 : decode cX6_feesOn 2 = .ok (.iconst 0, 1) := by decide +kernel
theorem dX6_feesOn_3 : decode cX6_feesOn 3 = .ok (.istore_n 3, 1) := by decide +kernel
theorem dX6_feesOn_4 : decode cX6_feesOn 4 = .ok (.iload_n 3, 1) := by decide +kernel
theorem dX6_feesOn_5 : decode cX6_feesOn 5 = .ok (.aload_n 0, 1) := by decide +kernel
theorem dX6_feesOn_6 : decode cX6_feesOn 6 = .ok (.getfield 12, 3) := by decide +kernel
theorem dX6_feesOn_9 : decode cX6_feesOn 9 = .ok (.getfield 69, 3) := by decide +kernel
theorem dX6_feesOn_12 : decode cX6_feesOn 12 = .ok (.if_icmp .ge 24, 3) := by decide +kernel
theorem dX6_feesOn_15 : decode cX6_feesOn 15 = .ok (.iload_n 2, 1) := by decide +kernel
theorem dX6_feesOn_16 : decode cX6_feesOn 16 = .ok (.aload_n 0, 1) := by decide +kernel
theorem dX6_feesOn_17 : decode cX6_feesOn 17 = .ok (.getfield 12, 3) := by decide +kernel
theorem dX6_feesOn_20 : decode cX6_feesOn 20 = .ok (.iload_n 3, 1) := by decide +kernel
theorem dX6_feesOn_21 : decode cX6_feesOn 21 = .ok (.invokevirtual 25, 3) := by decide +kernel
theorem dX6_feesOn_24 : decode cX6_feesOn 24 = .ok (.iload_n 1, 1) := by decide +kernel
theorem dX6_feesOn_25 : decode cX6_feesOn 25 = .ok (.invokevirtual 110, 3) := by decide +kernel
theorem dX6_feesOn_28 : decode cX6_feesOn 28 = .ok (.iadd, 1) := by decide +kernel
theorem dX6_feesOn_29 : decode cX6_feesOn 29 = .ok (.istore_n 2, 1) := by decide +kernel
theorem dX6_feesOn_30 : decode cX6_feesOn 30 = .ok (.iinc 3 1, 3) := by decide +kernel
theorem dX6_feesOn_33 : decode cX6_feesOn 33 = .ok (.goto (-29), 3) := by decide +kernel
theorem dX6_feesOn_36 : decode cX6_feesOn 36 = .ok (.iload_n 2, 1) := by decide +kernel
theorem dX6_feesOn_37 : decode cX6_feesOn 37 = .ok (.ireturn, 1) := by decide +kernel
set_option maxRecDepth 20000 in
theorem ggX6_leasedCount_X2_toolAt : GoodIn wsX6_leasedCount wsX2_toolAt := goodIn_r _ [7, 8, 9, 18, 19, 20, 21, 22, 23, 24, 25, 26, 27, 28] (by decide +kernel) (by decide +kernel)
set_option maxRecDepth 20000 in
theorem gX6_leasedCount_X2_toolAt : GoodIn wsX6_leasedCount (wsV RX6 25 RX2 yX2_toolAt wsX2_toolAt) := goodIn_app (goodIn_of _ (by decide +kernel)) ggX6_leasedCount_X2_toolAt
set_option maxRecDepth 20000 in
theorem ggX6_leasedCount_X7_isLeased : GoodIn wsX6_leasedCount wsX7_isLeased := goodIn_r _ [14, 15, 29, 30, 31, 32, 33, 34, 35, 36, 37, 38] (by decide +kernel) (by decide +kernel)
set_option maxRecDepth 20000 in
theorem gX6_leasedCount_X7_isLeased : GoodIn wsX6_leasedCount (wsV RX6 113 RX7 yX7_isLeased wsX7_isLeased) := goodIn_app (goodIn_of _ (by decide +kernel)) ggX6_leasedCount_X7_isLeased
theorem dX6_leasedCount_0 : decode cX6_leasedCount 0 = .ok (.iconst 0, 1) := by decide +kernel
theorem dX6_leasedCount_1 : decode cX6_leasedCount 1 = .ok (.istore_n 1, 1) := by decide +kernel
theorem dX6_leasedCount_2 : decode cX6_leasedCount 2 = .ok (.iconst 0, 1) := by decide +kernel
theorem dX6_leasedCount_3 : decode cX6_leasedCount 3 = .ok (.istore_n 2, 1) := by decide +kernel
theorem dX6_leasedCount_4 : decode cX6_leasedCount 4 = .ok (.iload_n 2, 1) := by decide +kernel
theorem dX6_leasedCount_5 : decode cX6_leasedCount 5 = .ok (.aload_n 0, 1) := by decide +kernel
theorem dX6_leasedCount_6 : decode cX6_leasedCount 6 = .ok (.getfield 12, 3) := by decide +kernel
theorem dX6_leasedCount_9 : decode cX6_leasedCount 9 = .ok (.getfield 69, 3) := by decide +kernel
theorem dX6_leasedCount_12 : decode cX6_leasedCount 12 = .ok (.if_icmp .ge 26, 3) := by decide +kernel
theorem dX6_leasedCount_15 : decode cX6_leasedCount 15 = .ok (.aload_n 0, 1) := by decide +kernel
theorem dX6_leasedCount_16 : decode cX6_leasedCount 16 = .ok (.getfield 12, 3) := by decide +kernel
theorem dX6_leasedCount_19 : decode cX6_leasedCount 19 = .ok (.iload_n 2, 1) := by decide +kernel
theorem dX6_leasedCount_20 : decode cX6_leasedCount 20 = .ok (.invokevirtual 25, 3) := by decide +kernel
theorem dX6_leasedCount_23 : decode cX6_leasedCount 23 = .ok (.invokevirtual 113, 3) := by decide +kernel
theorem dX6_leasedCount_26 : decode cX6_leasedCount 26 = .ok (.ifCond .eq 6, 3) := by decide +kernel
theorem dX6_leasedCount_29 : decode cX6_leasedCount 29 = .ok (.iinc 1 1, 3) := by decide +kernel
theorem dX6_leasedCount_32 : decode cX6_leasedCount 32 = .ok (.iinc 2 1, 3) := by decide +kernel
theorem dX6_leasedCount_35 : decode cX6_leasedCount 35 = .ok (.goto (-31), 3) := by decide +kernel
theorem dX6_leasedCount_38 : decode cX6_leasedCount 38 = .ok (.iload_n 1, 1) := by decide +kernel
theorem dX6_leasedCount_39 : decode cX6_leasedCount 39 = .ok (.ireturn, 1) := by decide +kernel
set_option maxRecDepth 20000 in
theorem ggX6_claimCount_X2_toolAt : GoodIn wsX6_claimCount wsX2_toolAt := goodIn_r _ [8, 9, 10, 19, 20, 21, 22, 23, 24, 25, 26, 27, 28, 29] (by decide +kernel) (by decide +kernel)
set_option maxRecDepth 20000 in
theorem gX6_claimCount_X2_toolAt : GoodIn wsX6_claimCount (wsV RX6 25 RX2 yX2_toolAt wsX2_toolAt) := goodIn_app (goodIn_of _ (by decide +kernel)) ggX6_claimCount_X2_toolAt
set_option maxRecDepth 20000 in
theorem ggX6_claimCount_X4_size : GoodIn wsX6_claimCount wsX4_size := goodIn_r _ [15, 16, 40, 41, 42, 43] (by decide +kernel) (by decide +kernel)
set_option maxRecDepth 20000 in
theorem gX6_claimCount_X4_size : GoodIn wsX6_claimCount (wsV RX6 117 RX4 yX4_size wsX4_size) := goodIn_app (goodIn_of _ (by decide +kernel)) ggX6_claimCount_X4_size
theorem dX6_claimCount_0 : decode cX6_claimCount 0 = .ok (.iconst 0, 1) := by decide +kernel
theorem dX6_claimCount_1 : decode cX6_claimCount 1 = .ok (.istore_n 1, 1) := by decide +kernel
theorem dX6_claimCount_2 : decode cX6_claimCount 2 = .ok (.iconst 0, 1) := by decide +kernel
theorem dX6_claimCount_3 : decode cX6_claimCount 3 = .ok (.istore_n 2, 1) := by decide +kernel
theorem dX6_claimCount_4 : decode cX6_claimCount 4 = .ok (.iload_n 2, 1) := by decide +kernel
theorem dX6_claimCount_5 : decode cX6_claimCount 5 = .ok (.aload_n 0, 1) := by decide +kernel
theorem dX6_claimCount_6 : decode cX6_claimCount 6 = .ok (.getfield 12, 3) := by decide +kernel
theorem dX6_claimCount_9 : decode cX6_claimCount 9 = .ok (.getfield 69, 3) := by decide +kernel
theorem dX6_claimCount_12 : decode cX6_claimCount 12 = .ok (.if_icmp .ge 26, 3) := by decide +kernel
theorem dX6_claimCount_15 : decode cX6_claimCount 15 = .ok (.iload_n 1, 1) := by decide +kernel
theorem dX6_claimCount_16 : decode cX6_claimCount 16 = .ok (.aload_n 0, 1) := by decide +kernel
theorem dX6_claimCount_17 : decode cX6_claimCount 17 = .ok (.getfield 12, 3) := by decide +kernel
theorem dX6_claimCount_20 : decode cX6_claimCount 20 = .ok (.iload_n 2, 1) := by decide +kernel
theorem dX6_claimCount_21 : decode cX6_claimCount 21 = .ok (.invokevirtual 25, 3) := by decide +kernel
theorem dX6_claimCount_24 : decode cX6_claimCount 24 = .ok (.getfield 33, 3) := by decide +kernel
theorem dX6_claimCount_27 : decode cX6_claimCount 27 = .ok (.invokevirtual 117, 3) := by decide +kernel
theorem dX6_claimCount_30 : decode cX6_claimCount 30 = .ok (.iadd, 1) := by decide +kernel
theorem dX6_claimCount_31 : decode cX6_claimCount 31 = .ok (.istore_n 1, 1) := by decide +kernel
theorem dX6_claimCount_32 : decode cX6_claimCount 32 = .ok (.iinc 2 1, 3) := by decide +kernel
theorem dX6_claimCount_35 : decode cX6_claimCount 35 = .ok (.goto (-31), 3) := by decide +kernel
theorem dX6_claimCount_38 : decode cX6_claimCount 38 = .ok (.iload_n 1, 1) := by decide +kernel
theorem dX6_claimCount_39 : decode cX6_claimCount 39 = .ok (.ireturn, 1) := by decide +kernel
set_option maxRecDepth 20000 in
theorem ggX7_init_X4_init : GoodIn wsX7_init wsX4_init := goodIn_r _ [12, 13, 2, 3, 14, 15, 16, 17, 18, 19, 20, 21, 22, 23, 24, 25] (by decide +kernel) (by decide +kernel)
set_option maxRecDepth 20000 in
theorem gX7_init_X4_init : GoodIn wsX7_init (wsX4_init) := ggX7_init_X4_init
theorem dX7_init_0 : decode cX7_init 0 = .ok (.aload_n 0, 1) := by decide +kernel
theorem dX7_init_1 : decode cX7_init 1 = .ok (.invokespecial 3, 3) := by decide +kernel
theorem dX7_init_4 : decode cX7_init 4 = .ok (.aload_n 0, 1) := by decide +kernel
theorem dX7_init_5 : decode cX7_init 5 = .ok (.new 9, 3) := by decide +kernel
theorem dX7_init_8 : decode cX7_init 8 = .ok (.dup, 1) := by decide +kernel
theorem dX7_init_9 : decode cX7_init 9 = .ok (.bipush 8, 2) := by decide +kernel
theorem dX7_init_11 : decode cX7_init 11 = .ok (.iconst 3, 1) := by decide +kernel
theorem dX7_init_12 : decode cX7_init 12 = .ok (.invokespecial 11, 3) := by decide +kernel
theorem dX7_init_15 : decode cX7_init 15 = .ok (.putfield 14, 3) := by decide +kernel
theorem dX7_init_18 : decode cX7_init 18 = .ok (.aload_n 0, 1) := by decide +kernel
theorem dX7_init_19 : decode cX7_init 19 = .ok (.new 9, 3) := by decide +kernel
theorem dX7_init_22 : decode cX7_init 22 = .ok (.dup, 1) := by decide +kernel
theorem dX7_init_23 : decode cX7_init 23 = .ok (.bipush 6, 2) := by decide +kernel
theorem dX7_init_25 : decode cX7_init 25 = .ok (.iconst 4, 1) := by decide +kernel
theorem dX7_init_26 : decode cX7_init 26 = .ok (.invokespecial 11, 3) := by decide +kernel
theorem dX7_init_29 : decode cX7_init 29 = .ok (.putfield 20, 3) := by decide +kernel
theorem dX7_init_32 : decode cX7_init 32 = .ok (.aload_n 0, 1) := by decide +kernel
theorem dX7_init_33 : decode cX7_init 33 = .ok (.new 9, 3) := by decide +kernel
theorem dX7_init_36 : decode cX7_init 36 = .ok (.dup, 1) := by decide +kernel
theorem dX7_init_37 : decode cX7_init 37 = .ok (.bipush 8, 2) := by decide +kernel
theorem dX7_init_39 : decode cX7_init 39 = .ok (.iconst 4, 1) := by decide +kernel
theorem dX7_init_40 : decode cX7_init 40 = .ok (.invokespecial 11, 3) := by decide +kernel
theorem dX7_init_43 : decode cX7_init 43 = .ok (.putfield 23, 3) := by decide +kernel
theorem dX7_init_46 : decode cX7_init 46 = .ok (.return_, 1) := by decide +kernel
set_option maxRecDepth 20000 in
theorem ggX7_comeIn_X4_clear : GoodIn wsX7_comeIn wsX4_clear := goodIn_r _ [11, 12, 51, 52, 53, 54] (by decide +kernel) (by decide +kernel)
set_option maxRecDepth 20000 in
theorem gX7_comeIn_X4_clear : GoodIn wsX7_comeIn (wsV RX7 36 RX4 yX4_clear wsX4_clear) := goodIn_app (goodIn_of _ (by decide +kernel)) ggX7_comeIn_X4_clear
set_option maxRecDepth 20000 in
theorem ggX7_comeIn_X7_stayAtOffice : GoodIn wsX7_comeIn wsX7_stayAtOffice := goodIn_r _ [17, 18, 19, 20, 21, 41, 42, 43, 44, 45, 46, 47, 48, 49, 50] (by decide +kernel) (by decide +kernel)
set_option maxRecDepth 20000 in
theorem gX7_comeIn_X7_stayAtOffice : GoodIn wsX7_comeIn (wsV RX7 39 RX7 yX7_stayAtOffice wsX7_stayAtOffice) := goodIn_app (goodIn_of _ (by decide +kernel)) ggX7_comeIn_X7_stayAtOffice
set_option maxRecDepth 20000 in
theorem ggX7_comeIn_X7_noteLook : GoodIn wsX7_comeIn wsX7_noteLook := goodIn_r _ [25, 5, 2, 3, 26, 27, 28, 10, 29, 12, 30, 31, 32, 33, 34, 35, 36, 37, 38, 39, 16, 40, 18, 41, 42, 43, 44, 45, 46, 47, 48, 49, 50, 51, 52, 53, 54] (by decide +kernel) (by decide +kernel)
set_option maxRecDepth 20000 in
theorem gX7_comeIn_X7_noteLook : GoodIn wsX7_comeIn (wsV RX7 42 RX7 yX7_noteLook wsX7_noteLook) := goodIn_app (goodIn_of _ (by decide +kernel)) ggX7_comeIn_X7_noteLook
theorem dX7_comeIn_0 : decode cX7_comeIn 0 = .ok (.aload_n 0, 1) := by decide +kernel
theorem dX7_comeIn_1 : decode cX7_comeIn 1 = .ok (.iload_n 1, 1) := by decide +kernel
theorem dX7_comeIn_2 : decode cX7_comeIn 2 = .ok (.putfield 26, 3) := by decide +kernel
theorem dX7_comeIn_5 : decode cX7_comeIn 5 = .ok (.aload_n 0, 1) := by decide +kernel
theorem dX7_comeIn_6 : decode cX7_comeIn 6 = .ok (.iconst 0, 1) := by decide +kernel
theorem dX7_comeIn_7 : decode cX7_comeIn 7 = .ok (.putfield 30, 3) := by decide +kernel
theorem dX7_comeIn_10 : decode cX7_comeIn 10 = .ok (.aload_n 0, 1) := by decide +kernel
theorem dX7_comeIn_11 : decode cX7_comeIn 11 = .ok (.iconst 0, 1) := by decide +kernel
theorem dX7_comeIn_12 : decode cX7_comeIn 12 = .ok (.putfield 33, 3) := by decide +kernel
theorem dX7_comeIn_15 : decode cX7_comeIn 15 = .ok (.aload_n 0, 1) := by decide +kernel
theorem dX7_comeIn_16 : decode cX7_comeIn 16 = .ok (.getfield 14, 3) := by decide +kernel
theorem dX7_comeIn_19 : decode cX7_comeIn 19 = .ok (.invokevirtual 36, 3) := by decide +kernel
theorem dX7_comeIn_22 : decode cX7_comeIn 22 = .ok (.aload_n 0, 1) := by decide +kernel
theorem dX7_comeIn_23 : decode cX7_comeIn 23 = .ok (.getfield 20, 3) := by decide +kernel
theorem dX7_comeIn_26 : decode cX7_comeIn 26 = .ok (.invokevirtual 36, 3) := by decide +kernel
theorem dX7_comeIn_29 : decode cX7_comeIn 29 = .ok (.aload_n 0, 1) := by decide +kernel
theorem dX7_comeIn_30 : decode cX7_comeIn 30 = .ok (.getfield 23, 3) := by decide +kernel
theorem dX7_comeIn_33 : decode cX7_comeIn 33 = .ok (.invokevirtual 36, 3) := by decide +kernel
theorem dX7_comeIn_36 : decode cX7_comeIn 36 = .ok (.aload_n 0, 1) := by decide +kernel
theorem dX7_comeIn_37 : decode cX7_comeIn 37 = .ok (.invokevirtual 39, 3) := by decide +kernel
theorem dX7_comeIn_40 : decode cX7_comeIn 40 = .ok (.aload_n 0, 1) := by decide +kernel
theorem dX7_comeIn_41 : decode cX7_comeIn 41 = .ok (.iload_n 2, 1) := by decide +kernel
theorem dX7_comeIn_42 : decode cX7_comeIn 42 = .ok (.invokevirtual 42, 3) := by decide +kernel
theorem dX7_comeIn_45 : decode cX7_comeIn 45 = .ok (.return_, 1) := by decide +kernel
theorem dX7_isLeased_0 : decode cX7_isLeased 0 = .ok (.aload_n 0, 1) := by decide +kernel
theorem dX7_isLeased_1 : decode cX7_isLeased 1 = .ok (.getfield 46, 3) := by decide +kernel
theorem dX7_isLeased_4 : decode cX7_isLeased 4 = .ok (.ifCond .lt 7, 3) := by decide +kernel
theorem dX7_isLeased_7 : decode cX7_isLeased 7 = .ok (.iconst 1, 1) := by decide +kernel
theorem dX7_isLeased_8 : decode cX7_isLeased 8 = .ok (.goto 4, 3) := by decide +kernel
theorem dX7_isLeased_11 : decode cX7_isLeased 11 = .ok (.iconst 0, 1) := by decide +kernel
theorem dX7_isLeased_12 : decode cX7_isLeased 12 = .ok (.ireturn, 1) := by decide +kernel
theorem dX7_stayAtOffice_0 : decode cX7_stayAtOffice 0 = .ok (.aload_n 0, 1) := by decide +kernel
theorem dX7_stayAtOffice_1 : decode cX7_stayAtOffice 1 = .ok (.bipush (-2), 2) := by decide +kernel
theorem dX7_stayAtOffice_3 : decode cX7_stayAtOffice 3 = .ok (.putfield 46, 3) := by decide +kernel
theorem dX7_stayAtOffice_6 : decode cX7_stayAtOffice 6 = .ok (.aload_n 0, 1) := by decide +kernel
theorem dX7_stayAtOffice_7 : decode cX7_stayAtOffice 7 = .ok (.bipush (-2), 2) := by decide +kernel
theorem dX7_stayAtOffice_9 : decode cX7_stayAtOffice 9 = .ok (.putfield 49, 3) := by decide +kernel
theorem dX7_stayAtOffice_12 : decode cX7_stayAtOffice 12 = .ok (.aload_n 0, 1) := by decide +kernel
theorem dX7_stayAtOffice_13 : decode cX7_stayAtOffice 13 = .ok (.bipush (-2), 2) := by decide +kernel
theorem dX7_stayAtOffice_15 : decode cX7_stayAtOffice 15 = .ok (.putfield 52, 3) := by decide +kernel
theorem dX7_stayAtOffice_18 : decode cX7_stayAtOffice 18 = .ok (.aload_n 0, 1) := by decide +kernel
theorem dX7_stayAtOffice_19 : decode cX7_stayAtOffice 19 = .ok (.iconst 0, 1) := by decide +kernel
theorem dX7_stayAtOffice_20 : decode cX7_stayAtOffice 20 = .ok (.putfield 55, 3) := by decide +kernel
theorem dX7_stayAtOffice_23 : decode cX7_stayAtOffice 23 = .ok (.return_, 1) := by decide +kernel
set_option maxRecDepth 20000 in
theorem ggX7_goTo_X4_append : GoodIn wsX7_goTo wsX4_append := goodIn_r _ [9, 10, 11, 12, 13, 28, 29, 30, 31] (by decide +kernel) (by decide +kernel)
set_option maxRecDepth 20000 in
theorem gX7_goTo_X4_append : GoodIn wsX7_goTo (wsV RX7 58 RX4 yX4_append wsX4_append) := goodIn_app (goodIn_of _ (by decide +kernel)) ggX7_goTo_X4_append
set_option maxRecDepth 20000 in
theorem ggX7_goTo_X4_setCell : GoodIn wsX7_goTo wsX4_setCell := goodIn_r _ [17, 10, 13, 12, 28, 29, 30, 31] (by decide +kernel) (by decide +kernel)
set_option maxRecDepth 20000 in
theorem gX7_goTo_X4_setCell : GoodIn wsX7_goTo (wsV RX7 62 RX4 yX4_setCell wsX4_setCell) := goodIn_app (goodIn_of _ (by decide +kernel)) ggX7_goTo_X4_setCell
theorem dX7_goTo_0 : decode cX7_goTo 0 = .ok (.aload_n 0, 1) := by decide +kernel
theorem dX7_goTo_1 : decode cX7_goTo 1 = .ok (.iload_n 1, 1) := by decide +kernel
theorem dX7_goTo_2 : decode cX7_goTo 2 = .ok (.putfield 46, 3) := by decide +kernel
theorem dX7_goTo_5 : decode cX7_goTo 5 = .ok (.aload_n 0, 1) := by decide +kernel
theorem dX7_goTo_6 : decode cX7_goTo 6 = .ok (.iload_n 2, 1) := by decide +kernel
theorem dX7_goTo_7 : decode cX7_goTo 7 = .ok (.putfield 49, 3) := by decide +kernel
theorem dX7_goTo_10 : decode cX7_goTo 10 = .ok (.aload_n 0, 1) := by decide +kernel
theorem dX7_goTo_11 : decode cX7_goTo 11 = .ok (.getfield 14, 3) := by decide +kernel
theorem dX7_goTo_14 : decode cX7_goTo 14 = .ok (.invokevirtual 58, 3) := by decide +kernel
theorem dX7_goTo_17 : decode cX7_goTo 17 = .ok (.istore_n 3, 1) := by decide +kernel
theorem dX7_goTo_18 : decode cX7_goTo 18 = .ok (.aload_n 0, 1) := by decide +kernel
theorem dX7_goTo_19 : decode cX7_goTo 19 = .ok (.getfield 14, 3) := by decide +kernel
theorem dX7_goTo_22 : decode cX7_goTo 22 = .ok (.iload_n 3, 1) := by decide +kernel
theorem dX7_goTo_23 : decode cX7_goTo 23 = .ok (.iconst 0, 1) := by decide +kernel
theorem dX7_goTo_24 : decode cX7_goTo 24 = .ok (.iload_n 1, 1) := by decide +kernel
theorem dX7_goTo_25 : decode cX7_goTo 25 = .ok (.invokevirtual 62, 3) := by decide +kernel
theorem dX7_goTo_28 : decode cX7_goTo 28 = .ok (.aload_n 0, 1) := by decide +kernel
theorem dX7_goTo_29 : decode cX7_goTo 29 = .ok (.getfield 14, 3) := by decide +kernel
theorem dX7_goTo_32 : decode cX7_goTo 32 = .ok (.iload_n 3, 1) := by decide +kernel
theorem dX7_goTo_33 : decode cX7_goTo 33 = .ok (.iconst 1, 1) := by decide +kernel
theorem dX7_goTo_34 : decode cX7_goTo 34 = .ok (.iload_n 2, 1) := by decide +kernel
theorem dX7_goTo_35 : decode cX7_goTo 35 = .ok (.invokevirtual 62, 3) := by decide +kernel
theorem dX7_goTo_38 : decode cX7_goTo 38 = .ok (.aload_n 0, 1) := by decide +kernel
theorem dX7_goTo_39 : decode cX7_goTo 39 = .ok (.getfield 14, 3) := by decide +kernel
theorem dX7_goTo_42 : decode cX7_goTo 42 = .ok (.iload_n 3, 1) := by decide +kernel
theorem dX7_goTo_43 : decode cX7_goTo 43 = .ok (.iconst 2, 1) := by decide +kernel
theorem dX7_goTo_44 : decode cX7_goTo 44 = .ok (.bipush (-2), 2) := by decide +kernel
theorem dX7_goTo_46 : decode cX7_goTo 46 = .ok (.invokevirtual 62, 3) := by decide +kernel
theorem dX7_goTo_49 : decode cX7_goTo 49 = .ok (.aload_n 0, 1) := by decide +kernel
theorem dX7_goTo_50 : decode cX7_goTo 50 = .ok (.dup, 1) := by decide +kernel
theorem dX7_goTo_51 : decode cX7_goTo 51 = .ok (.getfield 33, 3) := by decide +kernel
theorem dX7_goTo_54 : decode cX7_goTo 54 = .ok (.iconst 1, 1) := by decide +kernel
theorem dX7_goTo_55 : decode cX7_goTo 55 = .ok (.iadd, 1) := by decide +kernel
theorem dX7_goTo_56 : decode cX7_goTo 56 = .ok (.putfield 33, 3) := by decide +kernel
theorem dX7_goTo_59 : decode cX7_goTo 59 = .ok (.return_, 1) := by decide +kernel
set_option maxRecDepth 20000 in
theorem ggX7_endLink_X4_size : GoodIn wsX7_endLink wsX4_size := goodIn_r _ [6, 7, 24, 25, 26, 27] (by decide +kernel) (by decide +kernel)
set_option maxRecDepth 20000 in
theorem gX7_endLink_X4_size : GoodIn wsX7_endLink (wsV RX7 66 RX4 yX4_size wsX4_size) := goodIn_app (goodIn_of _ (by decide +kernel)) ggX7_endLink_X4_size
set_option maxRecDepth 20000 in
theorem ggX7_endLink_X4_setCell : GoodIn wsX7_endLink wsX4_setCell := goodIn_r _ [11, 7, 12, 13, 24, 25, 26, 27] (by decide +kernel) (by decide +kernel)
set_option maxRecDepth 20000 in
theorem gX7_endLink_X4_setCell : GoodIn wsX7_endLink (wsV RX7 62 RX4 yX4_setCell wsX4_setCell) := goodIn_app (goodIn_of _ (by decide +kernel)) ggX7_endLink_X4_setCell
theorem dX7_endLink_0 : decode cX7_endLink 0 = .ok (.aload_n 0, 1) := by decide +kernel
theorem dX7_endLink_1 : decode cX7_endLink 1 = .ok (.getfield 14, 3) := by decide +kernel
theorem dX7_endLink_4 : decode cX7_endLink 4 = .ok (.aload_n 0, 1) := by decide +kernel
theorem dX7_endLink_5 : decode cX7_endLink 5 = .ok (.getfield 14, 3) := by decide +kernel
theorem dX7_endLink_8 : decode cX7_endLink 8 = .ok (.invokevirtual 66, 3) := by decide +kernel
theorem dX7_endLink_11 : decode cX7_endLink 11 = .ok (.iconst 1, 1) := by decide +kernel
theorem dX7_endLink_12 : decode cX7_endLink 12 = .ok (.isub, 1) := by decide +kernel
theorem dX7_endLink_13 : decode cX7_endLink 13 = .ok (.iconst 2, 1) := by decide +kernel
theorem dX7_endLink_14 : decode cX7_endLink 14 = .ok (.iload_n 1, 1) := by decide +kernel
theorem dX7_endLink_15 : decode cX7_endLink 15 = .ok (.invokevirtual 62, 3) := by decide +kernel
theorem dX7_endLink_18 : decode cX7_endLink 18 = .ok (.return_, 1) := by decide +kernel
set_option maxRecDepth 20000 in
theorem ggX7_noteLook_X4_append : GoodIn wsX7_noteLook wsX4_append := goodIn_r _ [8, 9, 10, 11, 12, 33, 34, 35, 36] (by decide +kernel) (by decide +kernel)
set_option maxRecDepth 20000 in
theorem gX7_noteLook_X4_append : GoodIn wsX7_noteLook (wsV RX7 58 RX4 yX4_append wsX4_append) := goodIn_app (goodIn_of _ (by decide +kernel)) ggX7_noteLook_X4_append
set_option maxRecDepth 20000 in
theorem ggX7_noteLook_X4_setCell : GoodIn wsX7_noteLook wsX4_setCell := goodIn_r _ [16, 9, 12, 11, 33, 34, 35, 36] (by decide +kernel) (by decide +kernel)
set_option maxRecDepth 20000 in
theorem gX7_noteLook_X4_setCell : GoodIn wsX7_noteLook (wsV RX7 62 RX4 yX4_setCell wsX4_setCell) := goodIn_app (goodIn_of _ (by decide +kernel)) ggX7_noteLook_X4_setCell
set_option maxRecDepth 20000 in
theorem ggX7_noteLook_X7_isLeased : GoodIn wsX7_noteLook wsX7_isLeased := goodIn_r _ [21, 22, 23, 24, 25, 26, 27, 28, 29, 30, 31, 32] (by decide +kernel) (by decide +kernel)
set_option maxRecDepth 20000 in
theorem gX7_noteLook_X7_isLeased : GoodIn wsX7_noteLook (wsV RX7 69 RX7 yX7_isLeased wsX7_isLeased) := goodIn_app (goodIn_of _ (by decide +kernel)) ggX7_noteLook_X7_isLeased
theorem dX7_noteLook_0 : decode cX7_noteLook 0 = .ok (.aload_n 0, 1) := by decide +kernel
theorem dX7_noteLook_1 : decode cX7_noteLook 1 = .ok (.getfield 20, 3) := by decide +kernel
theorem dX7_noteLook_4 : decode cX7_noteLook 4 = .ok (.invokevirtual 58, 3) := by decide +kernel
theorem dX7_noteLook_7 : decode cX7_noteLook 7 = .ok (.istore_n 2, 1) := by decide +kernel
theorem dX7_noteLook_8 : decode cX7_noteLook 8 = .ok (.aload_n 0, 1) := by decide +kernel
theorem dX7_noteLook_9 : decode cX7_noteLook 9 = .ok (.getfield 20, 3) := by decide +kernel
theorem dX7_noteLook_12 : decode cX7_noteLook 12 = .ok (.iload_n 2, 1) := by decide +kernel
theorem dX7_noteLook_13 : decode cX7_noteLook 13 = .ok (.iconst 0, 1) := by decide +kernel
theorem dX7_noteLook_14 : decode cX7_noteLook 14 = .ok (.iload_n 1, 1) := by decide +kernel
theorem dX7_noteLook_15 : decode cX7_noteLook 15 = .ok (.invokevirtual 62, 3) := by decide +kernel
theorem dX7_noteLook_18 : decode cX7_noteLook 18 = .ok (.aload_n 0, 1) := by decide +kernel
theorem dX7_noteLook_19 : decode cX7_noteLook 19 = .ok (.getfield 20, 3) := by decide +kernel
theorem dX7_noteLook_22 : decode cX7_noteLook 22 = .ok (.iload_n 2, 1) := by decide +kernel
theorem dX7_noteLook_23 : decode cX7_noteLook 23 = .ok (.iconst 1, 1) := by decide +kernel
theorem dX7_noteLook_24 : decode cX7_noteLook 24 = .ok (.aload_n 0, 1) := by decide +kernel
theorem dX7_noteLook_25 : decode cX7_noteLook 25 = .ok (.getfield 30, 3) := by decide +kernel
theorem dX7_noteLook_28 : decode cX7_noteLook 28 = .ok (.invokevirtual 62, 3) := by decide +kernel
theorem dX7_noteLook_31 : decode cX7_noteLook 31 = .ok (.aload_n 0, 1) := by decide +kernel
theorem dX7_noteLook_32 : decode cX7_noteLook 32 = .ok (.getfield 20, 3) := by decide +kernel
theorem dX7_noteLook_35 : decode cX7_noteLook 35 = .ok (.iload_n 2, 1) := by decide +kernel
theorem dX7_noteLook_36 : decode cX7_noteLook 36 = .ok (.iconst 2, 1) := by decide +kernel
theorem dX7_noteLook_37 : decode cX7_noteLook 37 = .ok (.aload_n 0, 1) := by decide +kernel
theorem dX7_noteLook_38 : decode cX7_noteLook 38 = .ok (.getfield 33, 3) := by decide +kernel
theorem dX7_noteLook_41 : decode cX7_noteLook 41 = .ok (.invokevirtual 62, 3) := by decide +kernel
theorem dX7_noteLook_44 : decode cX7_noteLook 44 = .ok (.aload_n 0, 1) := by decide +kernel
theorem dX7_noteLook_45 : decode cX7_noteLook 45 = .ok (.getfield 20, 3) := by decide +kernel
theorem dX7_noteLook_48 : decode cX7_noteLook 48 = .ok (.iload_n 2, 1) := by decide +kernel
theorem dX7_noteLook_49 : decode cX7_noteLook 49 = .ok (.iconst 3, 1) := by decide +kernel
theorem dX7_noteLook_50 : decode cX7_noteLook 50 = .ok (.aload_n 0, 1) := by decide +kernel
theorem dX7_noteLook_51 : decode cX7_noteLook 51 = .ok (.invokevirtual 69, 3) := by decide +kernel
theorem dX7_noteLook_54 : decode cX7_noteLook 54 = .ok (.ifCond .eq 7, 3) := by decide +kernel
theorem dX7_noteLook_57 : decode cX7_noteLook 57 = .ok (.iconst 1, 1) := by decide +kernel
theorem dX7_noteLook_58 : decode cX7_noteLook 58 = .ok (.goto 4, 3) := by decide +kernel
theorem dX7_noteLook_61 : decode cX7_noteLook 61 = .ok (.iconst 0, 1) := by decide +kernel
theorem dX7_noteLook_62 : decode cX7_noteLook 62 = .ok (.invokevirtual 62, 3) := by decide +kernel
theorem dX7_noteLook_65 : decode cX7_noteLook 65 = .ok (.return_, 1) := by decide +kernel
set_option maxRecDepth 20000 in
theorem ggX7_wearSinceLook_X4_size : GoodIn wsX7_wearSinceLook wsX4_size := goodIn_r _ [7, 8, 25, 26, 27, 28] (by decide +kernel) (by decide +kernel)
set_option maxRecDepth 20000 in
theorem gX7_wearSinceLook_X4_size : GoodIn wsX7_wearSinceLook (wsV RX7 66 RX4 yX4_size wsX4_size) := goodIn_app (goodIn_of _ (by decide +kernel)) ggX7_wearSinceLook_X4_size
set_option maxRecDepth 20000 in
theorem ggX7_wearSinceLook_X4_cell : GoodIn wsX7_wearSinceLook wsX4_cell := goodIn_r _ [12, 8, 13, 14, 25, 26, 27, 28] (by decide +kernel) (by decide +kernel)
set_option maxRecDepth 20000 in
theorem gX7_wearSinceLook_X4_cell : GoodIn wsX7_wearSinceLook (wsV RX7 73 RX4 yX4_cell wsX4_cell) := goodIn_app (goodIn_of _ (by decide +kernel)) ggX7_wearSinceLook_X4_cell
theorem dX7_wearSinceLook_0 : decode cX7_wearSinceLook 0 = .ok (.aload_n 0, 1) := by decide +kernel
theorem dX7_wearSinceLook_1 : decode cX7_wearSinceLook 1 = .ok (.getfield 30, 3) := by decide +kernel
theorem dX7_wearSinceLook_4 : decode cX7_wearSinceLook 4 = .ok (.aload_n 0, 1) := by decide +kernel
theorem dX7_wearSinceLook_5 : decode cX7_wearSinceLook 5 = .ok (.getfield 20, 3) := by decide +kernel
theorem dX7_wearSinceLook_8 : decode cX7_wearSinceLook 8 = .ok (.aload_n 0, 1) := by decide +kernel
theorem dX7_wearSinceLook_9 : decode cX7_wearSinceLook 9 = .ok (.getfield 20, 3) := by decide +kernel
theorem dX7_wearSinceLook_12 : decode cX7_wearSinceLook 12 = .ok (.invokevirtual 66, 3) := by decide +kernel
theorem dX7_wearSinceLook_15 : decode cX7_wearSinceLook 15 = .ok (.iconst 1, 1) := by decide +kernel
theorem dX7_wearSinceLook_16 : decode cX7_wearSinceLook 16 = .ok (.isub, 1) := by decide +kernel
theorem dX7_wearSinceLook_17 : decode cX7_wearSinceLook 17 = .ok (.iconst 1, 1) := by decide +kernel
theorem dX7_wearSinceLook_18 : decode cX7_wearSinceLook 18 = .ok (.invokevirtual 73, 3) := by decide +kernel
theorem dX7_wearSinceLook_21 : decode cX7_wearSinceLook 21 = .ok (.isub, 1) := by decide +kernel
theorem dX7_wearSinceLook_22 : decode cX7_wearSinceLook 22 = .ok (.ireturn, 1) := by decide +kernel
set_option maxRecDepth 20000 in
theorem ggX7_cost_X7_wearSinceLook : GoodIn wsX7_cost wsX7_wearSinceLook := goodIn_r _ [10, 11, 12, 13, 14, 15, 16, 17, 18, 19, 20, 21, 22, 23, 24, 25, 26, 27, 28, 29, 30, 31, 32, 33, 34, 35, 36, 37, 38] (by decide +kernel) (by decide +kernel)
set_option maxRecDepth 20000 in
theorem gX7_cost_X7_wearSinceLook : GoodIn wsX7_cost (wsV RX7 77 RX7 yX7_wearSinceLook wsX7_wearSinceLook) := goodIn_app (goodIn_of _ (by decide +kernel)) ggX7_cost_X7_wearSinceLook
theorem dX7_cost_0 : decode cX7_cost 0 = .ok (.aload_n 0, 1) := by decide +kernel
theorem dX7_cost_1 : decode cX7_cost 1 = .ok (.getfield 26, 3) := by decide +kernel
theorem dX7_cost_4 : decode cX7_cost 4 = .ok (.aload_n 0, 1) := by decide +kernel
theorem dX7_cost_5 : decode cX7_cost 5 = .ok (.invokevirtual 77, 3) := by decide +kernel
theorem dX7_cost_8 : decode cX7_cost 8 = .ok (.iconst 0, 1) := by decide +kernel
theorem dX7_cost_9 : decode cX7_cost 9 = .ok (.invokestatic 80, 3) := by decide +kernel
theorem dX7_cost_12 : decode cX7_cost 12 = .ok (.imul, 1) := by decide +kernel
theorem dX7_cost_13 : decode cX7_cost 13 = .ok (.bipush 9, 2) := by decide +kernel
theorem dX7_cost_15 : decode cX7_cost 15 = .ok (.idiv, 1) := by decide +kernel
theorem dX7_cost_16 : decode cX7_cost 16 = .ok (.ireturn, 1) := by decide +kernel
set_option maxRecDepth 20000 in
theorem ggX7_daysLateOn_X7_isLeased : GoodIn wsX7_daysLateOn wsX7_isLeased := goodIn_r _ [10, 11, 12, 13, 14, 15, 16, 17, 18, 19, 20, 21] (by decide +kernel) (by decide +kernel)
set_option maxRecDepth 20000 in
theorem gX7_daysLateOn_X7_isLeased : GoodIn wsX7_daysLateOn (wsV RX7 69 RX7 yX7_isLeased wsX7_isLeased) := goodIn_app (goodIn_of _ (by decide +kernel)) ggX7_daysLateOn_X7_isLeased
theorem dX7_daysLateOn_0 : decode cX7_daysLateOn 0 = .ok (.aload_n 0, 1) := by decide +kernel
theorem dX7_daysLateOn_1 : decode cX7_daysLateOn 1 = .ok (.invokevirtual 69, 3) := by decide +kernel
theorem dX7_daysLateOn_4 : decode cX7_daysLateOn 4 = .ok (.ifCond .eq 16, 3) := by decide +kernel
theorem dX7_daysLateOn_7 : decode cX7_daysLateOn 7 = .ok (.iload_n 1, 1) := by decide +kernel
theorem dX7_daysLateOn_8 : decode cX7_daysLateOn 8 = .ok (.aload_n 0, 1) := by decide +kernel
theorem dX7_daysLateOn_9 : decode cX7_daysLateOn 9 = .ok (.getfield 52, 3) := by decide +kernel
theorem dX7_daysLateOn_12 : decode cX7_daysLateOn 12 = .ok (.isub, 1) := by decide +kernel
theorem dX7_daysLateOn_13 : decode cX7_daysLateOn 13 = .ok (.iconst 0, 1) := by decide +kernel
theorem dX7_daysLateOn_14 : decode cX7_daysLateOn 14 = .ok (.invokestatic 80, 3) := by decide +kernel
theorem dX7_daysLateOn_17 : decode cX7_daysLateOn 17 = .ok (.goto 4, 3) := by decide +kernel
theorem dX7_daysLateOn_20 : decode cX7_daysLateOn 20 = .ok (.iconst 0, 1) := by decide +kernel
theorem dX7_daysLateOn_21 : decode cX7_daysLateOn 21 = .ok (.ireturn, 1) := by decide +kernel
set_option maxRecDepth 20000 in
theorem ggX7_feeOn_X7_daysLateOn : GoodIn wsX7_feeOn wsX7_daysLateOn := goodIn_r _ [11, 12, 13, 14, 5, 15, 16, 17, 18, 10, 19, 20, 21, 22, 23, 24, 25, 26, 27, 28, 29, 30] (by decide +kernel) (by decide +kernel)
set_option maxRecDepth 20000 in
theorem gX7_feeOn_X7_daysLateOn : GoodIn wsX7_feeOn (wsV RX7 85 RX7 yX7_daysLateOn wsX7_daysLateOn) := goodIn_app (goodIn_of _ (by decide +kernel)) ggX7_feeOn_X7_daysLateOn
theorem dX7_feeOn_0 : decode cX7_feeOn 0 = .ok (.aload_n 0, 1) := by decide +kernel
theorem dX7_feeOn_1 : decode cX7_feeOn 1 = .ok (.iload_n 1, 1) := by decide +kernel
theorem dX7_feeOn_2 : decode cX7_feeOn 2 = .ok (.invokevirtual 85, 3) := by decide +kernel
theorem dX7_feeOn_5 : decode cX7_feeOn 5 = .ok (.iconst 1, 1) := by decide +kernel
theorem dX7_feeOn_6 : decode cX7_feeOn 6 = .ok (.aload_n 0, 1) := by decide +kernel
theorem dX7_feeOn_7 : decode cX7_feeOn 7 = .ok (.getfield 26, 3) := by decide +kernel
theorem dX7_feeOn_10 : decode cX7_feeOn 10 = .ok (.bipush 10, 2) := by decide +kernel
theorem dX7_feeOn_12 : decode cX7_feeOn 12 = .ok (.idiv, 1) := by decide +kernel
theorem dX7_feeOn_13 : decode cX7_feeOn 13 = .ok (.iadd, 1) := by decide +kernel
theorem dX7_feeOn_14 : decode cX7_feeOn 14 = .ok (.imul, 1) := by decide +kernel
theorem dX7_feeOn_15 : decode cX7_feeOn 15 = .ok (.aload_n 0, 1) := by decide +kernel
theorem dX7_feeOn_16 : decode cX7_feeOn 16 = .ok (.getfield 55, 3) := by decide +kernel
theorem dX7_feeOn_19 : decode cX7_feeOn 19 = .ok (.invokestatic 89, 3) := by decide +kernel
theorem dX7_feeOn_22 : decode cX7_feeOn 22 = .ok (.ireturn, 1) := by decide +kernel
set_option maxRecDepth 20000 in
theorem ggX7_placeOfClaim_X4_size : GoodIn wsX7_placeOfClaim wsX4_size := goodIn_r _ [6, 7, 24, 25, 26, 27] (by decide +kernel) (by decide +kernel)
set_option maxRecDepth 20000 in
theorem gX7_placeOfClaim_X4_size : GoodIn wsX7_placeOfClaim (wsV RX7 66 RX4 yX4_size wsX4_size) := goodIn_app (goodIn_of _ (by decide +kernel)) ggX7_placeOfClaim_X4_size
set_option maxRecDepth 20000 in
theorem ggX7_placeOfClaim_X4_cell : GoodIn wsX7_placeOfClaim wsX4_cell := goodIn_r _ [11, 7, 12, 13, 24, 25, 26, 27] (by decide +kernel) (by decide +kernel)
set_option maxRecDepth 20000 in
theorem gX7_placeOfClaim_X4_cell : GoodIn wsX7_placeOfClaim (wsV RX7 73 RX4 yX4_cell wsX4_cell) := goodIn_app (goodIn_of _ (by decide +kernel)) ggX7_placeOfClaim_X4_cell
theorem dX7_placeOfClaim_0 : decode cX7_placeOfClaim 0 = .ok (.iconst 0, 1) := by decide +kernel
theorem dX7_placeOfClaim_1 : decode cX7_placeOfClaim 1 = .ok (.istore_n 2, 1) := by decide +kernel
theorem dX7_placeOfClaim_2 : decode cX7_placeOfClaim 2 = .ok (.iload_n 2, 1) := by decide +kernel
theorem dX7_placeOfClaim_3 : decode cX7_placeOfClaim 3 = .ok (.aload_n 0, 1) := by decide +kernel
theorem dX7_placeOfClaim_4 : decode cX7_placeOfClaim 4 = .ok (.getfield 23, 3) := by decide +kernel
theorem dX7_placeOfClaim_7 : decode cX7_placeOfClaim 7 = .ok (.invokevirtual 66, 3) := by decide +kernel
theorem dX7_placeOfClaim_10 : decode cX7_placeOfClaim 10 = .ok (.if_icmp .ge 24, 3) := by decide +kernel
theorem dX7_placeOfClaim_13 : decode cX7_placeOfClaim 13 = .ok (.aload_n 0, 1) := by decide +kernel
theorem dX7_placeOfClaim_14 : decode cX7_placeOfClaim 14 = .ok (.getfield 23, 3) := by decide +kernel
theorem dX7_placeOfClaim_17 : decode cX7_placeOfClaim 17 = .ok (.iload_n 2, 1) := by decide +kernel
theorem dX7_placeOfClaim_18 : decode cX7_placeOfClaim 18 = .ok (.iconst 0, 1) := by decide +kernel
theorem dX7_placeOfClaim_19 : decode cX7_placeOfClaim 19 = .ok (.invokevirtual 73, 3) := by decide +kernel
theorem dX7_placeOfClaim_22 : decode cX7_placeOfClaim 22 = .ok (.iload_n 1, 1) := by decide +kernel
theorem dX7_placeOfClaim_23 : decode cX7_placeOfClaim 23 = .ok (.if_icmp .ne 5, 3) := by decide +kernel
theorem dX7_placeOfClaim_26 : decode cX7_placeOfClaim 26 = .ok (.iload_n 2, 1) := by decide +kernel
theorem dX7_placeOfClaim_27 : decode cX7_placeOfClaim 27 = .ok (.ireturn, 1) := by decide +kernel
theorem dX7_placeOfClaim_28 : decode cX7_placeOfClaim 28 = .ok (.iinc 2 1, 3) := by decide +kernel
theorem dX7_placeOfClaim_31 : decode cX7_placeOfClaim 31 = .ok (.goto (-29), 3) := by decide +kernel
theorem dX7_placeOfClaim_34 : decode cX7_placeOfClaim 34 = .ok (.iconst (-1), 1) := by decide +kernel
theorem dX7_placeOfClaim_35 : decode cX7_placeOfClaim 35 = .ok (.ireturn, 1) := by decide +kernel
set_option maxRecDepth 20000 in
theorem ggX7_addClaim_X4_size : GoodIn wsX7_addClaim wsX4_size := goodIn_r _ [6, 7, 46, 47, 48, 49] (by decide +kernel) (by decide +kernel)
set_option maxRecDepth 20000 in
theorem gX7_addClaim_X4_size : GoodIn wsX7_addClaim (wsV RX7 66 RX4 yX4_size wsX4_size) := goodIn_app (goodIn_of _ (by decide +kernel)) ggX7_addClaim_X4_size
set_option maxRecDepth 20000 in
theorem ggX7_addClaim_X7_claimGoesAhead : GoodIn wsX7_addClaim wsX7_claimGoesAhead := goodIn_r _ [12, 1, 13, 14, 15, 5, 16, 7, 17, 18, 36, 37, 38, 39, 40, 41, 42, 43, 44, 45, 46, 47, 48, 49] (by decide +kernel) (by decide +kernel)
set_option maxRecDepth 20000 in
theorem gX7_addClaim_X7_claimGoesAhead : GoodIn wsX7_addClaim (wsV RX7 92 RX7 yX7_claimGoesAhead wsX7_claimGoesAhead) := goodIn_app (goodIn_of _ (by decide +kernel)) ggX7_addClaim_X7_claimGoesAhead
set_option maxRecDepth 20000 in
theorem ggX7_addClaim_X4_insert : GoodIn wsX7_addClaim wsX4_insert := goodIn_r _ [22, 23, 24, 25, 26, 17, 18, 27, 28, 29, 5, 30, 7, 31, 46, 47, 48, 49] (by decide +kernel) (by decide +kernel)
set_option maxRecDepth 20000 in
theorem gX7_addClaim_X4_insert : GoodIn wsX7_addClaim (wsV RX7 96 RX4 yX4_insert wsX4_insert) := goodIn_app (goodIn_of _ (by decide +kernel)) ggX7_addClaim_X4_insert
set_option maxRecDepth 20000 in
theorem ggX7_addClaim_X4_setCell : GoodIn wsX7_addClaim wsX4_setCell := goodIn_r _ [35, 7, 17, 18, 46, 47, 48, 49] (by decide +kernel) (by decide +kernel)
set_option maxRecDepth 20000 in
theorem gX7_addClaim_X4_setCell : GoodIn wsX7_addClaim (wsV RX7 62 RX4 yX4_setCell wsX4_setCell) := goodIn_app (goodIn_of _ (by decide +kernel)) ggX7_addClaim_X4_setCell
theorem dX7_addClaim_0 : decode cX7_addClaim 0 = .ok (.iconst 0, 1) := by decide +kernel
theorem dX7_addClaim_1 : decode cX7_addClaim 1 = .ok (.istore 5, 2) := by decide +kernel
theorem dX7_addClaim_3 : decode cX7_addClaim 3 = .ok (.iload 5, 2) := by decide +kernel
theorem dX7_addClaim_5 : decode cX7_addClaim 5 = .ok (.aload_n 0, 1) := by decide +kernel
theorem dX7_addClaim_6 : decode cX7_addClaim 6 = .ok (.getfield 23, 3) := by decide +kernel
theorem dX7_addClaim_9 : decode cX7_addClaim 9 = .ok (.invokevirtual 66, 3) := by decide +kernel
theorem dX7_addClaim_12 : decode cX7_addClaim 12 = .ok (.if_icmp .ge 22, 3) := by decide +kernel
theorem dX7_addClaim_15 : decode cX7_addClaim 15 = .ok (.aload_n 0, 1) := by decide +kernel
theorem dX7_addClaim_16 : decode cX7_addClaim 16 = .ok (.iload 5, 2) := by decide +kernel
theorem dX7_addClaim_18 : decode cX7_addClaim 18 = .ok (.iload_n 2, 1) := by decide +kernel
theorem dX7_addClaim_19 : decode cX7_addClaim 19 = .ok (.iload 4, 2) := by decide +kernel
theorem dX7_addClaim_21 : decode cX7_addClaim 21 = .ok (.iload_n 1, 1) := by decide +kernel
theorem dX7_addClaim_22 : decode cX7_addClaim 22 = .ok (.invokevirtual 92, 3) := by decide +kernel
theorem dX7_addClaim_25 : decode cX7_addClaim 25 = .ok (.ifCond .eq 9, 3) := by decide +kernel
theorem dX7_addClaim_28 : decode cX7_addClaim 28 = .ok (.iinc 5 1, 3) := by decide +kernel
theorem dX7_addClaim_31 : decode cX7_addClaim 31 = .ok (.goto (-28), 3) := by decide +kernel
theorem dX7_addClaim_34 : decode cX7_addClaim 34 = .ok (.aload_n 0, 1) := by decide +kernel
theorem dX7_addClaim_35 : decode cX7_addClaim 35 = .ok (.getfield 23, 3) := by decide +kernel
theorem dX7_addClaim_38 : decode cX7_addClaim 38 = .ok (.iload 5, 2) := by decide +kernel
theorem dX7_addClaim_40 : decode cX7_addClaim 40 = .ok (.invokevirtual 96, 3) := by decide +kernel
theorem dX7_addClaim_43 : decode cX7_addClaim 43 = .ok (.aload_n 0, 1) := by decide +kernel
theorem dX7_addClaim_44 : decode cX7_addClaim 44 = .ok (.getfield 23, 3) := by decide +kernel
theorem dX7_addClaim_47 : decode cX7_addClaim 47 = .ok (.iload 5, 2) := by decide +kernel
theorem dX7_addClaim_49 : decode cX7_addClaim 49 = .ok (.iconst 0, 1) := by decide +kernel
theorem dX7_addClaim_50 : decode cX7_addClaim 50 = .ok (.iload_n 1, 1) := by decide +kernel
theorem dX7_addClaim_51 : decode cX7_addClaim 51 = .ok (.invokevirtual 62, 3) := by decide +kernel
theorem dX7_addClaim_54 : decode cX7_addClaim 54 = .ok (.aload_n 0, 1) := by decide +kernel
theorem dX7_addClaim_55 : decode cX7_addClaim 55 = .ok (.getfield 23, 3) := by decide +kernel
theorem dX7_addClaim_58 : decode cX7_addClaim 58 = .ok (.iload 5, 2) := by decide +kernel
theorem dX7_addClaim_60 : decode cX7_addClaim 60 = .ok (.iconst 1, 1) := by decide +kernel
theorem dX7_addClaim_61 : decode cX7_addClaim 61 = .ok (.iload_n 2, 1) := by decide +kernel
theorem dX7_addClaim_62 : decode cX7_addClaim 62 = .ok (.invokevirtual 62, 3) := by decide +kernel
theorem dX7_addClaim_65 : decode cX7_addClaim 65 = .ok (.aload_n 0, 1) := by decide +kernel
theorem dX7_addClaim_66 : decode cX7_addClaim 66 = .ok (.getfield 23, 3) := by decide +kernel
theorem dX7_addClaim_69 : decode cX7_addClaim 69 = .ok (.iload 5, 2) := by decide +kernel
theorem dX7_addClaim_71 : decode cX7_addClaim 71 = .ok (.iconst 2, 1) := by decide +kernel
theorem dX7_addClaim_72 : decode cX7_addClaim 72 = .ok (.iload_n 3, 1) := by decide +kernel
theorem dX7_addClaim_73 : decode cX7_addClaim 73 = .ok (.invokevirtual 62, 3) := by decide +kernel
theorem dX7_addClaim_76 : decode cX7_addClaim 76 = .ok (.aload_n 0, 1) := by decide +kernel
theorem dX7_addClaim_77 : decode cX7_addClaim 77 = .ok (.getfield 23, 3) := by decide +kernel
theorem dX7_addClaim_80 : decode cX7_addClaim 80 = .ok (.iload 5, 2) := by decide +kernel
theorem dX7_addClaim_82 : decode cX7_addClaim 82 = .ok (.iconst 3, 1) := by decide +kernel
theorem dX7_addClaim_83 : decode cX7_addClaim 83 = .ok (.iload 4, 2) := by decide +kernel
theorem dX7_addClaim_85 : decode cX7_addClaim 85 = .ok (.invokevirtual 62, 3) := by decide +kernel
theorem dX7_addClaim_88 : decode cX7_addClaim 88 = .ok (.iload 5, 2) := by decide +kernel
theorem dX7_addClaim_90 : decode cX7_addClaim 90 = .ok (.ireturn, 1) := by decide +kernel
set_option maxRecDepth 20000 in
theorem ggX7_claimGoesAhead_X4_cell : GoodIn wsX7_claimGoesAhead wsX4_cell := goodIn_r _ [6, 7, 8, 9, 20, 21, 22, 23] (by decide +kernel) (by decide +kernel)
set_option maxRecDepth 20000 in
theorem gX7_claimGoesAhead_X4_cell : GoodIn wsX7_claimGoesAhead (wsV RX7 73 RX4 yX4_cell wsX4_cell) := goodIn_app (goodIn_of _ (by decide +kernel)) ggX7_claimGoesAhead_X4_cell
theorem dX7_claimGoesAhead_0 : decode cX7_claimGoesAhead 0 = .ok (.aload_n 0, 1) := by decide +kernel
theorem dX7_claimGoesAhead_1 : decode cX7_claimGoesAhead 1 = .ok (.getfield 23, 3) := by decide +kernel
theorem dX7_claimGoesAhead_4 : decode cX7_claimGoesAhead 4 = .ok (.iload_n 1, 1) := by decide +kernel
theorem dX7_claimGoesAhead_5 : decode cX7_claimGoesAhead 5 = .ok (.iconst 1, 1) := by decide +kernel
theorem dX7_claimGoesAhead_6 : decode cX7_claimGoesAhead 6 = .ok (.invokevirtual 73, 3) := by decide +kernel
theorem dX7_claimGoesAhead_9 : decode cX7_claimGoesAhead 9 = .ok (.iload_n 2, 1) := by decide +kernel
theorem dX7_claimGoesAhead_10 : decode cX7_claimGoesAhead 10 = .ok (.if_icmp .eq 22, 3) := by decide +kernel
theorem dX7_claimGoesAhead_13 : decode cX7_claimGoesAhead 13 = .ok (.aload_n 0, 1) := by decide +kernel
theorem dX7_claimGoesAhead_14 : decode cX7_claimGoesAhead 14 = .ok (.getfield 23, 3) := by decide +kernel
theorem dX7_claimGoesAhead_17 : decode cX7_claimGoesAhead 17 = .ok (.iload_n 1, 1) := by decide +kernel
theorem dX7_claimGoesAhead_18 : decode cX7_claimGoesAhead 18 = .ok (.iconst 1, 1) := by decide +kernel
theorem dX7_claimGoesAhead_19 : decode cX7_claimGoesAhead 19 = .ok (.invokevirtual 73, 3) := by decide +kernel
theorem dX7_claimGoesAhead_22 : decode cX7_claimGoesAhead 22 = .ok (.iload_n 2, 1) := by decide +kernel
theorem dX7_claimGoesAhead_23 : decode cX7_claimGoesAhead 23 = .ok (.if_icmp .le 7, 3) := by decide +kernel
theorem dX7_claimGoesAhead_26 : decode cX7_claimGoesAhead 26 = .ok (.iconst 1, 1) := by decide +kernel
theorem dX7_claimGoesAhead_27 : decode cX7_claimGoesAhead 27 = .ok (.goto 4, 3) := by decide +kernel
theorem dX7_claimGoesAhead_30 : decode cX7_claimGoesAhead 30 = .ok (.iconst 0, 1) := by decide +kernel
theorem dX7_claimGoesAhead_31 : decode cX7_claimGoesAhead 31 = .ok (.ireturn, 1) := by decide +kernel
theorem dX7_claimGoesAhead_32 : decode cX7_claimGoesAhead 32 = .ok (.aload_n 0, 1) := by decide +kernel
theorem dX7_claimGoesAhead_33 : decode cX7_claimGoesAhead 33 = .ok (.getfield 23, 3) := by decide +kernel
theorem dX7_claimGoesAhead_36 : decode cX7_claimGoesAhead 36 = .ok (.iload_n 1, 1) := by decide +kernel
theorem dX7_claimGoesAhead_37 : decode cX7_claimGoesAhead 37 = .ok (.iconst 3, 1) := by decide +kernel
theorem dX7_claimGoesAhead_38 : decode cX7_claimGoesAhead 38 = .ok (.invokevirtual 73, 3) := by decide +kernel
theorem dX7_claimGoesAhead_41 : decode cX7_claimGoesAhead 41 = .ok (.iload_n 3, 1) := by decide +kernel
theorem dX7_claimGoesAhead_42 : decode cX7_claimGoesAhead 42 = .ok (.if_icmp .eq 22, 3) := by decide +kernel
theorem dX7_claimGoesAhead_45 : decode cX7_claimGoesAhead 45 = .ok (.aload_n 0, 1) := by decide +kernel
theorem dX7_claimGoesAhead_46 : decode cX7_claimGoesAhead 46 = .ok (.getfield 23, 3) := by decide +kernel
theorem dX7_claimGoesAhead_49 : decode cX7_claimGoesAhead 49 = .ok (.iload_n 1, 1) := by decide +kernel
theorem dX7_claimGoesAhead_50 : decode cX7_claimGoesAhead 50 = .ok (.iconst 3, 1) := by decide +kernel
theorem dX7_claimGoesAhead_51 : decode cX7_claimGoesAhead 51 = .ok (.invokevirtual 73, 3) := by decide +kernel
theorem dX7_claimGoesAhead_54 : decode cX7_claimGoesAhead 54 = .ok (.iload_n 3, 1) := by decide +kernel
theorem dX7_claimGoesAhead_55 : decode cX7_claimGoesAhead 55 = .ok (.if_icmp .ge 7, 3) := by decide +kernel
theorem dX7_claimGoesAhead_58 : decode cX7_claimGoesAhead 58 = .ok (.iconst 1, 1) := by decide +kernel
theorem dX7_claimGoesAhead_59 : decode cX7_claimGoesAhead 59 = .ok (.goto 4, 3) := by decide +kernel
theorem dX7_claimGoesAhead_62 : decode cX7_claimGoesAhead 62 = .ok (.iconst 0, 1) := by decide +kernel
theorem dX7_claimGoesAhead_63 : decode cX7_claimGoesAhead 63 = .ok (.ireturn, 1) := by decide +kernel
theorem dX7_claimGoesAhead_64 : decode cX7_claimGoesAhead 64 = .ok (.aload_n 0, 1) := by decide +kernel
theorem dX7_claimGoesAhead_65 : decode cX7_claimGoesAhead 65 = .ok (.getfield 23, 3) := by decide +kernel
theorem dX7_claimGoesAhead_68 : decode cX7_claimGoesAhead 68 = .ok (.iload_n 1, 1) := by decide +kernel
theorem dX7_claimGoesAhead_69 : decode cX7_claimGoesAhead 69 = .ok (.iconst 0, 1) := by decide +kernel
theorem dX7_claimGoesAhead_70 : decode cX7_claimGoesAhead 70 = .ok (.invokevirtual 73, 3) := by decide +kernel
theorem dX7_claimGoesAhead_73 : decode cX7_claimGoesAhead 73 = .ok (.iload 4, 2) := by decide +kernel
theorem dX7_claimGoesAhead_75 : decode cX7_claimGoesAhead 75 = .ok (.if_icmp .ge 7, 3) := by decide +kernel
theorem dX7_claimGoesAhead_78 : decode cX7_claimGoesAhead 78 = .ok (.iconst 1, 1) := by decide +kernel
theorem dX7_claimGoesAhead_79 : decode cX7_claimGoesAhead 79 = .ok (.goto 4, 3) := by decide +kernel
theorem dX7_claimGoesAhead_82 : decode cX7_claimGoesAhead 82 = .ok (.iconst 0, 1) := by decide +kernel
theorem dX7_claimGoesAhead_83 : decode cX7_claimGoesAhead 83 = .ok (.ireturn, 1) := by decide +kernel
set_option maxRecDepth 20000 in
theorem ggX7_copyFrom_X4_copyFrom : GoodIn wsX7_copyFrom wsX4_copyFrom := goodIn_r _ [15, 16, 17, 18, 19, 20, 21, 22, 23, 24, 25, 14, 26, 27, 28, 29, 30, 31, 42, 43, 44, 45] (by decide +kernel) (by decide +kernel)
set_option maxRecDepth 20000 in
theorem gX7_copyFrom_X4_copyFrom : GoodIn wsX7_copyFrom (wsV RX7 99 RX4 yX4_copyFrom wsX4_copyFrom) := goodIn_app (goodIn_of _ (by decide +kernel)) ggX7_copyFrom_X4_copyFrom
theorem dX7_copyFrom_0 : decode cX7_copyFrom 0 = .ok (.aload_n 0, 1) := by decide +kernel
theorem dX7_copyFrom_1 : decode cX7_copyFrom 1 = .ok (.aload_n 1, 1) := by decide +kernel
theorem dX7_copyFrom_2 : decode cX7_copyFrom 2 = .ok (.getfield 26, 3) := by decide +kernel
theorem dX7_copyFrom_5 : decode cX7_copyFrom 5 = .ok (.putfield 26, 3) := by decide +kernel
theorem dX7_copyFrom_8 : decode cX7_copyFrom 8 = .ok (.aload_n 0, 1) := by decide +kernel
theorem dX7_copyFrom_9 : decode cX7_copyFrom 9 = .ok (.aload_n 1, 1) := by decide +kernel
theorem dX7_copyFrom_10 : decode cX7_copyFrom 10 = .ok (.getfield 30, 3) := by decide +kernel
theorem dX7_copyFrom_13 : decode cX7_copyFrom 13 = .ok (.putfield 30, 3) := by decide +kernel
theorem dX7_copyFrom_16 : decode cX7_copyFrom 16 = .ok (.aload_n 0, 1) := by decide +kernel
theorem dX7_copyFrom_17 : decode cX7_copyFrom 17 = .ok (.aload_n 1, 1) := by decide +kernel
theorem dX7_copyFrom_18 : decode cX7_copyFrom 18 = .ok (.getfield 46, 3) := by decide +kernel
theorem dX7_copyFrom_21 : decode cX7_copyFrom 21 = .ok (.putfield 46, 3) := by decide +kernel
theorem dX7_copyFrom_24 : decode cX7_copyFrom 24 = .ok (.aload_n 0, 1) := by decide +kernel
theorem dX7_copyFrom_25 : decode cX7_copyFrom 25 = .ok (.aload_n 1, 1) := by decide +kernel
theorem dX7_copyFrom_26 : decode cX7_copyFrom 26 = .ok (.getfield 49, 3) := by decide +kernel
theorem dX7_copyFrom_29 : decode cX7_copyFrom 29 = .ok (.putfield 49, 3) := by decide +kernel
theorem dX7_copyFrom_32 : decode cX7_copyFrom 32 = .ok (.aload_n 0, 1) := by decide +kernel
theorem dX7_copyFrom_33 : decode cX7_copyFrom 33 = .ok (.aload_n 1, 1) := by decide +kernel
theorem dX7_copyFrom_34 : decode cX7_copyFrom 34 = .ok (.getfield 52, 3) := by decide +kernel
theorem dX7_copyFrom_37 : decode cX7_copyFrom 37 = .ok (.putfield 52, 3) := by decide +kernel
theorem dX7_copyFrom_40 : decode cX7_copyFrom 40 = .ok (.aload_n 0, 1) := by decide +kernel
theorem dX7_copyFrom_41 : decode cX7_copyFrom 41 = .ok (.aload_n 1, 1) := by decide +kernel
theorem dX7_copyFrom_42 : decode cX7_copyFrom 42 = .ok (.getfield 55, 3) := by decide +kernel
theorem dX7_copyFrom_45 : decode cX7_copyFrom 45 = .ok (.putfield 55, 3) := by decide +kernel
theorem dX7_copyFrom_48 : decode cX7_copyFrom 48 = .ok (.aload_n 0, 1) := by decide +kernel
theorem dX7_copyFrom_49 : decode cX7_copyFrom 49 = .ok (.aload_n 1, 1) := by decide +kernel
theorem dX7_copyFrom_50 : decode cX7_copyFrom 50 = .ok (.getfield 33, 3) := by decide +kernel
theorem dX7_copyFrom_53 : decode cX7_copyFrom 53 = .ok (.putfield 33, 3) := by decide +kernel
theorem dX7_copyFrom_56 : decode cX7_copyFrom 56 = .ok (.aload_n 0, 1) := by decide +kernel
theorem dX7_copyFrom_57 : decode cX7_copyFrom 57 = .ok (.getfield 14, 3) := by decide +kernel
theorem dX7_copyFrom_60 : decode cX7_copyFrom 60 = .ok (.aload_n 1, 1) := by decide +kernel
theorem dX7_copyFrom_61 : decode cX7_copyFrom 61 = .ok (.getfield 14, 3) := by decide +kernel
theorem dX7_copyFrom_64 : decode cX7_copyFrom 64 = .ok (.invokevirtual 99, 3) := by decide +kernel
theorem dX7_copyFrom_67 : decode cX7_copyFrom 67 = .ok (.aload_n 0, 1) := by decide +kernel
theorem dX7_copyFrom_68 : decode cX7_copyFrom 68 = .ok (.getfield 20, 3) := by decide +kernel
theorem dX7_copyFrom_71 : decode cX7_copyFrom 71 = .ok (.aload_n 1, 1) := by decide +kernel
theorem dX7_copyFrom_72 : decode cX7_copyFrom 72 = .ok (.getfield 20, 3) := by decide +kernel
theorem dX7_copyFrom_75 : decode cX7_copyFrom 75 = .ok (.invokevirtual 99, 3) := by decide +kernel
theorem dX7_copyFrom_78 : decode cX7_copyFrom 78 = .ok (.aload_n 0, 1) := by decide +kernel
theorem dX7_copyFrom_79 : decode cX7_copyFrom 79 = .ok (.getfield 23, 3) := by decide +kernel
theorem dX7_copyFrom_82 : decode cX7_copyFrom 82 = .ok (.aload_n 1, 1) := by decide +kernel
theorem dX7_copyFrom_83 : decode cX7_copyFrom 83 = .ok (.getfield 23, 3) := by decide +kernel
theorem dX7_copyFrom_86 : decode cX7_copyFrom 86 = .ok (.invokevirtual 99, 3) := by decide +kernel
theorem dX7_copyFrom_89 : decode cX7_copyFrom 89 = .ok (.return_, 1) := by decide +kernel
set_option maxRecDepth 20000 in
theorem ggX8_init_X6_init : GoodIn wsX8_init wsX6_init := goodIn_r _ [27, 28, 2, 3, 29, 11, 12, 30, 31, 32, 33, 34, 35, 36, 37, 38, 39, 40, 41, 42, 43, 44, 45, 46, 47, 48, 49, 50, 51, 52, 53, 54, 55, 56, 57, 58, 59, 60, 61, 62, 63, 64, 65, 66, 67, 68, 69, 70, 71, 72, 73, 74, 75, 76, 77, 78, 79, 80, 81, 108, 109, 110, 111, 112, 113, 114, 115, 116, 117, 118, 97, 98, 125, 126, 127, 128, 129, 130, 131, 132, 133, 134, 135, 136, 137, 138, 139, 140, 141, 142, 143, 144, 145, 146] (by decide +kernel) (by decide +kernel)
set_option maxRecDepth 20000 in
theorem gX8_init_X6_init_n11 : GoodIn wsX8_init (wsX6_init) := ggX8_init_X6_init
set_option maxRecDepth 20000 in
theorem ggX8_init_X2_init : GoodIn wsX8_init wsX2_init := goodIn_r _ [37, 38, 2, 3, 39, 40, 41, 42, 43, 44, 45, 46, 47, 48, 49, 32, 33, 50, 51, 52, 53, 54, 55, 56, 57, 58, 59, 60, 61, 62, 63, 64, 65, 66, 67, 68, 69, 70, 71, 72, 73, 74, 75, 76, 77, 78, 79, 80, 81, 108, 109, 110, 111, 112, 113, 114, 115, 116, 117, 118, 127, 128, 129, 130, 131, 132, 133, 134, 135, 136, 137, 138, 139, 140, 141, 142, 125, 126, 143, 144, 145, 146] (by decide +kernel) (by decide +kernel)
set_option maxRecDepth 20000 in
theorem gX8_init_X2_init : GoodIn wsX8_init (wsX2_init) := ggX8_init_X2_init
set_option maxRecDepth 20000 in
theorem ggX8_init_X5_init : GoodIn wsX8_init wsX5_init := goodIn_r _ [84, 85, 2, 3, 86, 60, 61, 87, 88, 89, 66, 67, 68, 69, 70, 71, 72, 73, 74, 54, 75, 143, 144, 145, 146, 119, 120, 121] (by decide +kernel) (by decide +kernel)
set_option maxRecDepth 20000 in
theorem gX8_init_X5_init_n32 : GoodIn wsX8_init (wsX5_init) := ggX8_init_X5_init
set_option maxRecDepth 20000 in
theorem ggX8_init_X1_init : GoodIn wsX8_init wsX1_init := goodIn_r _ [91, 92, 2, 3, 93, 94, 60, 61, 95, 96, 66, 67, 68, 69, 70, 71, 72, 73, 74, 54, 75, 122, 123, 124, 143, 144, 145, 146] (by decide +kernel) (by decide +kernel)
set_option maxRecDepth 20000 in
theorem gX8_init_X1_init_n48 : GoodIn wsX8_init (wsX1_init) := ggX8_init_X1_init
theorem dX8_init_0 : decode cX8_init 0 = .ok (.aload_n 0, 1) := by decide +kernel
theorem dX8_init_1 : decode cX8_init 1 = .ok (.invokespecial 3, 3) := by decide +kernel
theorem dX8_init_4 : decode cX8_init 4 = .ok (.aload_n 0, 1) := by decide +kernel
theorem dX8_init_5 : decode cX8_init 5 = .ok (.new 9, 3) := by decide +kernel
theorem dX8_init_8 : decode cX8_init 8 = .ok (.dup, 1) := by decide +kernel
theorem dX8_init_9 : decode cX8_init 9 = .ok (.invokespecial 11, 3) := by decide +kernel
theorem dX8_init_12 : decode cX8_init 12 = .ok (.putfield 12, 3) := by decide +kernel
theorem dX8_init_15 : decode cX8_init 15 = .ok (.aload_n 0, 1) := by decide +kernel
theorem dX8_init_16 : decode cX8_init 16 = .ok (.aload_n 0, 1) := by decide +kernel
theorem dX8_init_17 : decode cX8_init 17 = .ok (.getfield 12, 3) := by decide +kernel
theorem dX8_init_20 : decode cX8_init 20 = .ok (.getfield 16, 3) := by decide +kernel
theorem dX8_init_23 : decode cX8_init 23 = .ok (.putfield 20, 3) := by decide +kernel
theorem dX8_init_26 : decode cX8_init 26 = .ok (.aload_n 0, 1) := by decide +kernel
theorem dX8_init_27 : decode cX8_init 27 = .ok (.new 21, 3) := by decide +kernel
theorem dX8_init_30 : decode cX8_init 30 = .ok (.dup, 1) := by decide +kernel
theorem dX8_init_31 : decode cX8_init 31 = .ok (.invokespecial 23, 3) := by decide +kernel
theorem dX8_init_34 : decode cX8_init 34 = .ok (.putfield 24, 3) := by decide +kernel
theorem dX8_init_37 : decode cX8_init 37 = .ok (.aload_n 0, 1) := by decide +kernel
theorem dX8_init_38 : decode cX8_init 38 = .ok (.new 21, 3) := by decide +kernel
theorem dX8_init_41 : decode cX8_init 41 = .ok (.dup, 1) := by decide +kernel
theorem dX8_init_42 : decode cX8_init 42 = .ok (.invokespecial 23, 3) := by decide +kernel
theorem dX8_init_45 : decode cX8_init 45 = .ok (.putfield 27, 3) := by decide +kernel
theorem dX8_init_48 : decode cX8_init 48 = .ok (.aload_n 0, 1) := by decide +kernel
theorem dX8_init_49 : decode cX8_init 49 = .ok (.new 30, 3) := by decide +kernel
theorem dX8_init_52 : decode cX8_init 52 = .ok (.dup, 1) := by decide +kernel
theorem dX8_init_53 : decode cX8_init 53 = .ok (.invokespecial 32, 3) := by decide +kernel
theorem dX8_init_56 : decode cX8_init 56 = .ok (.putfield 33, 3) := by decide +kernel
theorem dX8_init_59 : decode cX8_init 59 = .ok (.aload_n 0, 1) := by decide +kernel
theorem dX8_init_60 : decode cX8_init 60 = .ok (.aload_n 0, 1) := by decide +kernel
theorem dX8_init_61 : decode cX8_init 61 = .ok (.getfield 33, 3) := by decide +kernel
theorem dX8_init_64 : decode cX8_init 64 = .ok (.getfield 37, 3) := by decide +kernel
theorem dX8_init_67 : decode cX8_init 67 = .ok (.putfield 41, 3) := by decide +kernel
theorem dX8_init_70 : decode cX8_init 70 = .ok (.aload_n 0, 1) := by decide +kernel
theorem dX8_init_71 : decode cX8_init 71 = .ok (.bipush 6, 2) := by decide +kernel
theorem dX8_init_73 : decode cX8_init 73 = .ok (.anewarray 42, 3) := by decide +kernel
theorem dX8_init_76 : decode cX8_init 76 = .ok (.putfield 44, 3) := by decide +kernel
theorem dX8_init_79 : decode cX8_init 79 = .ok (.aload_n 0, 1) := by decide +kernel
theorem dX8_init_80 : decode cX8_init 80 = .ok (.new 42, 3) := by decide +kernel
theorem dX8_init_83 : decode cX8_init 83 = .ok (.dup, 1) := by decide +kernel
theorem dX8_init_84 : decode cX8_init 84 = .ok (.invokespecial 48, 3) := by decide +kernel
theorem dX8_init_87 : decode cX8_init 87 = .ok (.putfield 49, 3) := by decide +kernel
theorem dX8_init_90 : decode cX8_init 90 = .ok (.iconst 0, 1) := by decide +kernel
theorem dX8_init_91 : decode cX8_init 91 = .ok (.istore_n 1, 1) := by decide +kernel
theorem dX8_init_92 : decode cX8_init 92 = .ok (.iload_n 1, 1) := by decide +kernel
theorem dX8_init_93 : decode cX8_init 93 = .ok (.aload_n 0, 1) := by decide +kernel
theorem dX8_init_94 : decode cX8_init 94 = .ok (.getfield 44, 3) := by decide +kernel
theorem dX8_init_97 : decode cX8_init 97 = .ok (.arraylength, 1) := by decide +kernel
theorem dX8_init_98 : decode cX8_init 98 = .ok (.if_icmp .ge 22, 3) := by decide +kernel
theorem dX8_init_101 : decode cX8_init 101 = .ok (.aload_n 0, 1) := by decide +kernel
theorem dX8_init_102 : decode cX8_init 102 = .ok (.getfield 44, 3) := by decide +kernel
theorem dX8_init_105 : decode cX8_init 105 = .ok (.iload_n 1, 1) := by decide +kernel
theorem dX8_init_106 : decode cX8_init 106 = .ok (.new 42, 3) := by decide +kernel
theorem dX8_init_109 : decode cX8_init 109 = .ok (.dup, 1) := by decide +kernel
theorem dX8_init_110 : decode cX8_init 110 = .ok (.invokespecial 48, 3) := by decide +kernel
theorem dX8_init_113 : decode cX8_init 113 = .ok (.aastore, 1) := by decide +kernel
theorem dX8_init_114 : decode cX8_init 114 = .ok (.iinc 1 1, 3) := by decide +kernel
theorem dX8_init_117 : decode cX8_init 117 = .ok (.goto (-25), 3) := by decide +kernel
theorem dX8_init_120 : decode cX8_init 120 = .ok (.return_, 1) := by decide +kernel
set_option maxRecDepth 20000 in
theorem ggX8_person_X2_enterPerson : GoodIn wsX8_person wsX2_enterPerson := goodIn_r _ [6, 7, 8, 9, 10, 5, 11, 12, 13, 14, 15, 16, 17, 18, 19, 20, 21, 22, 23, 24, 25, 26, 27, 28, 38, 39, 40, 41, 42, 43, 44, 45, 46, 47, 48, 49, 50, 51, 52, 53, 54] (by decide +kernel) (by decide +kernel)
set_option maxRecDepth 20000 in
theorem gX8_person_X2_enterPerson : GoodIn wsX8_person (wsV RX8 53 RX2 yX2_enterPerson wsX2_enterPerson) := goodIn_app (goodIn_of _ (by decide +kernel)) ggX8_person_X2_enterPerson
theorem dX8_person_0 : decode cX8_person 0 = .ok (.aload_n 0, 1) := by decide +kernel
theorem dX8_person_1 : decode cX8_person 1 = .ok (.getfield 20, 3) := by decide +kernel
theorem dX8_person_4 : decode cX8_person 4 = .ok (.iload_n 1, 1) := by decide +kernel
theorem dX8_person_5 : decode cX8_person 5 = .ok (.iload_n 2, 1) := by decide +kernel
theorem dX8_person_6 : decode cX8_person 6 = .ok (.invokevirtual 53, 3) := by decide +kernel
theorem dX8_person_9 : decode cX8_person 9 = .ok (.ireturn, 1) := by decide +kernel
set_option maxRecDepth 20000 in
theorem ggX8_tool_X2_enterTool : GoodIn wsX8_tool wsX2_enterTool := goodIn_r _ [6, 7, 8, 9, 10, 11, 5, 12, 13, 14, 15, 16, 17, 18, 19, 20, 21, 22, 23, 24, 25, 26, 27, 28, 29, 30, 31, 32, 33, 34, 35, 36, 37, 38, 39, 40, 41, 42, 43, 44, 45, 46, 47, 48, 49, 50, 51, 52, 53, 54, 55, 56, 57, 58, 68, 69, 70, 71, 72, 73, 74, 75, 76, 77, 78, 79, 80, 81, 82, 83, 84, 85, 86, 87, 88, 89, 90, 91, 92] (by decide +kernel) (by decide +kernel)
set_option maxRecDepth 20000 in
theorem gX8_tool_X2_enterTool : GoodIn wsX8_tool (wsV RX8 57 RX2 yX2_enterTool wsX2_enterTool) := goodIn_app (goodIn_of _ (by decide +kernel)) ggX8_tool_X2_enterTool
theorem dX8_tool_0 : decode cX8_tool 0 = .ok (.aload_n 0, 1) := by decide +kernel
theorem dX8_tool_1 : decode cX8_tool 1 = .ok (.getfield 20, 3) := by decide +kernel
theorem dX8_tool_4 : decode cX8_tool 4 = .ok (.iload_n 1, 1) := by decide +kernel
theorem dX8_tool_5 : decode cX8_tool 5 = .ok (.invokevirtual 57, 3) := by decide +kernel
theorem dX8_tool_8 : decode cX8_tool 8 = .ok (.ireturn, 1) := by decide +kernel
set_option maxRecDepth 20000 in
theorem ggX8_wish_X2_setWish : GoodIn wsX8_wish wsX2_setWish := goodIn_r _ [6, 7, 8, 9, 5, 10, 11, 12, 13, 14, 15, 16, 17, 18, 19, 20, 21, 22, 23, 24, 25, 26, 27, 28, 29, 30, 31, 32, 42, 43, 44, 45, 46, 47, 48, 49, 50, 51, 52, 53, 54, 55, 56, 57, 58] (by decide +kernel) (by decide +kernel)
set_option maxRecDepth 20000 in
theorem gX8_wish_X2_setWish : GoodIn wsX8_wish (wsV RX8 61 RX2 yX2_setWish wsX2_setWish) := goodIn_app (goodIn_of _ (by decide +kernel)) ggX8_wish_X2_setWish
theorem dX8_wish_0 : decode cX8_wish 0 = .ok (.aload_n 0, 1) := by decide +kernel
theorem dX8_wish_1 : decode cX8_wish 1 = .ok (.getfield 20, 3) := by decide +kernel
theorem dX8_wish_4 : decode cX8_wish 4 = .ok (.iload_n 1, 1) := by decide +kernel
theorem dX8_wish_5 : decode cX8_wish 5 = .ok (.iload_n 2, 1) := by decide +kernel
theorem dX8_wish_6 : decode cX8_wish 6 = .ok (.iload_n 3, 1) := by decide +kernel
theorem dX8_wish_7 : decode cX8_wish 7 = .ok (.invokevirtual 61, 3) := by decide +kernel
theorem dX8_wish_10 : decode cX8_wish 10 = .ok (.ireturn, 1) := by decide +kernel
set_option maxRecDepth 20000 in
theorem ggX8_fund_X2_bringCoins : GoodIn wsX8_fund wsX2_bringCoins := goodIn_r _ [6, 7, 8, 9, 10, 11, 12, 13, 14, 15, 16, 5, 17, 18, 19, 20, 21, 22, 23, 24, 34, 35, 36, 37, 38, 39, 40, 41, 42, 43, 44, 45, 46, 47, 48, 49, 50] (by decide +kernel) (by decide +kernel)
set_option maxRecDepth 20000 in
theorem gX8_fund_X2_bringCoins : GoodIn wsX8_fund (wsV RX8 65 RX2 yX2_bringCoins wsX2_bringCoins) := goodIn_app (goodIn_of _ (by decide +kernel)) ggX8_fund_X2_bringCoins
theorem dX8_fund_0 : decode cX8_fund 0 = .ok (.aload_n 0, 1) := by decide +kernel
theorem dX8_fund_1 : decode cX8_fund 1 = .ok (.getfield 20, 3) := by decide +kernel
theorem dX8_fund_4 : decode cX8_fund 4 = .ok (.iload_n 1, 1) := by decide +kernel
theorem dX8_fund_5 : decode cX8_fund 5 = .ok (.iload_n 2, 1) := by decide +kernel
theorem dX8_fund_6 : decode cX8_fund 6 = .ok (.invokevirtual 65, 3) := by decide +kernel
theorem dX8_fund_9 : decode cX8_fund 9 = .ok (.ireturn, 1) := by decide +kernel
set_option maxRecDepth 20000 in
theorem ggX8_personOf_X2_isPerson : GoodIn wsX8_personOf wsX2_isPerson := goodIn_r _ [11, 12, 85, 86, 87, 88, 89, 90, 91, 92, 93, 94, 95] (by decide +kernel) (by decide +kernel)
set_option maxRecDepth 20000 in
theorem gX8_personOf_X2_isPerson : GoodIn wsX8_personOf (wsV RX8 68 RX2 yX2_isPerson wsX2_isPerson) := goodIn_app (goodIn_of _ (by decide +kernel)) ggX8_personOf_X2_isPerson
set_option maxRecDepth 20000 in
theorem ggX8_personOf_X2_personAt : GoodIn wsX8_personOf wsX2_personAt := goodIn_r _ [16, 17, 18, 85, 86, 87, 88, 89, 90, 91, 92, 93, 94, 95] (by decide +kernel) (by decide +kernel)
set_option maxRecDepth 20000 in
theorem gX8_personOf_X2_personAt : GoodIn wsX8_personOf (wsV RX8 72 RX2 yX2_personAt wsX2_personAt) := goodIn_app (goodIn_of _ (by decide +kernel)) ggX8_personOf_X2_personAt
set_option maxRecDepth 20000 in
theorem ggX8_personOf_X2_toolsWith : GoodIn wsX8_personOf wsX2_toolsWith := goodIn_r _ [22, 23, 24, 25, 26, 27, 10, 28, 29, 30, 85, 86, 87, 88, 89, 90, 91, 92, 93, 94, 95, 96, 97, 98, 99, 100, 101, 102, 103, 104, 105] (by decide +kernel) (by decide +kernel)
set_option maxRecDepth 20000 in
theorem gX8_personOf_X2_toolsWith : GoodIn wsX8_personOf (wsV RX8 94 RX2 yX2_toolsWith wsX2_toolsWith) := goodIn_app (goodIn_of _ (by decide +kernel)) ggX8_personOf_X2_toolsWith
set_option maxRecDepth 20000 in
theorem ggX8_personOf_X2_placeInRank : GoodIn wsX8_personOf wsX2_placeInRank := goodIn_r _ [34, 12, 35, 14, 15, 10, 16, 17, 18, 36, 37, 38, 39, 40, 41, 42, 43, 44, 45, 46, 47, 85, 86, 87, 88, 89, 90, 91, 92, 93, 94, 95, 79, 80, 81, 82, 83, 84] (by decide +kernel) (by decide +kernel)
set_option maxRecDepth 20000 in
theorem gX8_personOf_X2_placeInRank : GoodIn wsX8_personOf (wsV RX8 97 RX2 yX2_placeInRank wsX2_placeInRank) := goodIn_app (goodIn_of _ (by decide +kernel)) ggX8_personOf_X2_placeInRank
set_option maxRecDepth 20000 in
theorem ggX8_personOf_X2_claimsOf : GoodIn wsX8_personOf wsX2_claimsOf := goodIn_r _ [51, 23, 25, 26, 27, 10, 28, 29, 30, 52, 53, 54, 55, 56, 57, 58, 59, 60, 61, 62, 63, 64, 65, 66, 67, 68, 69, 85, 86, 87, 88, 89, 90, 91, 92, 93, 94, 95, 96, 97, 98, 99, 100, 101, 102, 103, 104, 105, 106, 107, 108, 109] (by decide +kernel) (by decide +kernel)
set_option maxRecDepth 20000 in
theorem gX8_personOf_X2_claimsOf : GoodIn wsX8_personOf (wsV RX8 100 RX2 yX2_claimsOf wsX2_claimsOf) := goodIn_app (goodIn_of _ (by decide +kernel)) ggX8_personOf_X2_claimsOf
theorem dX8_personOf_0 : decode cX8_personOf 0 = .ok (.aload_n 0, 1) := by decide +kernel
theorem dX8_personOf_1 : decode cX8_personOf 1 = .ok (.getfield 20, 3) := by decide +kernel
theorem dX8_personOf_4 : decode cX8_personOf 4 = .ok (.iload_n 1, 1) := by decide +kernel
theorem dX8_personOf_5 : decode cX8_personOf 5 = .ok (.invokevirtual 68, 3) := by decide +kernel
theorem dX8_personOf_8 : decode cX8_personOf 8 = .ok (.ifCond .ne 5, 3) := by decide +kernel
theorem dX8_personOf_11 : decode cX8_personOf 11 = .ok (.iconst (-1), 1) := by decide +kernel
theorem dX8_personOf_12 : decode cX8_personOf 12 = .ok (.ireturn, 1) := by decide +kernel
theorem dX8_personOf_13 : decode cX8_personOf 13 = .ok (.aload_n 0, 1) := by decide +kernel
theorem dX8_personOf_14 : decode cX8_personOf 14 = .ok (.getfield 20, 3) := by decide +kernel
theorem dX8_personOf_17 : decode cX8_personOf 17 = .ok (.iload_n 1, 1) := by decide +kernel
theorem dX8_personOf_18 : decode cX8_personOf 18 = .ok (.invokevirtual 72, 3) := by decide +kernel
theorem dX8_personOf_21 : decode cX8_personOf 21 = .ok (.astore_n 3, 1) := by decide +kernel
theorem dX8_personOf_22 : decode cX8_personOf 22 = .ok (.iload_n 2, 1) := by decide +kernel
theorem dX8_personOf_23 : decode cX8_personOf 23 = .ok (.tableswitch 97 0 7 #[45, 50, 55, 60, 65, 70, 79, 88], 45) := by decide +kernel
theorem dX8_personOf_68 : decode cX8_personOf 68 = .ok (.aload_n 3, 1) := by decide +kernel
theorem dX8_personOf_69 : decode cX8_personOf 69 = .ok (.getfield 76, 3) := by decide +kernel
theorem dX8_personOf_72 : decode cX8_personOf 72 = .ok (.ireturn, 1) := by decide +kernel
theorem dX8_personOf_73 : decode cX8_personOf 73 = .ok (.aload_n 3, 1) := by decide +kernel
theorem dX8_personOf_74 : decode cX8_personOf 74 = .ok (.getfield 82, 3) := by decide +kernel
theorem dX8_personOf_77 : decode cX8_personOf 77 = .ok (.ireturn, 1) := by decide +kernel
theorem dX8_personOf_78 : decode cX8_personOf 78 = .ok (.aload_n 3, 1) := by decide +kernel
theorem dX8_personOf_79 : decode cX8_personOf 79 = .ok (.getfield 85, 3) := by decide +kernel
theorem dX8_personOf_82 : decode cX8_personOf 82 = .ok (.ireturn, 1) := by decide +kernel
theorem dX8_personOf_83 : decode cX8_personOf 83 = .ok (.aload_n 3, 1) := by decide +kernel
theorem dX8_personOf_84 : decode cX8_personOf 84 = .ok (.getfield 88, 3) := by decide +kernel
theorem dX8_personOf_87 : decode cX8_personOf 87 = .ok (.ireturn, 1) := by decide +kernel
theorem dX8_personOf_88 : decode cX8_personOf 88 = .ok (.aload_n 3, 1) := by decide +kernel
theorem dX8_personOf_89 : decode cX8_personOf 89 = .ok (.getfield 91, 3) := by decide +kernel
theorem dX8_personOf_92 : decode cX8_personOf 92 = .ok (.ireturn, 1) := by decide +kernel
theorem dX8_personOf_93 : decode cX8_personOf 93 = .ok (.aload_n 0, 1) := by decide +kernel
theorem dX8_personOf_94 : decode cX8_personOf 94 = .ok (.getfield 20, 3) := by decide +kernel
theorem dX8_personOf_97 : decode cX8_personOf 97 = .ok (.iload_n 1, 1) := by decide +kernel
theorem dX8_personOf_98 : decode cX8_personOf 98 = .ok (.invokevirtual 94, 3) := by decide +kernel
theorem dX8_personOf_101 : decode cX8_personOf 101 = .ok (.ireturn, 1) := by decide +kernel
theorem dX8_personOf_102 : decode cX8_personOf 102 = .ok (.aload_n 0, 1) := by decide +kernel
theorem dX8_personOf_103 : decode cX8_personOf 103 = .ok (.getfield 20, 3) := by decide +kernel
theorem dX8_personOf_106 : decode cX8_personOf 106 = .ok (.iload_n 1, 1) := by decide +kernel
theorem dX8_personOf_107 : decode cX8_personOf 107 = .ok (.invokevirtual 97, 3) := by decide +kernel
theorem dX8_personOf_110 : decode cX8_personOf 110 = .ok (.ireturn, 1) := by decide +kernel
theorem dX8_personOf_111 : decode cX8_personOf 111 = .ok (.aload_n 0, 1) := by decide +kernel
theorem dX8_personOf_112 : decode cX8_personOf 112 = .ok (.getfield 20, 3) := by decide +kernel
theorem dX8_personOf_115 : decode cX8_personOf 115 = .ok (.iload_n 1, 1) := by decide +kernel
theorem dX8_personOf_116 : decode cX8_personOf 116 = .ok (.invokevirtual 100, 3) := by decide +kernel
theorem dX8_personOf_119 : decode cX8_personOf 119 = .ok (.ireturn, 1) := by decide +kernel
theorem dX8_personOf_120 : decode cX8_personOf 120 = .ok (.iconst (-1), 1) := by decide +kernel
theorem dX8_personOf_121 : decode cX8_personOf 121 = .ok (.ireturn, 1) := by decide +kernel
set_option maxRecDepth 20000 in
theorem ggX8_toolOf_X2_isTool : GoodIn wsX8_toolOf wsX2_isTool := goodIn_r _ [15, 16, 48, 49, 50, 51, 52, 53, 54, 55, 56, 57, 58] (by decide +kernel) (by decide +kernel)
set_option maxRecDepth 20000 in
theorem gX8_toolOf_X2_isTool : GoodIn wsX8_toolOf (wsV RX8 103 RX2 yX2_isTool wsX2_isTool) := goodIn_app (goodIn_of _ (by decide +kernel)) ggX8_toolOf_X2_isTool
set_option maxRecDepth 20000 in
theorem ggX8_toolOf_X2_toolAt : GoodIn wsX8_toolOf wsX2_toolAt := goodIn_r _ [20, 21, 22, 48, 49, 50, 51, 52, 53, 54, 55, 56, 57, 58] (by decide +kernel) (by decide +kernel)
set_option maxRecDepth 20000 in
theorem gX8_toolOf_X2_toolAt : GoodIn wsX8_toolOf (wsV RX8 106 RX2 yX2_toolAt wsX2_toolAt) := goodIn_app (goodIn_of _ (by decide +kernel)) ggX8_toolOf_X2_toolAt
set_option maxRecDepth 20000 in
theorem ggX8_toolOf_X4_size : GoodIn wsX8_toolOf wsX4_size := goodIn_r _ [27, 28, 59, 60, 61, 62] (by decide +kernel) (by decide +kernel)
set_option maxRecDepth 20000 in
theorem gX8_toolOf_X4_size : GoodIn wsX8_toolOf (wsV RX8 133 RX4 yX4_size wsX4_size) := goodIn_app (goodIn_of _ (by decide +kernel)) ggX8_toolOf_X4_size
theorem dX8_toolOf_0 : decode cX8_toolOf 0 = .ok (.aload_n 0, 1) := by decide +kernel
theorem dX8_toolOf_1 : decode cX8_toolOf 1 = .ok (.getfield 20, 3) := by decide +kernel
theorem dX8_toolOf_4 : decode cX8_toolOf 4 = .ok (.iload_n 1, 1) := by decide +kernel
theorem dX8_toolOf_5 : decode cX8_toolOf 5 = .ok (.invokevirtual 103, 3) := by decide +kernel
theorem dX8_toolOf_8 : decode cX8_toolOf 8 = .ok (.ifCond .ne 5, 3) := by decide +kernel
theorem dX8_toolOf_11 : decode cX8_toolOf 11 = .ok (.iconst (-1), 1) := by decide +kernel
theorem dX8_toolOf_12 : decode cX8_toolOf 12 = .ok (.ireturn, 1) := by decide +kernel
theorem dX8_toolOf_13 : decode cX8_toolOf 13 = .ok (.aload_n 0, 1) := by decide +kernel
theorem dX8_toolOf_14 : decode cX8_toolOf 14 = .ok (.getfield 20, 3) := by decide +kernel
theorem dX8_toolOf_17 : decode cX8_toolOf 17 = .ok (.iload_n 1, 1) := by decide +kernel
theorem dX8_toolOf_18 : decode cX8_toolOf 18 = .ok (.invokevirtual 106, 3) := by decide +kernel
theorem dX8_toolOf_21 : decode cX8_toolOf 21 = .ok (.astore_n 3, 1) := by decide +kernel
theorem dX8_toolOf_22 : decode cX8_toolOf 22 = .ok (.iload_n 2, 1) := by decide +kernel
theorem dX8_toolOf_23 : decode cX8_toolOf 23 = .ok (.tableswitch 103 0 8 #[49, 54, 59, 64, 69, 74, 79, 87, 95], 49) := by decide +kernel
theorem dX8_toolOf_72 : decode cX8_toolOf 72 = .ok (.aload_n 3, 1) := by decide +kernel
theorem dX8_toolOf_73 : decode cX8_toolOf 73 = .ok (.getfield 110, 3) := by decide +kernel
theorem dX8_toolOf_76 : decode cX8_toolOf 76 = .ok (.ireturn, 1) := by decide +kernel
theorem dX8_toolOf_77 : decode cX8_toolOf 77 = .ok (.aload_n 3, 1) := by decide +kernel
theorem dX8_toolOf_78 : decode cX8_toolOf 78 = .ok (.getfield 115, 3) := by decide +kernel
theorem dX8_toolOf_81 : decode cX8_toolOf 81 = .ok (.ireturn, 1) := by decide +kernel
theorem dX8_toolOf_82 : decode cX8_toolOf 82 = .ok (.aload_n 3, 1) := by decide +kernel
theorem dX8_toolOf_83 : decode cX8_toolOf 83 = .ok (.getfield 118, 3) := by decide +kernel
theorem dX8_toolOf_86 : decode cX8_toolOf 86 = .ok (.ireturn, 1) := by decide +kernel
theorem dX8_toolOf_87 : decode cX8_toolOf 87 = .ok (.aload_n 3, 1) := by decide +kernel
theorem dX8_toolOf_88 : decode cX8_toolOf 88 = .ok (.getfield 121, 3) := by decide +kernel
theorem dX8_toolOf_91 : decode cX8_toolOf 91 = .ok (.ireturn, 1) := by decide +kernel
theorem dX8_toolOf_92 : decode cX8_toolOf 92 = .ok (.aload_n 3, 1) := by decide +kernel
theorem dX8_toolOf_93 : decode cX8_toolOf 93 = .ok (.getfield 124, 3) := by decide +kernel
theorem dX8_toolOf_96 : decode cX8_toolOf 96 = .ok (.ireturn, 1) := by decide +kernel
theorem dX8_toolOf_97 : decode cX8_toolOf 97 = .ok (.aload_n 3, 1) := by decide +kernel
theorem dX8_toolOf_98 : decode cX8_toolOf 98 = .ok (.getfield 127, 3) := by decide +kernel
theorem dX8_toolOf_101 : decode cX8_toolOf 101 = .ok (.ireturn, 1) := by decide +kernel
theorem dX8_toolOf_102 : decode cX8_toolOf 102 = .ok (.aload_n 3, 1) := by decide +kernel
theorem dX8_toolOf_103 : decode cX8_toolOf 103 = .ok (.getfield 130, 3) := by decide +kernel
theorem dX8_toolOf_106 : decode cX8_toolOf 106 = .ok (.invokevirtual 133, 3) := by decide +kernel
theorem dX8_toolOf_109 : decode cX8_toolOf 109 = .ok (.ireturn, 1) := by decide +kernel
theorem dX8_toolOf_110 : decode cX8_toolOf 110 = .ok (.aload_n 3, 1) := by decide +kernel
theorem dX8_toolOf_111 : decode cX8_toolOf 111 = .ok (.getfield 139, 3) := by decide +kernel
theorem dX8_toolOf_114 : decode cX8_toolOf 114 = .ok (.invokevirtual 133, 3) := by decide +kernel
theorem dX8_toolOf_117 : decode cX8_toolOf 117 = .ok (.ireturn, 1) := by decide +kernel
theorem dX8_toolOf_118 : decode cX8_toolOf 118 = .ok (.aload_n 3, 1) := by decide +kernel
theorem dX8_toolOf_119 : decode cX8_toolOf 119 = .ok (.getfield 142, 3) := by decide +kernel
theorem dX8_toolOf_122 : decode cX8_toolOf 122 = .ok (.invokevirtual 133, 3) := by decide +kernel
theorem dX8_toolOf_125 : decode cX8_toolOf 125 = .ok (.ireturn, 1) := by decide +kernel
theorem dX8_toolOf_126 : decode cX8_toolOf 126 = .ok (.iconst (-1), 1) := by decide +kernel
theorem dX8_toolOf_127 : decode cX8_toolOf 127 = .ok (.ireturn, 1) := by decide +kernel
set_option maxRecDepth 20000 in
theorem ggX8_link_X2_isTool : GoodIn wsX8_link wsX2_isTool := goodIn_r _ [7, 8, 50, 51, 52, 53, 54, 55, 56, 57, 58, 59, 60] (by decide +kernel) (by decide +kernel)
set_option maxRecDepth 20000 in
theorem gX8_link_X2_isTool : GoodIn wsX8_link (wsV RX8 103 RX2 yX2_isTool wsX2_isTool) := goodIn_app (goodIn_of _ (by decide +kernel)) ggX8_link_X2_isTool
set_option maxRecDepth 20000 in
theorem ggX8_link_X2_toolAt : GoodIn wsX8_link wsX2_toolAt := goodIn_r _ [12, 13, 14, 50, 51, 52, 53, 54, 55, 56, 57, 58, 59, 60] (by decide +kernel) (by decide +kernel)
set_option maxRecDepth 20000 in
theorem gX8_link_X2_toolAt : GoodIn wsX8_link (wsV RX8 106 RX2 yX2_toolAt wsX2_toolAt) := goodIn_app (goodIn_of _ (by decide +kernel)) ggX8_link_X2_toolAt
set_option maxRecDepth 20000 in
theorem ggX8_link_X8_entryOf : GoodIn wsX8_link wsX8_entryOf := goodIn_r _ [18, 19, 20, 21, 22, 23, 24, 25, 26, 27, 28, 29, 30, 61, 62, 63, 64] (by decide +kernel) (by decide +kernel)
set_option maxRecDepth 20000 in
theorem gX8_link_X8_entryOf : GoodIn wsX8_link (va_wsS RX8 145 yX8_entryOf wsX8_entryOf) := goodIn_app (goodIn_of _ (by decide +kernel)) ggX8_link_X8_entryOf
theorem dX8_link_0 : decode cX8_link 0 = .ok (.aload_n 0, 1) := by decide +kernel
theorem dX8_link_1 : decode cX8_link 1 = .ok (.getfield 20, 3) := by decide +kernel
theorem dX8_link_4 : decode cX8_link 4 = .ok (.iload_n 1, 1) := by decide +kernel
theorem dX8_link_5 : decode cX8_link 5 = .ok (.invokevirtual 103, 3) := by decide +kernel
theorem dX8_link_8 : decode cX8_link 8 = .ok (.ifCond .eq 23, 3) := by decide +kernel
theorem dX8_link_11 : decode cX8_link 11 = .ok (.aload_n 0, 1) := by decide +kernel
theorem dX8_link_12 : decode cX8_link 12 = .ok (.getfield 20, 3) := by decide +kernel
theorem dX8_link_15 : decode cX8_link 15 = .ok (.iload_n 1, 1) := by decide +kernel
theorem dX8_link_16 : decode cX8_link 16 = .ok (.invokevirtual 106, 3) := by decide +kernel
theorem dX8_link_19 : decode cX8_link 19 = .ok (.getfield 139, 3) := by decide +kernel
theorem dX8_link_22 : decode cX8_link 22 = .ok (.iload_n 2, 1) := by decide +kernel
theorem dX8_link_23 : decode cX8_link 23 = .ok (.iload_n 3, 1) := by decide +kernel
theorem dX8_link_24 : decode cX8_link 24 = .ok (.iconst 2, 1) := by decide +kernel
theorem dX8_link_25 : decode cX8_link 25 = .ok (.invokestatic 145, 3) := by decide +kernel
theorem dX8_link_28 : decode cX8_link 28 = .ok (.goto 4, 3) := by decide +kernel
theorem dX8_link_31 : decode cX8_link 31 = .ok (.iconst (-1), 1) := by decide +kernel
theorem dX8_link_32 : decode cX8_link 32 = .ok (.ireturn, 1) := by decide +kernel
set_option maxRecDepth 20000 in
theorem ggX8_ranked_X2_personAtRank : GoodIn wsX8_ranked wsX2_personAtRank := goodIn_r _ [6, 7, 8, 9, 10, 5, 11, 12, 13, 14, 15, 16, 17, 18, 19, 20, 21, 22, 23, 24, 25, 26, 27, 28, 29, 39, 40, 41, 42, 43, 44, 45, 46, 47, 48, 49, 50, 51, 52, 53, 54, 55] (by decide +kernel) (by decide +kernel)
set_option maxRecDepth 20000 in
theorem gX8_ranked_X2_personAtRank : GoodIn wsX8_ranked (wsV RX8 149 RX2 yX2_personAtRank wsX2_personAtRank) := goodIn_app (goodIn_of _ (by decide +kernel)) ggX8_ranked_X2_personAtRank
theorem dX8_ranked_0 : decode cX8_ranked 0 = .ok (.iload_n 1, 1) := by decide +kernel
theorem dX8_ranked_1 : decode cX8_ranked 1 = .ok (.ifCond .ge 7, 3) := by decide +kernel
theorem dX8_ranked_4 : decode cX8_ranked 4 = .ok (.iconst (-1), 1) := by decide +kernel
theorem dX8_ranked_5 : decode cX8_ranked 5 = .ok (.goto 11, 3) := by decide +kernel
theorem dX8_ranked_8 : decode cX8_ranked 8 = .ok (.aload_n 0, 1) := by decide +kernel
theorem dX8_ranked_9 : decode cX8_ranked 9 = .ok (.getfield 20, 3) := by decide +kernel
theorem dX8_ranked_12 : decode cX8_ranked 12 = .ok (.iload_n 1, 1) := by decide +kernel
theorem dX8_ranked_13 : decode cX8_ranked 13 = .ok (.invokevirtual 149, 3) := by decide +kernel
theorem dX8_ranked_16 : decode cX8_ranked 16 = .ok (.ireturn, 1) := by decide +kernel
set_option maxRecDepth 20000 in
theorem ggX8_entryOf_X4_size : GoodIn wsX8_entryOf wsX4_size := goodIn_r _ [5, 6, 13, 14, 15, 16] (by decide +kernel) (by decide +kernel)
set_option maxRecDepth 20000 in
theorem gX8_entryOf_X4_size : GoodIn wsX8_entryOf (wsV RX8 133 RX4 yX4_size wsX4_size) := goodIn_app (goodIn_of _ (by decide +kernel)) ggX8_entryOf_X4_size
set_option maxRecDepth 20000 in
theorem ggX8_entryOf_X4_cell : GoodIn wsX8_entryOf wsX4_cell := goodIn_r _ [10, 6, 11, 12, 13, 14, 15, 16] (by decide +kernel) (by decide +kernel)
set_option maxRecDepth 20000 in
theorem gX8_entryOf_X4_cell : GoodIn wsX8_entryOf (wsV RX8 152 RX4 yX4_cell wsX4_cell) := goodIn_app (goodIn_of _ (by decide +kernel)) ggX8_entryOf_X4_cell
theorem dX8_entryOf_0 : decode cX8_entryOf 0 = .ok (.iload_n 1, 1) := by decide +kernel
theorem dX8_entryOf_1 : decode cX8_entryOf 1 = .ok (.ifCond .lt 12, 3) := by decide +kernel
theorem dX8_entryOf_4 : decode cX8_entryOf 4 = .ok (.iload_n 2, 1) := by decide +kernel
theorem dX8_entryOf_5 : decode cX8_entryOf 5 = .ok (.ifCond .lt 8, 3) := by decide +kernel
theorem dX8_entryOf_8 : decode cX8_entryOf 8 = .ok (.iload_n 2, 1) := by decide +kernel
theorem dX8_entryOf_9 : decode cX8_entryOf 9 = .ok (.iload_n 3, 1) := by decide +kernel
theorem dX8_entryOf_10 : decode cX8_entryOf 10 = .ok (.if_icmp .le 5, 3) := by decide +kernel
theorem dX8_entryOf_13 : decode cX8_entryOf 13 = .ok (.iconst (-1), 1) := by decide +kernel
theorem dX8_entryOf_14 : decode cX8_entryOf 14 = .ok (.ireturn, 1) := by decide +kernel
theorem dX8_entryOf_15 : decode cX8_entryOf 15 = .ok (.iload_n 1, 1) := by decide +kernel
theorem dX8_entryOf_16 : decode cX8_entryOf 16 = .ok (.aload_n 0, 1) := by decide +kernel
theorem dX8_entryOf_17 : decode cX8_entryOf 17 = .ok (.invokevirtual 133, 3) := by decide +kernel
theorem dX8_entryOf_20 : decode cX8_entryOf 20 = .ok (.if_icmp .ge 12, 3) := by decide +kernel
theorem dX8_entryOf_23 : decode cX8_entryOf 23 = .ok (.aload_n 0, 1) := by decide +kernel
theorem dX8_entryOf_24 : decode cX8_entryOf 24 = .ok (.iload_n 1, 1) := by decide +kernel
theorem dX8_entryOf_25 : decode cX8_entryOf 25 = .ok (.iload_n 2, 1) := by decide +kernel
theorem dX8_entryOf_26 : decode cX8_entryOf 26 = .ok (.invokevirtual 152, 3) := by decide +kernel
theorem dX8_entryOf_29 : decode cX8_entryOf 29 = .ok (.goto 5, 3) := by decide +kernel
theorem dX8_entryOf_32 : decode cX8_entryOf 32 = .ok (.bipush (-2), 2) := by decide +kernel
theorem dX8_entryOf_34 : decode cX8_entryOf 34 = .ok (.ireturn, 1) := by decide +kernel
set_option maxRecDepth 20000 in
theorem ggX8_lease_X2_leaseTo : GoodIn wsX8_lease wsX2_leaseTo := goodIn_r _ [6, 7, 8, 9, 10, 11, 12, 13, 5, 14, 15, 16, 17, 18, 19, 20, 21, 22, 23, 24, 25, 26, 27, 28, 29, 30, 31, 32, 33, 34, 35, 36, 37, 38, 39, 40, 41, 42, 43, 44, 45, 46, 47, 48, 49, 50, 51, 52, 53, 54, 55, 56, 57, 58, 59, 60, 61, 62, 63, 64, 65, 66, 67, 68, 69, 70, 80, 81, 82, 83, 84, 85, 86, 87, 88, 89, 90, 91, 92, 93, 94, 95, 96, 97, 98, 99, 100, 101, 102, 103, 104, 105, 106, 107, 108, 109, 110] (by decide +kernel) (by decide +kernel)
set_option maxRecDepth 20000 in
theorem gX8_lease_X2_leaseTo : GoodIn wsX8_lease (wsV RX8 155 RX2 yX2_leaseTo wsX2_leaseTo) := goodIn_app (goodIn_of _ (by decide +kernel)) ggX8_lease_X2_leaseTo
theorem dX8_lease_0 : decode cX8_lease 0 = .ok (.aload_n 0, 1) := by decide +kernel
theorem dX8_lease_1 : decode cX8_lease 1 = .ok (.getfield 20, 3) := by decide +kernel
theorem dX8_lease_4 : decode cX8_lease 4 = .ok (.iload_n 1, 1) := by decide +kernel
theorem dX8_lease_5 : decode cX8_lease 5 = .ok (.iload_n 2, 1) := by decide +kernel
theorem dX8_lease_6 : decode cX8_lease 6 = .ok (.iload_n 3, 1) := by decide +kernel
theorem dX8_lease_7 : decode cX8_lease 7 = .ok (.invokevirtual 155, 3) := by decide +kernel
theorem dX8_lease_10 : decode cX8_lease 10 = .ok (.ireturn, 1) := by decide +kernel
set_option maxRecDepth 20000 in
theorem ggX8_claim_X2_enterClaim : GoodIn wsX8_claim wsX2_enterClaim := goodIn_r _ [6, 7, 8, 9, 10, 11, 12, 5, 13, 14, 15, 16, 17, 18, 19, 20, 21, 22, 23, 24, 25, 26, 27, 28, 29, 30, 31, 32, 33, 34, 35, 36, 37, 38, 39, 40, 41, 42, 43, 44, 45, 46, 47, 48, 49, 50, 51, 52, 53, 54, 55, 56, 57, 58, 59, 60, 61, 62, 63, 64, 65, 66, 67, 68, 69, 79, 80, 81, 82, 83, 84, 85, 86, 87, 88, 89, 90, 91, 92, 93, 94, 95, 96, 97, 98, 99, 100, 101, 102, 103] (by decide +kernel) (by decide +kernel)
set_option maxRecDepth 20000 in
theorem gX8_claim_X2_enterClaim : GoodIn wsX8_claim (wsV RX8 158 RX2 yX2_enterClaim wsX2_enterClaim) := goodIn_app (goodIn_of _ (by decide +kernel)) ggX8_claim_X2_enterClaim
theorem dX8_claim_0 : decode cX8_claim 0 = .ok (.iload_n 3, 1) := by decide +kernel
theorem dX8_claim_1 : decode cX8_claim 1 = .ok (.ifCond .ge 7, 3) := by decide +kernel
theorem dX8_claim_4 : decode cX8_claim 4 = .ok (.iconst (-1), 1) := by decide +kernel
theorem dX8_claim_5 : decode cX8_claim 5 = .ok (.goto 20, 3) := by decide +kernel
theorem dX8_claim_8 : decode cX8_claim 8 = .ok (.aload_n 0, 1) := by decide +kernel
theorem dX8_claim_9 : decode cX8_claim 9 = .ok (.getfield 20, 3) := by decide +kernel
theorem dX8_claim_12 : decode cX8_claim 12 = .ok (.iload_n 1, 1) := by decide +kernel
theorem dX8_claim_13 : decode cX8_claim 13 = .ok (.iload_n 2, 1) := by decide +kernel
theorem dX8_claim_14 : decode cX8_claim 14 = .ok (.iload_n 3, 1) := by decide +kernel
theorem dX8_claim_15 : decode cX8_claim 15 = .ok (.bipush 100, 2) := by decide +kernel
theorem dX8_claim_17 : decode cX8_claim 17 = .ok (.idiv, 1) := by decide +kernel
theorem dX8_claim_18 : decode cX8_claim 18 = .ok (.iload_n 3, 1) := by decide +kernel
theorem dX8_claim_19 : decode cX8_claim 19 = .ok (.bipush 100, 2) := by decide +kernel
theorem dX8_claim_21 : decode cX8_claim 21 = .ok (.irem, 1) := by decide +kernel
theorem dX8_claim_22 : decode cX8_claim 22 = .ok (.invokevirtual 158, 3) := by decide +kernel
theorem dX8_claim_25 : decode cX8_claim 25 = .ok (.ireturn, 1) := by decide +kernel
set_option maxRecDepth 20000 in
theorem ggX8_waive_X2_dropClaim : GoodIn wsX8_waive wsX2_dropClaim := goodIn_r _ [6, 7, 8, 9, 10, 5, 11, 12, 13, 14, 15, 16, 17, 18, 19, 20, 21, 22, 23, 24, 25, 26, 27, 28, 29, 30, 31, 32, 33, 34, 35, 36, 37, 38, 39, 40, 41, 42, 43, 44, 45, 46, 56, 57, 58, 59, 60, 61, 62, 63, 64, 65, 66, 67, 68, 69, 70, 71, 72, 73, 74, 75, 76, 77, 78, 79, 80] (by decide +kernel) (by decide +kernel)
set_option maxRecDepth 20000 in
theorem gX8_waive_X2_dropClaim : GoodIn wsX8_waive (wsV RX8 162 RX2 yX2_dropClaim wsX2_dropClaim) := goodIn_app (goodIn_of _ (by decide +kernel)) ggX8_waive_X2_dropClaim
theorem dX8_waive_0 : decode cX8_waive 0 = .ok (.aload_n 0, 1) := by decide +kernel
theorem dX8_waive_1 : decode cX8_waive 1 = .ok (.getfield 20, 3) := by decide +kernel
theorem dX8_waive_4 : decode cX8_waive 4 = .ok (.iload_n 1, 1) := by decide +kernel
theorem dX8_waive_5 : decode cX8_waive 5 = .ok (.iload_n 2, 1) := by decide +kernel
theorem dX8_waive_6 : decode cX8_waive 6 = .ok (.invokevirtual 162, 3) := by decide +kernel
theorem dX8_waive_9 : decode cX8_waive 9 = .ok (.ireturn, 1) := by decide +kernel
set_option maxRecDepth 20000 in
theorem ggX8_returned_X2_giveBack : GoodIn wsX8_returned wsX2_giveBack := goodIn_r _ [6, 7, 8, 9, 10, 11, 12, 13, 14, 15, 5, 16, 17, 18, 19, 20, 21, 22, 23, 24, 25, 26, 27, 28, 29, 30, 31, 32, 33, 34, 35, 36, 37, 38, 39, 40, 41, 42, 43, 44, 45, 46, 47, 48, 49, 50, 51, 52, 53, 54, 55, 56, 57, 58, 59, 60, 61, 62, 63, 64, 65, 66, 67, 68, 69, 70, 71, 72, 73, 74, 75, 76, 77, 78, 79, 80, 81, 82, 83, 84, 85, 86, 87, 88, 89, 90, 91, 92, 93, 94, 95, 96, 97, 98, 99, 100, 101, 102, 103, 104, 105, 106, 107, 108, 109, 110, 111, 112, 113, 114, 115, 116, 117, 118, 119, 120, 121, 122, 123, 124, 125, 126, 127, 128, 129, 130, 131, 132, 133, 134, 135, 136, 137, 138, 139, 140, 141, 142, 143, 144, 145, 146, 147, 148, 149, 150, 151, 152, 153, 154, 155, 156, 157, 158, 159, 160, 161, 162, 163, 164, 165, 166, 167, 168, 169, 170, 171, 172, 173, 174, 175, 176, 177, 178, 179, 180, 181, 182, 183, 184, 185, 186, 187, 188, 189, 190, 191, 201, 202, 203, 204, 205, 206, 207, 208, 209, 210, 211, 212, 213, 214, 215, 216, 217, 218, 219, 220, 221, 222, 223, 224, 225, 226, 227, 228, 229, 230, 231, 232, 233] (by decide +kernel) (by decide +kernel)
set_option maxRecDepth 20000 in
theorem gX8_returned_X2_giveBack : GoodIn wsX8_returned (wsV RX8 165 RX2 yX2_giveBack wsX2_giveBack) := goodIn_app (goodIn_of _ (by decide +kernel)) ggX8_returned_X2_giveBack
theorem dX8_returned_0 : decode cX8_returned 0 = .ok (.aload_n 0, 1) := by decide +kernel
theorem dX8_returned_1 : decode cX8_returned 1 = .ok (.getfield 20, 3) := by decide +kernel
theorem dX8_returned_4 : decode cX8_returned 4 = .ok (.iload_n 1, 1) := by decide +kernel
theorem dX8_returned_5 : decode cX8_returned 5 = .ok (.invokevirtual 165, 3) := by decide +kernel
theorem dX8_returned_8 : decode cX8_returned 8 = .ok (.ireturn, 1) := by decide +kernel
set_option maxRecDepth 20000 in
theorem ggX8_pass_X2_passOn : GoodIn wsX8_pass wsX2_passOn := goodIn_r _ [6, 7, 8, 9, 10, 11, 5, 12, 13, 14, 15, 16, 17, 18, 19, 20, 21, 22, 23, 24, 25, 26, 27, 28, 29, 30, 31, 32, 33, 34, 35, 36, 37, 38, 39, 40, 41, 42, 43, 44, 45, 46, 47, 48, 49, 50, 51, 52, 53, 54, 55, 56, 57, 58, 59, 60, 61, 62, 63, 64, 65, 66, 67, 68, 69, 70, 71, 72, 73, 74, 75, 76, 77, 78, 79, 80, 81, 91, 92, 93, 94, 95, 96, 97, 98, 99, 100, 101, 102, 103, 104, 105, 106, 107, 108, 109, 110, 111, 112, 113, 114, 115, 116, 117, 118, 119, 120, 121] (by decide +kernel) (by decide +kernel)
set_option maxRecDepth 20000 in
theorem gX8_pass_X2_passOn : GoodIn wsX8_pass (wsV RX8 168 RX2 yX2_passOn wsX2_passOn) := goodIn_app (goodIn_of _ (by decide +kernel)) ggX8_pass_X2_passOn
theorem dX8_pass_0 : decode cX8_pass 0 = .ok (.aload_n 0, 1) := by decide +kernel
theorem dX8_pass_1 : decode cX8_pass 1 = .ok (.getfield 20, 3) := by decide +kernel
theorem dX8_pass_4 : decode cX8_pass 4 = .ok (.iload_n 1, 1) := by decide +kernel
theorem dX8_pass_5 : decode cX8_pass 5 = .ok (.iload_n 2, 1) := by decide +kernel
theorem dX8_pass_6 : decode cX8_pass 6 = .ok (.invokevirtual 168, 3) := by decide +kernel
theorem dX8_pass_9 : decode cX8_pass 9 = .ok (.ireturn, 1) := by decide +kernel
set_option maxRecDepth 20000 in
theorem ggX8_swap_X2_exchange : GoodIn wsX8_swap wsX2_exchange := goodIn_r _ [6, 7, 8, 9, 10, 5, 11, 12, 13, 14, 15, 16, 17, 18, 19, 20, 21, 22, 23, 24, 25, 26, 27, 28, 29, 30, 31, 32, 33, 34, 35, 36, 37, 38, 39, 40, 41, 42, 43, 44, 45, 46, 47, 48, 49, 50, 51, 52, 53, 54, 55, 56, 57, 58, 59, 60, 61, 62, 63, 64, 65, 66, 67, 68, 69, 70, 71, 72, 73, 74, 75, 76, 77, 78, 79, 80, 81, 82, 83, 84, 85, 86, 87, 88, 89, 90, 91, 92, 93, 94, 95, 96, 97, 98, 108, 109, 110, 111, 112, 113, 114, 115, 116, 117, 118, 119, 120, 121, 122, 123, 124, 125, 126, 127, 128, 129, 130, 131, 132, 133, 134, 135, 136, 137, 138] (by decide +kernel) (by decide +kernel)
set_option maxRecDepth 20000 in
theorem gX8_swap_X2_exchange : GoodIn wsX8_swap (wsV RX8 171 RX2 yX2_exchange wsX2_exchange) := goodIn_app (goodIn_of _ (by decide +kernel)) ggX8_swap_X2_exchange
theorem dX8_swap_0 : decode cX8_swap 0 = .ok (.aload_n 0, 1) := by decide +kernel
theorem dX8_swap_1 : decode cX8_swap 1 = .ok (.getfield 20, 3) := by decide +kernel
theorem dX8_swap_4 : decode cX8_swap 4 = .ok (.iload_n 1, 1) := by decide +kernel
theorem dX8_swap_5 : decode cX8_swap 5 = .ok (.iload_n 2, 1) := by decide +kernel
theorem dX8_swap_6 : decode cX8_swap 6 = .ok (.invokevirtual 171, 3) := by decide +kernel
theorem dX8_swap_9 : decode cX8_swap 9 = .ok (.ireturn, 1) := by decide +kernel
set_option maxRecDepth 20000 in
theorem ggX8_use_X2_wearDown : GoodIn wsX8_use wsX2_wearDown := goodIn_r _ [6, 7, 8, 9, 10, 11, 12, 13, 14, 5, 15, 16, 17, 18, 19, 20, 21, 22, 23, 24, 25, 26, 27, 28, 38, 39, 40, 41, 42, 43, 44, 45, 46, 47, 48, 49, 50, 51, 52, 53, 54, 55, 56, 57, 58] (by decide +kernel) (by decide +kernel)
set_option maxRecDepth 20000 in
theorem gX8_use_X2_wearDown : GoodIn wsX8_use (wsV RX8 174 RX2 yX2_wearDown wsX2_wearDown) := goodIn_app (goodIn_of _ (by decide +kernel)) ggX8_use_X2_wearDown
theorem dX8_use_0 : decode cX8_use 0 = .ok (.aload_n 0, 1) := by decide +kernel
theorem dX8_use_1 : decode cX8_use 1 = .ok (.getfield 20, 3) := by decide +kernel
theorem dX8_use_4 : decode cX8_use 4 = .ok (.iload_n 1, 1) := by decide +kernel
theorem dX8_use_5 : decode cX8_use 5 = .ok (.iload_n 2, 1) := by decide +kernel
theorem dX8_use_6 : decode cX8_use 6 = .ok (.invokevirtual 174, 3) := by decide +kernel
theorem dX8_use_9 : decode cX8_use 9 = .ok (.ireturn, 1) := by decide +kernel
set_option maxRecDepth 20000 in
theorem ggX8_look_X2_lookAt : GoodIn wsX8_look wsX2_lookAt := goodIn_r _ [6, 7, 8, 9, 10, 11, 12, 5, 13, 14, 15, 16, 17, 18, 19, 20, 21, 22, 23, 24, 25, 26, 27, 28, 29, 30, 31, 32, 33, 34, 35, 36, 37, 38, 39, 40, 41, 42, 43, 44, 45, 46, 47, 48, 49, 50, 51, 52, 53, 54, 55, 56, 57, 58, 59, 60, 61, 62, 63, 64, 65, 66, 67, 68, 69, 70, 71, 72, 73, 74, 75, 76, 77, 78, 79, 80, 81, 82, 83, 84, 85, 86, 87, 88, 89, 90, 91, 92, 93, 94, 95, 96, 97, 98, 99, 100, 101, 102, 103, 104, 105, 106, 107, 108, 109, 110, 111, 112, 113, 114, 115, 116, 117, 118, 119, 120, 121, 122, 123, 124, 125, 126, 127, 128, 129, 130, 140, 141, 142, 143, 144, 145, 146, 147, 148, 149, 150, 151, 152, 153, 154, 155, 156, 157, 158, 159, 160, 161, 162, 163, 164, 165, 166, 167, 168, 169, 170, 171, 172] (by decide +kernel) (by decide +kernel)
set_option maxRecDepth 20000 in
theorem gX8_look_X2_lookAt : GoodIn wsX8_look (wsV RX8 177 RX2 yX2_lookAt wsX2_lookAt) := goodIn_app (goodIn_of _ (by decide +kernel)) ggX8_look_X2_lookAt
theorem dX8_look_0 : decode cX8_look 0 = .ok (.aload_n 0, 1) := by decide +kernel
theorem dX8_look_1 : decode cX8_look 1 = .ok (.getfield 20, 3) := by decide +kernel
theorem dX8_look_4 : decode cX8_look 4 = .ok (.iload_n 1, 1) := by decide +kernel
theorem dX8_look_5 : decode cX8_look 5 = .ok (.invokevirtual 177, 3) := by decide +kernel
theorem dX8_look_8 : decode cX8_look 8 = .ok (.ireturn, 1) := by decide +kernel
set_option maxRecDepth 20000 in
theorem ggX8_days_X2_passDays : GoodIn wsX8_days wsX2_passDays := goodIn_r _ [6, 7, 17, 18, 19, 20, 21, 22, 23, 24, 25, 26, 27] (by decide +kernel) (by decide +kernel)
set_option maxRecDepth 20000 in
theorem gX8_days_X2_passDays : GoodIn wsX8_days (wsV RX8 180 RX2 yX2_passDays wsX2_passDays) := goodIn_app (goodIn_of _ (by decide +kernel)) ggX8_days_X2_passDays
theorem dX8_days_0 : decode cX8_days 0 = .ok (.aload_n 0, 1) := by decide +kernel
theorem dX8_days_1 : decode cX8_days 1 = .ok (.getfield 20, 3) := by decide +kernel
theorem dX8_days_4 : decode cX8_days 4 = .ok (.iload_n 1, 1) := by decide +kernel
theorem dX8_days_5 : decode cX8_days 5 = .ok (.invokevirtual 180, 3) := by decide +kernel
theorem dX8_days_8 : decode cX8_days 8 = .ok (.ireturn, 1) := by decide +kernel
set_option maxRecDepth 20000 in
theorem ggX8_told_X2_isTool : GoodIn wsX8_told wsX2_isTool := goodIn_r _ [8, 9, 127, 128, 129, 130, 131, 132, 133, 134, 135, 136, 137] (by decide +kernel) (by decide +kernel)
set_option maxRecDepth 20000 in
theorem gX8_told_X2_isTool : GoodIn wsX8_told (wsV RX8 103 RX2 yX2_isTool wsX2_isTool) := goodIn_app (goodIn_of _ (by decide +kernel)) ggX8_told_X2_isTool
set_option maxRecDepth 20000 in
theorem ggX8_told_X6_nextOf : GoodIn wsX8_told wsX6_nextOf := goodIn_r _ [14, 15, 16, 17, 18, 19, 7, 20, 21, 22, 23, 24, 25, 26, 27, 28, 29, 30, 31, 32, 33, 34, 35, 36, 37, 38, 39, 40, 41, 42, 43, 44, 45, 46, 47, 48, 49, 138, 139, 140, 141, 142, 143, 144, 145, 146, 147, 148, 149, 127, 128, 129, 130, 131, 132, 133, 134, 135, 136, 137, 150, 151, 152, 153, 154, 155, 156, 157, 158, 159] (by decide +kernel) (by decide +kernel)
set_option maxRecDepth 20000 in
theorem gX8_told_X6_nextOf : GoodIn wsX8_told (wsV RX8 189 RX6 yX6_nextOf wsX6_nextOf) := goodIn_app (goodIn_of _ (by decide +kernel)) ggX8_told_X6_nextOf
set_option maxRecDepth 20000 in
theorem ggX8_told_X6_suspectsOf : GoodIn wsX8_told wsX6_suspectsOf := goodIn_r _ [53, 54, 15, 17, 18, 19, 7, 20, 21, 22, 55, 56, 57, 58, 59, 60, 61, 62, 63, 64, 65, 66, 67, 68, 69, 70, 71, 34, 72, 36, 73, 32, 33, 35, 74, 38, 39, 40, 41, 42, 75, 76, 77, 78, 79, 80, 81, 82, 83, 84, 85, 86, 87, 88, 89, 90, 91, 92, 93, 94, 95, 138, 139, 127, 128, 129, 130, 131, 132, 133, 134, 135, 136, 137, 160, 161, 140, 141, 142, 143, 144, 145, 146, 147, 148, 149, 156, 157, 158, 159] (by decide +kernel) (by decide +kernel)
set_option maxRecDepth 20000 in
theorem gX8_told_X6_suspectsOf : GoodIn wsX8_told (wsV RX8 192 RX6 yX6_suspectsOf wsX6_suspectsOf) := goodIn_app (goodIn_of _ (by decide +kernel)) ggX8_told_X6_suspectsOf
set_option maxRecDepth 20000 in
theorem ggX8_told_X2_toolAt : GoodIn wsX8_told wsX2_toolAt := goodIn_r _ [20, 21, 22, 127, 128, 129, 130, 131, 132, 133, 134, 135, 136, 137] (by decide +kernel) (by decide +kernel)
set_option maxRecDepth 20000 in
theorem gX8_told_X2_toolAt : GoodIn wsX8_told (wsV RX8 106 RX2 yX2_toolAt wsX2_toolAt) := goodIn_app (goodIn_of _ (by decide +kernel)) ggX8_told_X2_toolAt
set_option maxRecDepth 20000 in
theorem ggX8_told_X7_feeOn : GoodIn wsX8_told wsX7_feeOn := goodIn_r _ [101, 102, 103, 104, 105, 67, 106, 107, 108, 109, 100, 110, 111, 112, 66, 68, 113, 114, 115, 116, 117, 140, 141, 142, 143, 144, 145, 146, 147, 148, 149] (by decide +kernel) (by decide +kernel)
set_option maxRecDepth 20000 in
theorem gX8_told_X7_feeOn : GoodIn wsX8_told (wsV RX8 198 RX7 yX7_feeOn wsX7_feeOn) := goodIn_app (goodIn_of _ (by decide +kernel)) ggX8_told_X7_feeOn
theorem dX8_told_0 : decode cX8_told 0 = .ok (.aload_n 0, 1) := by decide +kernel
theorem dX8_told_1 : decode cX8_told 1 = .ok (.getfield 20, 3) := by decide +kernel
theorem dX8_told_4 : decode cX8_told 4 = .ok (.iload_n 1, 1) := by decide +kernel
theorem dX8_told_5 : decode cX8_told 5 = .ok (.invokevirtual 103, 3) := by decide +kernel
theorem dX8_told_8 : decode cX8_told 8 = .ok (.ifCond .ne 5, 3) := by decide +kernel
theorem dX8_told_11 : decode cX8_told 11 = .ok (.iconst (-1), 1) := by decide +kernel
theorem dX8_told_12 : decode cX8_told 12 = .ok (.ireturn, 1) := by decide +kernel
theorem dX8_told_13 : decode cX8_told 13 = .ok (.iload_n 2, 1) := by decide +kernel
theorem dX8_told_14 : decode cX8_told 14 = .ok (.tableswitch 63 0 2 #[26, 35, 44], 26) := by decide +kernel
theorem dX8_told_40 : decode cX8_told 40 = .ok (.aload_n 0, 1) := by decide +kernel
theorem dX8_told_41 : decode cX8_told 41 = .ok (.getfield 12, 3) := by decide +kernel
theorem dX8_told_44 : decode cX8_told 44 = .ok (.iload_n 1, 1) := by decide +kernel
theorem dX8_told_45 : decode cX8_told 45 = .ok (.invokevirtual 189, 3) := by decide +kernel
theorem dX8_told_48 : decode cX8_told 48 = .ok (.ireturn, 1) := by decide +kernel
theorem dX8_told_49 : decode cX8_told 49 = .ok (.aload_n 0, 1) := by decide +kernel
theorem dX8_told_50 : decode cX8_told 50 = .ok (.getfield 12, 3) := by decide +kernel
theorem dX8_told_53 : decode cX8_told 53 = .ok (.iload_n 1, 1) := by decide +kernel
theorem dX8_told_54 : decode cX8_told 54 = .ok (.invokevirtual 192, 3) := by decide +kernel
theorem dX8_told_57 : decode cX8_told 57 = .ok (.ireturn, 1) := by decide +kernel
theorem dX8_told_58 : decode cX8_told 58 = .ok (.aload_n 0, 1) := by decide +kernel
theorem dX8_told_59 : decode cX8_told 59 = .ok (.getfield 20, 3) := by decide +kernel
theorem dX8_told_62 : decode cX8_told 62 = .ok (.iload_n 1, 1) := by decide +kernel
theorem dX8_told_63 : decode cX8_told 63 = .ok (.invokevirtual 106, 3) := by decide +kernel
theorem dX8_told_66 : decode cX8_told 66 = .ok (.aload_n 0, 1) := by decide +kernel
theorem dX8_told_67 : decode cX8_told 67 = .ok (.getfield 20, 3) := by decide +kernel
theorem dX8_told_70 : decode cX8_told 70 = .ok (.getfield 195, 3) := by decide +kernel
theorem dX8_told_73 : decode cX8_told 73 = .ok (.invokevirtual 198, 3) := by decide +kernel
theorem dX8_told_76 : decode cX8_told 76 = .ok (.ireturn, 1) := by decide +kernel
theorem dX8_told_77 : decode cX8_told 77 = .ok (.iconst (-1), 1) := by decide +kernel
theorem dX8_told_78 : decode cX8_told 78 = .ok (.ireturn, 1) := by decide +kernel
set_option maxRecDepth 20000 in
theorem ggX8_swaps_X6_swapsNow : GoodIn wsX8_swaps wsX6_swapsNow := goodIn_r _ [6, 7, 8, 9, 10, 11, 5, 12, 13, 14, 15, 16, 17, 18, 19, 20, 21, 22, 23, 24, 25, 26, 27, 28, 29, 30, 31, 32, 33, 34, 35, 36, 37, 38, 39, 40, 41, 42, 43, 44, 45, 46, 47, 48, 49, 50, 51, 52, 53, 54, 55, 56, 57, 58, 59, 60, 61, 62, 63, 64, 65, 66, 67, 104, 105, 106, 107, 108, 109, 110, 111, 112, 113, 114, 115, 116, 117, 118, 119, 120, 121, 122, 123, 124, 125, 126, 127, 128, 129, 130, 131, 132] (by decide +kernel) (by decide +kernel)
set_option maxRecDepth 20000 in
theorem gX8_swaps_X6_swapsNow : GoodIn wsX8_swaps (wsV RX8 204 RX6 yX6_swapsNow wsX6_swapsNow) := goodIn_app (goodIn_of _ (by decide +kernel)) ggX8_swaps_X6_swapsNow
set_option maxRecDepth 20000 in
theorem ggX8_swaps_X6_bestSwap : GoodIn wsX8_swaps wsX6_bestSwap := goodIn_r _ [71, 7, 8, 36, 37, 38, 16, 39, 40, 41, 42, 43, 18, 24, 25, 26, 27, 28, 29, 44, 45, 46, 47, 48, 49, 50, 51, 52, 53, 54, 55, 9, 10, 11, 5, 12, 13, 14, 15, 17, 19, 20, 21, 22, 23, 30, 31, 32, 33, 34, 35, 56, 57, 58, 59, 60, 61, 62, 63, 64, 65, 66, 67, 104, 105, 106, 107, 108, 109, 110, 111, 112, 113, 114, 115, 116, 117, 118, 119, 120, 121, 122, 123, 124, 125, 126, 127, 128, 129, 130, 131, 132] (by decide +kernel) (by decide +kernel)
set_option maxRecDepth 20000 in
theorem gX8_swaps_X6_bestSwap : GoodIn wsX8_swaps (wsV RX8 207 RX6 yX6_bestSwap wsX6_bestSwap) := goodIn_app (goodIn_of _ (by decide +kernel)) ggX8_swaps_X6_bestSwap
set_option maxRecDepth 20000 in
theorem ggX8_swaps_X6_ringsNow : GoodIn wsX8_swaps wsX6_ringsNow := goodIn_r _ [75, 7, 8, 76, 77, 78, 5, 79, 13, 14, 15, 16, 17, 18, 19, 20, 21, 22, 23, 24, 25, 26, 27, 28, 29, 30, 31, 32, 33, 34, 35, 80, 41, 42, 43, 44, 45, 46, 47, 48, 49, 50, 51, 52, 53, 54, 55, 81, 82, 83, 84, 104, 105, 106, 107, 108, 109, 110, 111, 112, 113, 114, 115, 116, 117, 118, 119, 120, 121, 122, 123, 124, 125, 126, 127, 128, 129, 130, 131, 132] (by decide +kernel) (by decide +kernel)
set_option maxRecDepth 20000 in
theorem gX8_swaps_X6_ringsNow : GoodIn wsX8_swaps (wsV RX8 210 RX6 yX6_ringsNow wsX6_ringsNow) := goodIn_app (goodIn_of _ (by decide +kernel)) ggX8_swaps_X6_ringsNow
set_option maxRecDepth 20000 in
theorem ggX8_swaps_X6_allCoins : GoodIn wsX8_swaps wsX6_allCoins := goodIn_r _ [88, 7, 89, 90, 91, 8, 92, 93, 45, 46, 16, 47, 48, 49, 94, 25, 26, 27, 28, 29, 104, 105, 106, 107, 108, 109, 110, 111, 112, 113, 114, 115, 116, 127, 128, 129, 130, 131, 132, 117, 118, 119, 120, 121, 122, 123, 124, 125, 126] (by decide +kernel) (by decide +kernel)
set_option maxRecDepth 20000 in
theorem gX8_swaps_X6_allCoins : GoodIn wsX8_swaps (wsV RX8 213 RX6 yX6_allCoins wsX6_allCoins) := goodIn_app (goodIn_of _ (by decide +kernel)) ggX8_swaps_X6_allCoins
theorem dX8_swaps_0 : decode cX8_swaps 0 = .ok (.iload_n 1, 1) := by decide +kernel
theorem dX8_swaps_1 : decode cX8_swaps 1 = .ok (.tableswitch 63 0 3 #[31, 39, 47, 55], 31) := by decide +kernel
theorem dX8_swaps_32 : decode cX8_swaps 32 = .ok (.aload_n 0, 1) := by decide +kernel
theorem dX8_swaps_33 : decode cX8_swaps 33 = .ok (.getfield 12, 3) := by decide +kernel
theorem dX8_swaps_36 : decode cX8_swaps 36 = .ok (.invokevirtual 204, 3) := by decide +kernel
theorem dX8_swaps_39 : decode cX8_swaps 39 = .ok (.ireturn, 1) := by decide +kernel
theorem dX8_swaps_40 : decode cX8_swaps 40 = .ok (.aload_n 0, 1) := by decide +kernel
theorem dX8_swaps_41 : decode cX8_swaps 41 = .ok (.getfield 12, 3) := by decide +kernel
theorem dX8_swaps_44 : decode cX8_swaps 44 = .ok (.invokevirtual 207, 3) := by decide +kernel
theorem dX8_swaps_47 : decode cX8_swaps 47 = .ok (.ireturn, 1) := by decide +kernel
theorem dX8_swaps_48 : decode cX8_swaps 48 = .ok (.aload_n 0, 1) := by decide +kernel
theorem dX8_swaps_49 : decode cX8_swaps 49 = .ok (.getfield 12, 3) := by decide +kernel
theorem dX8_swaps_52 : decode cX8_swaps 52 = .ok (.invokevirtual 210, 3) := by decide +kernel
theorem dX8_swaps_55 : decode cX8_swaps 55 = .ok (.ireturn, 1) := by decide +kernel
theorem dX8_swaps_56 : decode cX8_swaps 56 = .ok (.aload_n 0, 1) := by decide +kernel
theorem dX8_swaps_57 : decode cX8_swaps 57 = .ok (.getfield 12, 3) := by decide +kernel
theorem dX8_swaps_60 : decode cX8_swaps 60 = .ok (.invokevirtual 213, 3) := by decide +kernel
theorem dX8_swaps_63 : decode cX8_swaps 63 = .ok (.ireturn, 1) := by decide +kernel
theorem dX8_swaps_64 : decode cX8_swaps 64 = .ok (.iconst (-1), 1) := by decide +kernel
theorem dX8_swaps_65 : decode cX8_swaps 65 = .ok (.ireturn, 1) := by decide +kernel
set_option maxRecDepth 20000 in
theorem ggX8_ahead_X6_toolsDueBefore : GoodIn wsX8_ahead wsX6_toolsDueBefore := goodIn_r _ [8, 9, 10, 11, 12, 13, 14, 15, 16, 17, 18, 19, 20, 21, 22, 23, 24, 25, 26, 27, 28, 29, 30, 31, 32, 67, 68, 56, 57, 58, 59, 60, 61, 62, 63, 64, 65, 66, 69, 70, 71, 72, 73, 74, 75, 76, 77, 78] (by decide +kernel) (by decide +kernel)
set_option maxRecDepth 20000 in
theorem gX8_ahead_X6_toolsDueBefore : GoodIn wsX8_ahead (wsV RX8 216 RX6 yX6_toolsDueBefore wsX6_toolsDueBefore) := goodIn_app (goodIn_of _ (by decide +kernel)) ggX8_ahead_X6_toolsDueBefore
set_option maxRecDepth 20000 in
theorem ggX8_ahead_X6_feesOn : GoodIn wsX8_ahead wsX6_feesOn := goodIn_r _ [36, 9, 10, 11, 12, 13, 14, 15, 16, 17, 37, 38, 39, 21, 40, 41, 42, 43, 44, 26, 45, 46, 19, 20, 22, 23, 24, 25, 27, 28, 29, 30, 31, 32, 67, 68, 56, 57, 58, 59, 60, 61, 62, 63, 64, 65, 66, 69, 70, 71, 72, 73, 74, 75, 76, 77, 78] (by decide +kernel) (by decide +kernel)
set_option maxRecDepth 20000 in
theorem gX8_ahead_X6_feesOn : GoodIn wsX8_ahead (wsV RX8 219 RX6 yX6_feesOn wsX6_feesOn) := goodIn_app (goodIn_of _ (by decide +kernel)) ggX8_ahead_X6_feesOn
theorem dX8_ahead_0 : decode cX8_ahead 0 = .ok (.iload_n 1, 1) := by decide +kernel
theorem dX8_ahead_1 : decode cX8_ahead 1 = .ok (.ifCond .lt 9, 3) := by decide +kernel
theorem dX8_ahead_4 : decode cX8_ahead 4 = .ok (.iload_n 1, 1) := by decide +kernel
theorem dX8_ahead_5 : decode cX8_ahead 5 = .ok (.bipush 60, 2) := by decide +kernel
theorem dX8_ahead_7 : decode cX8_ahead 7 = .ok (.if_icmp .le 5, 3) := by decide +kernel
theorem dX8_ahead_10 : decode cX8_ahead 10 = .ok (.iconst (-1), 1) := by decide +kernel
theorem dX8_ahead_11 : decode cX8_ahead 11 = .ok (.ireturn, 1) := by decide +kernel
theorem dX8_ahead_12 : decode cX8_ahead 12 = .ok (.iload_n 2, 1) := by decide +kernel
theorem dX8_ahead_13 : decode cX8_ahead 13 = .ok (.lookupswitch 61 #[(0, 27), (1, 44)], 27) := by decide +kernel
theorem dX8_ahead_40 : decode cX8_ahead 40 = .ok (.aload_n 0, 1) := by decide +kernel
theorem dX8_ahead_41 : decode cX8_ahead 41 = .ok (.getfield 12, 3) := by decide +kernel
theorem dX8_ahead_44 : decode cX8_ahead 44 = .ok (.aload_n 0, 1) := by decide +kernel
theorem dX8_ahead_45 : decode cX8_ahead 45 = .ok (.getfield 20, 3) := by decide +kernel
theorem dX8_ahead_48 : decode cX8_ahead 48 = .ok (.getfield 195, 3) := by decide +kernel
theorem dX8_ahead_51 : decode cX8_ahead 51 = .ok (.iload_n 1, 1) := by decide +kernel
theorem dX8_ahead_52 : decode cX8_ahead 52 = .ok (.iadd, 1) := by decide +kernel
theorem dX8_ahead_53 : decode cX8_ahead 53 = .ok (.invokevirtual 216, 3) := by decide +kernel
theorem dX8_ahead_56 : decode cX8_ahead 56 = .ok (.ireturn, 1) := by decide +kernel
theorem dX8_ahead_57 : decode cX8_ahead 57 = .ok (.aload_n 0, 1) := by decide +kernel
theorem dX8_ahead_58 : decode cX8_ahead 58 = .ok (.getfield 12, 3) := by decide +kernel
theorem dX8_ahead_61 : decode cX8_ahead 61 = .ok (.aload_n 0, 1) := by decide +kernel
theorem dX8_ahead_62 : decode cX8_ahead 62 = .ok (.getfield 20, 3) := by decide +kernel
theorem dX8_ahead_65 : decode cX8_ahead 65 = .ok (.getfield 195, 3) := by decide +kernel
theorem dX8_ahead_68 : decode cX8_ahead 68 = .ok (.iload_n 1, 1) := by decide +kernel
theorem dX8_ahead_69 : decode cX8_ahead 69 = .ok (.iadd, 1) := by decide +kernel
theorem dX8_ahead_70 : decode cX8_ahead 70 = .ok (.invokevirtual 219, 3) := by decide +kernel
theorem dX8_ahead_73 : decode cX8_ahead 73 = .ok (.ireturn, 1) := by decide +kernel
theorem dX8_ahead_74 : decode cX8_ahead 74 = .ok (.iconst (-1), 1) := by decide +kernel
theorem dX8_ahead_75 : decode cX8_ahead 75 = .ok (.ireturn, 1) := by decide +kernel
set_option maxRecDepth 20000 in
theorem ggX8_image_X2_copyFrom : GoodIn wsX8_image wsX2_copyFrom := goodIn_r _ [9, 10, 11, 12, 13, 14, 15, 16, 17, 18, 8, 19, 20, 21, 22, 23, 24, 25, 26, 27, 28, 29, 30, 31, 32, 33, 34, 35, 36, 37, 38, 39, 40, 41, 42, 43, 44, 45, 46, 47, 48, 49, 50, 51, 52, 53, 54, 55, 56, 57, 58, 59, 60, 61, 62, 63, 64, 65, 66, 67, 68, 69, 70, 71, 72, 73, 74, 75, 76, 77, 78, 79, 80, 81, 82, 92, 93, 94, 95, 96, 97, 98, 99, 100, 101, 102, 103, 104, 105, 106, 107, 108, 109, 110, 111, 112, 113, 114, 115, 116, 117, 118, 119, 120, 121, 122] (by decide +kernel) (by decide +kernel)
set_option maxRecDepth 20000 in
theorem gX8_image_X2_copyFrom : GoodIn wsX8_image (wsV RX8 258 RX2 yX2_copyFrom wsX2_copyFrom) := goodIn_app (goodIn_of _ (by decide +kernel)) ggX8_image_X2_copyFrom
theorem dX8_image_0 : decode cX8_image 0 = .ok (.aload_n 0, 1) := by decide +kernel
theorem dX8_image_1 : decode cX8_image 1 = .ok (.getfield 24, 3) := by decide +kernel
theorem dX8_image_4 : decode cX8_image 4 = .ok (.aload_n 0, 1) := by decide +kernel
theorem dX8_image_5 : decode cX8_image 5 = .ok (.getfield 20, 3) := by decide +kernel
theorem dX8_image_8 : decode cX8_image 8 = .ok (.invokevirtual 258, 3) := by decide +kernel
theorem dX8_image_11 : decode cX8_image 11 = .ok (.aload_n 0, 1) := by decide +kernel
theorem dX8_image_12 : decode cX8_image 12 = .ok (.iconst 1, 1) := by decide +kernel
theorem dX8_image_13 : decode cX8_image 13 = .ok (.putfield 269, 3) := by decide +kernel
theorem dX8_image_16 : decode cX8_image 16 = .ok (.aload_n 0, 1) := by decide +kernel
theorem dX8_image_17 : decode cX8_image 17 = .ok (.getfield 20, 3) := by decide +kernel
theorem dX8_image_20 : decode cX8_image 20 = .ok (.getfield 195, 3) := by decide +kernel
theorem dX8_image_23 : decode cX8_image 23 = .ok (.ireturn, 1) := by decide +kernel
set_option maxRecDepth 20000 in
theorem ggX8_back_X2_copyFrom : GoodIn wsX8_back wsX2_copyFrom := goodIn_r _ [11, 12, 13, 14, 15, 16, 17, 18, 19, 20, 10, 21, 22, 23, 24, 25, 26, 27, 28, 29, 30, 31, 32, 33, 34, 35, 36, 37, 38, 39, 40, 41, 42, 43, 44, 45, 46, 47, 48, 49, 50, 51, 52, 53, 54, 55, 56, 57, 58, 59, 60, 61, 62, 63, 64, 65, 66, 67, 68, 69, 70, 71, 72, 73, 74, 75, 76, 77, 78, 79, 80, 81, 82, 83, 84, 119, 120, 121, 122, 123, 124, 125, 126, 127, 128, 129, 130, 131, 132, 133, 134, 135, 136, 137, 138, 139, 140, 141, 142, 143, 144, 145, 146, 147, 148, 149] (by decide +kernel) (by decide +kernel)
set_option maxRecDepth 20000 in
theorem gX8_back_X2_copyFrom : GoodIn wsX8_back (wsV RX8 258 RX2 yX2_copyFrom wsX2_copyFrom) := goodIn_app (goodIn_of _ (by decide +kernel)) ggX8_back_X2_copyFrom
set_option maxRecDepth 20000 in
theorem ggX8_back_X8_holderAt : GoodIn wsX8_back wsX8_holderAt := goodIn_r _ [89, 90, 91, 107, 108, 109, 110, 111, 112, 113, 114, 115] (by decide +kernel) (by decide +kernel)
set_option maxRecDepth 20000 in
theorem gX8_back_X8_holderAt : GoodIn wsX8_back (wsV RX8 225 RX8 yX8_holderAt wsX8_holderAt) := goodIn_app (goodIn_of _ (by decide +kernel)) ggX8_back_X8_holderAt
set_option maxRecDepth 20000 in
theorem ggX8_back_X2_isPerson : GoodIn wsX8_back wsX2_isPerson := goodIn_r _ [95, 12, 119, 120, 121, 122, 123, 124, 125, 126, 127, 128, 129] (by decide +kernel) (by decide +kernel)
set_option maxRecDepth 20000 in
theorem gX8_back_X2_isPerson : GoodIn wsX8_back (wsV RX8 68 RX2 yX2_isPerson wsX2_isPerson) := goodIn_app (goodIn_of _ (by decide +kernel)) ggX8_back_X2_isPerson
set_option maxRecDepth 20000 in
theorem ggX8_back_X2_isTool : GoodIn wsX8_back wsX2_isTool := goodIn_r _ [99, 13, 119, 120, 121, 122, 123, 124, 125, 126, 127, 128, 129] (by decide +kernel) (by decide +kernel)
set_option maxRecDepth 20000 in
theorem gX8_back_X2_isTool : GoodIn wsX8_back (wsV RX8 103 RX2 yX2_isTool wsX2_isTool) := goodIn_app (goodIn_of _ (by decide +kernel)) ggX8_back_X2_isTool
set_option maxRecDepth 20000 in
theorem ggX8_back_X1_take : GoodIn wsX8_back wsX1_take := goodIn_r _ [104, 105, 106, 116, 117, 118] (by decide +kernel) (by decide +kernel)
set_option maxRecDepth 20000 in
theorem gX8_back_X1_take : GoodIn wsX8_back (wsV RX8 276 RX1 yX1_take wsX1_take) := goodIn_app (goodIn_of _ (by decide +kernel)) ggX8_back_X1_take
theorem dX8_back_0 : decode cX8_back 0 = .ok (.aload_n 0, 1) := by decide +kernel
theorem dX8_back_1 : decode cX8_back 1 = .ok (.getfield 269, 3) := by decide +kernel
theorem dX8_back_4 : decode cX8_back 4 = .ok (.ifCond .ne 6, 3) := by decide +kernel
theorem dX8_back_7 : decode cX8_back 7 = .ok (.bipush (-5), 2) := by decide +kernel
theorem dX8_back_9 : decode cX8_back 9 = .ok (.ireturn, 1) := by decide +kernel
theorem dX8_back_10 : decode cX8_back 10 = .ok (.aload_n 0, 1) := by decide +kernel
theorem dX8_back_11 : decode cX8_back 11 = .ok (.getfield 20, 3) := by decide +kernel
theorem dX8_back_14 : decode cX8_back 14 = .ok (.aload_n 0, 1) := by decide +kernel
theorem dX8_back_15 : decode cX8_back 15 = .ok (.getfield 24, 3) := by decide +kernel
theorem dX8_back_18 : decode cX8_back 18 = .ok (.invokevirtual 258, 3) := by decide +kernel
theorem dX8_back_21 : decode cX8_back 21 = .ok (.iconst 0, 1) := by decide +kernel
theorem dX8_back_22 : decode cX8_back 22 = .ok (.istore_n 1, 1) := by decide +kernel
theorem dX8_back_23 : decode cX8_back 23 = .ok (.iload_n 1, 1) := by decide +kernel
theorem dX8_back_24 : decode cX8_back 24 = .ok (.bipush 6, 2) := by decide +kernel
theorem dX8_back_26 : decode cX8_back 26 = .ok (.if_icmp .ge 87, 3) := by decide +kernel
theorem dX8_back_29 : decode cX8_back 29 = .ok (.aload_n 0, 1) := by decide +kernel
theorem dX8_back_30 : decode cX8_back 30 = .ok (.iload_n 1, 1) := by decide +kernel
theorem dX8_back_31 : decode cX8_back 31 = .ok (.invokevirtual 225, 3) := by decide +kernel
theorem dX8_back_34 : decode cX8_back 34 = .ok (.astore_n 2, 1) := by decide +kernel
theorem dX8_back_35 : decode cX8_back 35 = .ok (.aload_n 2, 1) := by decide +kernel
theorem dX8_back_36 : decode cX8_back 36 = .ok (.getfield 229, 3) := by decide +kernel
theorem dX8_back_39 : decode cX8_back 39 = .ok (.iconst 1, 1) := by decide +kernel
theorem dX8_back_40 : decode cX8_back 40 = .ok (.if_icmp .ne 21, 3) := by decide +kernel
theorem dX8_back_43 : decode cX8_back 43 = .ok (.aload_n 0, 1) := by decide +kernel
theorem dX8_back_44 : decode cX8_back 44 = .ok (.getfield 20, 3) := by decide +kernel
theorem dX8_back_47 : decode cX8_back 47 = .ok (.aload_n 2, 1) := by decide +kernel
theorem dX8_back_48 : decode cX8_back 48 = .ok (.getfield 273, 3) := by decide +kernel
theorem dX8_back_51 : decode cX8_back 51 = .ok (.invokevirtual 68, 3) := by decide +kernel
theorem dX8_back_54 : decode cX8_back 54 = .ok (.ifCond .ne 7, 3) := by decide +kernel
theorem dX8_back_57 : decode cX8_back 57 = .ok (.iconst 1, 1) := by decide +kernel
theorem dX8_back_58 : decode cX8_back 58 = .ok (.goto 4, 3) := by decide +kernel
theorem dX8_back_61 : decode cX8_back 61 = .ok (.iconst 0, 1) := by decide +kernel
theorem dX8_back_62 : decode cX8_back 62 = .ok (.istore_n 3, 1) := by decide +kernel
theorem dX8_back_63 : decode cX8_back 63 = .ok (.aload_n 2, 1) := by decide +kernel
theorem dX8_back_64 : decode cX8_back 64 = .ok (.getfield 229, 3) := by decide +kernel
theorem dX8_back_67 : decode cX8_back 67 = .ok (.iconst 2, 1) := by decide +kernel
theorem dX8_back_68 : decode cX8_back 68 = .ok (.if_icmp .ne 21, 3) := by decide +kernel
theorem dX8_back_71 : decode cX8_back 71 = .ok (.aload_n 0, 1) := by decide +kernel
theorem dX8_back_72 : decode cX8_back 72 = .ok (.getfield 20, 3) := by decide +kernel
theorem dX8_back_75 : decode cX8_back 75 = .ok (.aload_n 2, 1) := by decide +kernel
theorem dX8_back_76 : decode cX8_back 76 = .ok (.getfield 273, 3) := by decide +kernel
theorem dX8_back_79 : decode cX8_back 79 = .ok (.invokevirtual 103, 3) := by decide +kernel
theorem dX8_back_82 : decode cX8_back 82 = .ok (.ifCond .ne 7, 3) := by decide +kernel
theorem dX8_back_85 : decode cX8_back 85 = .ok (.iconst 1, 1) := by decide +kernel
theorem dX8_back_86 : decode cX8_back 86 = .ok (.goto 4, 3) := by decide +kernel
theorem dX8_back_89 : decode cX8_back 89 = .ok (.iconst 0, 1) := by decide +kernel
theorem dX8_back_90 : decode cX8_back 90 = .ok (.istore 4, 2) := by decide +kernel
theorem dX8_back_92 : decode cX8_back 92 = .ok (.iload_n 3, 1) := by decide +kernel
theorem dX8_back_93 : decode cX8_back 93 = .ok (.ifCond .ne 8, 3) := by decide +kernel
theorem dX8_back_96 : decode cX8_back 96 = .ok (.iload 4, 2) := by decide +kernel
theorem dX8_back_98 : decode cX8_back 98 = .ok (.ifCond .eq 9, 3) := by decide +kernel
theorem dX8_back_101 : decode cX8_back 101 = .ok (.aload_n 2, 1) := by decide +kernel
theorem dX8_back_102 : decode cX8_back 102 = .ok (.iconst 0, 1) := by decide +kernel
theorem dX8_back_103 : decode cX8_back 103 = .ok (.iconst 0, 1) := by decide +kernel
theorem dX8_back_104 : decode cX8_back 104 = .ok (.invokevirtual 276, 3) := by decide +kernel
theorem dX8_back_107 : decode cX8_back 107 = .ok (.iinc 1 1, 3) := by decide +kernel
theorem dX8_back_110 : decode cX8_back 110 = .ok (.goto (-87), 3) := by decide +kernel
theorem dX8_back_113 : decode cX8_back 113 = .ok (.aload_n 0, 1) := by decide +kernel
theorem dX8_back_114 : decode cX8_back 114 = .ok (.getfield 20, 3) := by decide +kernel
theorem dX8_back_117 : decode cX8_back 117 = .ok (.getfield 195, 3) := by decide +kernel
theorem dX8_back_120 : decode cX8_back 120 = .ok (.ireturn, 1) := by decide +kernel
set_option maxRecDepth 20000 in
theorem ggX8_count_X6_leasedCount : GoodIn wsX8_count wsX6_leasedCount := goodIn_r _ [12, 13, 14, 15, 16, 17, 18, 19, 20, 21, 22, 23, 24, 25, 26, 27, 84, 85, 73, 74, 75, 76, 77, 78, 79, 80, 81, 82, 83, 86, 87, 88, 89, 90, 91, 92, 93, 94, 95] (by decide +kernel) (by decide +kernel)
set_option maxRecDepth 20000 in
theorem gX8_count_X6_leasedCount : GoodIn wsX8_count (wsV RX8 291 RX6 yX6_leasedCount wsX6_leasedCount) := goodIn_app (goodIn_of _ (by decide +kernel)) ggX8_count_X6_leasedCount
set_option maxRecDepth 20000 in
theorem ggX8_count_X6_claimCount : GoodIn wsX8_count wsX6_claimCount := goodIn_r _ [31, 13, 14, 32, 15, 16, 17, 18, 19, 20, 21, 33, 34, 35, 36, 37, 38, 84, 85, 73, 74, 75, 76, 77, 78, 79, 80, 81, 82, 83, 86, 87, 88, 89, 90, 91, 92, 93, 94, 95, 96, 97, 98, 99] (by decide +kernel) (by decide +kernel)
set_option maxRecDepth 20000 in
theorem gX8_count_X6_claimCount : GoodIn wsX8_count (wsV RX8 294 RX6 yX6_claimCount wsX6_claimCount) := goodIn_app (goodIn_of _ (by decide +kernel)) ggX8_count_X6_claimCount
set_option maxRecDepth 20000 in
theorem ggX8_count_X6_allDebts : GoodIn wsX8_count wsX6_allDebts := goodIn_r _ [42, 13, 43, 44, 45, 46, 47, 18, 48, 49, 50, 84, 85, 73, 74, 75, 76, 77, 78, 79, 80, 81, 82, 83, 100, 101, 102, 103, 104, 105] (by decide +kernel) (by decide +kernel)
set_option maxRecDepth 20000 in
theorem gX8_count_X6_allDebts : GoodIn wsX8_count (wsV RX8 300 RX6 yX6_allDebts wsX6_allDebts) := goodIn_app (goodIn_of _ (by decide +kernel)) ggX8_count_X6_allDebts
set_option maxRecDepth 20000 in
theorem ggX8_count_X4_size : GoodIn wsX8_count wsX4_size := goodIn_r _ [37, 38, 96, 97, 98, 99] (by decide +kernel) (by decide +kernel)
set_option maxRecDepth 20000 in
theorem gX8_count_X4_size : GoodIn wsX8_count (wsV RX8 133 RX4 yX4_size wsX4_size) := goodIn_app (goodIn_of _ (by decide +kernel)) ggX8_count_X4_size
set_option maxRecDepth 20000 in
theorem ggX8_count_X8_holdersInUse : GoodIn wsX8_count wsX8_holdersInUse := goodIn_r _ [56, 57, 58, 59, 60, 55, 61, 62, 63, 106, 107, 108, 64, 65, 66, 67, 68, 69, 70, 71, 72] (by decide +kernel) (by decide +kernel)
set_option maxRecDepth 20000 in
theorem gX8_count_X8_holdersInUse : GoodIn wsX8_count (wsV RX8 303 RX8 yX8_holdersInUse wsX8_holdersInUse) := goodIn_app (goodIn_of _ (by decide +kernel)) ggX8_count_X8_holdersInUse
theorem dX8_count_0 : decode cX8_count 0 = .ok (.iload_n 1, 1) := by decide +kernel
theorem dX8_count_1 : decode cX8_count 1 = .ok (.tableswitch 120 0 8 #[51, 59, 67, 75, 83, 91, 99, 107, 115], 51) := by decide +kernel
theorem dX8_count_52 : decode cX8_count 52 = .ok (.aload_n 0, 1) := by decide +kernel
theorem dX8_count_53 : decode cX8_count 53 = .ok (.getfield 20, 3) := by decide +kernel
theorem dX8_count_56 : decode cX8_count 56 = .ok (.getfield 232, 3) := by decide +kernel
theorem dX8_count_59 : decode cX8_count 59 = .ok (.ireturn, 1) := by decide +kernel
theorem dX8_count_60 : decode cX8_count 60 = .ok (.aload_n 0, 1) := by decide +kernel
theorem dX8_count_61 : decode cX8_count 61 = .ok (.getfield 20, 3) := by decide +kernel
theorem dX8_count_64 : decode cX8_count 64 = .ok (.getfield 288, 3) := by decide +kernel
theorem dX8_count_67 : decode cX8_count 67 = .ok (.ireturn, 1) := by decide +kernel
theorem dX8_count_68 : decode cX8_count 68 = .ok (.aload_n 0, 1) := by decide +kernel
theorem dX8_count_69 : decode cX8_count 69 = .ok (.getfield 12, 3) := by decide +kernel
theorem dX8_count_72 : decode cX8_count 72 = .ok (.invokevirtual 291, 3) := by decide +kernel
theorem dX8_count_75 : decode cX8_count 75 = .ok (.ireturn, 1) := by decide +kernel
theorem dX8_count_76 : decode cX8_count 76 = .ok (.aload_n 0, 1) := by decide +kernel
theorem dX8_count_77 : decode cX8_count 77 = .ok (.getfield 12, 3) := by decide +kernel
theorem dX8_count_80 : decode cX8_count 80 = .ok (.invokevirtual 294, 3) := by decide +kernel
theorem dX8_count_83 : decode cX8_count 83 = .ok (.ireturn, 1) := by decide +kernel
theorem dX8_count_84 : decode cX8_count 84 = .ok (.aload_n 0, 1) := by decide +kernel
theorem dX8_count_85 : decode cX8_count 85 = .ok (.getfield 20, 3) := by decide +kernel
theorem dX8_count_88 : decode cX8_count 88 = .ok (.getfield 195, 3) := by decide +kernel
theorem dX8_count_91 : decode cX8_count 91 = .ok (.ireturn, 1) := by decide +kernel
theorem dX8_count_92 : decode cX8_count 92 = .ok (.aload_n 0, 1) := by decide +kernel
theorem dX8_count_93 : decode cX8_count 93 = .ok (.getfield 20, 3) := by decide +kernel
theorem dX8_count_96 : decode cX8_count 96 = .ok (.getfield 297, 3) := by decide +kernel
theorem dX8_count_99 : decode cX8_count 99 = .ok (.ireturn, 1) := by decide +kernel
theorem dX8_count_100 : decode cX8_count 100 = .ok (.aload_n 0, 1) := by decide +kernel
theorem dX8_count_101 : decode cX8_count 101 = .ok (.getfield 12, 3) := by decide +kernel
theorem dX8_count_104 : decode cX8_count 104 = .ok (.invokevirtual 300, 3) := by decide +kernel
theorem dX8_count_107 : decode cX8_count 107 = .ok (.ireturn, 1) := by decide +kernel
theorem dX8_count_108 : decode cX8_count 108 = .ok (.aload_n 0, 1) := by decide +kernel
theorem dX8_count_109 : decode cX8_count 109 = .ok (.getfield 41, 3) := by decide +kernel
theorem dX8_count_112 : decode cX8_count 112 = .ok (.invokevirtual 133, 3) := by decide +kernel
theorem dX8_count_115 : decode cX8_count 115 = .ok (.ireturn, 1) := by decide +kernel
theorem dX8_count_116 : decode cX8_count 116 = .ok (.aload_n 0, 1) := by decide +kernel
theorem dX8_count_117 : decode cX8_count 117 = .ok (.invokevirtual 303, 3) := by decide +kernel
theorem dX8_count_120 : decode cX8_count 120 = .ok (.ireturn, 1) := by decide +kernel
theorem dX8_count_121 : decode cX8_count 121 = .ok (.iconst (-1), 1) := by decide +kernel
theorem dX8_count_122 : decode cX8_count 122 = .ok (.ireturn, 1) := by decide +kernel
set_option maxRecDepth 20000 in
theorem ggX8_holdersInUse_X8_holderAt : GoodIn wsX8_holdersInUse wsX8_holderAt := goodIn_r _ [6, 7, 8, 12, 13, 14, 15, 16, 17, 18, 19, 20] (by decide +kernel) (by decide +kernel)
set_option maxRecDepth 20000 in
theorem gX8_holdersInUse_X8_holderAt : GoodIn wsX8_holdersInUse (wsV RX8 225 RX8 yX8_holderAt wsX8_holderAt) := goodIn_app (goodIn_of _ (by decide +kernel)) ggX8_holdersInUse_X8_holderAt
theorem dX8_holdersInUse_0 : decode cX8_holdersInUse 0 = .ok (.iconst 0, 1) := by decide +kernel
theorem dX8_holdersInUse_1 : decode cX8_holdersInUse 1 = .ok (.istore_n 1, 1) := by decide +kernel
theorem dX8_holdersInUse_2 : decode cX8_holdersInUse 2 = .ok (.iconst 0, 1) := by decide +kernel
theorem dX8_holdersInUse_3 : decode cX8_holdersInUse 3 = .ok (.istore_n 2, 1) := by decide +kernel
theorem dX8_holdersInUse_4 : decode cX8_holdersInUse 4 = .ok (.iload_n 2, 1) := by decide +kernel
theorem dX8_holdersInUse_5 : decode cX8_holdersInUse 5 = .ok (.bipush 6, 2) := by decide +kernel
theorem dX8_holdersInUse_7 : decode cX8_holdersInUse 7 = .ok (.if_icmp .ge 23, 3) := by decide +kernel
theorem dX8_holdersInUse_10 : decode cX8_holdersInUse 10 = .ok (.aload_n 0, 1) := by decide +kernel
theorem dX8_holdersInUse_11 : decode cX8_holdersInUse 11 = .ok (.iload_n 2, 1) := by decide +kernel
theorem dX8_holdersInUse_12 : decode cX8_holdersInUse 12 = .ok (.invokevirtual 225, 3) := by decide +kernel
theorem dX8_holdersInUse_15 : decode cX8_holdersInUse 15 = .ok (.getfield 229, 3) := by decide +kernel
theorem dX8_holdersInUse_18 : decode cX8_holdersInUse 18 = .ok (.ifCond .eq 6, 3) := by decide +kernel
theorem dX8_holdersInUse_21 : decode cX8_holdersInUse 21 = .ok (.iinc 1 1, 3) := by decide +kernel
theorem dX8_holdersInUse_24 : decode cX8_holdersInUse 24 = .ok (.iinc 2 1, 3) := by decide +kernel
theorem dX8_holdersInUse_27 : decode cX8_holdersInUse 27 = .ok (.goto (-23), 3) := by decide +kernel
theorem dX8_holdersInUse_30 : decode cX8_holdersInUse 30 = .ok (.iload_n 1, 1) := by decide +kernel
theorem dX8_holdersInUse_31 : decode cX8_holdersInUse 31 = .ok (.ireturn, 1) := by decide +kernel
theorem dX8_holderAt_0 : decode cX8_holderAt 0 = .ok (.iload_n 1, 1) := by decide +kernel
theorem dX8_holderAt_1 : decode cX8_holderAt 1 = .ok (.ifCond .lt 21, 3) := by decide +kernel
theorem dX8_holderAt_4 : decode cX8_holderAt 4 = .ok (.iload_n 1, 1) := by decide +kernel
theorem dX8_holderAt_5 : decode cX8_holderAt 5 = .ok (.aload_n 0, 1) := by decide +kernel
theorem dX8_holderAt_6 : decode cX8_holderAt 6 = .ok (.getfield 44, 3) := by decide +kernel
theorem dX8_holderAt_9 : decode cX8_holderAt 9 = .ok (.arraylength, 1) := by decide +kernel
theorem dX8_holderAt_10 : decode cX8_holderAt 10 = .ok (.if_icmp .ge 12, 3) := by decide +kernel
theorem dX8_holderAt_13 : decode cX8_holderAt 13 = .ok (.aload_n 0, 1) := by decide +kernel
theorem dX8_holderAt_14 : decode cX8_holderAt 14 = .ok (.getfield 44, 3) := by decide +kernel
theorem dX8_holderAt_17 : decode cX8_holderAt 17 = .ok (.iload_n 1, 1) := by decide +kernel
theorem dX8_holderAt_18 : decode cX8_holderAt 18 = .ok (.aaload, 1) := by decide +kernel
theorem dX8_holderAt_19 : decode cX8_holderAt 19 = .ok (.goto 7, 3) := by decide +kernel
theorem dX8_holderAt_22 : decode cX8_holderAt 22 = .ok (.aload_n 0, 1) := by decide +kernel
theorem dX8_holderAt_23 : decode cX8_holderAt 23 = .ok (.getfield 49, 3) := by decide +kernel
theorem dX8_holderAt_26 : decode cX8_holderAt 26 = .ok (.areturn, 1) := by decide +kernel
theorem dJ9_max_7cf53_0 : decode cJ9_max_7cf53 0 = .ok (.iload_n 0, 1) := by decide +kernel
theorem dJ9_max_7cf53_1 : decode cJ9_max_7cf53 1 = .ok (.iload_n 1, 1) := by decide +kernel
theorem dJ9_max_7cf53_2 : decode cJ9_max_7cf53 2 = .ok (.if_icmp .lt 7, 3) := by decide +kernel
theorem dJ9_max_7cf53_5 : decode cJ9_max_7cf53 5 = .ok (.iload_n 0, 1) := by decide +kernel
theorem dJ9_max_7cf53_6 : decode cJ9_max_7cf53 6 = .ok (.goto 4, 3) := by decide +kernel
theorem dJ9_max_7cf53_9 : decode cJ9_max_7cf53 9 = .ok (.iload_n 1, 1) := by decide +kernel
theorem dJ9_max_7cf53_10 : decode cJ9_max_7cf53 10 = .ok (.ireturn, 1) := by decide +kernel
theorem dJ9_min_7cf53_0 : decode cJ9_min_7cf53 0 = .ok (.iload_n 0, 1) := by decide +kernel
theorem dJ9_min_7cf53_1 : decode cJ9_min_7cf53 1 = .ok (.iload_n 1, 1) := by decide +kernel
theorem dJ9_min_7cf53_2 : decode cJ9_min_7cf53 2 = .ok (.if_icmp .gt 7, 3) := by decide +kernel
theorem dJ9_min_7cf53_5 : decode cJ9_min_7cf53 5 = .ok (.iload_n 0, 1) := by decide +kernel
theorem dJ9_min_7cf53_6 : decode cJ9_min_7cf53 6 = .ok (.goto 4, 3) := by decide +kernel
theorem dJ9_min_7cf53_9 : decode cJ9_min_7cf53 9 = .ok (.iload_n 1, 1) := by decide +kernel
theorem dJ9_min_7cf53_10 : decode cJ9_min_7cf53 10 = .ok (.ireturn, 1) := by decide +kernel
