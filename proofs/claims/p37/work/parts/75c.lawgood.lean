theorem gc_isFair_X8 : GoodIn wsL_isFair wsX80 := goodIn_sub (fun _ h => List.mem_cons_of_mem _ (List.mem_append_left _ (List.mem_append_left _ (List.mem_append_left _ (List.mem_append_left _ (List.mem_append_left _ (List.mem_append_left _ (List.mem_append_right _ h)))))))) (by decide +kernel)
theorem gc_isFair_X2 : GoodIn wsL_isFair wsX20 := goodIn_sub (fun _ h => List.mem_cons_of_mem _ (List.mem_append_left _ (List.mem_append_left _ (List.mem_append_left _ (List.mem_append_left _ (List.mem_append_left _ (List.mem_append_right _ h))))))) (by decide +kernel)
theorem gc_isFair_X6 : GoodIn wsL_isFair wsX60 := goodIn_sub (fun _ h => List.mem_cons_of_mem _ (List.mem_append_left _ (List.mem_append_left _ (List.mem_append_left _ (List.mem_append_left _ (List.mem_append_right _ h)))))) (by decide +kernel)
theorem gc_isFair_X7 : GoodIn wsL_isFair wsX70 := goodIn_sub (fun _ h => List.mem_cons_of_mem _ (List.mem_append_left _ (List.mem_append_left _ (List.mem_append_left _ (List.mem_append_right _ h))))) (by decide +kernel)
theorem gc_isFair_X4 : GoodIn wsL_isFair wsX40 := goodIn_sub (fun _ h => List.mem_cons_of_mem _ (List.mem_append_left _ (List.mem_append_left _ (List.mem_append_right _ h)))) (by decide +kernel)
theorem gc_isFair_X3 : GoodIn wsL_isFair wsX30 := goodIn_sub (fun _ h => List.mem_cons_of_mem _ (List.mem_append_left _ (List.mem_append_right _ h))) (by decide +kernel)
theorem gc_isFair_X1 : GoodIn wsL_isFair wsX10 := goodIn_sub (fun _ h => List.mem_cons_of_mem _ (List.mem_append_right _ h)) (by decide +kernel)
set_option maxRecDepth 20000 in
theorem gh_isFair_X8_count : GoodIn wsL_isFair [.code yX8_count cX8_count 2 (some .int)] := goodIn_r _ [5] (by decide +kernel) (by decide +kernel)
set_option maxRecDepth 20000 in
theorem g_isFair_wsX8_count_r1 : GoodIn wsL_isFair wsX8_count_r1 := goodIn_r _ [6, 7, 8, 9, 10, 11, 12, 13, 14, 15, 16, 17, 18, 19, 20, 21, 22, 23, 24, 25, 26, 27, 28, 29] (by decide +kernel) (by decide +kernel)
set_option maxRecDepth 20000 in
theorem g_isFair_wsX8_count_r2 : GoodIn wsL_isFair wsX8_count_r2 := goodIn_r _ [30, 31, 32, 33, 34, 35, 36, 37, 38, 39, 40, 41, 42, 43, 44, 45, 46, 47, 48, 49, 50, 51, 52, 53] (by decide +kernel) (by decide +kernel)
set_option maxRecDepth 20000 in
theorem g_isFair_wsX8_count_r3 : GoodIn wsL_isFair wsX8_count_r3 := goodIn_r _ [54, 55, 56, 57, 58, 59, 4, 60, 61, 62, 63, 64, 65, 66, 67] (by decide +kernel) (by decide +kernel)
set_option maxRecDepth 20000 in
theorem ggL_isFair_X8_count : GoodIn wsL_isFair wsX8_count := goodIn_ca (a := []) gh_isFair_X8_count (goodIn_app (goodIn_app (goodIn_app (goodIn_app (goodIn_app (goodIn_app (goodIn_app (goodIn_app g_isFair_wsX8_count_r1 (goodIn_app g_isFair_wsX8_count_r2 g_isFair_wsX8_count_r3)) gc_isFair_X8) gc_isFair_X2) gc_isFair_X6) gc_isFair_X7) gc_isFair_X4) gc_isFair_X3) gc_isFair_X1)
set_option maxRecDepth 20000 in
theorem gL_isFair_X8_count : GoodIn wsL_isFair (wsV RL 58 RX8 yX8_count wsX8_count) := goodIn_app (goodIn_of _ (by decide +kernel)) ggL_isFair_X8_count
set_option maxRecDepth 20000 in
theorem gh_isFair_X8_personOf : GoodIn wsL_isFair [.code yX8_personOf cX8_personOf 4 (some .int)] := goodIn_r _ [71] (by decide +kernel) (by decide +kernel)
set_option maxRecDepth 20000 in
theorem g_isFair_wsX8_personOf_r1 : GoodIn wsL_isFair wsX8_personOf_r1 := goodIn_r _ [6, 72, 73, 74, 75, 76, 77, 78, 79, 23, 80, 81, 82, 51, 52, 53, 54, 55, 83, 84, 85, 86, 87, 88] (by decide +kernel) (by decide +kernel)
set_option maxRecDepth 20000 in
theorem g_isFair_wsX8_personOf_r2 : GoodIn wsL_isFair wsX8_personOf_r2 := goodIn_r _ [89, 21, 22, 24, 25, 26, 90, 91, 92, 93, 94, 95, 96, 97, 98, 99, 100, 101, 102, 103, 104, 105, 106, 107] (by decide +kernel) (by decide +kernel)
set_option maxRecDepth 20000 in
theorem g_isFair_wsX8_personOf_r3 : GoodIn wsL_isFair wsX8_personOf_r3 := goodIn_r _ [108, 109, 110, 111, 112, 113, 30, 114, 115, 116, 39, 40, 41, 42, 43, 117, 118, 119, 120, 121, 122] (by decide +kernel) (by decide +kernel)
set_option maxRecDepth 20000 in
theorem ggL_isFair_X8_personOf : GoodIn wsL_isFair wsX8_personOf := goodIn_ca (a := []) gh_isFair_X8_personOf (goodIn_app (goodIn_app (goodIn_app (goodIn_app (goodIn_app (goodIn_app g_isFair_wsX8_personOf_r1 (goodIn_app g_isFair_wsX8_personOf_r2 g_isFair_wsX8_personOf_r3)) gc_isFair_X8) gc_isFair_X3) gc_isFair_X2) gc_isFair_X7) gc_isFair_X4)
set_option maxRecDepth 20000 in
theorem gL_isFair_X8_personOf : GoodIn wsL_isFair (wsV RL 61 RX8 yX8_personOf wsX8_personOf) := goodIn_app (goodIn_of _ (by decide +kernel)) ggL_isFair_X8_personOf
set_option maxRecDepth 20000 in
theorem gh_isFair_X8_ranked : GoodIn wsL_isFair [.code yX8_ranked cX8_ranked 2 (some .int)] := goodIn_r _ [126] (by decide +kernel) (by decide +kernel)
set_option maxRecDepth 20000 in
theorem g_isFair_wsX8_ranked_r1 : GoodIn wsL_isFair wsX8_ranked_r1 := goodIn_r _ [6, 127, 128, 129, 23, 130, 81, 131, 91, 92, 93, 94, 51, 52, 53, 54, 55, 95, 96, 97, 98, 99, 100, 101] (by decide +kernel) (by decide +kernel)
set_option maxRecDepth 20000 in
theorem g_isFair_wsX8_ranked_r2 : GoodIn wsL_isFair wsX8_ranked_r2 := goodIn_r _ [102, 103, 104, 105, 106] (by decide +kernel) (by decide +kernel)
set_option maxRecDepth 20000 in
theorem ggL_isFair_X8_ranked : GoodIn wsL_isFair wsX8_ranked := goodIn_ca (a := []) gh_isFair_X8_ranked (goodIn_app (goodIn_app (goodIn_app (goodIn_app g_isFair_wsX8_ranked_r1 g_isFair_wsX8_ranked_r2) gc_isFair_X8) gc_isFair_X2) gc_isFair_X3)
set_option maxRecDepth 20000 in
theorem gL_isFair_X8_ranked : GoodIn wsL_isFair (wsV RL 64 RX8 yX8_ranked wsX8_ranked) := goodIn_app (goodIn_of _ (by decide +kernel)) ggL_isFair_X8_ranked
set_option maxRecDepth 20000 in
theorem gh_isFair_X8_toolOf : GoodIn wsL_isFair [.code yX8_toolOf cX8_toolOf 4 (some .int)] := goodIn_r _ [135] (by decide +kernel) (by decide +kernel)
set_option maxRecDepth 20000 in
theorem g_isFair_wsX8_toolOf_r1 : GoodIn wsL_isFair wsX8_toolOf_r1 := goodIn_r _ [6, 136, 137, 138, 139, 140, 141, 142, 143, 144, 145, 146, 147, 23, 148, 87, 149, 21, 22, 24, 25, 26, 56, 39] (by decide +kernel) (by decide +kernel)
set_option maxRecDepth 20000 in
theorem g_isFair_wsX8_toolOf_r2 : GoodIn wsL_isFair wsX8_toolOf_r2 := goodIn_r _ [40, 41, 42, 43] (by decide +kernel) (by decide +kernel)
set_option maxRecDepth 20000 in
theorem ggL_isFair_X8_toolOf : GoodIn wsL_isFair wsX8_toolOf := goodIn_ca (a := []) gh_isFair_X8_toolOf (goodIn_app (goodIn_app (goodIn_app (goodIn_app (goodIn_app g_isFair_wsX8_toolOf_r1 g_isFair_wsX8_toolOf_r2) gc_isFair_X8) gc_isFair_X7) gc_isFair_X2) gc_isFair_X4)
set_option maxRecDepth 20000 in
theorem gL_isFair_X8_toolOf : GoodIn wsL_isFair (wsV RL 67 RX8 yX8_toolOf wsX8_toolOf) := goodIn_app (goodIn_of _ (by decide +kernel)) ggL_isFair_X8_toolOf
set_option maxRecDepth 20000 in
theorem gh_isFair_X8_link : GoodIn wsL_isFair [.code yX8_link cX8_link 4 (some .int)] := goodIn_r _ [153] (by decide +kernel) (by decide +kernel)
set_option maxRecDepth 20000 in
theorem g_isFair_wsX8_link_r1 : GoodIn wsL_isFair wsX8_link_r1 := goodIn_r _ [6, 143, 145, 146, 147, 23, 148, 87, 149, 21, 22, 24, 25, 26, 154, 155, 4, 156, 56, 39, 40, 41, 42, 43] (by decide +kernel) (by decide +kernel)
set_option maxRecDepth 20000 in
theorem g_isFair_wsX8_link_r2 : GoodIn wsL_isFair wsX8_link_r2 := goodIn_r _ [157, 118, 119, 120, 121, 122] (by decide +kernel) (by decide +kernel)
set_option maxRecDepth 20000 in
theorem ggL_isFair_X8_link : GoodIn wsL_isFair wsX8_link := goodIn_ca (a := []) gh_isFair_X8_link (goodIn_app (goodIn_app (goodIn_app (goodIn_app (goodIn_app g_isFair_wsX8_link_r1 g_isFair_wsX8_link_r2) gc_isFair_X8) gc_isFair_X7) gc_isFair_X2) gc_isFair_X4)
set_option maxRecDepth 20000 in
theorem gL_isFair_X8_link : GoodIn wsL_isFair (wsV RL 70 RX8 yX8_link wsX8_link) := goodIn_app (goodIn_of _ (by decide +kernel)) ggL_isFair_X8_link
set_option maxRecDepth 20000 in
theorem gh_isFair_X8_swaps : GoodIn wsL_isFair [.code yX8_swaps cX8_swaps 2 (some .int)] := goodIn_r _ [161] (by decide +kernel) (by decide +kernel)
set_option maxRecDepth 20000 in
theorem g_isFair_wsX8_swaps_r1 : GoodIn wsL_isFair wsX8_swaps_r1 := goodIn_r _ [9, 162, 163, 164, 16, 165, 18, 19, 166, 167, 168, 169, 170, 171, 172, 23, 173, 88, 174, 146, 147, 148, 87, 89] (by decide +kernel) (by decide +kernel)
set_option maxRecDepth 20000 in
theorem g_isFair_wsX8_swaps_r2 : GoodIn wsL_isFair wsX8_swaps_r2 := goodIn_r _ [21, 22, 24, 25, 26, 175, 28, 29, 30, 31, 32, 176, 177, 178, 179, 180, 181, 182, 183, 94, 51, 52, 53, 54] (by decide +kernel) (by decide +kernel)
set_option maxRecDepth 20000 in
theorem g_isFair_wsX8_swaps_r3 : GoodIn wsL_isFair wsX8_swaps_r3 := goodIn_r _ [55, 184, 185, 186, 98, 187, 188, 189, 190, 191, 192, 193, 194, 195, 196, 197, 198, 199, 200, 201, 202, 203, 204, 205] (by decide +kernel) (by decide +kernel)
set_option maxRecDepth 20000 in
theorem g_isFair_wsX8_swaps_r4 : GoodIn wsL_isFair wsX8_swaps_r4 := goodIn_r _ [206, 207, 208, 209, 210, 211, 212, 213, 214, 215, 216, 217, 218, 219, 220, 221, 222, 48, 223, 224, 50, 20] (by decide +kernel) (by decide +kernel)
set_option maxRecDepth 20000 in
theorem ggL_isFair_X8_swaps : GoodIn wsL_isFair wsX8_swaps := goodIn_ca (a := []) gh_isFair_X8_swaps (goodIn_app (goodIn_app (goodIn_app (goodIn_app (goodIn_app (goodIn_app g_isFair_wsX8_swaps_r1 (goodIn_app g_isFair_wsX8_swaps_r2 (goodIn_app g_isFair_wsX8_swaps_r3 g_isFair_wsX8_swaps_r4))) gc_isFair_X8) gc_isFair_X6) gc_isFair_X2) gc_isFair_X7) gc_isFair_X3)
set_option maxRecDepth 20000 in
theorem gL_isFair_X8_swaps : GoodIn wsL_isFair (wsV RL 73 RX8 yX8_swaps wsX8_swaps) := goodIn_app (goodIn_of _ (by decide +kernel)) ggL_isFair_X8_swaps
