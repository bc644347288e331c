theorem gc_act_X8 : GoodIn wsL_act wsX80 := goodIn_sub (fun _ h => List.mem_cons_of_mem _ (List.mem_append_left _ (List.mem_append_left _ (List.mem_append_left _ (List.mem_append_left _ (List.mem_append_left _ (List.mem_append_right _ h))))))) (by decide +kernel)
theorem gc_act_X2 : GoodIn wsL_act wsX20 := goodIn_sub (fun _ h => List.mem_cons_of_mem _ (List.mem_append_left _ (List.mem_append_left _ (List.mem_append_left _ (List.mem_append_left _ (List.mem_append_right _ h)))))) (by decide +kernel)
theorem gc_act_X3 : GoodIn wsL_act wsX30 := goodIn_sub (fun _ h => List.mem_cons_of_mem _ (List.mem_append_left _ (List.mem_append_left _ (List.mem_append_left _ (List.mem_append_right _ h))))) (by decide +kernel)
theorem gc_act_X7 : GoodIn wsL_act wsX70 := goodIn_sub (fun _ h => List.mem_cons_of_mem _ (List.mem_append_left _ (List.mem_append_left _ (List.mem_append_right _ h)))) (by decide +kernel)
theorem gc_act_X4 : GoodIn wsL_act wsX40 := goodIn_sub (fun _ h => List.mem_cons_of_mem _ (List.mem_append_left _ (List.mem_append_right _ h))) (by decide +kernel)
theorem gc_act_X0 : GoodIn wsL_act wsX00 := goodIn_sub (fun _ h => List.mem_cons_of_mem _ (List.mem_append_right _ h)) (by decide +kernel)
set_option maxRecDepth 20000 in
theorem ggL_act_L_cell : GoodIn wsL_act wsL_cell := goodIn_r _ [5, 1] (by decide +kernel) (by decide +kernel)
set_option maxRecDepth 20000 in
theorem gL_act_L_cell : GoodIn wsL_act (va_wsS RL 8 yL_cell wsL_cell) := goodIn_app (goodIn_of _ (by decide +kernel)) ggL_act_L_cell
set_option maxRecDepth 20000 in
theorem gh_act_X8_person : GoodIn wsL_act [.code yX8_person cX8_person 3 (some .int)] := goodIn_r _ [10] (by decide +kernel) (by decide +kernel)
set_option maxRecDepth 20000 in
theorem g_act_wsX8_person_r1 : GoodIn wsL_act wsX8_person_r1 := goodIn_r _ [11, 12, 13, 14, 15, 16, 17, 18, 19, 20, 21, 22, 23, 24, 25, 26, 27, 28, 29, 30, 31, 32, 33, 34] (by decide +kernel) (by decide +kernel)
set_option maxRecDepth 20000 in
theorem g_act_wsX8_person_r2 : GoodIn wsL_act wsX8_person_r2 := goodIn_r _ [35, 36, 37, 38] (by decide +kernel) (by decide +kernel)
set_option maxRecDepth 20000 in
theorem ggL_act_X8_person : GoodIn wsL_act wsX8_person := goodIn_ca (a := []) gh_act_X8_person (goodIn_app (goodIn_app (goodIn_app (goodIn_app g_act_wsX8_person_r1 g_act_wsX8_person_r2) gc_act_X8) gc_act_X2) gc_act_X3)
set_option maxRecDepth 20000 in
theorem gL_act_X8_person : GoodIn wsL_act (wsV RL 14 RX8 yX8_person wsX8_person) := goodIn_app (goodIn_of _ (by decide +kernel)) ggL_act_X8_person
set_option maxRecDepth 20000 in
theorem gh_act_X8_tool : GoodIn wsL_act [.code yX8_tool cX8_tool 2 (some .int)] := goodIn_r _ [42] (by decide +kernel) (by decide +kernel)
set_option maxRecDepth 20000 in
theorem g_act_wsX8_tool_r1 : GoodIn wsL_act wsX8_tool_r1 := goodIn_r _ [11, 43, 44, 45, 15, 46, 47, 48, 49, 50, 51, 52, 53, 54, 55, 56, 57, 58, 59, 60, 61, 62, 63, 64] (by decide +kernel) (by decide +kernel)
set_option maxRecDepth 20000 in
theorem g_act_wsX8_tool_r2 : GoodIn wsL_act wsX8_tool_r2 := goodIn_r _ [65, 66, 67, 68, 69, 70, 71, 72, 73, 74, 75, 76, 77, 78, 79, 80, 81, 82, 83, 84, 85, 86, 87, 88] (by decide +kernel) (by decide +kernel)
set_option maxRecDepth 20000 in
theorem g_act_wsX8_tool_r3 : GoodIn wsL_act wsX8_tool_r3 := goodIn_r _ [89, 90, 91, 92, 93, 94, 95, 96, 97, 98] (by decide +kernel) (by decide +kernel)
set_option maxRecDepth 20000 in
theorem ggL_act_X8_tool : GoodIn wsL_act wsX8_tool := goodIn_ca (a := []) gh_act_X8_tool (goodIn_app (goodIn_app (goodIn_app (goodIn_app (goodIn_app g_act_wsX8_tool_r1 (goodIn_app g_act_wsX8_tool_r2 g_act_wsX8_tool_r3)) gc_act_X8) gc_act_X2) gc_act_X7) gc_act_X4)
set_option maxRecDepth 20000 in
theorem gL_act_X8_tool : GoodIn wsL_act (wsV RL 20 RX8 yX8_tool wsX8_tool) := goodIn_app (goodIn_of _ (by decide +kernel)) ggL_act_X8_tool
set_option maxRecDepth 20000 in
theorem gh_act_X8_lease : GoodIn wsL_act [.code yX8_lease cX8_lease 4 (some .int)] := goodIn_r _ [102] (by decide +kernel) (by decide +kernel)
set_option maxRecDepth 20000 in
theorem g_act_wsX8_lease_r1 : GoodIn wsL_act wsX8_lease_r1 := goodIn_r _ [11, 103, 104, 105, 15, 106, 107, 108, 109, 110, 111, 112, 113, 114, 17, 115, 116, 117, 118, 47, 49, 50, 51, 52] (by decide +kernel) (by decide +kernel)
set_option maxRecDepth 20000 in
theorem g_act_wsX8_lease_r2 : GoodIn wsL_act wsX8_lease_r2 := goodIn_r _ [53, 54, 119, 96, 97, 58, 98, 76, 120, 121, 122, 123, 124, 125, 22, 23, 24, 25, 26, 27, 126, 127, 128, 129] (by decide +kernel) (by decide +kernel)
set_option maxRecDepth 20000 in
theorem g_act_wsX8_lease_r3 : GoodIn wsL_act wsX8_lease_r3 := goodIn_r _ [130, 48, 131, 132, 133, 134, 77, 63, 62, 84, 85, 86, 69, 87, 71, 88, 89, 90, 91, 92, 93, 94] (by decide +kernel) (by decide +kernel)
set_option maxRecDepth 20000 in
theorem ggL_act_X8_lease : GoodIn wsL_act wsX8_lease := goodIn_ca (a := []) gh_act_X8_lease (goodIn_app (goodIn_app (goodIn_app (goodIn_app (goodIn_app (goodIn_app g_act_wsX8_lease_r1 (goodIn_app g_act_wsX8_lease_r2 g_act_wsX8_lease_r3)) gc_act_X8) gc_act_X7) gc_act_X3) gc_act_X2) gc_act_X4)
set_option maxRecDepth 20000 in
theorem gL_act_X8_lease : GoodIn wsL_act (wsV RL 24 RX8 yX8_lease wsX8_lease) := goodIn_app (goodIn_of _ (by decide +kernel)) ggL_act_X8_lease
set_option maxRecDepth 20000 in
theorem gh_act_X8_claim : GoodIn wsL_act [.code yX8_claim cX8_claim 4 (some .int)] := goodIn_r _ [138] (by decide +kernel) (by decide +kernel)
set_option maxRecDepth 20000 in
theorem g_act_wsX8_claim_r1 : GoodIn wsL_act wsX8_claim_r1 := goodIn_r _ [11, 139, 140, 141, 15, 142, 143, 144, 48, 111, 112, 113, 114, 17, 115, 116, 117, 118, 47, 49, 50, 51, 52, 53] (by decide +kernel) (by decide +kernel)
set_option maxRecDepth 20000 in
theorem g_act_wsX8_claim_r2 : GoodIn wsL_act wsX8_claim_r2 := goodIn_r _ [54, 145, 146, 147, 58, 148, 65, 149, 150, 151, 69, 152, 71, 153, 154, 155, 156, 90, 89, 157, 158, 159, 160, 161] (by decide +kernel) (by decide +kernel)
set_option maxRecDepth 20000 in
theorem g_act_wsX8_claim_r3 : GoodIn wsL_act wsX8_claim_r3 := goodIn_r _ [162, 163, 164, 165, 166, 167, 168, 169, 170, 171, 172, 173, 174, 85, 86, 87, 88, 91, 92, 93, 94] (by decide +kernel) (by decide +kernel)
set_option maxRecDepth 20000 in
theorem ggL_act_X8_claim : GoodIn wsL_act wsX8_claim := goodIn_ca (a := []) gh_act_X8_claim (goodIn_app (goodIn_app (goodIn_app (goodIn_app (goodIn_app g_act_wsX8_claim_r1 (goodIn_app g_act_wsX8_claim_r2 g_act_wsX8_claim_r3)) gc_act_X8) gc_act_X7) gc_act_X2) gc_act_X4)
set_option maxRecDepth 20000 in
theorem gL_act_X8_claim : GoodIn wsL_act (wsV RL 28 RX8 yX8_claim wsX8_claim) := goodIn_app (goodIn_of _ (by decide +kernel)) ggL_act_X8_claim
set_option maxRecDepth 20000 in
theorem gh_act_X8_returned : GoodIn wsL_act [.code yX8_returned cX8_returned 2 (some .int)] := goodIn_r _ [178] (by decide +kernel) (by decide +kernel)
set_option maxRecDepth 20000 in
theorem g_act_wsX8_returned_r1 : GoodIn wsL_act wsX8_returned_r1 := goodIn_r _ [11, 179, 180, 181, 15, 182, 143, 48, 183, 108, 130, 184, 115, 116, 117, 118, 47, 49, 50, 51, 52, 53, 54, 119] (by decide +kernel) (by decide +kernel)
set_option maxRecDepth 20000 in
theorem g_act_wsX8_returned_r2 : GoodIn wsL_act wsX8_returned_r2 := goodIn_r _ [96, 97, 58, 98, 76, 185, 186, 187, 188, 189, 190, 191, 192, 193, 61, 64, 149, 150, 151, 69, 152, 71, 153, 154] (by decide +kernel) (by decide +kernel)
set_option maxRecDepth 20000 in
theorem g_act_wsX8_returned_r3 : GoodIn wsL_act wsX8_returned_r3 := goodIn_r _ [155, 156, 90, 89, 194, 195, 196, 197, 60, 198, 171, 172, 173, 199, 200, 201, 202, 203, 204, 205, 206, 207, 208, 209] (by decide +kernel) (by decide +kernel)
set_option maxRecDepth 20000 in
theorem g_act_wsX8_returned_r4 : GoodIn wsL_act wsX8_returned_r4 := goodIn_r _ [210, 211, 67, 68, 70, 212, 213, 214, 215, 216, 217, 218, 219, 220, 221, 222, 85, 86, 87, 88, 223, 92, 93, 94] (by decide +kernel) (by decide +kernel)
set_option maxRecDepth 20000 in
theorem g_act_wsX8_returned_r5 : GoodIn wsL_act wsX8_returned_r5 := goodIn_r _ [224, 81, 82, 83, 62, 84, 91, 95, 225, 226, 227, 228, 229, 230, 231, 232, 22, 23, 24, 25, 26, 27, 233, 234] (by decide +kernel) (by decide +kernel)
set_option maxRecDepth 20000 in
theorem g_act_wsX8_returned_r6 : GoodIn wsL_act wsX8_returned_r6 := goodIn_r _ [235, 236, 237, 238, 239, 240, 31, 241, 34, 242, 243, 244, 37, 245, 246, 247, 248, 35, 249, 250, 251, 252, 253, 79] (by decide +kernel) (by decide +kernel)
set_option maxRecDepth 20000 in
theorem g_act_wsX8_returned_r7 : GoodIn wsL_act wsX8_returned_r7 := goodIn_r _ [254, 255, 256, 257, 258, 78, 259, 260, 261, 262, 263, 264, 265, 266, 267, 63, 268, 73, 74, 75, 77, 269, 270, 271] (by decide +kernel) (by decide +kernel)
set_option maxRecDepth 20000 in
theorem g_act_wsX8_returned_r8 : GoodIn wsL_act wsX8_returned_r8 := goodIn_r _ [272, 144, 273, 274, 275, 276, 107, 109, 157, 277, 278, 279, 280, 281, 126, 127, 128, 129, 110, 131, 132, 133, 134] (by decide +kernel) (by decide +kernel)
set_option maxRecDepth 20000 in
theorem ggL_act_X8_returned : GoodIn wsL_act wsX8_returned := goodIn_ca (a := []) gh_act_X8_returned (goodIn_app (goodIn_app (goodIn_app (goodIn_app (goodIn_app (goodIn_app (goodIn_app g_act_wsX8_returned_r1 (goodIn_app g_act_wsX8_returned_r2 (goodIn_app g_act_wsX8_returned_r3 (goodIn_app g_act_wsX8_returned_r4 (goodIn_app g_act_wsX8_returned_r5 (goodIn_app g_act_wsX8_returned_r6 (goodIn_app g_act_wsX8_returned_r7 g_act_wsX8_returned_r8))))))) gc_act_X8) gc_act_X7) gc_act_X2) gc_act_X3) gc_act_X4) gc_act_X0)
set_option maxRecDepth 20000 in
theorem gL_act_X8_returned : GoodIn wsL_act (wsV RL 31 RX8 yX8_returned wsX8_returned) := goodIn_app (goodIn_of _ (by decide +kernel)) ggL_act_X8_returned
set_option maxRecDepth 20000 in
theorem gh_act_X8_pass : GoodIn wsL_act [.code yX8_pass cX8_pass 3 (some .int)] := goodIn_r _ [285] (by decide +kernel) (by decide +kernel)
set_option maxRecDepth 20000 in
theorem g_act_wsX8_pass_r1 : GoodIn wsL_act wsX8_pass_r1 := goodIn_r _ [11, 286, 287, 288, 15, 289, 143, 108, 115, 116, 117, 118, 47, 111, 112, 113, 114, 17, 49, 50, 51, 52, 53, 54] (by decide +kernel) (by decide +kernel)
set_option maxRecDepth 20000 in
theorem g_act_wsX8_pass_r2 : GoodIn wsL_act wsX8_pass_r2 := goodIn_r _ [119, 96, 97, 58, 98, 76, 22, 23, 24, 25, 26, 27, 290, 291, 292, 293, 48, 110, 130, 120, 121, 122, 123, 124] (by decide +kernel) (by decide +kernel)
set_option maxRecDepth 20000 in
theorem g_act_wsX8_pass_r3 : GoodIn wsL_act wsX8_pass_r3 := goodIn_r _ [125, 294, 295, 296, 297, 264, 265, 266, 267, 63, 149, 150, 151, 69, 152, 71, 91, 92, 93, 94, 90, 89, 131, 132] (by decide +kernel) (by decide +kernel)
set_option maxRecDepth 20000 in
theorem g_act_wsX8_pass_r4 : GoodIn wsL_act wsX8_pass_r4 := goodIn_r _ [133, 134, 77, 62, 84, 85, 86, 87, 88] (by decide +kernel) (by decide +kernel)
set_option maxRecDepth 20000 in
theorem ggL_act_X8_pass : GoodIn wsL_act wsX8_pass := goodIn_ca (a := []) gh_act_X8_pass (goodIn_app (goodIn_app (goodIn_app (goodIn_app (goodIn_app (goodIn_app g_act_wsX8_pass_r1 (goodIn_app g_act_wsX8_pass_r2 (goodIn_app g_act_wsX8_pass_r3 g_act_wsX8_pass_r4))) gc_act_X8) gc_act_X7) gc_act_X3) gc_act_X2) gc_act_X4)
set_option maxRecDepth 20000 in
theorem gL_act_X8_pass : GoodIn wsL_act (wsV RL 34 RX8 yX8_pass wsX8_pass) := goodIn_app (goodIn_of _ (by decide +kernel)) ggL_act_X8_pass
set_option maxRecDepth 20000 in
theorem gh_act_X8_swap : GoodIn wsL_act [.code yX8_swap cX8_swap 3 (some .int)] := goodIn_r _ [301] (by decide +kernel) (by decide +kernel)
set_option maxRecDepth 20000 in
theorem g_act_wsX8_swap_r1 : GoodIn wsL_act wsX8_swap_r1 := goodIn_r _ [11, 302, 303, 304, 15, 305, 143, 306, 307, 308, 309, 115, 116, 117, 118, 47, 49, 50, 51, 52, 53, 54, 119, 96] (by decide +kernel) (by decide +kernel)
set_option maxRecDepth 20000 in
theorem g_act_wsX8_swap_r2 : GoodIn wsL_act wsX8_swap_r2 := goodIn_r _ [97, 58, 98, 76, 310, 311, 312, 313, 314, 315, 316, 317, 22, 23, 24, 25, 26, 27, 318, 319, 320, 31, 321, 38] (by decide +kernel) (by decide +kernel)
set_option maxRecDepth 20000 in
theorem g_act_wsX8_swap_r3 : GoodIn wsL_act wsX8_swap_r3 := goodIn_r _ [120, 121, 122, 123, 124, 125, 322, 323, 324, 325, 108, 130, 290, 291, 292, 293, 48, 110, 294, 295, 296, 297, 264, 265] (by decide +kernel) (by decide +kernel)
set_option maxRecDepth 20000 in
theorem g_act_wsX8_swap_r4 : GoodIn wsL_act wsX8_swap_r4 := goodIn_r _ [266, 267, 63, 149, 150, 151, 69, 152, 71, 91, 92, 93, 94, 90, 89, 131, 132, 133, 134, 77, 62, 84, 85, 86] (by decide +kernel) (by decide +kernel)
set_option maxRecDepth 20000 in
theorem g_act_wsX8_swap_r5 : GoodIn wsL_act wsX8_swap_r5 := goodIn_r _ [87, 88] (by decide +kernel) (by decide +kernel)
set_option maxRecDepth 20000 in
theorem ggL_act_X8_swap : GoodIn wsL_act wsX8_swap := goodIn_ca (a := []) gh_act_X8_swap (goodIn_app (goodIn_app (goodIn_app (goodIn_app (goodIn_app (goodIn_app g_act_wsX8_swap_r1 (goodIn_app g_act_wsX8_swap_r2 (goodIn_app g_act_wsX8_swap_r3 (goodIn_app g_act_wsX8_swap_r4 g_act_wsX8_swap_r5)))) gc_act_X8) gc_act_X7) gc_act_X2) gc_act_X3) gc_act_X4)
set_option maxRecDepth 20000 in
theorem gL_act_X8_swap : GoodIn wsL_act (wsV RL 37 RX8 yX8_swap wsX8_swap) := goodIn_app (goodIn_of _ (by decide +kernel)) ggL_act_X8_swap
set_option maxRecDepth 20000 in
theorem gh_act_X8_use : GoodIn wsL_act [.code yX8_use cX8_use 3 (some .int)] := goodIn_r _ [329] (by decide +kernel) (by decide +kernel)
set_option maxRecDepth 20000 in
theorem g_act_wsX8_use_r1 : GoodIn wsL_act wsX8_use_r1 := goodIn_r _ [11, 330, 331, 332, 15, 333, 107, 334, 243, 172, 244, 115, 116, 117, 118, 47, 49, 50, 51, 52, 53, 54, 119, 96] (by decide +kernel) (by decide +kernel)
set_option maxRecDepth 20000 in
theorem g_act_wsX8_use_r2 : GoodIn wsL_act wsX8_use_r2 := goodIn_r _ [97, 58, 98, 76] (by decide +kernel) (by decide +kernel)
set_option maxRecDepth 20000 in
theorem ggL_act_X8_use : GoodIn wsL_act wsX8_use := goodIn_ca (a := []) gh_act_X8_use (goodIn_app (goodIn_app (goodIn_app (goodIn_app g_act_wsX8_use_r1 g_act_wsX8_use_r2) gc_act_X8) gc_act_X7) gc_act_X2)
