set_option maxRecDepth 20000 in
theorem gL_act_X8_use : GoodIn wsL_act (wsV RL 40 RX8 yX8_use wsX8_use) := goodIn_app (goodIn_of _ (by decide +kernel)) ggL_act_X8_use
set_option maxRecDepth 20000 in
theorem gh_act_X8_look : GoodIn wsL_act [.code yX8_look cX8_look 2 (some .int)] := goodIn_r _ [338] (by decide +kernel) (by decide +kernel)
set_option maxRecDepth 20000 in
theorem g_act_wsX8_look_r1 : GoodIn wsL_act wsX8_look_r1 := goodIn_r _ [11, 339, 186, 187, 15, 188, 189, 48, 183, 115, 116, 117, 118, 47, 49, 50, 51, 52, 53, 54, 190, 191, 192, 58] (by decide +kernel) (by decide +kernel)
set_option maxRecDepth 20000 in
theorem g_act_wsX8_look_r2 : GoodIn wsL_act wsX8_look_r2 := goodIn_r _ [193, 61, 64, 149, 150, 151, 69, 152, 71, 153, 154, 155, 156, 90, 89, 194, 195, 196, 197, 60, 198, 171, 172, 173] (by decide +kernel) (by decide +kernel)
set_option maxRecDepth 20000 in
theorem g_act_wsX8_look_r3 : GoodIn wsL_act wsX8_look_r3 := goodIn_r _ [199, 200, 201, 202, 203, 204, 205, 206, 207, 208, 209, 210, 211, 67, 68, 70, 212, 213, 214, 215, 216, 217, 218, 219] (by decide +kernel) (by decide +kernel)
set_option maxRecDepth 20000 in
theorem g_act_wsX8_look_r4 : GoodIn wsL_act wsX8_look_r4 := goodIn_r _ [220, 221, 222, 85, 86, 87, 88, 223, 92, 93, 94, 224, 81, 82, 83, 62, 84, 91, 95, 96, 97, 98, 76, 225] (by decide +kernel) (by decide +kernel)
set_option maxRecDepth 20000 in
theorem g_act_wsX8_look_r5 : GoodIn wsL_act wsX8_look_r5 := goodIn_r _ [226, 227, 228, 229, 230, 231, 232, 22, 23, 24, 25, 26, 27, 233, 234, 235, 236, 237, 238, 239, 240, 31, 241, 34] (by decide +kernel) (by decide +kernel)
set_option maxRecDepth 20000 in
theorem g_act_wsX8_look_r6 : GoodIn wsL_act wsX8_look_r6 := goodIn_r _ [242, 243, 244, 37, 245, 246, 247, 248, 35, 249] (by decide +kernel) (by decide +kernel)
set_option maxRecDepth 20000 in
theorem ggL_act_X8_look : GoodIn wsL_act wsX8_look := goodIn_ca (a := []) gh_act_X8_look (goodIn_app (goodIn_app (goodIn_app (goodIn_app (goodIn_app (goodIn_app (goodIn_app g_act_wsX8_look_r1 (goodIn_app g_act_wsX8_look_r2 (goodIn_app g_act_wsX8_look_r3 (goodIn_app g_act_wsX8_look_r4 (goodIn_app g_act_wsX8_look_r5 g_act_wsX8_look_r6))))) gc_act_X8) gc_act_X2) gc_act_X7) gc_act_X4) gc_act_X0) gc_act_X3)
set_option maxRecDepth 20000 in
theorem gL_act_X8_look : GoodIn wsL_act (wsV RL 43 RX8 yX8_look wsX8_look) := goodIn_app (goodIn_of _ (by decide +kernel)) ggL_act_X8_look
set_option maxRecDepth 20000 in
theorem ggL_act_X8_days : GoodIn wsL_act wsX8_days := goodIn_r _ [343, 11, 344, 345, 346, 15, 347, 48, 377, 378, 379, 380, 381, 382, 383, 384, 385, 386, 387, 388, 389, 390, 391, 392, 393, 394, 395, 396] (by decide +kernel) (by decide +kernel)
set_option maxRecDepth 20000 in
theorem gL_act_X8_days : GoodIn wsL_act (wsV RL 46 RX8 yX8_days wsX8_days) := goodIn_app (goodIn_of _ (by decide +kernel)) ggL_act_X8_days
set_option maxRecDepth 20000 in
theorem gh_act_X8_wish : GoodIn wsL_act [.code yX8_wish cX8_wish 4 (some .int)] := goodIn_r _ [351] (by decide +kernel) (by decide +kernel)
set_option maxRecDepth 20000 in
theorem g_act_wsX8_wish_r1 : GoodIn wsL_act wsX8_wish_r1 := goodIn_r _ [11, 352, 353, 354, 15, 355, 111, 112, 113, 114, 17, 115, 116, 117, 118, 47, 22, 23, 24, 25, 26, 27, 318, 319] (by decide +kernel) (by decide +kernel)
set_option maxRecDepth 20000 in
theorem g_act_wsX8_wish_r2 : GoodIn wsL_act wsX8_wish_r2 := goodIn_r _ [320, 31, 321, 38, 356, 357, 358, 359] (by decide +kernel) (by decide +kernel)
set_option maxRecDepth 20000 in
theorem ggL_act_X8_wish : GoodIn wsL_act wsX8_wish := goodIn_ca (a := []) gh_act_X8_wish (goodIn_app (goodIn_app (goodIn_app (goodIn_app g_act_wsX8_wish_r1 g_act_wsX8_wish_r2) gc_act_X8) gc_act_X2) gc_act_X3)
set_option maxRecDepth 20000 in
theorem gL_act_X8_wish : GoodIn wsL_act (wsV RL 49 RX8 yX8_wish wsX8_wish) := goodIn_app (goodIn_of _ (by decide +kernel)) ggL_act_X8_wish
set_option maxRecDepth 20000 in
theorem ggL_act_X8_fund : GoodIn wsL_act wsX8_fund := goodIn_r _ [363, 11, 364, 365, 366, 15, 367, 368, 334, 243, 172, 244, 108, 183, 111, 112, 113, 114, 17, 22, 23, 24, 25, 26, 27, 377, 378, 379, 380, 381, 382, 383, 384, 385, 397, 398, 399, 400, 401, 402, 386, 387, 388, 389, 390, 391, 392, 393, 394, 395, 396] (by decide +kernel) (by decide +kernel)
set_option maxRecDepth 20000 in
theorem gL_act_X8_fund : GoodIn wsL_act (wsV RL 52 RX8 yX8_fund wsX8_fund) := goodIn_app (goodIn_of _ (by decide +kernel)) ggL_act_X8_fund
set_option maxRecDepth 20000 in
theorem gh_act_X8_waive : GoodIn wsL_act [.code yX8_waive cX8_waive 3 (some .int)] := goodIn_r _ [372] (by decide +kernel) (by decide +kernel)
set_option maxRecDepth 20000 in
theorem g_act_wsX8_waive_r1 : GoodIn wsL_act wsX8_waive_r1 := goodIn_r _ [11, 373, 374, 375, 15, 376, 144, 111, 112, 113, 114, 17, 115, 116, 117, 118, 47, 49, 50, 51, 52, 53, 54, 145] (by decide +kernel) (by decide +kernel)
set_option maxRecDepth 20000 in
theorem g_act_wsX8_waive_r2 : GoodIn wsL_act wsX8_waive_r2 := goodIn_r _ [146, 147, 58, 148, 65, 149, 150, 151, 69, 152, 71, 153, 154, 155, 156, 90, 89, 278, 279, 280, 281, 157] (by decide +kernel) (by decide +kernel)
set_option maxRecDepth 20000 in
theorem ggL_act_X8_waive : GoodIn wsL_act wsX8_waive := goodIn_ca (a := []) gh_act_X8_waive (goodIn_app (goodIn_app (goodIn_app (goodIn_app (goodIn_app g_act_wsX8_waive_r1 g_act_wsX8_waive_r2) gc_act_X8) gc_act_X7) gc_act_X2) gc_act_X4)
set_option maxRecDepth 20000 in
theorem gL_act_X8_waive : GoodIn wsL_act (wsV RL 55 RX8 yX8_waive wsX8_waive) := goodIn_app (goodIn_of _ (by decide +kernel)) ggL_act_X8_waive
