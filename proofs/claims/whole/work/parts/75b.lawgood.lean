set_option maxRecDepth 20000 in
theorem gL_law_X9_personOf : GoodIn wsL_law (wsV RL 35 RX9 yX9_personOf wsX9_personOf) := goodIn_app (goodIn_of _ (by decide +kernel)) ggL_law_X9_personOf
set_option maxRecDepth 20000 in
theorem gh_X8_toolOf : GoodIn wsL_law [.code yX8_toolOf cX8_toolOf 4 (some .int)] := goodIn_r _ [367] (by decide +kernel) (by decide +kernel)
set_option maxRecDepth 20000 in
theorem g_wsX8_toolOf_r1 : GoodIn wsL_law wsX8_toolOf_r1 := goodIn_r _ [17, 368, 369, 370, 371, 372, 373, 374, 375, 376, 377, 252, 253, 20, 254, 173, 378, 176, 177, 178, 50, 56, 379, 330] (by decide +kernel) (by decide +kernel)
set_option maxRecDepth 20000 in
theorem g_wsX8_toolOf_r2 : GoodIn wsL_law wsX8_toolOf_r2 := goodIn_r _ [331, 69, 332, 190] (by decide +kernel) (by decide +kernel)
set_option maxRecDepth 20000 in
theorem ggL_law_X8_toolOf : GoodIn wsL_law wsX8_toolOf := goodIn_ca (a := []) gh_X8_toolOf (goodIn_app (goodIn_app (goodIn_app (goodIn_app (goodIn_app g_wsX8_toolOf_r1 g_wsX8_toolOf_r2) gcX8) gcX7) gcX2) gcX4)
set_option maxRecDepth 20000 in
theorem gL_law_X8_toolOf : GoodIn wsL_law (wsV RL 36 RX8 yX8_toolOf wsX8_toolOf) := goodIn_app (goodIn_of _ (by decide +kernel)) ggL_law_X8_toolOf
set_option maxRecDepth 20000 in
theorem ggL_law_X9_toolOf : GoodIn wsL_law wsX9_toolOf := goodIn_r _ [383, 271, 272, 273, 5, 274, 109, 154, 155, 156, 235, 236, 237, 238, 231, 232, 233, 234, 1169, 1170, 1171, 1172, 1173, 1174, 1175, 1176, 1177, 1178, 1179, 1180, 1181, 1182, 1183, 1184] (by decide +kernel) (by decide +kernel)
set_option maxRecDepth 20000 in
theorem gL_law_X9_toolOf : GoodIn wsL_law (wsV RL 39 RX9 yX9_toolOf wsX9_toolOf) := goodIn_app (goodIn_of _ (by decide +kernel)) ggL_law_X9_toolOf
set_option maxRecDepth 20000 in
theorem gh_X8_link : GoodIn wsL_law [.code yX8_link cX8_link 4 (some .int)] := goodIn_r _ [387] (by decide +kernel) (by decide +kernel)
set_option maxRecDepth 20000 in
theorem g_wsX8_link_r1 : GoodIn wsL_law wsX8_link_r1 := goodIn_r _ [17, 375, 377, 252, 253, 20, 254, 173, 378, 176, 177, 178, 50, 56, 388, 389, 2, 390, 379, 330, 331, 69, 332, 190] (by decide +kernel) (by decide +kernel)
set_option maxRecDepth 20000 in
theorem g_wsX8_link_r2 : GoodIn wsL_law wsX8_link_r2 := goodIn_r _ [391, 334, 335, 336, 78, 83] (by decide +kernel) (by decide +kernel)
set_option maxRecDepth 20000 in
theorem ggL_law_X8_link : GoodIn wsL_law wsX8_link := goodIn_ca (a := []) gh_X8_link (goodIn_app (goodIn_app (goodIn_app (goodIn_app (goodIn_app g_wsX8_link_r1 g_wsX8_link_r2) gcX8) gcX7) gcX2) gcX4)
set_option maxRecDepth 20000 in
theorem gL_law_X8_link : GoodIn wsL_law (wsV RL 40 RX8 yX8_link wsX8_link) := goodIn_app (goodIn_of _ (by decide +kernel)) ggL_law_X8_link
set_option maxRecDepth 20000 in
theorem ggL_law_X9_link : GoodIn wsL_law wsX9_link := goodIn_r _ [395, 271, 272, 273, 5, 274, 109, 154, 155, 156, 231, 232, 233, 234, 1169, 1170, 1171, 1172, 1173, 1174, 1175, 1176, 1177, 1178, 1179, 1180, 1181, 1182, 1183, 1184] (by decide +kernel) (by decide +kernel)
set_option maxRecDepth 20000 in
theorem gL_law_X9_link : GoodIn wsL_law (wsV RL 43 RX9 yX9_link wsX9_link) := goodIn_app (goodIn_of _ (by decide +kernel)) ggL_law_X9_link
set_option maxRecDepth 20000 in
theorem gh_X8_seen : GoodIn wsL_law [.code yX8_seen cX8_seen 4 (some .int)] := goodIn_r _ [399] (by decide +kernel) (by decide +kernel)
set_option maxRecDepth 20000 in
theorem g_wsX8_seen_r1 : GoodIn wsL_law wsX8_seen_r1 := goodIn_r _ [17, 376, 377, 252, 253, 20, 254, 173, 378, 176, 177, 178, 50, 56, 388, 389, 2, 390, 379, 330, 331, 69, 332, 190] (by decide +kernel) (by decide +kernel)
set_option maxRecDepth 20000 in
theorem g_wsX8_seen_r2 : GoodIn wsL_law wsX8_seen_r2 := goodIn_r _ [391, 334, 335, 336, 78, 83] (by decide +kernel) (by decide +kernel)
set_option maxRecDepth 20000 in
theorem ggL_law_X8_seen : GoodIn wsL_law wsX8_seen := goodIn_ca (a := []) gh_X8_seen (goodIn_app (goodIn_app (goodIn_app (goodIn_app (goodIn_app g_wsX8_seen_r1 g_wsX8_seen_r2) gcX8) gcX7) gcX2) gcX4)
set_option maxRecDepth 20000 in
theorem gL_law_X8_seen : GoodIn wsL_law (wsV RL 44 RX8 yX8_seen wsX8_seen) := goodIn_app (goodIn_of _ (by decide +kernel)) ggL_law_X8_seen
set_option maxRecDepth 20000 in
theorem ggL_law_X9_seen : GoodIn wsL_law wsX9_seen := goodIn_r _ [403, 271, 272, 273, 5, 274, 109, 154, 155, 156, 231, 232, 233, 234, 1169, 1170, 1171, 1172, 1173, 1174, 1175, 1176, 1177, 1178, 1179, 1180, 1181, 1182, 1183, 1184] (by decide +kernel) (by decide +kernel)
set_option maxRecDepth 20000 in
theorem gL_law_X9_seen : GoodIn wsL_law (wsV RL 47 RX9 yX9_seen wsX9_seen) := goodIn_app (goodIn_of _ (by decide +kernel)) ggL_law_X9_seen
set_option maxRecDepth 20000 in
theorem gh_X8_claimOf : GoodIn wsL_law [.code yX8_claimOf cX8_claimOf 4 (some .int)] := goodIn_r _ [407] (by decide +kernel) (by decide +kernel)
set_option maxRecDepth 20000 in
theorem g_wsX8_claimOf_r1 : GoodIn wsL_law wsX8_claimOf_r1 := goodIn_r _ [17, 374, 377, 252, 253, 20, 254, 173, 378, 176, 177, 178, 50, 56, 388, 389, 2, 390, 379, 330, 331, 69, 332, 190] (by decide +kernel) (by decide +kernel)
set_option maxRecDepth 20000 in
theorem g_wsX8_claimOf_r2 : GoodIn wsL_law wsX8_claimOf_r2 := goodIn_r _ [391, 334, 335, 336, 78, 83] (by decide +kernel) (by decide +kernel)
set_option maxRecDepth 20000 in
theorem ggL_law_X8_claimOf : GoodIn wsL_law wsX8_claimOf := goodIn_ca (a := []) gh_X8_claimOf (goodIn_app (goodIn_app (goodIn_app (goodIn_app (goodIn_app g_wsX8_claimOf_r1 g_wsX8_claimOf_r2) gcX8) gcX7) gcX2) gcX4)
set_option maxRecDepth 20000 in
theorem gL_law_X8_claimOf : GoodIn wsL_law (wsV RL 48 RX8 yX8_claimOf wsX8_claimOf) := goodIn_app (goodIn_of _ (by decide +kernel)) ggL_law_X8_claimOf
set_option maxRecDepth 20000 in
theorem gh_X9_claimOf : GoodIn wsL_law [.code yX9_claimOf cX9_claimOf 5 (some .int)] := goodIn_r _ [411] (by decide +kernel) (by decide +kernel)
set_option maxRecDepth 20000 in
theorem g_wsX9_claimOf_r1 : GoodIn wsL_law wsX9_claimOf_r1 := goodIn_r _ [271, 272, 273, 5, 274, 109, 154, 155, 156, 412, 413, 414, 415, 231, 232, 233, 234, 416, 417, 418, 419, 420, 421, 422] (by decide +kernel) (by decide +kernel)
set_option maxRecDepth 20000 in
theorem g_wsX9_claimOf_r2 : GoodIn wsL_law wsX9_claimOf_r2 := goodIn_r _ [423, 424, 425, 426, 427] (by decide +kernel) (by decide +kernel)
set_option maxRecDepth 20000 in
theorem ggL_law_X9_claimOf : GoodIn wsL_law wsX9_claimOf := goodIn_ca (a := []) gh_X9_claimOf (goodIn_app (goodIn_app g_wsX9_claimOf_r1 g_wsX9_claimOf_r2) gcX9)
set_option maxRecDepth 20000 in
theorem gL_law_X9_claimOf : GoodIn wsL_law (wsV RL 51 RX9 yX9_claimOf wsX9_claimOf) := goodIn_app (goodIn_of _ (by decide +kernel)) ggL_law_X9_claimOf
set_option maxRecDepth 20000 in
theorem gh_X8_ranked : GoodIn wsL_law [.code yX8_ranked cX8_ranked 2 (some .int)] := goodIn_r _ [431] (by decide +kernel) (by decide +kernel)
set_option maxRecDepth 20000 in
theorem g_wsX8_ranked_r1 : GoodIn wsL_law wsX8_ranked_r1 := goodIn_r _ [17, 432, 433, 434, 20, 435, 129, 436, 310, 311, 312, 134, 135, 136, 137, 48, 53, 313, 314, 315, 52, 316, 144, 145] (by decide +kernel) (by decide +kernel)
set_option maxRecDepth 20000 in
theorem g_wsX8_ranked_r2 : GoodIn wsL_law wsX8_ranked_r2 := goodIn_r _ [317, 318, 319, 320, 142] (by decide +kernel) (by decide +kernel)
set_option maxRecDepth 20000 in
theorem ggL_law_X8_ranked : GoodIn wsL_law wsX8_ranked := goodIn_ca (a := []) gh_X8_ranked (goodIn_app (goodIn_app (goodIn_app (goodIn_app g_wsX8_ranked_r1 g_wsX8_ranked_r2) gcX8) gcX2) gcX3)
set_option maxRecDepth 20000 in
theorem gL_law_X8_ranked : GoodIn wsL_law (wsV RL 52 RX8 yX8_ranked wsX8_ranked) := goodIn_app (goodIn_of _ (by decide +kernel)) ggL_law_X8_ranked
set_option maxRecDepth 20000 in
theorem ggL_law_X9_ranked : GoodIn wsL_law wsX9_ranked := goodIn_r _ [440, 441, 442, 443, 5, 444, 109, 345, 346, 347, 348, 349, 350, 351, 352, 157, 158, 159, 160, 353, 354, 355, 1169, 1170, 1171, 1172, 1173, 1174, 1175, 1176, 1177, 1178, 1179, 1180, 1181, 1182, 1183, 1184] (by decide +kernel) (by decide +kernel)
set_option maxRecDepth 20000 in
theorem gL_law_X9_ranked : GoodIn wsL_law (wsV RL 55 RX9 yX9_ranked wsX9_ranked) := goodIn_app (goodIn_of _ (by decide +kernel)) ggL_law_X9_ranked
set_option maxRecDepth 20000 in
theorem gh_X8_lease : GoodIn wsL_law [.code yX8_lease cX8_lease 4 (some .int)] := goodIn_r _ [448] (by decide +kernel) (by decide +kernel)
set_option maxRecDepth 20000 in
theorem g_wsX8_lease_r1 : GoodIn wsL_law wsX8_lease_r1 := goodIn_r _ [17, 449, 450, 451, 20, 452, 453, 287, 454, 455, 247, 248, 249, 250, 129, 251, 252, 253, 254, 173, 175, 176, 177, 178] (by decide +kernel) (by decide +kernel)
set_option maxRecDepth 20000 in
theorem g_wsX8_lease_r2 : GoodIn wsL_law wsX8_lease_r2 := goodIn_r _ [50, 56, 456, 212, 213, 55, 214, 195, 457, 458, 459, 460, 461, 462, 134, 135, 136, 137, 48, 53, 463, 464, 465, 466] (by decide +kernel) (by decide +kernel)
set_option maxRecDepth 20000 in
theorem g_wsX8_lease_r3 : GoodIn wsL_law wsX8_lease_r3 := goodIn_r _ [467, 174, 468, 469, 470, 471, 196, 70, 185, 203, 204, 205, 69, 206, 190, 77, 83, 78, 207, 208, 209, 210] (by decide +kernel) (by decide +kernel)
set_option maxRecDepth 20000 in
theorem ggL_law_X8_lease : GoodIn wsL_law wsX8_lease := goodIn_ca (a := []) gh_X8_lease (goodIn_app (goodIn_app (goodIn_app (goodIn_app (goodIn_app (goodIn_app g_wsX8_lease_r1 (goodIn_app g_wsX8_lease_r2 g_wsX8_lease_r3)) gcX8) gcX7) gcX3) gcX2) gcX4)
set_option maxRecDepth 20000 in
theorem gL_law_X8_lease : GoodIn wsL_law (wsV RL 56 RX8 yX8_lease wsX8_lease) := goodIn_app (goodIn_of _ (by decide +kernel)) ggL_law_X8_lease
set_option maxRecDepth 20000 in
theorem gh_X9_lease : GoodIn wsL_law [.code yX9_lease cX9_lease 4 (some .int)] := goodIn_r _ [475] (by decide +kernel) (by decide +kernel)
set_option maxRecDepth 20000 in
theorem g_wsX9_lease_r1 : GoodIn wsL_law wsX9_lease_r1 := goodIn_r _ [267, 268, 269, 5, 270, 109, 154, 155, 156, 271, 272, 273, 274, 235, 236, 237, 238, 231, 232, 233, 234, 476, 477, 478] (by decide +kernel) (by decide +kernel)
set_option maxRecDepth 20000 in
theorem g_wsX9_lease_r2 : GoodIn wsL_law wsX9_lease_r2 := goodIn_r _ [479, 480, 481, 482, 483, 157, 158, 159, 160, 484, 485, 486, 487, 161, 162, 163, 164, 219, 220, 221, 222, 488, 489, 490] (by decide +kernel) (by decide +kernel)
set_option maxRecDepth 20000 in
theorem g_wsX9_lease_r3 : GoodIn wsL_law wsX9_lease_r3 := goodIn_r _ [491, 227, 228, 229, 230] (by decide +kernel) (by decide +kernel)
set_option maxRecDepth 20000 in
theorem ggL_law_X9_lease : GoodIn wsL_law wsX9_lease := goodIn_ca (a := []) gh_X9_lease (goodIn_app (goodIn_app g_wsX9_lease_r1 (goodIn_app g_wsX9_lease_r2 g_wsX9_lease_r3)) gcX9)
set_option maxRecDepth 20000 in
theorem gL_law_X9_lease : GoodIn wsL_law (wsV RL 59 RX9 yX9_lease wsX9_lease) := goodIn_app (goodIn_of _ (by decide +kernel)) ggL_law_X9_lease
set_option maxRecDepth 20000 in
theorem gh_X8_claim : GoodIn wsL_law [.code yX8_claim cX8_claim 4 (some .int)] := goodIn_r _ [495] (by decide +kernel) (by decide +kernel)
set_option maxRecDepth 20000 in
theorem g_wsX8_claim_r1 : GoodIn wsL_law wsX8_claim_r1 := goodIn_r _ [17, 496, 497, 498, 20, 499, 308, 500, 174, 247, 248, 249, 250, 129, 251, 252, 253, 254, 173, 175, 176, 177, 178, 50] (by decide +kernel) (by decide +kernel)
set_option maxRecDepth 20000 in
theorem g_wsX8_claim_r2 : GoodIn wsL_law wsX8_claim_r2 := goodIn_r _ [56, 325, 326, 327, 55, 328, 72, 329, 330, 331, 69, 332, 190, 333, 334, 335, 336, 78, 83, 501, 502, 503, 504, 505] (by decide +kernel) (by decide +kernel)
set_option maxRecDepth 20000 in
theorem g_wsX8_claim_r3 : GoodIn wsL_law wsX8_claim_r3 := goodIn_r _ [506, 507, 508, 509, 510, 511, 512, 513, 79, 80, 81, 82, 514, 204, 205, 206, 77, 207, 208, 209, 210] (by decide +kernel) (by decide +kernel)
set_option maxRecDepth 20000 in
theorem ggL_law_X8_claim : GoodIn wsL_law wsX8_claim := goodIn_ca (a := []) gh_X8_claim (goodIn_app (goodIn_app (goodIn_app (goodIn_app (goodIn_app g_wsX8_claim_r1 (goodIn_app g_wsX8_claim_r2 g_wsX8_claim_r3)) gcX8) gcX7) gcX2) gcX4)
