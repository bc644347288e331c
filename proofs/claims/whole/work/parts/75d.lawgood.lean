set_option maxRecDepth 20000 in
theorem gL_law_X9_pass : GoodIn wsL_law (wsV RL 75 RX9 yX9_pass wsX9_pass) := goodIn_app (goodIn_of _ (by decide +kernel)) ggL_law_X9_pass
set_option maxRecDepth 20000 in
theorem gh_X8_swap : GoodIn wsL_law [.code yX8_swap cX8_swap 3 (some .int)] := goodIn_r _ [711] (by decide +kernel) (by decide +kernel)
set_option maxRecDepth 20000 in
theorem g_wsX8_swap_r1 : GoodIn wsL_law wsX8_swap_r1 := goodIn_r _ [17, 712, 713, 714, 20, 715, 308, 716, 717, 718, 719, 251, 252, 253, 254, 173, 175, 176, 177, 178, 50, 56, 456, 212] (by decide +kernel) (by decide +kernel)
set_option maxRecDepth 20000 in
theorem g_wsX8_swap_r2 : GoodIn wsL_law wsX8_swap_r2 := goodIn_r _ [213, 55, 214, 195, 720, 721, 722, 723, 724, 725, 726, 727, 134, 135, 136, 137, 48, 53, 255, 256, 257, 52, 258, 63] (by decide +kernel) (by decide +kernel)
set_option maxRecDepth 20000 in
theorem g_wsX8_swap_r3 : GoodIn wsL_law wsX8_swap_r3 := goodIn_r _ [457, 458, 459, 460, 461, 462, 728, 729, 730, 731, 287, 467, 688, 689, 690, 691, 174, 455, 692, 693, 694, 695, 622, 623] (by decide +kernel) (by decide +kernel)
set_option maxRecDepth 20000 in
theorem g_wsX8_swap_r4 : GoodIn wsL_law wsX8_swap_r4 := goodIn_r _ [624, 625, 70, 329, 330, 331, 69, 332, 190, 207, 208, 209, 210, 78, 83, 468, 469, 470, 471, 196, 185, 203, 204, 205] (by decide +kernel) (by decide +kernel)
set_option maxRecDepth 20000 in
theorem g_wsX8_swap_r5 : GoodIn wsL_law wsX8_swap_r5 := goodIn_r _ [206, 77] (by decide +kernel) (by decide +kernel)
set_option maxRecDepth 20000 in
theorem ggL_law_X8_swap : GoodIn wsL_law wsX8_swap := goodIn_ca (a := []) gh_X8_swap (goodIn_app (goodIn_app (goodIn_app (goodIn_app (goodIn_app (goodIn_app g_wsX8_swap_r1 (goodIn_app g_wsX8_swap_r2 (goodIn_app g_wsX8_swap_r3 (goodIn_app g_wsX8_swap_r4 g_wsX8_swap_r5)))) gcX8) gcX7) gcX2) gcX3) gcX4)
set_option maxRecDepth 20000 in
theorem gL_law_X8_swap : GoodIn wsL_law (wsV RL 76 RX8 yX8_swap wsX8_swap) := goodIn_app (goodIn_of _ (by decide +kernel)) ggL_law_X8_swap
set_option maxRecDepth 20000 in
theorem gh_X9_swap : GoodIn wsL_law [.code yX9_swap cX9_swap 5 (some .int)] := goodIn_r _ [735] (by decide +kernel) (by decide +kernel)
set_option maxRecDepth 20000 in
theorem g_wsX9_swap_r1 : GoodIn wsL_law wsX9_swap_r1 := goodIn_r _ [109, 110, 271, 272, 273, 5, 274, 154, 155, 156, 736, 737, 738, 739, 235, 236, 237, 238, 231, 232, 233, 234, 740, 741] (by decide +kernel) (by decide +kernel)
set_option maxRecDepth 20000 in
theorem g_wsX9_swap_r2 : GoodIn wsL_law wsX9_swap_r2 := goodIn_r _ [742, 743, 744, 745, 746, 747, 157, 158, 159, 160, 748, 749, 750, 751, 752, 753, 754, 700, 701, 702, 703, 704, 705, 706] (by decide +kernel) (by decide +kernel)
set_option maxRecDepth 20000 in
theorem g_wsX9_swap_r3 : GoodIn wsL_law wsX9_swap_r3 := goodIn_r _ [707, 161, 162, 163, 164, 668, 669, 670, 671, 219, 220, 221, 222, 488, 489, 490, 491, 227, 228, 229, 230, 476, 477, 478] (by decide +kernel) (by decide +kernel)
set_option maxRecDepth 20000 in
theorem g_wsX9_swap_r4 : GoodIn wsL_law wsX9_swap_r4 := goodIn_r _ [479] (by decide +kernel) (by decide +kernel)
set_option maxRecDepth 20000 in
theorem ggL_law_X9_swap : GoodIn wsL_law wsX9_swap := goodIn_ca (a := []) gh_X9_swap (goodIn_app (goodIn_app g_wsX9_swap_r1 (goodIn_app g_wsX9_swap_r2 (goodIn_app g_wsX9_swap_r3 g_wsX9_swap_r4))) gcX9)
set_option maxRecDepth 20000 in
theorem gL_law_X9_swap : GoodIn wsL_law (wsV RL 79 RX9 yX9_swap wsX9_swap) := goodIn_app (goodIn_of _ (by decide +kernel)) ggL_law_X9_swap
set_option maxRecDepth 20000 in
theorem gh_X8_use : GoodIn wsL_law [.code yX8_use cX8_use 3 (some .int)] := goodIn_r _ [758] (by decide +kernel) (by decide +kernel)
set_option maxRecDepth 20000 in
theorem g_wsX8_use_r1 : GoodIn wsL_law wsX8_use_r1 := goodIn_r _ [17, 759, 760, 761, 20, 762, 453, 284, 285, 81, 286, 251, 252, 253, 254, 173, 175, 176, 177, 178, 50, 56, 456, 212] (by decide +kernel) (by decide +kernel)
set_option maxRecDepth 20000 in
theorem g_wsX8_use_r2 : GoodIn wsL_law wsX8_use_r2 := goodIn_r _ [213, 55, 214, 195] (by decide +kernel) (by decide +kernel)
set_option maxRecDepth 20000 in
theorem ggL_law_X8_use : GoodIn wsL_law wsX8_use := goodIn_ca (a := []) gh_X8_use (goodIn_app (goodIn_app (goodIn_app (goodIn_app g_wsX8_use_r1 g_wsX8_use_r2) gcX8) gcX7) gcX2)
set_option maxRecDepth 20000 in
theorem gL_law_X8_use : GoodIn wsL_law (wsV RL 80 RX8 yX8_use wsX8_use) := goodIn_app (goodIn_of _ (by decide +kernel)) ggL_law_X8_use
set_option maxRecDepth 20000 in
theorem ggL_law_X9_use : GoodIn wsL_law wsX9_use := goodIn_r _ [766, 271, 272, 273, 5, 274, 109, 154, 155, 156, 235, 236, 237, 238, 231, 232, 233, 234, 661, 662, 663, 219, 220, 221, 222, 1169, 1170, 1171, 1172, 1173, 1174, 1175, 1176, 1177, 1178, 1179, 1180, 1181, 1182, 1183, 1184] (by decide +kernel) (by decide +kernel)
set_option maxRecDepth 20000 in
theorem gL_law_X9_use : GoodIn wsL_law (wsV RL 83 RX9 yX9_use wsX9_use) := goodIn_app (goodIn_of _ (by decide +kernel)) ggL_law_X9_use
set_option maxRecDepth 20000 in
theorem gh_X8_look : GoodIn wsL_law [.code yX8_look cX8_look 2 (some .int)] := goodIn_r _ [770] (by decide +kernel) (by decide +kernel)
set_option maxRecDepth 20000 in
theorem g_wsX8_look_r1 : GoodIn wsL_law wsX8_look_r1 := goodIn_r _ [17, 771, 549, 550, 20, 551, 58, 174, 288, 251, 252, 253, 254, 173, 175, 176, 177, 178, 50, 56, 552, 553, 554, 55] (by decide +kernel) (by decide +kernel)
set_option maxRecDepth 20000 in
theorem g_wsX8_look_r2 : GoodIn wsL_law wsX8_look_r2 := goodIn_r _ [555, 184, 71, 329, 330, 331, 69, 332, 190, 333, 334, 335, 336, 78, 83, 556, 557, 558, 559, 183, 560, 80, 81, 82] (by decide +kernel) (by decide +kernel)
set_option maxRecDepth 20000 in
theorem g_wsX8_look_r3 : GoodIn wsL_law wsX8_look_r3 := goodIn_r _ [561, 562, 563, 564, 41, 565, 88, 566, 567, 568, 569, 570, 571, 187, 188, 189, 572, 573, 574, 575, 576, 577, 578, 579] (by decide +kernel) (by decide +kernel)
set_option maxRecDepth 20000 in
theorem g_wsX8_look_r4 : GoodIn wsL_law wsX8_look_r4 := goodIn_r _ [580, 581, 582, 204, 205, 206, 77, 583, 208, 209, 210, 584, 200, 201, 202, 185, 203, 207, 211, 212, 213, 214, 195, 585] (by decide +kernel) (by decide +kernel)
set_option maxRecDepth 20000 in
theorem g_wsX8_look_r5 : GoodIn wsL_law wsX8_look_r5 := goodIn_r _ [586, 587, 588, 589, 590, 591, 592, 134, 135, 136, 137, 48, 53, 593, 594, 595, 596, 597, 598, 599, 600, 52, 601, 143] (by decide +kernel) (by decide +kernel)
set_option maxRecDepth 20000 in
theorem g_wsX8_look_r6 : GoodIn wsL_law wsX8_look_r6 := goodIn_r _ [602, 285, 286, 146, 603, 604, 605, 606, 144, 607] (by decide +kernel) (by decide +kernel)
set_option maxRecDepth 20000 in
theorem ggL_law_X8_look : GoodIn wsL_law wsX8_look := goodIn_ca (a := []) gh_X8_look (goodIn_app (goodIn_app (goodIn_app (goodIn_app (goodIn_app (goodIn_app (goodIn_app g_wsX8_look_r1 (goodIn_app g_wsX8_look_r2 (goodIn_app g_wsX8_look_r3 (goodIn_app g_wsX8_look_r4 (goodIn_app g_wsX8_look_r5 g_wsX8_look_r6))))) gcX8) gcX2) gcX7) gcX4) gcX0) gcX3)
set_option maxRecDepth 20000 in
theorem gL_law_X8_look : GoodIn wsL_law (wsV RL 84 RX8 yX8_look wsX8_look) := goodIn_app (goodIn_of _ (by decide +kernel)) ggL_law_X8_look
set_option maxRecDepth 20000 in
theorem gh_X9_look : GoodIn wsL_law [.code yX9_look cX9_look 2 (some .int)] := goodIn_r _ [775] (by decide +kernel) (by decide +kernel)
set_option maxRecDepth 20000 in
theorem g_wsX9_look_r1 : GoodIn wsL_law wsX9_look_r1 := goodIn_r _ [271, 272, 273, 5, 274, 109, 154, 155, 156, 640, 641, 642, 643, 644, 113, 645, 646, 647, 648, 231, 232, 233, 234, 649] (by decide +kernel) (by decide +kernel)
set_option maxRecDepth 20000 in
theorem g_wsX9_look_r2 : GoodIn wsL_law wsX9_look_r2 := goodIn_r _ [650, 651, 652, 653, 654, 655, 656, 223, 224, 225, 226, 227, 228, 229, 230, 219, 220, 221, 222, 235, 236, 237, 238, 657] (by decide +kernel) (by decide +kernel)
set_option maxRecDepth 20000 in
theorem g_wsX9_look_r3 : GoodIn wsL_law wsX9_look_r3 := goodIn_r _ [658, 659, 660, 157, 158, 159, 160, 161, 162, 163, 164, 661, 662, 663] (by decide +kernel) (by decide +kernel)
set_option maxRecDepth 20000 in
theorem ggL_law_X9_look : GoodIn wsL_law wsX9_look := goodIn_ca (a := []) gh_X9_look (goodIn_app (goodIn_app g_wsX9_look_r1 (goodIn_app g_wsX9_look_r2 g_wsX9_look_r3)) gcX9)
set_option maxRecDepth 20000 in
theorem gL_law_X9_look : GoodIn wsL_law (wsV RL 87 RX9 yX9_look wsX9_look) := goodIn_app (goodIn_of _ (by decide +kernel)) ggL_law_X9_look
set_option maxRecDepth 20000 in
theorem ggL_law_X8_days : GoodIn wsL_law wsX8_days := goodIn_r _ [779, 17, 780, 781, 782, 20, 783, 174, 1160, 1161, 1162, 1163, 1164, 1165, 1166, 1167, 1168, 1187, 1188, 1189, 1190, 1191, 1192, 1193, 1194, 1195, 1196, 1197] (by decide +kernel) (by decide +kernel)
set_option maxRecDepth 20000 in
theorem gL_law_X8_days : GoodIn wsL_law (wsV RL 88 RX8 yX8_days wsX8_days) := goodIn_app (goodIn_of _ (by decide +kernel)) ggL_law_X8_days
set_option maxRecDepth 20000 in
theorem ggL_law_X9_days : GoodIn wsL_law wsX9_days := goodIn_r _ [787, 109, 154, 155, 5, 156, 1169, 1170, 1171, 1172, 1173, 1174, 1175, 1176, 1177, 1178, 1179, 1180, 1181, 1182, 1183, 1184] (by decide +kernel) (by decide +kernel)
set_option maxRecDepth 20000 in
theorem gL_law_X9_days : GoodIn wsL_law (wsV RL 91 RX9 yX9_days wsX9_days) := goodIn_app (goodIn_of _ (by decide +kernel)) ggL_law_X9_days
set_option maxRecDepth 20000 in
theorem ggL_law_X8_why : GoodIn wsL_law wsX8_why := goodIn_r _ [791, 17, 792, 793, 1160, 1161, 1162, 1163, 1164, 1165, 1166, 1167, 1168, 1187, 1188, 1189, 1190, 1191, 1192, 1193, 1194, 1195, 1196, 1197] (by decide +kernel) (by decide +kernel)
set_option maxRecDepth 20000 in
theorem gL_law_X8_why : GoodIn wsL_law (wsV RL 92 RX8 yX8_why wsX8_why) := goodIn_app (goodIn_of _ (by decide +kernel)) ggL_law_X8_why
set_option maxRecDepth 20000 in
theorem ggL_law_X9_why : GoodIn wsL_law wsX9_why := goodIn_r _ [797, 109, 1169, 1170, 1171, 1172, 1173, 1174, 1175, 1176, 1177, 1178, 1179, 1180, 1181, 1182, 1183, 1184] (by decide +kernel) (by decide +kernel)
set_option maxRecDepth 20000 in
theorem gL_law_X9_why : GoodIn wsL_law (wsV RL 95 RX9 yX9_why wsX9_why) := goodIn_app (goodIn_of _ (by decide +kernel)) ggL_law_X9_why
set_option maxRecDepth 20000 in
theorem gh_X8_told : GoodIn wsL_law [.code yX8_told cX8_told 3 (some .int)] := goodIn_r _ [801] (by decide +kernel) (by decide +kernel)
set_option maxRecDepth 20000 in
theorem g_wsX8_told_r1 : GoodIn wsL_law wsX8_told_r1 := goodIn_r _ [17, 15, 802, 377, 252, 253, 20, 254, 173, 803, 804, 805, 14, 806, 38, 807, 808, 176, 177, 178, 50, 56, 809, 632] (by decide +kernel) (by decide +kernel)
set_option maxRecDepth 20000 in
theorem g_wsX8_told_r2 : GoodIn wsL_law wsX8_told_r2 := goodIn_r _ [633, 634, 453, 500, 287, 454, 501, 330, 331, 69, 332, 190, 635, 334, 335, 336, 78, 83, 134, 135, 136, 137, 48, 53] (by decide +kernel) (by decide +kernel)
set_option maxRecDepth 20000 in
theorem g_wsX8_told_r3 : GoodIn wsL_law wsX8_told_r3 := goodIn_r _ [810, 811, 812, 813, 814, 42, 815, 563, 564, 41, 565, 88, 566, 567, 568, 569, 570, 80, 81, 82, 571, 187, 188, 189] (by decide +kernel) (by decide +kernel)
set_option maxRecDepth 20000 in
theorem g_wsX8_told_r4 : GoodIn wsL_law wsX8_told_r4 := goodIn_r _ [572, 573, 574, 575, 576, 577, 578, 579, 580, 581, 582, 204, 205, 206, 77, 583, 208, 209, 210, 816, 817, 818, 819, 378] (by decide +kernel) (by decide +kernel)
set_option maxRecDepth 20000 in
theorem g_wsX8_told_r5 : GoodIn wsL_law wsX8_told_r5 := goodIn_r _ [820, 609, 610, 55, 611, 183, 198, 612, 285, 286, 613, 614, 615, 616, 197, 560, 211, 212, 213, 214, 195] (by decide +kernel) (by decide +kernel)
set_option maxRecDepth 20000 in
theorem ggL_law_X8_told : GoodIn wsL_law wsX8_told := goodIn_ca (a := []) gh_X8_told (goodIn_app (goodIn_app (goodIn_app (goodIn_app (goodIn_app (goodIn_app (goodIn_app (goodIn_app g_wsX8_told_r1 (goodIn_app g_wsX8_told_r2 (goodIn_app g_wsX8_told_r3 (goodIn_app g_wsX8_told_r4 g_wsX8_told_r5)))) gcX8) gcX2) gcX6) gcX7) gcX3) gcX4) gcX0)
