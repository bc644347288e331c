set_option maxRecDepth 20000 in
theorem gL_law_X8_told : GoodIn wsL_law (wsV RL 96 RX8 yX8_told wsX8_told) := goodIn_app (goodIn_of _ (by decide +kernel)) ggL_law_X8_told
set_option maxRecDepth 20000 in
theorem gh_X9_told : GoodIn wsL_law [.code yX9_told cX9_told 5 (some .int)] := goodIn_r _ [824] (by decide +kernel) (by decide +kernel)
set_option maxRecDepth 20000 in
theorem g_wsX9_told_r1 : GoodIn wsL_law wsX9_told_r1 := goodIn_r _ [109, 644, 113, 271, 272, 273, 5, 274, 154, 155, 156, 676, 677, 678, 679, 231, 232, 233, 234, 412, 413, 414, 415, 416] (by decide +kernel) (by decide +kernel)
set_option maxRecDepth 20000 in
theorem g_wsX9_told_r2 : GoodIn wsL_law wsX9_told_r2 := goodIn_r _ [417, 418, 419, 420, 421, 422, 423, 424, 425, 426, 427, 480, 481, 482, 483, 157, 158, 159, 160, 235, 236, 237, 238, 664] (by decide +kernel) (by decide +kernel)
set_option maxRecDepth 20000 in
theorem g_wsX9_told_r3 : GoodIn wsL_law wsX9_told_r3 := goodIn_r _ [665, 666, 667, 649, 650, 651, 652] (by decide +kernel) (by decide +kernel)
set_option maxRecDepth 20000 in
theorem ggL_law_X9_told : GoodIn wsL_law wsX9_told := goodIn_ca (a := []) gh_X9_told (goodIn_app (goodIn_app g_wsX9_told_r1 (goodIn_app g_wsX9_told_r2 g_wsX9_told_r3)) gcX9)
set_option maxRecDepth 20000 in
theorem gL_law_X9_told : GoodIn wsL_law (wsV RL 99 RX9 yX9_told wsX9_told) := goodIn_app (goodIn_of _ (by decide +kernel)) ggL_law_X9_told
set_option maxRecDepth 20000 in
theorem gh_X8_share : GoodIn wsL_law [.code yX8_share cX8_share 3 (some .int)] := goodIn_r _ [828] (by decide +kernel) (by decide +kernel)
set_option maxRecDepth 20000 in
theorem g_wsX8_share_r1 : GoodIn wsL_law wsX8_share_r1 := goodIn_r _ [17, 15, 377, 252, 253, 20, 254, 173, 302, 248, 249, 250, 129, 829, 830, 831, 14, 832, 38, 42, 808, 176, 177, 178] (by decide +kernel) (by decide +kernel)
set_option maxRecDepth 20000 in
theorem g_wsX8_share_r2 : GoodIn wsL_law wsX8_share_r2 := goodIn_r _ [50, 56, 815, 563, 564, 41, 565, 88, 566, 567, 568, 569, 570, 80, 81, 82, 571, 187, 188, 69, 189, 190, 572, 330] (by decide +kernel) (by decide +kernel)
set_option maxRecDepth 20000 in
theorem g_wsX8_share_r3 : GoodIn wsL_law wsX8_share_r3 := goodIn_r _ [331, 332, 573, 334, 335, 336, 78, 83, 574, 575, 576, 577, 578, 579, 580, 581, 582, 204, 205, 206, 77, 583, 208, 209] (by decide +kernel) (by decide +kernel)
set_option maxRecDepth 20000 in
theorem g_wsX8_share_r4 : GoodIn wsL_law wsX8_share_r4 := goodIn_r _ [210, 833, 557, 558, 55, 559, 183, 560, 561, 553, 554, 555, 184, 71, 329, 333, 834, 594, 595, 596, 597, 590, 591, 592] (by decide +kernel) (by decide +kernel)
set_option maxRecDepth 20000 in
theorem ggL_law_X8_share : GoodIn wsL_law wsX8_share := goodIn_ca (a := []) gh_X8_share (goodIn_app (goodIn_app (goodIn_app (goodIn_app (goodIn_app (goodIn_app (goodIn_app g_wsX8_share_r1 (goodIn_app g_wsX8_share_r2 (goodIn_app g_wsX8_share_r3 g_wsX8_share_r4))) gcX8) gcX2) gcX6) gcX0) gcX7) gcX4)
set_option maxRecDepth 20000 in
theorem gL_law_X8_share : GoodIn wsL_law (wsV RL 100 RX8 yX8_share wsX8_share) := goodIn_app (goodIn_of _ (by decide +kernel)) ggL_law_X8_share
set_option maxRecDepth 20000 in
theorem gh_X9_share : GoodIn wsL_law [.code yX9_share cX9_share 4 (some .int)] := goodIn_r _ [838] (by decide +kernel) (by decide +kernel)
set_option maxRecDepth 20000 in
theorem g_wsX9_share_r1 : GoodIn wsL_law wsX9_share_r1 := goodIn_r _ [644, 113, 271, 272, 273, 5, 274, 109, 154, 155, 156, 267, 268, 269, 270, 649, 650, 651, 652, 231, 232, 233, 234, 653] (by decide +kernel) (by decide +kernel)
set_option maxRecDepth 20000 in
theorem g_wsX9_share_r2 : GoodIn wsL_law wsX9_share_r2 := goodIn_r _ [654, 655, 656, 645, 646, 647, 648, 657, 658, 659, 660] (by decide +kernel) (by decide +kernel)
set_option maxRecDepth 20000 in
theorem ggL_law_X9_share : GoodIn wsL_law wsX9_share := goodIn_ca (a := []) gh_X9_share (goodIn_app (goodIn_app g_wsX9_share_r1 g_wsX9_share_r2) gcX9)
set_option maxRecDepth 20000 in
theorem gL_law_X9_share : GoodIn wsL_law (wsV RL 103 RX9 yX9_share wsX9_share) := goodIn_app (goodIn_of _ (by decide +kernel)) ggL_law_X9_share
set_option maxRecDepth 20000 in
theorem gh_X8_swaps : GoodIn wsL_law [.code yX8_swaps cX8_swaps 2 (some .int)] := goodIn_r _ [842] (by decide +kernel) (by decide +kernel)
set_option maxRecDepth 20000 in
theorem g_wsX8_swaps_r1 : GoodIn wsL_law wsX8_swaps_r1 := goodIn_r _ [15, 843, 844, 845, 14, 846, 38, 847, 848, 849, 850, 851, 852, 717, 718, 20, 719, 308, 251, 252, 253, 254, 173, 175] (by decide +kernel) (by decide +kernel)
set_option maxRecDepth 20000 in
theorem g_wsX8_swaps_r2 : GoodIn wsL_law wsX8_swaps_r2 := goodIn_r _ [176, 177, 178, 50, 56, 456, 212, 213, 55, 214, 195, 853, 721, 722, 723, 724, 725, 726, 727, 134, 135, 136, 137, 48] (by decide +kernel) (by decide +kernel)
set_option maxRecDepth 20000 in
theorem g_wsX8_swaps_r3 : GoodIn wsL_law wsX8_swaps_r3 := goodIn_r _ [53, 255, 256, 257, 52, 258, 63, 854, 729, 730, 731, 287, 467, 688, 689, 690, 691, 174, 455, 855, 856, 857, 858, 859] (by decide +kernel) (by decide +kernel)
set_option maxRecDepth 20000 in
theorem g_wsX8_swaps_r4 : GoodIn wsL_law wsX8_swaps_r4 := goodIn_r _ [860, 861, 862, 863, 864, 865, 866, 867, 868, 869, 870, 871, 872, 873, 874, 875, 876, 877, 878, 879, 880, 808] (by decide +kernel) (by decide +kernel)
set_option maxRecDepth 20000 in
theorem ggL_law_X8_swaps : GoodIn wsL_law wsX8_swaps := goodIn_ca (a := []) gh_X8_swaps (goodIn_app (goodIn_app (goodIn_app (goodIn_app (goodIn_app (goodIn_app g_wsX8_swaps_r1 (goodIn_app g_wsX8_swaps_r2 (goodIn_app g_wsX8_swaps_r3 g_wsX8_swaps_r4))) gcX8) gcX6) gcX2) gcX7) gcX3)
set_option maxRecDepth 20000 in
theorem gL_law_X8_swaps : GoodIn wsL_law (wsV RL 104 RX8 yX8_swaps wsX8_swaps) := goodIn_app (goodIn_of _ (by decide +kernel)) ggL_law_X8_swaps
set_option maxRecDepth 20000 in
theorem gh_X9_swaps : GoodIn wsL_law [.code yX9_swaps cX9_swaps 2 (some .int)] := goodIn_r _ [884] (by decide +kernel) (by decide +kernel)
set_option maxRecDepth 20000 in
theorem g_wsX9_swaps_r1 : GoodIn wsL_law wsX9_swaps_r1 := goodIn_r _ [154, 155, 5, 156, 885, 886, 887, 888, 109, 110, 736, 737, 738, 739, 235, 236, 237, 238, 231, 232, 233, 234, 740, 741] (by decide +kernel) (by decide +kernel)
set_option maxRecDepth 20000 in
theorem g_wsX9_swaps_r2 : GoodIn wsL_law wsX9_swaps_r2 := goodIn_r _ [742, 743, 744, 745, 746, 747, 157, 158, 159, 160, 748, 749, 750, 751, 752, 753, 754, 700, 701, 702, 703, 704, 705, 706] (by decide +kernel) (by decide +kernel)
set_option maxRecDepth 20000 in
theorem g_wsX9_swaps_r3 : GoodIn wsL_law wsX9_swaps_r3 := goodIn_r _ [707, 161, 162, 163, 164, 668, 669, 670, 671, 219, 220, 221, 222, 488, 489, 490, 491, 227, 228, 229, 230, 889, 890, 891] (by decide +kernel) (by decide +kernel)
set_option maxRecDepth 20000 in
theorem g_wsX9_swaps_r4 : GoodIn wsL_law wsX9_swaps_r4 := goodIn_r _ [892, 893, 894, 895, 896, 897, 898, 899, 900] (by decide +kernel) (by decide +kernel)
set_option maxRecDepth 20000 in
theorem ggL_law_X9_swaps : GoodIn wsL_law wsX9_swaps := goodIn_ca (a := []) gh_X9_swaps (goodIn_app (goodIn_app g_wsX9_swaps_r1 (goodIn_app g_wsX9_swaps_r2 (goodIn_app g_wsX9_swaps_r3 g_wsX9_swaps_r4))) gcX9)
set_option maxRecDepth 20000 in
theorem gL_law_X9_swaps : GoodIn wsL_law (wsV RL 107 RX9 yX9_swaps wsX9_swaps) := goodIn_app (goodIn_of _ (by decide +kernel)) ggL_law_X9_swaps
set_option maxRecDepth 20000 in
theorem gh_X8_ahead : GoodIn wsL_law [.code yX8_ahead cX8_ahead 3 (some .int)] := goodIn_r _ [904] (by decide +kernel) (by decide +kernel)
set_option maxRecDepth 20000 in
theorem g_wsX8_ahead_r1 : GoodIn wsL_law wsX8_ahead_r1 := goodIn_r _ [15, 17, 802, 905, 906, 907, 14, 908, 38, 847, 808, 176, 177, 20, 178, 50, 56, 909, 614, 615, 55, 616, 197, 560] (by decide +kernel) (by decide +kernel)
set_option maxRecDepth 20000 in
theorem g_wsX8_ahead_r2 : GoodIn wsL_law wsX8_ahead_r2 := goodIn_r _ [80, 81, 82, 211, 212, 213, 214, 195, 910, 911, 912, 913, 914, 609, 610, 611, 183, 198, 612, 285, 286, 613] (by decide +kernel) (by decide +kernel)
set_option maxRecDepth 20000 in
theorem ggL_law_X8_ahead : GoodIn wsL_law wsX8_ahead := goodIn_ca (a := []) gh_X8_ahead (goodIn_app (goodIn_app (goodIn_app (goodIn_app (goodIn_app g_wsX8_ahead_r1 g_wsX8_ahead_r2) gcX8) gcX2) gcX6) gcX7)
set_option maxRecDepth 20000 in
theorem gL_law_X8_ahead : GoodIn wsL_law (wsV RL 108 RX8 yX8_ahead wsX8_ahead) := goodIn_app (goodIn_of _ (by decide +kernel)) ggL_law_X8_ahead
set_option maxRecDepth 20000 in
theorem ggL_law_X9_ahead : GoodIn wsL_law wsX9_ahead := goodIn_r _ [918, 109, 154, 155, 5, 156, 235, 236, 237, 238, 231, 232, 233, 234, 664, 665, 666, 667, 1169, 1170, 1171, 1172, 1173, 1174, 1175, 1176, 1177, 1178, 1179, 1180, 1181, 1182, 1183, 1184] (by decide +kernel) (by decide +kernel)
set_option maxRecDepth 20000 in
theorem gL_law_X9_ahead : GoodIn wsL_law (wsV RL 111 RX9 yX9_ahead wsX9_ahead) := goodIn_app (goodIn_of _ (by decide +kernel)) ggL_law_X9_ahead
set_option maxRecDepth 20000 in
theorem gh_X8_judge : GoodIn wsL_law [.code yX8_judge cX8_judge 7 (some .int)] := goodIn_r _ [922] (by decide +kernel) (by decide +kernel)
set_option maxRecDepth 20000 in
theorem g_wsX8_judge_r1 : GoodIn wsL_law wsX8_judge_r1 := goodIn_r _ [17, 923, 924, 374, 925, 926, 927, 2, 928, 377, 252, 253, 20, 254, 173, 929, 930, 931, 932, 30, 33, 378, 176, 177] (by decide +kernel) (by decide +kernel)
set_option maxRecDepth 20000 in
theorem g_wsX8_judge_r2 : GoodIn wsL_law wsX8_judge_r2 := goodIn_r _ [178, 50, 56, 379, 330, 331, 69, 332, 190, 391, 334, 335, 336, 78, 83, 933, 934, 935, 936, 432, 433, 434, 435, 129] (by decide +kernel) (by decide +kernel)
set_option maxRecDepth 20000 in
theorem g_wsX8_judge_r3 : GoodIn wsL_law wsX8_judge_r3 := goodIn_r _ [436, 310, 311, 312, 134, 135, 136, 137, 48, 53, 313, 314, 315, 52, 316, 144, 145, 317, 318, 319, 320, 142] (by decide +kernel) (by decide +kernel)
set_option maxRecDepth 20000 in
theorem ggL_law_X8_judge : GoodIn wsL_law wsX8_judge := goodIn_ca (a := []) gh_X8_judge (goodIn_app (goodIn_app (goodIn_app (goodIn_app (goodIn_app (goodIn_app (goodIn_app g_wsX8_judge_r1 (goodIn_app g_wsX8_judge_r2 g_wsX8_judge_r3)) gcX8) gcX1) gcX2) gcX7) gcX4) gcX3)
