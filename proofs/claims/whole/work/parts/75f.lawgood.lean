set_option maxRecDepth 20000 in
theorem gL_law_X8_judge : GoodIn wsL_law (wsV RL 112 RX8 yX8_judge wsX8_judge) := goodIn_app (goodIn_of _ (by decide +kernel)) ggL_law_X8_judge
set_option maxRecDepth 20000 in
theorem gh_X9_judge : GoodIn wsL_law [.code yX9_judge cX9_judge 6 (some .int)] := goodIn_r _ [940] (by decide +kernel) (by decide +kernel)
set_option maxRecDepth 20000 in
theorem g_wsX9_judge_r1 : GoodIn wsL_law wsX9_judge_r1 := goodIn_r _ [115, 109, 117, 119, 941, 942, 943, 5, 944, 154, 155, 156, 271, 272, 273, 274, 231, 232, 233, 234, 441, 442, 443, 444] (by decide +kernel) (by decide +kernel)
set_option maxRecDepth 20000 in
theorem g_wsX9_judge_r2 : GoodIn wsL_law wsX9_judge_r2 := goodIn_r _ [345, 346, 347, 348, 349, 350, 351, 352, 157, 158, 159, 160, 353, 354, 355, 412, 413, 414, 415, 416, 417, 418, 419, 420] (by decide +kernel) (by decide +kernel)
set_option maxRecDepth 20000 in
theorem g_wsX9_judge_r3 : GoodIn wsL_law wsX9_judge_r3 := goodIn_r _ [421, 422, 423, 424, 425, 426, 427] (by decide +kernel) (by decide +kernel)
set_option maxRecDepth 20000 in
theorem ggL_law_X9_judge : GoodIn wsL_law wsX9_judge := goodIn_ca (a := []) gh_X9_judge (goodIn_app (goodIn_app g_wsX9_judge_r1 (goodIn_app g_wsX9_judge_r2 g_wsX9_judge_r3)) gcX9)
set_option maxRecDepth 20000 in
theorem gL_law_X9_judge : GoodIn wsL_law (wsV RL 115 RX9 yX9_judge wsX9_judge) := goodIn_app (goodIn_of _ (by decide +kernel)) ggL_law_X9_judge
set_option maxRecDepth 20000 in
theorem ggL_law_X8_feed : GoodIn wsL_law wsX8_feed := goodIn_r _ [948, 28, 379, 330, 331, 69, 332, 190, 949, 204, 205, 206, 77, 83, 78, 950, 208, 209, 210, 1160, 1161, 1162, 1163, 1164, 1165, 1166, 1167, 1168, 1222, 1223, 1224, 1225] (by decide +kernel) (by decide +kernel)
set_option maxRecDepth 20000 in
theorem gL_law_X8_feed : GoodIn wsL_law (wsV RL 116 RX8 yX8_feed wsX8_feed) := goodIn_app (goodIn_of _ (by decide +kernel)) ggL_law_X8_feed
set_option maxRecDepth 20000 in
theorem ggL_law_X9_feed : GoodIn wsL_law wsX9_feed := goodIn_r _ [954, 955, 114, 154, 155, 5, 156, 1169, 1170, 1171, 1172, 1173, 1174, 1175, 1176, 1177, 1178, 1179, 1180, 1181, 1182, 1183, 1184] (by decide +kernel) (by decide +kernel)
set_option maxRecDepth 20000 in
theorem gL_law_X9_feed : GoodIn wsL_law (wsV RL 119 RX9 yX9_feed wsX9_feed) := goodIn_app (goodIn_of _ (by decide +kernel)) ggL_law_X9_feed
set_option maxRecDepth 20000 in
theorem gh_X8_script : GoodIn wsL_law [.code yX8_script cX8_script 3 (some .int)] := goodIn_r _ [959] (by decide +kernel) (by decide +kernel)
set_option maxRecDepth 20000 in
theorem g_wsX8_script_r1 : GoodIn wsL_law wsX8_script_r1 := goodIn_r _ [26, 28, 960, 22, 17, 961, 962, 963, 964, 25, 965, 96, 966, 95, 967, 187, 188, 69, 189, 190, 968, 969, 970, 971] (by decide +kernel) (by decide +kernel)
set_option maxRecDepth 20000 in
theorem g_wsX8_script_r2 : GoodIn wsL_law wsX8_script_r2 := goodIn_r _ [972, 973, 974, 975, 976, 330, 331, 332, 977, 334, 335, 336, 78, 83, 978, 979, 980, 981, 204, 205, 206, 77, 982, 208] (by decide +kernel) (by decide +kernel)
set_option maxRecDepth 20000 in
theorem g_wsX8_script_r3 : GoodIn wsL_law wsX8_script_r3 := goodIn_r _ [209, 210, 983, 984, 985, 986, 987, 988, 989, 990, 991, 992, 993, 994, 20, 995, 129, 173, 174, 288, 461, 462, 134, 135] (by decide +kernel) (by decide +kernel)
set_option maxRecDepth 20000 in
theorem g_wsX8_script_r4 : GoodIn wsL_law wsX8_script_r4 := goodIn_r _ [136, 137, 48, 53, 996, 997, 998, 52, 999, 142, 143, 144, 145, 146, 1000, 256, 257, 258, 63, 1001, 260, 261, 262, 175] (by decide +kernel) (by decide +kernel)
set_option maxRecDepth 20000 in
theorem g_wsX8_script_r5 : GoodIn wsL_law wsX8_script_r5 := goodIn_r _ [176, 177, 178, 50, 56, 1002, 1003, 1004, 55, 1005, 183, 184, 195, 196, 197, 198, 185, 70, 71, 72, 1006, 1007, 1008, 1009] (by decide +kernel) (by decide +kernel)
set_option maxRecDepth 20000 in
theorem g_wsX8_script_r6 : GoodIn wsL_law wsX8_script_r6 := goodIn_r _ [1010, 285, 81, 286, 1011, 1012, 379, 1013, 1014, 1015, 2, 1016, 391, 125, 126, 127, 128, 130, 131, 132, 133, 138, 139, 140] (by decide +kernel) (by decide +kernel)
set_option maxRecDepth 20000 in
theorem g_wsX8_script_r7 : GoodIn wsL_law wsX8_script_r7 := goodIn_r _ [141, 169, 170, 171, 172, 179, 180, 181, 182, 186, 191, 192, 193, 194, 199, 200, 201, 202, 203, 207, 211, 212, 213, 214] (by decide +kernel) (by decide +kernel)
set_option maxRecDepth 20000 in
theorem g_wsX8_script_r8 : GoodIn wsL_law wsX8_script_r8 := goodIn_r _ [243, 244, 245, 246, 247, 248, 249, 250, 251, 252, 253, 254, 255, 259, 449, 450, 451, 452, 453, 287, 454, 455, 456, 457] (by decide +kernel) (by decide +kernel)
set_option maxRecDepth 20000 in
theorem g_wsX8_script_r9 : GoodIn wsL_law wsX8_script_r9 := goodIn_r _ [458, 459, 460, 463, 464, 465, 466, 467, 468, 469, 470, 471, 496, 497, 498, 499, 308, 500, 325, 326, 327, 328, 329, 333] (by decide +kernel) (by decide +kernel)
set_option maxRecDepth 20000 in
theorem g_wsX8_script_r10 : GoodIn wsL_law wsX8_script_r10 := goodIn_r _ [501, 502, 503, 504, 505, 506, 507, 508, 509, 510, 511, 512, 513, 79, 80, 82, 514, 543, 544, 545, 546, 547, 548, 549] (by decide +kernel) (by decide +kernel)
set_option maxRecDepth 20000 in
theorem g_wsX8_script_r11 : GoodIn wsL_law wsX8_script_r11 := goodIn_r _ [550, 551, 58, 552, 553, 554, 555, 556, 557, 558, 559, 560, 561, 562, 563, 564, 41, 565, 88, 566, 567, 568, 569, 570] (by decide +kernel) (by decide +kernel)
set_option maxRecDepth 20000 in
theorem g_wsX8_script_r12 : GoodIn wsL_law wsX8_script_r12 := goodIn_r _ [571, 572, 573, 574, 575, 576, 577, 578, 579, 580, 581, 582, 583, 584, 585, 586, 587, 588, 589, 590, 591, 592, 593, 594] (by decide +kernel) (by decide +kernel)
set_option maxRecDepth 20000 in
theorem g_wsX8_script_r13 : GoodIn wsL_law wsX8_script_r13 := goodIn_r _ [595, 596, 597, 598, 599, 600, 601, 602, 603, 604, 605, 606, 607, 608, 609, 610, 611, 612, 613, 614, 615, 616, 617, 618] (by decide +kernel) (by decide +kernel)
set_option maxRecDepth 20000 in
theorem g_wsX8_script_r14 : GoodIn wsL_law wsX8_script_r14 := goodIn_r _ [619, 620, 621, 622, 623, 624, 625, 626, 627, 628, 629, 630, 631, 632, 633, 634, 635, 527, 528, 529, 530, 684, 685, 686] (by decide +kernel) (by decide +kernel)
set_option maxRecDepth 20000 in
theorem g_wsX8_script_r15 : GoodIn wsL_law wsX8_script_r15 := goodIn_r _ [687, 688, 689, 690, 691, 692, 693, 694, 695, 712, 713, 714, 715, 716, 717, 718, 719, 720, 721, 722, 723, 724, 725, 726] (by decide +kernel) (by decide +kernel)
set_option maxRecDepth 20000 in
theorem g_wsX8_script_r16 : GoodIn wsL_law wsX8_script_r16 := goodIn_r _ [727, 728, 729, 730, 731, 759, 760, 761, 762, 284, 771, 780, 781, 782, 783] (by decide +kernel) (by decide +kernel)
set_option maxRecDepth 20000 in
theorem ggL_law_X8_script : GoodIn wsL_law wsX8_script := goodIn_ca (a := []) gh_X8_script (goodIn_app (goodIn_app (goodIn_app (goodIn_app (goodIn_app (goodIn_app (goodIn_app (goodIn_app g_wsX8_script_r1 (goodIn_app g_wsX8_script_r2 (goodIn_app g_wsX8_script_r3 (goodIn_app g_wsX8_script_r4 (goodIn_app g_wsX8_script_r5 (goodIn_app g_wsX8_script_r6 (goodIn_app g_wsX8_script_r7 (goodIn_app g_wsX8_script_r8 (goodIn_app g_wsX8_script_r9 (goodIn_app g_wsX8_script_r10 (goodIn_app g_wsX8_script_r11 (goodIn_app g_wsX8_script_r12 (goodIn_app g_wsX8_script_r13 (goodIn_app g_wsX8_script_r14 (goodIn_app g_wsX8_script_r15 g_wsX8_script_r16))))))))))))))) gcX8) gcX5) gcX4) gcX2) gcX3) gcX7) gcX0)
set_option maxRecDepth 20000 in
theorem gL_law_X8_script : GoodIn wsL_law (wsV RL 120 RX8 yX8_script wsX8_script) := goodIn_app (goodIn_of _ (by decide +kernel)) ggL_law_X8_script
set_option maxRecDepth 20000 in
theorem gh_X9_script : GoodIn wsL_law [.code yX9_script cX9_script 3 (some .int)] := goodIn_r _ [1020] (by decide +kernel) (by decide +kernel)
set_option maxRecDepth 20000 in
theorem g_wsX9_script_r1 : GoodIn wsL_law wsX9_script_r1 := goodIn_r _ [955, 1021, 109, 111, 1022, 1023, 1024, 1025, 5, 1026, 1027, 1028, 1029, 1030, 114, 120, 1031, 1032, 1033, 1034, 1035, 1036, 1037, 1038] (by decide +kernel) (by decide +kernel)
set_option maxRecDepth 20000 in
theorem g_wsX9_script_r2 : GoodIn wsL_law wsX9_script_r2 := goodIn_r _ [1039, 1040, 1041, 1042, 1043, 1044, 1045, 154, 155, 156, 1046, 1047, 1048, 1049, 748, 749, 750, 1050, 1051, 1052, 1053, 1054, 148, 149] (by decide +kernel) (by decide +kernel)
set_option maxRecDepth 20000 in
theorem g_wsX9_script_r3 : GoodIn wsL_law wsX9_script_r3 := goodIn_r _ [150, 151, 152, 153, 157, 158, 159, 160, 161, 162, 163, 164, 1055, 216, 217, 218, 219, 220, 221, 222, 223, 224, 225, 226] (by decide +kernel) (by decide +kernel)
set_option maxRecDepth 20000 in
theorem g_wsX9_script_r4 : GoodIn wsL_law wsX9_script_r4 := goodIn_r _ [227, 228, 229, 230, 231, 232, 233, 234, 235, 236, 237, 238, 1056, 264, 265, 266, 267, 268, 269, 270, 271, 272, 273, 274] (by decide +kernel) (by decide +kernel)
set_option maxRecDepth 20000 in
theorem g_wsX9_script_r5 : GoodIn wsL_law wsX9_script_r5 := goodIn_r _ [1057, 473, 474, 475, 476, 477, 478, 479, 480, 481, 482, 483, 484, 485, 486, 487, 488, 489, 490, 491, 1058, 516, 517, 518] (by decide +kernel) (by decide +kernel)
set_option maxRecDepth 20000 in
theorem g_wsX9_script_r6 : GoodIn wsL_law wsX9_script_r6 := goodIn_r _ [360, 361, 362, 363, 416, 417, 418, 419, 420, 421, 422, 423, 424, 425, 426, 427, 1059, 637, 638, 639, 640, 641, 642, 643] (by decide +kernel) (by decide +kernel)
set_option maxRecDepth 20000 in
theorem g_wsX9_script_r7 : GoodIn wsL_law wsX9_script_r7 := goodIn_r _ [644, 113, 645, 646, 647, 648, 649, 650, 651, 652, 653, 654, 655, 656, 657, 658, 659, 660, 661, 662, 663, 664, 665, 666] (by decide +kernel) (by decide +kernel)
set_option maxRecDepth 20000 in
theorem g_wsX9_script_r8 : GoodIn wsL_law wsX9_script_r8 := goodIn_r _ [667, 668, 669, 670, 671, 672, 673, 674, 675, 676, 677, 678, 679, 412, 413, 414, 415, 535, 536, 537, 538, 1060, 697, 698] (by decide +kernel) (by decide +kernel)
set_option maxRecDepth 20000 in
theorem g_wsX9_script_r9 : GoodIn wsL_law wsX9_script_r9 := goodIn_r _ [699, 700, 701, 702, 703, 704, 705, 706, 707, 1061, 733, 734, 735, 110, 736, 737, 738, 739, 740, 741, 742, 743, 744, 745] (by decide +kernel) (by decide +kernel)
set_option maxRecDepth 20000 in
theorem g_wsX9_script_r10 : GoodIn wsL_law wsX9_script_r10 := goodIn_r _ [746, 747, 751, 752, 753, 754, 1062, 764, 765, 766, 1063, 773, 774, 775, 1064, 785, 786, 787] (by decide +kernel) (by decide +kernel)
set_option maxRecDepth 20000 in
theorem ggL_law_X9_script : GoodIn wsL_law wsX9_script := goodIn_ca (a := []) gh_X9_script (goodIn_app (goodIn_app g_wsX9_script_r1 (goodIn_app g_wsX9_script_r2 (goodIn_app g_wsX9_script_r3 (goodIn_app g_wsX9_script_r4 (goodIn_app g_wsX9_script_r5 (goodIn_app g_wsX9_script_r6 (goodIn_app g_wsX9_script_r7 (goodIn_app g_wsX9_script_r8 (goodIn_app g_wsX9_script_r9 g_wsX9_script_r10))))))))) gcX9)
