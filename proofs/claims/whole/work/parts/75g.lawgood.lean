set_option maxRecDepth 20000 in
theorem gL_law_X9_script : GoodIn wsL_law (wsV RL 124 RX9 yX9_script wsX9_script) := goodIn_app (goodIn_of _ (by decide +kernel)) ggL_law_X9_script
set_option maxRecDepth 20000 in
theorem gh_X8_image : GoodIn wsL_law [.code yX8_image cX8_image 1 (some .int)] := goodIn_r _ [1068] (by decide +kernel) (by decide +kernel)
set_option maxRecDepth 20000 in
theorem g_wsX8_image_r1 : GoodIn wsL_law wsX8_image_r1 := goodIn_r _ [21, 17, 1069, 802, 992, 993, 994, 20, 995, 129, 173, 174, 288, 461, 462, 134, 135, 136, 137, 48, 53, 996, 997, 998] (by decide +kernel) (by decide +kernel)
set_option maxRecDepth 20000 in
theorem g_wsX8_image_r2 : GoodIn wsL_law wsX8_image_r2 := goodIn_r _ [52, 999, 142, 143, 144, 145, 146, 1000, 256, 257, 258, 63, 1001, 260, 261, 262, 175, 176, 177, 178, 50, 56, 1002, 1003] (by decide +kernel) (by decide +kernel)
set_option maxRecDepth 20000 in
theorem g_wsX8_image_r3 : GoodIn wsL_law wsX8_image_r3 := goodIn_r _ [1004, 55, 1005, 183, 184, 195, 196, 197, 198, 185, 70, 71, 72, 1006, 1007, 1008, 69, 1009, 190, 77, 1010, 285, 81, 286] (by decide +kernel) (by decide +kernel)
set_option maxRecDepth 20000 in
theorem g_wsX8_image_r4 : GoodIn wsL_law wsX8_image_r4 := goodIn_r _ [78, 1011, 334, 335, 336, 83, 1012, 208, 209, 210] (by decide +kernel) (by decide +kernel)
set_option maxRecDepth 20000 in
theorem ggL_law_X8_image : GoodIn wsL_law wsX8_image := goodIn_ca (a := []) gh_X8_image (goodIn_app (goodIn_app (goodIn_app (goodIn_app (goodIn_app (goodIn_app g_wsX8_image_r1 (goodIn_app g_wsX8_image_r2 (goodIn_app g_wsX8_image_r3 g_wsX8_image_r4))) gcX8) gcX2) gcX3) gcX7) gcX4)
set_option maxRecDepth 20000 in
theorem gL_law_X8_image : GoodIn wsL_law (wsV RL 125 RX8 yX8_image wsX8_image) := goodIn_app (goodIn_of _ (by decide +kernel)) ggL_law_X8_image
set_option maxRecDepth 20000 in
theorem ggL_law_X9_image : GoodIn wsL_law wsX9_image := goodIn_r _ [1073, 109, 112, 1074, 748, 749, 5, 750, 1169, 1170, 1171, 1172, 1173, 1174, 1175, 1176, 1177, 1178, 1179, 1180, 1181, 1182, 1183, 1184] (by decide +kernel) (by decide +kernel)
set_option maxRecDepth 20000 in
theorem gL_law_X9_image : GoodIn wsL_law (wsV RL 128 RX9 yX9_image wsX9_image) := goodIn_app (goodIn_of _ (by decide +kernel)) ggL_law_X9_image
set_option maxRecDepth 20000 in
theorem gh_X8_back : GoodIn wsL_law [.code yX8_back cX8_back 5 (some .int)] := goodIn_r _ [1078] (by decide +kernel) (by decide +kernel)
set_option maxRecDepth 20000 in
theorem g_wsX8_back_r1 : GoodIn wsL_law wsX8_back_r1 := goodIn_r _ [1069, 17, 21, 923, 1079, 802, 992, 993, 994, 20, 995, 129, 173, 174, 288, 461, 462, 134, 135, 136, 137, 48, 53, 996] (by decide +kernel) (by decide +kernel)
set_option maxRecDepth 20000 in
theorem g_wsX8_back_r2 : GoodIn wsL_law wsX8_back_r2 := goodIn_r _ [997, 998, 52, 999, 142, 143, 144, 145, 146, 1000, 256, 257, 258, 63, 1001, 260, 261, 262, 175, 176, 177, 178, 50, 56] (by decide +kernel) (by decide +kernel)
set_option maxRecDepth 20000 in
theorem g_wsX8_back_r3 : GoodIn wsL_law wsX8_back_r3 := goodIn_r _ [1002, 1003, 1004, 55, 1005, 183, 184, 195, 196, 197, 198, 185, 70, 71, 72, 1006, 1007, 1008, 69, 1009, 190, 77, 1010, 285] (by decide +kernel) (by decide +kernel)
set_option maxRecDepth 20000 in
theorem g_wsX8_back_r4 : GoodIn wsL_law wsX8_back_r4 := goodIn_r _ [81, 286, 78, 1011, 334, 335, 336, 83, 1012, 208, 209, 210, 929, 930, 931, 2, 932, 30, 33, 302, 248, 249, 250, 377] (by decide +kernel) (by decide +kernel)
set_option maxRecDepth 20000 in
theorem g_wsX8_back_r5 : GoodIn wsL_law wsX8_back_r5 := goodIn_r _ [252, 253, 254, 1080, 1081, 1082, 32, 1083, 101, 1084] (by decide +kernel) (by decide +kernel)
set_option maxRecDepth 20000 in
theorem ggL_law_X8_back : GoodIn wsL_law wsX8_back := goodIn_ca (a := []) gh_X8_back (goodIn_app (goodIn_app (goodIn_app (goodIn_app (goodIn_app (goodIn_app (goodIn_app g_wsX8_back_r1 (goodIn_app g_wsX8_back_r2 (goodIn_app g_wsX8_back_r3 (goodIn_app g_wsX8_back_r4 g_wsX8_back_r5)))) gcX8) gcX1) gcX2) gcX3) gcX7) gcX4)
set_option maxRecDepth 20000 in
theorem gL_law_X8_back : GoodIn wsL_law (wsV RL 129 RX8 yX8_back wsX8_back) := goodIn_app (goodIn_of _ (by decide +kernel)) ggL_law_X8_back
set_option maxRecDepth 20000 in
theorem ggL_law_X9_back : GoodIn wsL_law wsX9_back := goodIn_r _ [1088, 1074, 112, 109, 115, 116, 748, 749, 5, 750, 267, 268, 269, 270, 154, 155, 156, 271, 272, 273, 274, 1169, 1170, 1171, 1172, 1173, 1174, 1175, 1176, 1177, 1178, 1179, 1180, 1181, 1182, 1183, 1184] (by decide +kernel) (by decide +kernel)
set_option maxRecDepth 20000 in
theorem gL_law_X9_back : GoodIn wsL_law (wsV RL 132 RX9 yX9_back wsX9_back) := goodIn_app (goodIn_of _ (by decide +kernel)) ggL_law_X9_back
set_option maxRecDepth 20000 in
theorem gh_X8_hold : GoodIn wsL_law [.code yX8_hold cX8_hold 5 (some .int)] := goodIn_r _ [1092] (by decide +kernel) (by decide +kernel)
set_option maxRecDepth 20000 in
theorem g_wsX8_hold_r1 : GoodIn wsL_law wsX8_hold_r1 := goodIn_r _ [17, 302, 248, 249, 20, 250, 129, 377, 252, 253, 254, 173, 926, 927, 2, 928, 929, 930, 931, 932, 30, 33, 1080, 1081] (by decide +kernel) (by decide +kernel)
set_option maxRecDepth 20000 in
theorem g_wsX8_hold_r2 : GoodIn wsL_law wsX8_hold_r2 := goodIn_r _ [1082, 32, 1083, 101, 1084] (by decide +kernel) (by decide +kernel)
set_option maxRecDepth 20000 in
theorem ggL_law_X8_hold : GoodIn wsL_law wsX8_hold := goodIn_ca (a := []) gh_X8_hold (goodIn_app (goodIn_app (goodIn_app (goodIn_app g_wsX8_hold_r1 g_wsX8_hold_r2) gcX8) gcX2) gcX1)
set_option maxRecDepth 20000 in
theorem gL_law_X8_hold : GoodIn wsL_law (wsV RL 133 RX8 yX8_hold wsX8_hold) := goodIn_app (goodIn_of _ (by decide +kernel)) ggL_law_X8_hold
set_option maxRecDepth 20000 in
theorem ggL_law_X9_hold : GoodIn wsL_law wsX9_hold := goodIn_r _ [1096, 115, 116, 941, 942, 943, 5, 944, 154, 155, 156, 267, 268, 269, 270, 109, 271, 272, 273, 274, 1169, 1170, 1171, 1172, 1173, 1174, 1175, 1176, 1177, 1178, 1179, 1180, 1181, 1182, 1183, 1184] (by decide +kernel) (by decide +kernel)
set_option maxRecDepth 20000 in
theorem gL_law_X9_hold : GoodIn wsL_law (wsV RL 136 RX9 yX9_hold wsX9_hold) := goodIn_app (goodIn_of _ (by decide +kernel)) ggL_law_X9_hold
set_option maxRecDepth 20000 in
theorem gh_X8_row : GoodIn wsL_law [.code yX8_row cX8_row 3 (some .int)] := goodIn_r _ [1100] (by decide +kernel) (by decide +kernel)
set_option maxRecDepth 20000 in
theorem g_wsX8_row_r1 : GoodIn wsL_law wsX8_row_r1 := goodIn_r _ [926, 927, 2, 928, 929, 930, 931, 932, 30, 33, 1101, 1102, 1103, 32, 1104, 103, 1105, 1081, 1082, 1083, 101, 1084, 1106, 187] (by decide +kernel) (by decide +kernel)
set_option maxRecDepth 20000 in
theorem g_wsX8_row_r2 : GoodIn wsL_law wsX8_row_r2 := goodIn_r _ [188, 69, 189, 190, 1107, 204, 205, 206, 77, 83, 78] (by decide +kernel) (by decide +kernel)
set_option maxRecDepth 20000 in
theorem ggL_law_X8_row : GoodIn wsL_law wsX8_row := goodIn_ca (a := []) gh_X8_row (goodIn_app (goodIn_app (goodIn_app (goodIn_app g_wsX8_row_r1 g_wsX8_row_r2) gcX8) gcX1) gcX4)
set_option maxRecDepth 20000 in
theorem gL_law_X8_row : GoodIn wsL_law (wsV RL 137 RX8 yX8_row wsX8_row) := goodIn_app (goodIn_of _ (by decide +kernel)) ggL_law_X8_row
set_option maxRecDepth 20000 in
theorem ggL_law_X9_row : GoodIn wsL_law wsX9_row := goodIn_r _ [1111, 115, 117, 119, 941, 942, 943, 5, 944, 154, 155, 156, 1169, 1170, 1171, 1172, 1173, 1174, 1175, 1176, 1177, 1178, 1179, 1180, 1181, 1182, 1183, 1184] (by decide +kernel) (by decide +kernel)
set_option maxRecDepth 20000 in
theorem gL_law_X9_row : GoodIn wsL_law (wsV RL 140 RX9 yX9_row wsX9_row) := goodIn_app (goodIn_of _ (by decide +kernel)) ggL_law_X9_row
set_option maxRecDepth 20000 in
theorem gh_X8_put : GoodIn wsL_law [.code yX8_put cX8_put 6 (some .int)] := goodIn_r _ [1115] (by decide +kernel) (by decide +kernel)
set_option maxRecDepth 20000 in
theorem g_wsX8_put_r1 : GoodIn wsL_law wsX8_put_r1 := goodIn_r _ [923, 925, 1116, 929, 930, 931, 2, 932, 30, 33, 379, 330, 331, 69, 332, 190, 391, 334, 335, 336, 78, 83, 950, 208] (by decide +kernel) (by decide +kernel)
set_option maxRecDepth 20000 in
theorem g_wsX8_put_r2 : GoodIn wsL_law wsX8_put_r2 := goodIn_r _ [209, 210] (by decide +kernel) (by decide +kernel)
set_option maxRecDepth 20000 in
theorem ggL_law_X8_put : GoodIn wsL_law wsX8_put := goodIn_ca (a := []) gh_X8_put (goodIn_app (goodIn_app (goodIn_app (goodIn_app g_wsX8_put_r1 g_wsX8_put_r2) gcX1) gcX8) gcX4)
set_option maxRecDepth 20000 in
theorem gL_law_X8_put : GoodIn wsL_law (wsV RL 141 RX8 yX8_put wsX8_put) := goodIn_app (goodIn_of _ (by decide +kernel)) ggL_law_X8_put
set_option maxRecDepth 20000 in
theorem ggL_law_X9_put : GoodIn wsL_law wsX9_put := goodIn_r _ [1120, 115, 117, 1121, 119, 941, 942, 943, 5, 944, 154, 155, 156, 1169, 1170, 1171, 1172, 1173, 1174, 1175, 1176, 1177, 1178, 1179, 1180, 1181, 1182, 1183, 1184] (by decide +kernel) (by decide +kernel)
set_option maxRecDepth 20000 in
theorem gL_law_X9_put : GoodIn wsL_law (wsV RL 144 RX9 yX9_put wsX9_put) := goodIn_app (goodIn_of _ (by decide +kernel)) ggL_law_X9_put
set_option maxRecDepth 20000 in
theorem gh_X8_tells : GoodIn wsL_law [.code yX8_tells cX8_tells 4 (some .int)] := goodIn_r _ [1125] (by decide +kernel) (by decide +kernel)
set_option maxRecDepth 20000 in
theorem g_wsX8_tells_r1 : GoodIn wsL_law wsX8_tells_r1 := goodIn_r _ [923, 1079, 17, 299, 368, 370, 926, 927, 2, 928, 929, 930, 931, 932, 30, 33, 303, 135, 136, 20, 137, 48, 53, 378] (by decide +kernel) (by decide +kernel)
set_option maxRecDepth 20000 in
theorem g_wsX8_tells_r2 : GoodIn wsL_law wsX8_tells_r2 := goodIn_r _ [176, 177, 178, 50, 56, 1126, 212, 213, 55, 214, 195] (by decide +kernel) (by decide +kernel)
set_option maxRecDepth 20000 in
theorem ggL_law_X8_tells : GoodIn wsL_law wsX8_tells := goodIn_ca (a := []) gh_X8_tells (goodIn_app (goodIn_app (goodIn_app (goodIn_app (goodIn_app (goodIn_app g_wsX8_tells_r1 g_wsX8_tells_r2) gcX1) gcX8) gcX3) gcX7) gcX2)
set_option maxRecDepth 20000 in
theorem gL_law_X8_tells : GoodIn wsL_law (wsV RL 145 RX8 yX8_tells wsX8_tells) := goodIn_app (goodIn_of _ (by decide +kernel)) ggL_law_X8_tells
set_option maxRecDepth 20000 in
theorem ggL_law_X9_tells : GoodIn wsL_law wsX9_tells := goodIn_r _ [1130, 115, 116, 941, 942, 943, 5, 944, 154, 155, 156, 235, 236, 237, 238, 231, 232, 233, 234, 109, 157, 158, 159, 160, 1169, 1170, 1171, 1172, 1173, 1174, 1175, 1176, 1177, 1178, 1179, 1180, 1181, 1182, 1183, 1184] (by decide +kernel) (by decide +kernel)
set_option maxRecDepth 20000 in
theorem gL_law_X9_tells : GoodIn wsL_law (wsV RL 148 RX9 yX9_tells wsX9_tells) := goodIn_app (goodIn_of _ (by decide +kernel)) ggL_law_X9_tells
set_option maxRecDepth 20000 in
theorem gh_X8_count : GoodIn wsL_law [.code yX8_count cX8_count 2 (some .int)] := goodIn_r _ [1134] (by decide +kernel) (by decide +kernel)
set_option maxRecDepth 20000 in
theorem g_wsX8_count_r1 : GoodIn wsL_law wsX8_count_r1 := goodIn_r _ [17, 924, 1135, 15, 802, 1136, 28, 1137, 1138, 1139, 14, 1140, 38, 847, 808, 176, 177, 20, 178, 50, 56, 1141, 212, 213] (by decide +kernel) (by decide +kernel)
set_option maxRecDepth 20000 in
theorem g_wsX8_count_r2 : GoodIn wsL_law wsX8_count_r2 := goodIn_r _ [55, 214, 195, 1142, 1143, 1144, 1145, 807, 1146, 330, 331, 69, 332, 190, 1147, 1148, 1149, 1150, 877, 1151, 880, 135, 136, 137] (by decide +kernel) (by decide +kernel)
set_option maxRecDepth 20000 in
theorem g_wsX8_count_r3 : GoodIn wsL_law wsX8_count_r3 := goodIn_r _ [48, 53, 379, 1152, 1153, 1154, 2, 1155, 923, 929, 930, 931, 932, 30, 33] (by decide +kernel) (by decide +kernel)
set_option maxRecDepth 20000 in
theorem ggL_law_X8_count : GoodIn wsL_law wsX8_count := goodIn_ca (a := []) gh_X8_count (goodIn_app (goodIn_app (goodIn_app (goodIn_app (goodIn_app (goodIn_app (goodIn_app (goodIn_app g_wsX8_count_r1 (goodIn_app g_wsX8_count_r2 g_wsX8_count_r3)) gcX8) gcX2) gcX6) gcX7) gcX4) gcX3) gcX1)
