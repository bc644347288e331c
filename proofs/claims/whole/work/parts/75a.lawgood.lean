theorem gcX0 : GoodIn wsL_law wsX00 := goodIn_sub inlX0 (by decide +kernel)
theorem gcX1 : GoodIn wsL_law wsX10 := goodIn_sub inlX1 (by decide +kernel)
theorem gcX2 : GoodIn wsL_law wsX20 := goodIn_sub inlX2 (by decide +kernel)
theorem gcX3 : GoodIn wsL_law wsX30 := goodIn_sub inlX3 (by decide +kernel)
theorem gcX4 : GoodIn wsL_law wsX40 := goodIn_sub inlX4 (by decide +kernel)
theorem gcX5 : GoodIn wsL_law wsX50 := goodIn_sub inlX5 (by decide +kernel)
theorem gcX6 : GoodIn wsL_law wsX60 := goodIn_sub inlX6 (by decide +kernel)
theorem gcX7 : GoodIn wsL_law wsX70 := goodIn_sub inlX7 (by decide +kernel)
theorem gcX8 : GoodIn wsL_law wsX80 := goodIn_sub inlX8 (by decide +kernel)
theorem gcX9 : GoodIn wsL_law wsX90 := goodIn_sub inlX9 (by decide +kernel)
set_option maxRecDepth 20000 in
theorem gh_X8_init : GoodIn wsL_law [.code yX8_init cX8_init 2 none] := goodIn_r _ [8] (by decide +kernel) (by decide +kernel)
set_option maxRecDepth 20000 in
theorem g_wsX8_init_r1 : GoodIn wsL_law wsX8_init_r1 := goodIn_r _ [9, 10, 11, 12, 13, 14, 15, 16, 17, 18, 19, 20, 21, 22, 23, 24, 25, 26, 27, 28, 29, 30, 31, 32] (by decide +kernel) (by decide +kernel)
set_option maxRecDepth 20000 in
theorem g_wsX8_init_r2 : GoodIn wsL_law wsX8_init_r2 := goodIn_r _ [33, 34, 35, 36, 37, 38, 39, 40, 41, 42, 43, 44, 45, 46, 47, 48, 49, 50, 51, 52, 53, 54, 55, 56] (by decide +kernel) (by decide +kernel)
set_option maxRecDepth 20000 in
theorem g_wsX8_init_r3 : GoodIn wsL_law wsX8_init_r3 := goodIn_r _ [57, 58, 59, 60, 61, 62, 63, 64, 65, 66, 67, 68, 69, 70, 71, 72, 73, 74, 75, 76, 77, 78, 79, 80] (by decide +kernel) (by decide +kernel)
set_option maxRecDepth 20000 in
theorem g_wsX8_init_r4 : GoodIn wsL_law wsX8_init_r4 := goodIn_r _ [81, 82, 83, 84, 85, 86, 87, 88, 89, 90, 91, 92, 93, 94, 95, 96, 97, 98, 99, 100, 101, 102, 103, 104] (by decide +kernel) (by decide +kernel)
set_option maxRecDepth 20000 in
theorem ggL_law_X8_init : GoodIn wsL_law wsX8_init := goodIn_ca (a := []) gh_X8_init (goodIn_app (goodIn_app (goodIn_app (goodIn_app (goodIn_app (goodIn_app (goodIn_app (goodIn_app (goodIn_app (goodIn_app g_wsX8_init_r1 (goodIn_app g_wsX8_init_r2 (goodIn_app g_wsX8_init_r3 g_wsX8_init_r4))) gcX6) gcX8) gcX2) gcX5) gcX1) gcX0) gcX3) gcX7) gcX4)
set_option maxRecDepth 20000 in
theorem gL_law_X8_init : GoodIn wsL_law (wsX8_init) := ggL_law_X8_init
set_option maxRecDepth 20000 in
theorem ggL_law_X9_init : GoodIn wsL_law wsX9_init := goodIn_r _ [107, 108, 10, 11, 62, 109, 110, 111, 112, 113, 114, 115, 116, 117, 118, 119, 120, 1169, 1170, 1171, 1172, 1173, 1174, 1175, 1176, 1177, 1178, 1179, 1180, 1181, 1182, 1183, 1184] (by decide +kernel) (by decide +kernel)
set_option maxRecDepth 20000 in
theorem gL_law_X9_init : GoodIn wsL_law (wsX9_init) := ggL_law_X9_init
set_option maxRecDepth 20000 in
theorem gh_X8_person : GoodIn wsL_law [.code yX8_person cX8_person 3 (some .int)] := goodIn_r _ [124] (by decide +kernel) (by decide +kernel)
set_option maxRecDepth 20000 in
theorem g_wsX8_person_r1 : GoodIn wsL_law wsX8_person_r1 := goodIn_r _ [17, 125, 126, 127, 20, 128, 129, 130, 131, 132, 133, 134, 135, 136, 137, 48, 53, 138, 139, 140, 52, 141, 142, 143] (by decide +kernel) (by decide +kernel)
set_option maxRecDepth 20000 in
theorem g_wsX8_person_r2 : GoodIn wsL_law wsX8_person_r2 := goodIn_r _ [144, 145, 146, 63] (by decide +kernel) (by decide +kernel)
set_option maxRecDepth 20000 in
theorem ggL_law_X8_person : GoodIn wsL_law wsX8_person := goodIn_ca (a := []) gh_X8_person (goodIn_app (goodIn_app (goodIn_app (goodIn_app g_wsX8_person_r1 g_wsX8_person_r2) gcX8) gcX2) gcX3)
set_option maxRecDepth 20000 in
theorem gL_law_X8_person : GoodIn wsL_law (wsV RL 13 RX8 yX8_person wsX8_person) := goodIn_app (goodIn_of _ (by decide +kernel)) ggL_law_X8_person
set_option maxRecDepth 20000 in
theorem ggL_law_X9_person : GoodIn wsL_law wsX9_person := goodIn_r _ [150, 109, 151, 152, 5, 153, 154, 155, 156, 157, 158, 159, 160, 161, 162, 163, 164, 1169, 1170, 1171, 1172, 1173, 1174, 1175, 1176, 1177, 1178, 1179, 1180, 1181, 1182, 1183, 1184] (by decide +kernel) (by decide +kernel)
set_option maxRecDepth 20000 in
theorem gL_law_X9_person : GoodIn wsL_law (wsV RL 17 RX9 yX9_person wsX9_person) := goodIn_app (goodIn_of _ (by decide +kernel)) ggL_law_X9_person
set_option maxRecDepth 20000 in
theorem gh_X8_tool : GoodIn wsL_law [.code yX8_tool cX8_tool 2 (some .int)] := goodIn_r _ [168] (by decide +kernel) (by decide +kernel)
set_option maxRecDepth 20000 in
theorem g_wsX8_tool_r1 : GoodIn wsL_law wsX8_tool_r1 := goodIn_r _ [17, 169, 170, 171, 20, 172, 173, 174, 175, 176, 177, 178, 50, 56, 179, 180, 181, 55, 182, 183, 184, 185, 70, 71] (by decide +kernel) (by decide +kernel)
set_option maxRecDepth 20000 in
theorem g_wsX8_tool_r2 : GoodIn wsL_law wsX8_tool_r2 := goodIn_r _ [72, 186, 187, 188, 69, 189, 190, 191, 192, 193, 194, 195, 196, 197, 198, 199, 200, 201, 202, 203, 204, 205, 206, 77] (by decide +kernel) (by decide +kernel)
set_option maxRecDepth 20000 in
theorem g_wsX8_tool_r3 : GoodIn wsL_law wsX8_tool_r3 := goodIn_r _ [83, 78, 207, 208, 209, 210, 211, 212, 213, 214] (by decide +kernel) (by decide +kernel)
set_option maxRecDepth 20000 in
theorem ggL_law_X8_tool : GoodIn wsL_law wsX8_tool := goodIn_ca (a := []) gh_X8_tool (goodIn_app (goodIn_app (goodIn_app (goodIn_app (goodIn_app g_wsX8_tool_r1 (goodIn_app g_wsX8_tool_r2 g_wsX8_tool_r3)) gcX8) gcX2) gcX7) gcX4)
set_option maxRecDepth 20000 in
theorem gL_law_X8_tool : GoodIn wsL_law (wsV RL 18 RX8 yX8_tool wsX8_tool) := goodIn_app (goodIn_of _ (by decide +kernel)) ggL_law_X8_tool
set_option maxRecDepth 20000 in
theorem gh_X9_tool : GoodIn wsL_law [.code yX9_tool cX9_tool 4 (some .int)] := goodIn_r _ [218] (by decide +kernel) (by decide +kernel)
set_option maxRecDepth 20000 in
theorem g_wsX9_tool_r1 : GoodIn wsL_law wsX9_tool_r1 := goodIn_r _ [109, 154, 155, 5, 156, 219, 220, 221, 222, 161, 162, 163, 164, 223, 224, 225, 226, 227, 228, 229, 230, 231, 232, 233] (by decide +kernel) (by decide +kernel)
set_option maxRecDepth 20000 in
theorem g_wsX9_tool_r2 : GoodIn wsL_law wsX9_tool_r2 := goodIn_r _ [234, 235, 236, 237, 238] (by decide +kernel) (by decide +kernel)
set_option maxRecDepth 20000 in
theorem ggL_law_X9_tool : GoodIn wsL_law wsX9_tool := goodIn_ca (a := []) gh_X9_tool (goodIn_app (goodIn_app g_wsX9_tool_r1 g_wsX9_tool_r2) gcX9)
set_option maxRecDepth 20000 in
theorem gL_law_X9_tool : GoodIn wsL_law (wsV RL 22 RX9 yX9_tool wsX9_tool) := goodIn_app (goodIn_of _ (by decide +kernel)) ggL_law_X9_tool
set_option maxRecDepth 20000 in
theorem gh_X8_wish : GoodIn wsL_law [.code yX8_wish cX8_wish 4 (some .int)] := goodIn_r _ [242] (by decide +kernel) (by decide +kernel)
set_option maxRecDepth 20000 in
theorem g_wsX8_wish_r1 : GoodIn wsL_law wsX8_wish_r1 := goodIn_r _ [17, 243, 244, 245, 20, 246, 247, 248, 249, 250, 129, 251, 252, 253, 254, 173, 134, 135, 136, 137, 48, 53, 255, 256] (by decide +kernel) (by decide +kernel)
set_option maxRecDepth 20000 in
theorem g_wsX8_wish_r2 : GoodIn wsL_law wsX8_wish_r2 := goodIn_r _ [257, 52, 258, 63, 259, 260, 261, 262] (by decide +kernel) (by decide +kernel)
set_option maxRecDepth 20000 in
theorem ggL_law_X8_wish : GoodIn wsL_law wsX8_wish := goodIn_ca (a := []) gh_X8_wish (goodIn_app (goodIn_app (goodIn_app (goodIn_app g_wsX8_wish_r1 g_wsX8_wish_r2) gcX8) gcX2) gcX3)
set_option maxRecDepth 20000 in
theorem gL_law_X8_wish : GoodIn wsL_law (wsV RL 23 RX8 yX8_wish wsX8_wish) := goodIn_app (goodIn_of _ (by decide +kernel)) ggL_law_X8_wish
set_option maxRecDepth 20000 in
theorem ggL_law_X9_wish : GoodIn wsL_law wsX9_wish := goodIn_r _ [266, 267, 268, 269, 5, 270, 109, 154, 155, 156, 271, 272, 273, 274, 157, 158, 159, 160, 161, 162, 163, 164, 1169, 1170, 1171, 1172, 1173, 1174, 1175, 1176, 1177, 1178, 1179, 1180, 1181, 1182, 1183, 1184] (by decide +kernel) (by decide +kernel)
set_option maxRecDepth 20000 in
theorem gL_law_X9_wish : GoodIn wsL_law (wsV RL 27 RX9 yX9_wish wsX9_wish) := goodIn_app (goodIn_of _ (by decide +kernel)) ggL_law_X9_wish
set_option maxRecDepth 20000 in
theorem ggL_law_X8_fund : GoodIn wsL_law wsX8_fund := goodIn_r _ [278, 17, 279, 280, 281, 20, 282, 283, 284, 285, 81, 286, 287, 288, 247, 248, 249, 250, 129, 134, 135, 136, 137, 48, 53, 1160, 1161, 1162, 1163, 1164, 1165, 1166, 1167, 1168, 1206, 1207, 1208, 1209, 1210, 1211, 1187, 1188, 1189, 1190, 1191, 1192, 1193, 1194, 1195, 1196, 1197] (by decide +kernel) (by decide +kernel)
set_option maxRecDepth 20000 in
theorem gL_law_X8_fund : GoodIn wsL_law (wsV RL 28 RX8 yX8_fund wsX8_fund) := goodIn_app (goodIn_of _ (by decide +kernel)) ggL_law_X8_fund
set_option maxRecDepth 20000 in
theorem ggL_law_X9_fund : GoodIn wsL_law wsX9_fund := goodIn_r _ [292, 109, 267, 268, 269, 5, 270, 154, 155, 156, 157, 158, 159, 160, 161, 162, 163, 164, 1169, 1170, 1171, 1172, 1173, 1174, 1175, 1176, 1177, 1178, 1179, 1180, 1181, 1182, 1183, 1184] (by decide +kernel) (by decide +kernel)
set_option maxRecDepth 20000 in
theorem gL_law_X9_fund : GoodIn wsL_law (wsV RL 31 RX9 yX9_fund wsX9_fund) := goodIn_app (goodIn_of _ (by decide +kernel)) ggL_law_X9_fund
set_option maxRecDepth 20000 in
theorem gh_X8_personOf : GoodIn wsL_law [.code yX8_personOf cX8_personOf 4 (some .int)] := goodIn_r _ [296] (by decide +kernel) (by decide +kernel)
set_option maxRecDepth 20000 in
theorem g_wsX8_personOf_r1 : GoodIn wsL_law wsX8_personOf_r1 := goodIn_r _ [17, 297, 298, 299, 300, 301, 302, 248, 249, 20, 250, 129, 303, 135, 136, 137, 48, 53, 304, 305, 306, 307, 173, 308] (by decide +kernel) (by decide +kernel)
set_option maxRecDepth 20000 in
theorem g_wsX8_personOf_r2 : GoodIn wsL_law wsX8_personOf_r2 := goodIn_r _ [175, 176, 177, 178, 50, 56, 309, 310, 311, 312, 134, 313, 314, 315, 52, 316, 144, 145, 317, 318, 319, 320, 142, 321] (by decide +kernel) (by decide +kernel)
set_option maxRecDepth 20000 in
theorem g_wsX8_personOf_r3 : GoodIn wsL_law wsX8_personOf_r3 := goodIn_r _ [322, 323, 324, 325, 326, 327, 55, 328, 72, 329, 330, 331, 69, 332, 190, 333, 334, 335, 336, 78, 83] (by decide +kernel) (by decide +kernel)
set_option maxRecDepth 20000 in
theorem ggL_law_X8_personOf : GoodIn wsL_law wsX8_personOf := goodIn_ca (a := []) gh_X8_personOf (goodIn_app (goodIn_app (goodIn_app (goodIn_app (goodIn_app (goodIn_app g_wsX8_personOf_r1 (goodIn_app g_wsX8_personOf_r2 g_wsX8_personOf_r3)) gcX8) gcX3) gcX2) gcX7) gcX4)
set_option maxRecDepth 20000 in
theorem gL_law_X8_personOf : GoodIn wsL_law (wsV RL 32 RX8 yX8_personOf wsX8_personOf) := goodIn_app (goodIn_of _ (by decide +kernel)) ggL_law_X8_personOf
set_option maxRecDepth 20000 in
theorem gh_X9_personOf : GoodIn wsL_law [.code yX9_personOf cX9_personOf 3 (some .int)] := goodIn_r _ [340] (by decide +kernel) (by decide +kernel)
set_option maxRecDepth 20000 in
theorem g_wsX9_personOf_r1 : GoodIn wsL_law wsX9_personOf_r1 := goodIn_r _ [267, 268, 269, 5, 270, 109, 154, 155, 156, 157, 158, 159, 160, 341, 342, 343, 344, 231, 232, 233, 234, 345, 346, 347] (by decide +kernel) (by decide +kernel)
set_option maxRecDepth 20000 in
theorem g_wsX9_personOf_r2 : GoodIn wsL_law wsX9_personOf_r2 := goodIn_r _ [348, 349, 350, 351, 352, 353, 354, 355, 356, 357, 358, 359, 360, 361, 362, 363] (by decide +kernel) (by decide +kernel)
set_option maxRecDepth 20000 in
theorem ggL_law_X9_personOf : GoodIn wsL_law wsX9_personOf := goodIn_ca (a := []) gh_X9_personOf (goodIn_app (goodIn_app g_wsX9_personOf_r1 g_wsX9_personOf_r2) gcX9)
