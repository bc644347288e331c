set_option maxRecDepth 20000 in
theorem ggL_law_X8_init : GoodIn wsL_law wsX8_init := goodIn_r _ [8, 9, 10, 11, 12, 13, 14, 15, 16, 17, 18, 19, 20, 21, 22, 23, 24, 25, 26, 27, 28, 29, 30, 31, 32, 33, 34, 35, 36, 37, 38, 39, 40, 41, 42, 43, 44, 45, 46, 47, 48, 49, 50, 51, 52, 53, 54, 55, 56, 57, 58, 59, 60, 61, 62, 63, 64, 65, 66, 67, 68, 69, 70, 71, 72, 73, 74, 75, 76, 77, 78, 79, 80, 81, 82, 83, 84, 85, 86, 87, 88, 89, 90, 91, 92, 93, 94, 95, 96, 97, 98, 99, 100, 101, 102, 103, 104, 1185, 1186, 1187, 1188, 1189, 1190, 1191, 1192, 1193, 1194, 1195, 1160, 1161, 1162, 1163, 1164, 1165, 1166, 1167, 1168, 1196, 1197, 1198, 1199, 1200, 1201, 1202, 1203, 1204, 1205, 1206, 1207, 1208, 1209, 1210, 1211, 1212, 1213, 1214, 1215, 1216, 1217, 1218, 1219, 1220, 1221, 1222, 1223, 1224, 1225] (by decide +kernel) (by decide +kernel)
set_option maxRecDepth 20000 in
theorem gL_law_X8_init : GoodIn wsL_law (wsX8_init) := ggL_law_X8_init
set_option maxRecDepth 20000 in
theorem ggL_law_X9_init : GoodIn wsL_law wsX9_init := goodIn_r _ [107, 108, 10, 11, 56, 109, 110, 111, 112, 113, 114, 115, 116, 117, 118, 119, 120, 1169, 1170, 1171, 1172, 1173, 1174, 1175, 1176, 1177, 1178, 1179, 1180, 1181, 1182, 1183, 1184] (by decide +kernel) (by decide +kernel)
set_option maxRecDepth 20000 in
theorem gL_law_X9_init : GoodIn wsL_law (wsX9_init) := ggL_law_X9_init
set_option maxRecDepth 20000 in
theorem ggL_law_X8_person : GoodIn wsL_law wsX8_person := goodIn_r _ [124, 15, 125, 126, 127, 14, 128, 129, 130, 131, 132, 133, 134, 135, 136, 137, 40, 45, 138, 139, 140, 44, 141, 142, 143, 144, 145, 146, 57, 1160, 1161, 1162, 1163, 1164, 1165, 1166, 1167, 1168, 1185, 1186, 1187, 1188, 1189, 1190, 1191, 1192, 1193, 1194, 1195, 1208, 1209, 1210, 1211, 1212, 1213] (by decide +kernel) (by decide +kernel)
set_option maxRecDepth 20000 in
theorem gL_law_X8_person : GoodIn wsL_law (wsV RL 13 RX8 yX8_person wsX8_person) := goodIn_app (goodIn_of _ (by decide +kernel)) ggL_law_X8_person
set_option maxRecDepth 20000 in
theorem ggL_law_X9_person : GoodIn wsL_law wsX9_person := goodIn_r _ [150, 109, 151, 152, 5, 153, 154, 155, 156, 157, 158, 159, 160, 161, 162, 163, 164, 1169, 1170, 1171, 1172, 1173, 1174, 1175, 1176, 1177, 1178, 1179, 1180, 1181, 1182, 1183, 1184] (by decide +kernel) (by decide +kernel)
set_option maxRecDepth 20000 in
theorem gL_law_X9_person : GoodIn wsL_law (wsV RL 17 RX9 yX9_person wsX9_person) := goodIn_app (goodIn_of _ (by decide +kernel)) ggL_law_X9_person
set_option maxRecDepth 20000 in
theorem ggL_law_X8_tool : GoodIn wsL_law wsX8_tool := goodIn_r _ [168, 15, 169, 170, 171, 14, 172, 173, 174, 175, 176, 177, 178, 42, 48, 179, 180, 181, 47, 182, 183, 184, 185, 62, 63, 64, 186, 187, 188, 24, 189, 190, 191, 192, 193, 194, 195, 196, 197, 198, 199, 200, 201, 202, 203, 204, 205, 206, 69, 70, 75, 207, 208, 209, 210, 211, 212, 213, 214, 1160, 1161, 1162, 1163, 1164, 1165, 1166, 1167, 1168, 1185, 1186, 1187, 1188, 1189, 1190, 1191, 1192, 1193, 1194, 1195, 1214, 1215, 1216, 1217, 1218, 1219, 1220, 1221, 1222, 1223, 1198, 1199, 1200, 1201] (by decide +kernel) (by decide +kernel)
set_option maxRecDepth 20000 in
theorem gL_law_X8_tool : GoodIn wsL_law (wsV RL 18 RX8 yX8_tool wsX8_tool) := goodIn_app (goodIn_of _ (by decide +kernel)) ggL_law_X8_tool
set_option maxRecDepth 20000 in
theorem ggL_law_X9_tool : GoodIn wsL_law wsX9_tool := goodIn_r _ [218, 109, 154, 155, 5, 156, 219, 220, 221, 222, 161, 162, 163, 164, 223, 224, 225, 226, 227, 228, 229, 230, 231, 232, 233, 234, 235, 236, 237, 238, 1169, 1170, 1171, 1172, 1173, 1174, 1175, 1176, 1177, 1178, 1179, 1180, 1181, 1182, 1183, 1184] (by decide +kernel) (by decide +kernel)
set_option maxRecDepth 20000 in
theorem gL_law_X9_tool : GoodIn wsL_law (wsV RL 22 RX9 yX9_tool wsX9_tool) := goodIn_app (goodIn_of _ (by decide +kernel)) ggL_law_X9_tool
set_option maxRecDepth 20000 in
theorem ggL_law_X8_wish : GoodIn wsL_law wsX8_wish := goodIn_r _ [242, 15, 243, 244, 245, 14, 246, 247, 248, 249, 250, 129, 251, 252, 253, 254, 173, 134, 135, 136, 137, 40, 45, 255, 256, 257, 44, 258, 57, 259, 260, 261, 262, 1160, 1161, 1162, 1163, 1164, 1165, 1166, 1167, 1168, 1185, 1186, 1187, 1188, 1189, 1190, 1191, 1192, 1193, 1194, 1195, 1208, 1209, 1210, 1211, 1212, 1213] (by decide +kernel) (by decide +kernel)
set_option maxRecDepth 20000 in
theorem gL_law_X8_wish : GoodIn wsL_law (wsV RL 23 RX8 yX8_wish wsX8_wish) := goodIn_app (goodIn_of _ (by decide +kernel)) ggL_law_X8_wish
set_option maxRecDepth 20000 in
theorem ggL_law_X9_wish : GoodIn wsL_law wsX9_wish := goodIn_r _ [266, 267, 268, 269, 5, 270, 109, 154, 155, 156, 271, 272, 273, 274, 157, 158, 159, 160, 161, 162, 163, 164, 1169, 1170, 1171, 1172, 1173, 1174, 1175, 1176, 1177, 1178, 1179, 1180, 1181, 1182, 1183, 1184] (by decide +kernel) (by decide +kernel)
set_option maxRecDepth 20000 in
theorem gL_law_X9_wish : GoodIn wsL_law (wsV RL 27 RX9 yX9_wish wsX9_wish) := goodIn_app (goodIn_of _ (by decide +kernel)) ggL_law_X9_wish
set_option maxRecDepth 20000 in
theorem ggL_law_X8_fund : GoodIn wsL_law wsX8_fund := goodIn_r _ [278, 15, 279, 280, 281, 14, 282, 283, 284, 285, 73, 286, 287, 288, 247, 248, 249, 250, 129, 134, 135, 136, 137, 40, 45, 1160, 1161, 1162, 1163, 1164, 1165, 1166, 1167, 1168, 1208, 1209, 1210, 1211, 1212, 1213, 1185, 1186, 1187, 1188, 1189, 1190, 1191, 1192, 1193, 1194, 1195] (by decide +kernel) (by decide +kernel)
set_option maxRecDepth 20000 in
theorem gL_law_X8_fund : GoodIn wsL_law (wsV RL 28 RX8 yX8_fund wsX8_fund) := goodIn_app (goodIn_of _ (by decide +kernel)) ggL_law_X8_fund
set_option maxRecDepth 20000 in
theorem ggL_law_X9_fund : GoodIn wsL_law wsX9_fund := goodIn_r _ [292, 109, 267, 268, 269, 5, 270, 154, 155, 156, 157, 158, 159, 160, 161, 162, 163, 164, 1169, 1170, 1171, 1172, 1173, 1174, 1175, 1176, 1177, 1178, 1179, 1180, 1181, 1182, 1183, 1184] (by decide +kernel) (by decide +kernel)
set_option maxRecDepth 20000 in
theorem gL_law_X9_fund : GoodIn wsL_law (wsV RL 31 RX9 yX9_fund wsX9_fund) := goodIn_app (goodIn_of _ (by decide +kernel)) ggL_law_X9_fund
set_option maxRecDepth 20000 in
theorem ggL_law_X8_personOf : GoodIn wsL_law wsX8_personOf := goodIn_r _ [296, 15, 297, 298, 299, 300, 301, 302, 248, 249, 14, 250, 129, 303, 135, 136, 137, 40, 45, 304, 305, 306, 307, 173, 308, 175, 176, 177, 178, 42, 48, 309, 310, 311, 312, 134, 313, 314, 315, 44, 316, 144, 145, 317, 318, 319, 320, 142, 321, 322, 323, 324, 325, 326, 327, 47, 328, 64, 329, 330, 331, 24, 332, 190, 333, 334, 335, 336, 70, 75, 1160, 1161, 1162, 1163, 1164, 1165, 1166, 1167, 1168, 1208, 1209, 1210, 1211, 1212, 1213, 1185, 1186, 1187, 1188, 1189, 1190, 1191, 1192, 1193, 1194, 1195, 1214, 1215, 1216, 1217, 1218, 1219, 1220, 1221, 1222, 1223, 1198, 1199, 1200, 1201] (by decide +kernel) (by decide +kernel)
set_option maxRecDepth 20000 in
theorem gL_law_X8_personOf : GoodIn wsL_law (wsV RL 32 RX8 yX8_personOf wsX8_personOf) := goodIn_app (goodIn_of _ (by decide +kernel)) ggL_law_X8_personOf
set_option maxRecDepth 20000 in
theorem ggL_law_X9_personOf : GoodIn wsL_law wsX9_personOf := goodIn_r _ [340, 267, 268, 269, 5, 270, 109, 154, 155, 156, 157, 158, 159, 160, 341, 342, 343, 344, 231, 232, 233, 234, 345, 346, 347, 348, 349, 350, 351, 352, 353, 354, 355, 356, 357, 358, 359, 360, 361, 362, 363, 1169, 1170, 1171, 1172, 1173, 1174, 1175, 1176, 1177, 1178, 1179, 1180, 1181, 1182, 1183, 1184] (by decide +kernel) (by decide +kernel)
set_option maxRecDepth 20000 in
theorem gL_law_X9_personOf : GoodIn wsL_law (wsV RL 35 RX9 yX9_personOf wsX9_personOf) := goodIn_app (goodIn_of _ (by decide +kernel)) ggL_law_X9_personOf
set_option maxRecDepth 20000 in
theorem ggL_law_X8_toolOf : GoodIn wsL_law wsX8_toolOf := goodIn_r _ [367, 15, 368, 369, 370, 371, 372, 373, 374, 375, 376, 377, 252, 253, 14, 254, 173, 378, 176, 177, 178, 42, 48, 379, 330, 331, 24, 332, 190, 1160, 1161, 1162, 1163, 1164, 1165, 1166, 1167, 1168, 1214, 1215, 1216, 1217, 1218, 1219, 1220, 1221, 1222, 1223, 1185, 1186, 1187, 1188, 1189, 1190, 1191, 1192, 1193, 1194, 1195, 1198, 1199, 1200, 1201] (by decide +kernel) (by decide +kernel)
set_option maxRecDepth 20000 in
theorem gL_law_X8_toolOf : GoodIn wsL_law (wsV RL 36 RX8 yX8_toolOf wsX8_toolOf) := goodIn_app (goodIn_of _ (by decide +kernel)) ggL_law_X8_toolOf
set_option maxRecDepth 20000 in
theorem ggL_law_X9_toolOf : GoodIn wsL_law wsX9_toolOf := goodIn_r _ [383, 271, 272, 273, 5, 274, 109, 154, 155, 156, 235, 236, 237, 238, 231, 232, 233, 234, 1169, 1170, 1171, 1172, 1173, 1174, 1175, 1176, 1177, 1178, 1179, 1180, 1181, 1182, 1183, 1184] (by decide +kernel) (by decide +kernel)
set_option maxRecDepth 20000 in
theorem gL_law_X9_toolOf : GoodIn wsL_law (wsV RL 39 RX9 yX9_toolOf wsX9_toolOf) := goodIn_app (goodIn_of _ (by decide +kernel)) ggL_law_X9_toolOf
set_option maxRecDepth 20000 in
theorem ggL_law_X8_link : GoodIn wsL_law wsX8_link := goodIn_r _ [387, 15, 375, 377, 252, 253, 14, 254, 173, 378, 176, 177, 178, 42, 48, 388, 389, 2, 390, 379, 330, 331, 24, 332, 190, 391, 334, 335, 336, 70, 75, 1160, 1161, 1162, 1163, 1164, 1165, 1166, 1167, 1168, 1214, 1215, 1216, 1217, 1218, 1219, 1220, 1221, 1222, 1223, 1185, 1186, 1187, 1188, 1189, 1190, 1191, 1192, 1193, 1194, 1195, 1198, 1199, 1200, 1201] (by decide +kernel) (by decide +kernel)
set_option maxRecDepth 20000 in
theorem gL_law_X8_link : GoodIn wsL_law (wsV RL 40 RX8 yX8_link wsX8_link) := goodIn_app (goodIn_of _ (by decide +kernel)) ggL_law_X8_link
set_option maxRecDepth 20000 in
theorem ggL_law_X9_link : GoodIn wsL_law wsX9_link := goodIn_r _ [395, 271, 272, 273, 5, 274, 109, 154, 155, 156, 231, 232, 233, 234, 1169, 1170, 1171, 1172, 1173, 1174, 1175, 1176, 1177, 1178, 1179, 1180, 1181, 1182, 1183, 1184] (by decide +kernel) (by decide +kernel)
set_option maxRecDepth 20000 in
theorem gL_law_X9_link : GoodIn wsL_law (wsV RL 43 RX9 yX9_link wsX9_link) := goodIn_app (goodIn_of _ (by decide +kernel)) ggL_law_X9_link
set_option maxRecDepth 20000 in
theorem ggL_law_X8_seen : GoodIn wsL_law wsX8_seen := goodIn_r _ [399, 15, 376, 377, 252, 253, 14, 254, 173, 378, 176, 177, 178, 42, 48, 388, 389, 2, 390, 379, 330, 331, 24, 332, 190, 391, 334, 335, 336, 70, 75, 1160, 1161, 1162, 1163, 1164, 1165, 1166, 1167, 1168, 1214, 1215, 1216, 1217, 1218, 1219, 1220, 1221, 1222, 1223, 1185, 1186, 1187, 1188, 1189, 1190, 1191, 1192, 1193, 1194, 1195, 1198, 1199, 1200, 1201] (by decide +kernel) (by decide +kernel)
set_option maxRecDepth 20000 in
theorem gL_law_X8_seen : GoodIn wsL_law (wsV RL 44 RX8 yX8_seen wsX8_seen) := goodIn_app (goodIn_of _ (by decide +kernel)) ggL_law_X8_seen
set_option maxRecDepth 20000 in
theorem ggL_law_X9_seen : GoodIn wsL_law wsX9_seen := goodIn_r _ [403, 271, 272, 273, 5, 274, 109, 154, 155, 156, 231, 232, 233, 234, 1169, 1170, 1171, 1172, 1173, 1174, 1175, 1176, 1177, 1178, 1179, 1180, 1181, 1182, 1183, 1184] (by decide +kernel) (by decide +kernel)
set_option maxRecDepth 20000 in
theorem gL_law_X9_seen : GoodIn wsL_law (wsV RL 47 RX9 yX9_seen wsX9_seen) := goodIn_app (goodIn_of _ (by decide +kernel)) ggL_law_X9_seen
set_option maxRecDepth 20000 in
theorem ggL_law_X8_claimOf : GoodIn wsL_law wsX8_claimOf := goodIn_r _ [407, 15, 374, 377, 252, 253, 14, 254, 173, 378, 176, 177, 178, 42, 48, 388, 389, 2, 390, 379, 330, 331, 24, 332, 190, 391, 334, 335, 336, 70, 75, 1160, 1161, 1162, 1163, 1164, 1165, 1166, 1167, 1168, 1214, 1215, 1216, 1217, 1218, 1219, 1220, 1221, 1222, 1223, 1185, 1186, 1187, 1188, 1189, 1190, 1191, 1192, 1193, 1194, 1195, 1198, 1199, 1200, 1201] (by decide +kernel) (by decide +kernel)
set_option maxRecDepth 20000 in
theorem gL_law_X8_claimOf : GoodIn wsL_law (wsV RL 48 RX8 yX8_claimOf wsX8_claimOf) := goodIn_app (goodIn_of _ (by decide +kernel)) ggL_law_X8_claimOf
set_option maxRecDepth 20000 in
theorem ggL_law_X9_claimOf : GoodIn wsL_law wsX9_claimOf := goodIn_r _ [411, 271, 272, 273, 5, 274, 109, 154, 155, 156, 412, 413, 414, 415, 231, 232, 233, 234, 416, 417, 418, 419, 420, 421, 422, 423, 424, 425, 426, 427, 1169, 1170, 1171, 1172, 1173, 1174, 1175, 1176, 1177, 1178, 1179, 1180, 1181, 1182, 1183, 1184] (by decide +kernel) (by decide +kernel)
set_option maxRecDepth 20000 in
theorem gL_law_X9_claimOf : GoodIn wsL_law (wsV RL 51 RX9 yX9_claimOf wsX9_claimOf) := goodIn_app (goodIn_of _ (by decide +kernel)) ggL_law_X9_claimOf
set_option maxRecDepth 20000 in
theorem ggL_law_X8_ranked : GoodIn wsL_law wsX8_ranked := goodIn_r _ [431, 15, 432, 433, 434, 14, 435, 129, 436, 310, 311, 312, 134, 135, 136, 137, 40, 45, 313, 314, 315, 44, 316, 144, 145, 317, 318, 319, 320, 142, 1160, 1161, 1162, 1163, 1164, 1165, 1166, 1167, 1168, 1185, 1186, 1187, 1188, 1189, 1190, 1191, 1192, 1193, 1194, 1195, 1208, 1209, 1210, 1211, 1212, 1213] (by decide +kernel) (by decide +kernel)
set_option maxRecDepth 20000 in
theorem gL_law_X8_ranked : GoodIn wsL_law (wsV RL 52 RX8 yX8_ranked wsX8_ranked) := goodIn_app (goodIn_of _ (by decide +kernel)) ggL_law_X8_ranked
set_option maxRecDepth 20000 in
theorem ggL_law_X9_ranked : GoodIn wsL_law wsX9_ranked := goodIn_r _ [440, 441, 442, 443, 5, 444, 109, 345, 346, 347, 348, 349, 350, 351, 352, 157, 158, 159, 160, 353, 354, 355, 1169, 1170, 1171, 1172, 1173, 1174, 1175, 1176, 1177, 1178, 1179, 1180, 1181, 1182, 1183, 1184] (by decide +kernel) (by decide +kernel)
set_option maxRecDepth 20000 in
theorem gL_law_X9_ranked : GoodIn wsL_law (wsV RL 55 RX9 yX9_ranked wsX9_ranked) := goodIn_app (goodIn_of _ (by decide +kernel)) ggL_law_X9_ranked
set_option maxRecDepth 20000 in
theorem ggL_law_X8_lease : GoodIn wsL_law wsX8_lease := goodIn_r _ [448, 15, 449, 450, 451, 14, 452, 453, 287, 454, 455, 247, 248, 249, 250, 129, 251, 252, 253, 254, 173, 175, 176, 177, 178, 42, 48, 456, 212, 213, 47, 214, 195, 457, 458, 459, 460, 461, 462, 134, 135, 136, 137, 40, 45, 463, 464, 465, 466, 467, 174, 468, 469, 470, 471, 196, 62, 185, 203, 204, 205, 24, 206, 190, 69, 70, 75, 207, 208, 209, 210, 1160, 1161, 1162, 1163, 1164, 1165, 1166, 1167, 1168, 1214, 1215, 1216, 1217, 1218, 1219, 1220, 1221, 1222, 1223, 1208, 1209, 1210, 1211, 1212, 1213, 1185, 1186, 1187, 1188, 1189, 1190, 1191, 1192, 1193, 1194, 1195, 1198, 1199, 1200, 1201] (by decide +kernel) (by decide +kernel)
set_option maxRecDepth 20000 in
theorem gL_law_X8_lease : GoodIn wsL_law (wsV RL 56 RX8 yX8_lease wsX8_lease) := goodIn_app (goodIn_of _ (by decide +kernel)) ggL_law_X8_lease
set_option maxRecDepth 20000 in
theorem ggL_law_X9_lease : GoodIn wsL_law wsX9_lease := goodIn_r _ [475, 267, 268, 269, 5, 270, 109, 154, 155, 156, 271, 272, 273, 274, 235, 236, 237, 238, 231, 232, 233, 234, 476, 477, 478, 479, 480, 481, 482, 483, 157, 158, 159, 160, 484, 485, 486, 487, 161, 162, 163, 164, 219, 220, 221, 222, 488, 489, 490, 491, 227, 228, 229, 230, 1169, 1170, 1171, 1172, 1173, 1174, 1175, 1176, 1177, 1178, 1179, 1180, 1181, 1182, 1183, 1184] (by decide +kernel) (by decide +kernel)
set_option maxRecDepth 20000 in
theorem gL_law_X9_lease : GoodIn wsL_law (wsV RL 59 RX9 yX9_lease wsX9_lease) := goodIn_app (goodIn_of _ (by decide +kernel)) ggL_law_X9_lease
set_option maxRecDepth 20000 in
theorem ggL_law_X8_claim : GoodIn wsL_law wsX8_claim := goodIn_r _ [495, 15, 496, 497, 498, 14, 499, 308, 500, 174, 247, 248, 249, 250, 129, 251, 252, 253, 254, 173, 175, 176, 177, 178, 42, 48, 325, 326, 327, 47, 328, 64, 329, 330, 331, 24, 332, 190, 333, 334, 335, 336, 70, 75, 501, 502, 503, 504, 505, 506, 507, 508, 509, 510, 511, 512, 513, 71, 72, 73, 74, 514, 204, 205, 206, 69, 207, 208, 209, 210, 1160, 1161, 1162, 1163, 1164, 1165, 1166, 1167, 1168, 1214, 1215, 1216, 1217, 1218, 1219, 1220, 1221, 1222, 1223, 1185, 1186, 1187, 1188, 1189, 1190, 1191, 1192, 1193, 1194, 1195, 1198, 1199, 1200, 1201] (by decide +kernel) (by decide +kernel)
set_option maxRecDepth 20000 in
theorem gL_law_X8_claim : GoodIn wsL_law (wsV RL 60 RX8 yX8_claim wsX8_claim) := goodIn_app (goodIn_of _ (by decide +kernel)) ggL_law_X8_claim
set_option maxRecDepth 20000 in
theorem ggL_law_X9_claim : GoodIn wsL_law wsX9_claim := goodIn_r _ [518, 109, 267, 268, 269, 5, 270, 154, 155, 156, 271, 272, 273, 274, 360, 361, 362, 363, 231, 232, 233, 234, 219, 220, 221, 222, 416, 417, 418, 419, 420, 421, 422, 423, 424, 425, 426, 427, 1169, 1170, 1171, 1172, 1173, 1174, 1175, 1176, 1177, 1178, 1179, 1180, 1181, 1182, 1183, 1184] (by decide +kernel) (by decide +kernel)
set_option maxRecDepth 20000 in
theorem gL_law_X9_claim : GoodIn wsL_law (wsV RL 63 RX9 yX9_claim wsX9_claim) := goodIn_app (goodIn_of _ (by decide +kernel)) ggL_law_X9_claim
set_option maxRecDepth 20000 in
theorem ggL_law_X8_waive : GoodIn wsL_law wsX8_waive := goodIn_r _ [522, 15, 523, 524, 525, 14, 526, 500, 247, 248, 249, 250, 129, 251, 252, 253, 254, 173, 175, 176, 177, 178, 42, 48, 325, 326, 327, 47, 328, 64, 329, 330, 331, 24, 332, 190, 333, 334, 335, 336, 70, 75, 527, 528, 529, 530, 501, 1160, 1161, 1162, 1163, 1164, 1165, 1166, 1167, 1168, 1214, 1215, 1216, 1217, 1218, 1219, 1220, 1221, 1222, 1223, 1185, 1186, 1187, 1188, 1189, 1190, 1191, 1192, 1193, 1194, 1195, 1198, 1199, 1200, 1201] (by decide +kernel) (by decide +kernel)
set_option maxRecDepth 20000 in
theorem gL_law_X8_waive : GoodIn wsL_law (wsV RL 64 RX8 yX8_waive wsX8_waive) := goodIn_app (goodIn_of _ (by decide +kernel)) ggL_law_X8_waive
set_option maxRecDepth 20000 in
theorem ggL_law_X9_waive : GoodIn wsL_law wsX9_waive := goodIn_r _ [534, 267, 268, 269, 5, 270, 109, 154, 155, 156, 271, 272, 273, 274, 360, 361, 362, 363, 231, 232, 233, 234, 535, 536, 537, 538, 424, 425, 426, 427, 219, 220, 221, 222, 1169, 1170, 1171, 1172, 1173, 1174, 1175, 1176, 1177, 1178, 1179, 1180, 1181, 1182, 1183, 1184] (by decide +kernel) (by decide +kernel)
set_option maxRecDepth 20000 in
theorem gL_law_X9_waive : GoodIn wsL_law (wsV RL 67 RX9 yX9_waive wsX9_waive) := goodIn_app (goodIn_of _ (by decide +kernel)) ggL_law_X9_waive
set_option maxRecDepth 20000 in
theorem ggL_law_X8_returned : GoodIn wsL_law wsX8_returned := goodIn_r _ [542, 15, 543, 544, 545, 14, 546, 308, 174, 288, 287, 467, 547, 251, 252, 253, 254, 173, 175, 176, 177, 178, 42, 48, 456, 212, 213, 47, 214, 195, 548, 549, 550, 551, 52, 552, 553, 554, 555, 184, 63, 329, 330, 331, 24, 332, 190, 333, 334, 335, 336, 70, 75, 556, 557, 558, 559, 183, 560, 72, 73, 74, 561, 562, 563, 564, 51, 565, 80, 566, 567, 568, 569, 570, 571, 187, 188, 189, 572, 573, 574, 575, 576, 577, 578, 579, 580, 581, 582, 204, 205, 206, 69, 583, 208, 209, 210, 584, 200, 201, 202, 185, 203, 207, 211, 585, 586, 587, 588, 589, 590, 591, 592, 134, 135, 136, 137, 40, 45, 593, 594, 595, 596, 597, 598, 599, 600, 44, 601, 143, 602, 285, 286, 146, 603, 604, 605, 606, 144, 607, 608, 609, 610, 611, 198, 612, 613, 614, 615, 616, 197, 617, 618, 619, 620, 621, 622, 623, 624, 625, 62, 626, 192, 193, 194, 196, 627, 628, 629, 630, 500, 631, 632, 633, 634, 453, 454, 501, 635, 527, 528, 529, 530, 463, 464, 465, 466, 455, 468, 469, 470, 471, 1160, 1161, 1162, 1163, 1164, 1165, 1166, 1167, 1168, 1214, 1215, 1216, 1217, 1218, 1219, 1220, 1221, 1222, 1223, 1185, 1186, 1187, 1188, 1189, 1190, 1191, 1192, 1193, 1194, 1195, 1208, 1209, 1210, 1211, 1212, 1213, 1198, 1199, 1200, 1201, 1224, 1225] (by decide +kernel) (by decide +kernel)
set_option maxRecDepth 20000 in
theorem gL_law_X8_returned : GoodIn wsL_law (wsV RL 68 RX8 yX8_returned wsX8_returned) := goodIn_app (goodIn_of _ (by decide +kernel)) ggL_law_X8_returned
set_option maxRecDepth 20000 in
theorem ggL_law_X9_returned : GoodIn wsL_law wsX9_returned := goodIn_r _ [639, 109, 271, 272, 273, 5, 274, 154, 155, 156, 235, 236, 237, 238, 231, 232, 233, 234, 640, 641, 642, 643, 644, 113, 645, 646, 647, 648, 649, 650, 651, 652, 653, 654, 655, 656, 223, 224, 225, 226, 227, 228, 229, 230, 219, 220, 221, 222, 657, 658, 659, 660, 157, 158, 159, 160, 161, 162, 163, 164, 661, 662, 663, 664, 665, 666, 667, 668, 669, 670, 671, 672, 673, 674, 675, 676, 677, 678, 679, 412, 413, 414, 415, 416, 417, 418, 419, 420, 421, 422, 423, 424, 425, 426, 427, 480, 481, 482, 483, 535, 536, 537, 538, 484, 485, 486, 487, 488, 489, 490, 491, 1169, 1170, 1171, 1172, 1173, 1174, 1175, 1176, 1177, 1178, 1179, 1180, 1181, 1182, 1183, 1184] (by decide +kernel) (by decide +kernel)
set_option maxRecDepth 20000 in
theorem gL_law_X9_returned : GoodIn wsL_law (wsV RL 71 RX9 yX9_returned wsX9_returned) := goodIn_app (goodIn_of _ (by decide +kernel)) ggL_law_X9_returned
set_option maxRecDepth 20000 in
theorem ggL_law_X8_pass : GoodIn wsL_law wsX8_pass := goodIn_r _ [683, 15, 684, 685, 686, 14, 687, 308, 287, 251, 252, 253, 254, 173, 247, 248, 249, 250, 129, 175, 176, 177, 178, 42, 48, 456, 212, 213, 47, 214, 195, 134, 135, 136, 137, 40, 45, 688, 689, 690, 691, 174, 455, 467, 457, 458, 459, 460, 461, 462, 692, 693, 694, 695, 622, 623, 624, 625, 62, 329, 330, 331, 24, 332, 190, 207, 208, 209, 210, 70, 75, 468, 469, 470, 471, 196, 185, 203, 204, 205, 206, 69, 1160, 1161, 1162, 1163, 1164, 1165, 1166, 1167, 1168, 1214, 1215, 1216, 1217, 1218, 1219, 1220, 1221, 1222, 1223, 1208, 1209, 1210, 1211, 1212, 1213, 1185, 1186, 1187, 1188, 1189, 1190, 1191, 1192, 1193, 1194, 1195, 1198, 1199, 1200, 1201] (by decide +kernel) (by decide +kernel)
set_option maxRecDepth 20000 in
theorem gL_law_X8_pass : GoodIn wsL_law (wsV RL 72 RX8 yX8_pass wsX8_pass) := goodIn_app (goodIn_of _ (by decide +kernel)) ggL_law_X8_pass
set_option maxRecDepth 20000 in
theorem ggL_law_X9_pass : GoodIn wsL_law wsX9_pass := goodIn_r _ [699, 271, 272, 273, 5, 274, 109, 154, 155, 156, 267, 268, 269, 270, 231, 232, 233, 234, 235, 236, 237, 238, 700, 701, 702, 703, 157, 158, 159, 160, 476, 477, 478, 479, 704, 705, 706, 707, 161, 162, 163, 164, 668, 669, 670, 671, 219, 220, 221, 222, 488, 489, 490, 491, 227, 228, 229, 230, 1169, 1170, 1171, 1172, 1173, 1174, 1175, 1176, 1177, 1178, 1179, 1180, 1181, 1182, 1183, 1184] (by decide +kernel) (by decide +kernel)
set_option maxRecDepth 20000 in
theorem gL_law_X9_pass : GoodIn wsL_law (wsV RL 75 RX9 yX9_pass wsX9_pass) := goodIn_app (goodIn_of _ (by decide +kernel)) ggL_law_X9_pass
set_option maxRecDepth 20000 in
theorem ggL_law_X8_swap : GoodIn wsL_law wsX8_swap := goodIn_r _ [711, 15, 712, 713, 714, 14, 715, 308, 716, 717, 718, 719, 251, 252, 253, 254, 173, 175, 176, 177, 178, 42, 48, 456, 212, 213, 47, 214, 195, 720, 721, 722, 723, 724, 725, 726, 727, 134, 135, 136, 137, 40, 45, 255, 256, 257, 44, 258, 57, 457, 458, 459, 460, 461, 462, 728, 729, 730, 731, 287, 467, 688, 689, 690, 691, 174, 455, 692, 693, 694, 695, 622, 623, 624, 625, 62, 329, 330, 331, 24, 332, 190, 207, 208, 209, 210, 70, 75, 468, 469, 470, 471, 196, 185, 203, 204, 205, 206, 69, 1160, 1161, 1162, 1163, 1164, 1165, 1166, 1167, 1168, 1214, 1215, 1216, 1217, 1218, 1219, 1220, 1221, 1222, 1223, 1185, 1186, 1187, 1188, 1189, 1190, 1191, 1192, 1193, 1194, 1195, 1208, 1209, 1210, 1211, 1212, 1213, 1198, 1199, 1200, 1201] (by decide +kernel) (by decide +kernel)
set_option maxRecDepth 20000 in
theorem gL_law_X8_swap : GoodIn wsL_law (wsV RL 76 RX8 yX8_swap wsX8_swap) := goodIn_app (goodIn_of _ (by decide +kernel)) ggL_law_X8_swap
set_option maxRecDepth 20000 in
theorem ggL_law_X9_swap : GoodIn wsL_law wsX9_swap := goodIn_r _ [735, 109, 110, 271, 272, 273, 5, 274, 154, 155, 156, 736, 737, 738, 739, 235, 236, 237, 238, 231, 232, 233, 234, 740, 741, 742, 743, 744, 745, 746, 747, 157, 158, 159, 160, 748, 749, 750, 751, 752, 753, 754, 700, 701, 702, 703, 704, 705, 706, 707, 161, 162, 163, 164, 668, 669, 670, 671, 219, 220, 221, 222, 488, 489, 490, 491, 227, 228, 229, 230, 476, 477, 478, 479, 1169, 1170, 1171, 1172, 1173, 1174, 1175, 1176, 1177, 1178, 1179, 1180, 1181, 1182, 1183, 1184] (by decide +kernel) (by decide +kernel)
set_option maxRecDepth 20000 in
theorem gL_law_X9_swap : GoodIn wsL_law (wsV RL 79 RX9 yX9_swap wsX9_swap) := goodIn_app (goodIn_of _ (by decide +kernel)) ggL_law_X9_swap
set_option maxRecDepth 20000 in
theorem ggL_law_X8_use : GoodIn wsL_law wsX8_use := goodIn_r _ [758, 15, 759, 760, 761, 14, 762, 453, 284, 285, 73, 286, 251, 252, 253, 254, 173, 175, 176, 177, 178, 42, 48, 456, 212, 213, 47, 214, 195, 1160, 1161, 1162, 1163, 1164, 1165, 1166, 1167, 1168, 1214, 1215, 1216, 1217, 1218, 1219, 1220, 1221, 1222, 1223, 1185, 1186, 1187, 1188, 1189, 1190, 1191, 1192, 1193, 1194, 1195] (by decide +kernel) (by decide +kernel)
set_option maxRecDepth 20000 in
theorem gL_law_X8_use : GoodIn wsL_law (wsV RL 80 RX8 yX8_use wsX8_use) := goodIn_app (goodIn_of _ (by decide +kernel)) ggL_law_X8_use
set_option maxRecDepth 20000 in
theorem ggL_law_X9_use : GoodIn wsL_law wsX9_use := goodIn_r _ [766, 271, 272, 273, 5, 274, 109, 154, 155, 156, 235, 236, 237, 238, 231, 232, 233, 234, 661, 662, 663, 219, 220, 221, 222, 1169, 1170, 1171, 1172, 1173, 1174, 1175, 1176, 1177, 1178, 1179, 1180, 1181, 1182, 1183, 1184] (by decide +kernel) (by decide +kernel)
set_option maxRecDepth 20000 in
theorem gL_law_X9_use : GoodIn wsL_law (wsV RL 83 RX9 yX9_use wsX9_use) := goodIn_app (goodIn_of _ (by decide +kernel)) ggL_law_X9_use
set_option maxRecDepth 20000 in
theorem ggL_law_X8_look : GoodIn wsL_law wsX8_look := goodIn_r _ [770, 15, 771, 549, 550, 14, 551, 52, 174, 288, 251, 252, 253, 254, 173, 175, 176, 177, 178, 42, 48, 552, 553, 554, 47, 555, 184, 63, 329, 330, 331, 24, 332, 190, 333, 334, 335, 336, 70, 75, 556, 557, 558, 559, 183, 560, 72, 73, 74, 561, 562, 563, 564, 51, 565, 80, 566, 567, 568, 569, 570, 571, 187, 188, 189, 572, 573, 574, 575, 576, 577, 578, 579, 580, 581, 582, 204, 205, 206, 69, 583, 208, 209, 210, 584, 200, 201, 202, 185, 203, 207, 211, 212, 213, 214, 195, 585, 586, 587, 588, 589, 590, 591, 592, 134, 135, 136, 137, 40, 45, 593, 594, 595, 596, 597, 598, 599, 600, 44, 601, 143, 602, 285, 286, 146, 603, 604, 605, 606, 144, 607, 1160, 1161, 1162, 1163, 1164, 1165, 1166, 1167, 1168, 1185, 1186, 1187, 1188, 1189, 1190, 1191, 1192, 1193, 1194, 1195, 1214, 1215, 1216, 1217, 1218, 1219, 1220, 1221, 1222, 1223, 1198, 1199, 1200, 1201, 1224, 1225, 1208, 1209, 1210, 1211, 1212, 1213] (by decide +kernel) (by decide +kernel)
set_option maxRecDepth 20000 in
theorem gL_law_X8_look : GoodIn wsL_law (wsV RL 84 RX8 yX8_look wsX8_look) := goodIn_app (goodIn_of _ (by decide +kernel)) ggL_law_X8_look
set_option maxRecDepth 20000 in
theorem ggL_law_X9_look : GoodIn wsL_law wsX9_look := goodIn_r _ [775, 271, 272, 273, 5, 274, 109, 154, 155, 156, 640, 641, 642, 643, 644, 113, 645, 646, 647, 648, 231, 232, 233, 234, 649, 650, 651, 652, 653, 654, 655, 656, 223, 224, 225, 226, 227, 228, 229, 230, 219, 220, 221, 222, 235, 236, 237, 238, 657, 658, 659, 660, 157, 158, 159, 160, 161, 162, 163, 164, 661, 662, 663, 1169, 1170, 1171, 1172, 1173, 1174, 1175, 1176, 1177, 1178, 1179, 1180, 1181, 1182, 1183, 1184] (by decide +kernel) (by decide +kernel)
set_option maxRecDepth 20000 in
theorem gL_law_X9_look : GoodIn wsL_law (wsV RL 87 RX9 yX9_look wsX9_look) := goodIn_app (goodIn_of _ (by decide +kernel)) ggL_law_X9_look
set_option maxRecDepth 20000 in
theorem ggL_law_X8_days : GoodIn wsL_law wsX8_days := goodIn_r _ [779, 15, 780, 781, 782, 14, 783, 174, 1160, 1161, 1162, 1163, 1164, 1165, 1166, 1167, 1168, 1185, 1186, 1187, 1188, 1189, 1190, 1191, 1192, 1193, 1194, 1195] (by decide +kernel) (by decide +kernel)
set_option maxRecDepth 20000 in
theorem gL_law_X8_days : GoodIn wsL_law (wsV RL 88 RX8 yX8_days wsX8_days) := goodIn_app (goodIn_of _ (by decide +kernel)) ggL_law_X8_days
set_option maxRecDepth 20000 in
theorem ggL_law_X9_days : GoodIn wsL_law wsX9_days := goodIn_r _ [787, 109, 154, 155, 5, 156, 1169, 1170, 1171, 1172, 1173, 1174, 1175, 1176, 1177, 1178, 1179, 1180, 1181, 1182, 1183, 1184] (by decide +kernel) (by decide +kernel)
set_option maxRecDepth 20000 in
theorem gL_law_X9_days : GoodIn wsL_law (wsV RL 91 RX9 yX9_days wsX9_days) := goodIn_app (goodIn_of _ (by decide +kernel)) ggL_law_X9_days
set_option maxRecDepth 20000 in
theorem ggL_law_X8_why : GoodIn wsL_law wsX8_why := goodIn_r _ [791, 15, 792, 793, 1160, 1161, 1162, 1163, 1164, 1165, 1166, 1167, 1168, 1185, 1186, 1187, 1188, 1189, 1190, 1191, 1192, 1193, 1194, 1195] (by decide +kernel) (by decide +kernel)
set_option maxRecDepth 20000 in
theorem gL_law_X8_why : GoodIn wsL_law (wsV RL 92 RX8 yX8_why wsX8_why) := goodIn_app (goodIn_of _ (by decide +kernel)) ggL_law_X8_why
set_option maxRecDepth 20000 in
theorem ggL_law_X9_why : GoodIn wsL_law wsX9_why := goodIn_r _ [797, 109, 1169, 1170, 1171, 1172, 1173, 1174, 1175, 1176, 1177, 1178, 1179, 1180, 1181, 1182, 1183, 1184] (by decide +kernel) (by decide +kernel)
set_option maxRecDepth 20000 in
theorem gL_law_X9_why : GoodIn wsL_law (wsV RL 95 RX9 yX9_why wsX9_why) := goodIn_app (goodIn_of _ (by decide +kernel)) ggL_law_X9_why
set_option maxRecDepth 20000 in
theorem ggL_law_X8_told : GoodIn wsL_law wsX8_told := goodIn_r _ [801, 15, 21, 802, 377, 252, 253, 14, 254, 173, 803, 804, 805, 20, 806, 88, 807, 808, 176, 177, 178, 42, 48, 809, 632, 633, 634, 453, 500, 287, 454, 501, 330, 331, 24, 332, 190, 635, 334, 335, 336, 70, 75, 134, 135, 136, 137, 40, 45, 810, 811, 812, 813, 814, 87, 815, 563, 564, 51, 565, 80, 566, 567, 568, 569, 570, 72, 73, 74, 571, 187, 188, 189, 572, 573, 574, 575, 576, 577, 578, 579, 580, 581, 582, 204, 205, 206, 69, 583, 208, 209, 210, 816, 817, 818, 819, 378, 820, 609, 610, 47, 611, 183, 198, 612, 285, 286, 613, 614, 615, 616, 197, 560, 211, 212, 213, 214, 195, 1160, 1161, 1162, 1163, 1164, 1165, 1166, 1167, 1168, 1185, 1186, 1187, 1188, 1189, 1190, 1191, 1192, 1193, 1194, 1195, 1196, 1197, 1214, 1215, 1216, 1217, 1218, 1219, 1220, 1221, 1222, 1223, 1208, 1209, 1210, 1211, 1212, 1213, 1198, 1199, 1200, 1201, 1224, 1225] (by decide +kernel) (by decide +kernel)
set_option maxRecDepth 20000 in
theorem gL_law_X8_told : GoodIn wsL_law (wsV RL 96 RX8 yX8_told wsX8_told) := goodIn_app (goodIn_of _ (by decide +kernel)) ggL_law_X8_told
set_option maxRecDepth 20000 in
theorem ggL_law_X9_told : GoodIn wsL_law wsX9_told := goodIn_r _ [824, 109, 644, 113, 271, 272, 273, 5, 274, 154, 155, 156, 676, 677, 678, 679, 231, 232, 233, 234, 412, 413, 414, 415, 416, 417, 418, 419, 420, 421, 422, 423, 424, 425, 426, 427, 480, 481, 482, 483, 157, 158, 159, 160, 235, 236, 237, 238, 664, 665, 666, 667, 649, 650, 651, 652, 1169, 1170, 1171, 1172, 1173, 1174, 1175, 1176, 1177, 1178, 1179, 1180, 1181, 1182, 1183, 1184] (by decide +kernel) (by decide +kernel)
set_option maxRecDepth 20000 in
theorem gL_law_X9_told : GoodIn wsL_law (wsV RL 99 RX9 yX9_told wsX9_told) := goodIn_app (goodIn_of _ (by decide +kernel)) ggL_law_X9_told
set_option maxRecDepth 20000 in
theorem ggL_law_X8_share : GoodIn wsL_law wsX8_share := goodIn_r _ [828, 15, 21, 377, 252, 253, 14, 254, 173, 302, 248, 249, 250, 129, 829, 830, 831, 20, 832, 88, 87, 808, 176, 177, 178, 42, 48, 815, 563, 564, 51, 565, 80, 566, 567, 568, 569, 570, 72, 73, 74, 571, 187, 188, 24, 189, 190, 572, 330, 331, 332, 573, 334, 335, 336, 70, 75, 574, 575, 576, 577, 578, 579, 580, 581, 582, 204, 205, 206, 69, 583, 208, 209, 210, 833, 557, 558, 47, 559, 183, 560, 561, 553, 554, 555, 184, 63, 329, 333, 834, 594, 595, 596, 597, 590, 591, 592, 1160, 1161, 1162, 1163, 1164, 1165, 1166, 1167, 1168, 1185, 1186, 1187, 1188, 1189, 1190, 1191, 1192, 1193, 1194, 1195, 1196, 1197, 1224, 1225, 1214, 1215, 1216, 1217, 1218, 1219, 1220, 1221, 1222, 1223, 1198, 1199, 1200, 1201] (by decide +kernel) (by decide +kernel)
set_option maxRecDepth 20000 in
theorem gL_law_X8_share : GoodIn wsL_law (wsV RL 100 RX8 yX8_share wsX8_share) := goodIn_app (goodIn_of _ (by decide +kernel)) ggL_law_X8_share
set_option maxRecDepth 20000 in
theorem ggL_law_X9_share : GoodIn wsL_law wsX9_share := goodIn_r _ [838, 644, 113, 271, 272, 273, 5, 274, 109, 154, 155, 156, 267, 268, 269, 270, 649, 650, 651, 652, 231, 232, 233, 234, 653, 654, 655, 656, 645, 646, 647, 648, 657, 658, 659, 660, 1169, 1170, 1171, 1172, 1173, 1174, 1175, 1176, 1177, 1178, 1179, 1180, 1181, 1182, 1183, 1184] (by decide +kernel) (by decide +kernel)
set_option maxRecDepth 20000 in
theorem gL_law_X9_share : GoodIn wsL_law (wsV RL 103 RX9 yX9_share wsX9_share) := goodIn_app (goodIn_of _ (by decide +kernel)) ggL_law_X9_share
set_option maxRecDepth 20000 in
theorem ggL_law_X8_swaps : GoodIn wsL_law wsX8_swaps := goodIn_r _ [842, 21, 843, 844, 845, 20, 846, 88, 847, 848, 849, 850, 851, 852, 717, 718, 14, 719, 308, 251, 252, 253, 254, 173, 175, 176, 177, 178, 42, 48, 456, 212, 213, 47, 214, 195, 853, 721, 722, 723, 724, 725, 726, 727, 134, 135, 136, 137, 40, 45, 255, 256, 257, 44, 258, 57, 854, 729, 730, 731, 287, 467, 688, 689, 690, 691, 174, 455, 855, 856, 857, 858, 859, 860, 861, 862, 863, 864, 865, 866, 867, 868, 869, 870, 871, 872, 873, 874, 875, 876, 877, 878, 879, 880, 808, 1160, 1161, 1162, 1163, 1164, 1165, 1166, 1167, 1168, 1196, 1197, 1185, 1186, 1187, 1188, 1189, 1190, 1191, 1192, 1193, 1194, 1195, 1214, 1215, 1216, 1217, 1218, 1219, 1220, 1221, 1222, 1223, 1208, 1209, 1210, 1211, 1212, 1213] (by decide +kernel) (by decide +kernel)
set_option maxRecDepth 20000 in
theorem gL_law_X8_swaps : GoodIn wsL_law (wsV RL 104 RX8 yX8_swaps wsX8_swaps) := goodIn_app (goodIn_of _ (by decide +kernel)) ggL_law_X8_swaps
set_option maxRecDepth 20000 in
theorem ggL_law_X9_swaps : GoodIn wsL_law wsX9_swaps := goodIn_r _ [884, 154, 155, 5, 156, 885, 886, 887, 888, 109, 110, 736, 737, 738, 739, 235, 236, 237, 238, 231, 232, 233, 234, 740, 741, 742, 743, 744, 745, 746, 747, 157, 158, 159, 160, 748, 749, 750, 751, 752, 753, 754, 700, 701, 702, 703, 704, 705, 706, 707, 161, 162, 163, 164, 668, 669, 670, 671, 219, 220, 221, 222, 488, 489, 490, 491, 227, 228, 229, 230, 889, 890, 891, 892, 893, 894, 895, 896, 897, 898, 899, 900, 1169, 1170, 1171, 1172, 1173, 1174, 1175, 1176, 1177, 1178, 1179, 1180, 1181, 1182, 1183, 1184] (by decide +kernel) (by decide +kernel)
set_option maxRecDepth 20000 in
theorem gL_law_X9_swaps : GoodIn wsL_law (wsV RL 107 RX9 yX9_swaps wsX9_swaps) := goodIn_app (goodIn_of _ (by decide +kernel)) ggL_law_X9_swaps
set_option maxRecDepth 20000 in
theorem ggL_law_X8_ahead : GoodIn wsL_law wsX8_ahead := goodIn_r _ [904, 21, 15, 802, 905, 906, 907, 20, 908, 88, 847, 808, 176, 177, 14, 178, 42, 48, 909, 614, 615, 47, 616, 197, 560, 72, 73, 74, 211, 212, 213, 214, 195, 910, 911, 912, 913, 914, 609, 610, 611, 183, 198, 612, 285, 286, 613, 1160, 1161, 1162, 1163, 1164, 1165, 1166, 1167, 1168, 1185, 1186, 1187, 1188, 1189, 1190, 1191, 1192, 1193, 1194, 1195, 1196, 1197, 1214, 1215, 1216, 1217, 1218, 1219, 1220, 1221, 1222, 1223] (by decide +kernel) (by decide +kernel)
set_option maxRecDepth 20000 in
theorem gL_law_X8_ahead : GoodIn wsL_law (wsV RL 108 RX8 yX8_ahead wsX8_ahead) := goodIn_app (goodIn_of _ (by decide +kernel)) ggL_law_X8_ahead
set_option maxRecDepth 20000 in
theorem ggL_law_X9_ahead : GoodIn wsL_law wsX9_ahead := goodIn_r _ [918, 109, 154, 155, 5, 156, 235, 236, 237, 238, 231, 232, 233, 234, 664, 665, 666, 667, 1169, 1170, 1171, 1172, 1173, 1174, 1175, 1176, 1177, 1178, 1179, 1180, 1181, 1182, 1183, 1184] (by decide +kernel) (by decide +kernel)
set_option maxRecDepth 20000 in
theorem gL_law_X9_ahead : GoodIn wsL_law (wsV RL 111 RX9 yX9_ahead wsX9_ahead) := goodIn_app (goodIn_of _ (by decide +kernel)) ggL_law_X9_ahead
set_option maxRecDepth 20000 in
theorem ggL_law_X8_judge : GoodIn wsL_law wsX8_judge := goodIn_r _ [922, 15, 923, 924, 374, 925, 926, 927, 2, 928, 377, 252, 253, 14, 254, 173, 929, 930, 931, 932, 31, 34, 378, 176, 177, 178, 42, 48, 379, 330, 331, 24, 332, 190, 391, 334, 335, 336, 70, 75, 933, 934, 935, 936, 432, 433, 434, 435, 129, 436, 310, 311, 312, 134, 135, 136, 137, 40, 45, 313, 314, 315, 44, 316, 144, 145, 317, 318, 319, 320, 142, 1160, 1161, 1162, 1163, 1164, 1165, 1166, 1167, 1168, 1205, 1206, 1207, 1185, 1186, 1187, 1188, 1189, 1190, 1191, 1192, 1193, 1194, 1195, 1214, 1215, 1216, 1217, 1218, 1219, 1220, 1221, 1222, 1223, 1198, 1199, 1200, 1201, 1208, 1209, 1210, 1211, 1212, 1213] (by decide +kernel) (by decide +kernel)
set_option maxRecDepth 20000 in
theorem gL_law_X8_judge : GoodIn wsL_law (wsV RL 112 RX8 yX8_judge wsX8_judge) := goodIn_app (goodIn_of _ (by decide +kernel)) ggL_law_X8_judge
set_option maxRecDepth 20000 in
theorem ggL_law_X9_judge : GoodIn wsL_law wsX9_judge := goodIn_r _ [940, 115, 109, 117, 119, 941, 942, 943, 5, 944, 154, 155, 156, 271, 272, 273, 274, 231, 232, 233, 234, 441, 442, 443, 444, 345, 346, 347, 348, 349, 350, 351, 352, 157, 158, 159, 160, 353, 354, 355, 412, 413, 414, 415, 416, 417, 418, 419, 420, 421, 422, 423, 424, 425, 426, 427, 1169, 1170, 1171, 1172, 1173, 1174, 1175, 1176, 1177, 1178, 1179, 1180, 1181, 1182, 1183, 1184] (by decide +kernel) (by decide +kernel)
set_option maxRecDepth 20000 in
theorem gL_law_X9_judge : GoodIn wsL_law (wsV RL 115 RX9 yX9_judge wsX9_judge) := goodIn_app (goodIn_of _ (by decide +kernel)) ggL_law_X9_judge
set_option maxRecDepth 20000 in
theorem ggL_law_X8_feed : GoodIn wsL_law wsX8_feed := goodIn_r _ [948, 25, 379, 330, 331, 24, 332, 190, 949, 204, 205, 206, 69, 70, 75, 950, 208, 209, 210, 1160, 1161, 1162, 1163, 1164, 1165, 1166, 1167, 1168, 1198, 1199, 1200, 1201] (by decide +kernel) (by decide +kernel)
set_option maxRecDepth 20000 in
theorem gL_law_X8_feed : GoodIn wsL_law (wsV RL 116 RX8 yX8_feed wsX8_feed) := goodIn_app (goodIn_of _ (by decide +kernel)) ggL_law_X8_feed
set_option maxRecDepth 20000 in
theorem ggL_law_X9_feed : GoodIn wsL_law wsX9_feed := goodIn_r _ [954, 955, 114, 154, 155, 5, 156, 1169, 1170, 1171, 1172, 1173, 1174, 1175, 1176, 1177, 1178, 1179, 1180, 1181, 1182, 1183, 1184] (by decide +kernel) (by decide +kernel)
set_option maxRecDepth 20000 in
theorem gL_law_X9_feed : GoodIn wsL_law (wsV RL 119 RX9 yX9_feed wsX9_feed) := goodIn_app (goodIn_of _ (by decide +kernel)) ggL_law_X9_feed
set_option maxRecDepth 20000 in
theorem ggL_law_X8_script : GoodIn wsL_law wsX8_script := goodIn_r _ [959, 29, 25, 960, 17, 15, 961, 962, 963, 964, 28, 965, 95, 966, 96, 967, 187, 188, 24, 189, 190, 968, 969, 970, 971, 972, 973, 974, 975, 976, 330, 331, 332, 977, 334, 335, 336, 70, 75, 978, 979, 980, 981, 204, 205, 206, 69, 982, 208, 209, 210, 983, 984, 985, 986, 987, 988, 989, 990, 991, 992, 993, 994, 14, 995, 129, 173, 174, 288, 461, 462, 134, 135, 136, 137, 40, 45, 996, 997, 998, 44, 999, 142, 143, 144, 145, 146, 1000, 256, 257, 258, 57, 1001, 260, 261, 262, 175, 176, 177, 178, 42, 48, 1002, 1003, 1004, 47, 1005, 183, 184, 195, 196, 197, 198, 185, 62, 63, 64, 1006, 1007, 1008, 1009, 1010, 285, 73, 286, 1011, 1012, 379, 1013, 1014, 1015, 2, 1016, 391, 125, 126, 127, 128, 130, 131, 132, 133, 138, 139, 140, 141, 169, 170, 171, 172, 179, 180, 181, 182, 186, 191, 192, 193, 194, 199, 200, 201, 202, 203, 207, 211, 212, 213, 214, 243, 244, 245, 246, 247, 248, 249, 250, 251, 252, 253, 254, 255, 259, 449, 450, 451, 452, 453, 287, 454, 455, 456, 457, 458, 459, 460, 463, 464, 465, 466, 467, 468, 469, 470, 471, 496, 497, 498, 499, 308, 500, 325, 326, 327, 328, 329, 333, 501, 502, 503, 504, 505, 506, 507, 508, 509, 510, 511, 512, 513, 71, 72, 74, 514, 543, 544, 545, 546, 547, 548, 549, 550, 551, 52, 552, 553, 554, 555, 556, 557, 558, 559, 560, 561, 562, 563, 564, 51, 565, 80, 566, 567, 568, 569, 570, 571, 572, 573, 574, 575, 576, 577, 578, 579, 580, 581, 582, 583, 584, 585, 586, 587, 588, 589, 590, 591, 592, 593, 594, 595, 596, 597, 598, 599, 600, 601, 602, 603, 604, 605, 606, 607, 608, 609, 610, 611, 612, 613, 614, 615, 616, 617, 618, 619, 620, 621, 622, 623, 624, 625, 626, 627, 628, 629, 630, 631, 632, 633, 634, 635, 527, 528, 529, 530, 684, 685, 686, 687, 688, 689, 690, 691, 692, 693, 694, 695, 712, 713, 714, 715, 716, 717, 718, 719, 720, 721, 722, 723, 724, 725, 726, 727, 728, 729, 730, 731, 759, 760, 761, 762, 284, 771, 780, 781, 782, 783, 1160, 1161, 1162, 1163, 1164, 1165, 1166, 1167, 1168, 1202, 1203, 1204, 1198, 1199, 1200, 1201, 1185, 1186, 1187, 1188, 1189, 1190, 1191, 1192, 1193, 1194, 1195, 1208, 1209, 1210, 1211, 1212, 1213, 1214, 1215, 1216, 1217, 1218, 1219, 1220, 1221, 1222, 1223, 1224, 1225] (by decide +kernel) (by decide +kernel)
set_option maxRecDepth 20000 in
theorem gL_law_X8_script : GoodIn wsL_law (wsV RL 120 RX8 yX8_script wsX8_script) := goodIn_app (goodIn_of _ (by decide +kernel)) ggL_law_X8_script
set_option maxRecDepth 20000 in
theorem ggL_law_X9_script : GoodIn wsL_law wsX9_script := goodIn_r _ [1020, 955, 1021, 109, 111, 1022, 1023, 1024, 1025, 5, 1026, 1027, 1028, 1029, 1030, 114, 120, 1031, 1032, 1033, 1034, 1035, 1036, 1037, 1038, 1039, 1040, 1041, 1042, 1043, 1044, 1045, 154, 155, 156, 1046, 1047, 1048, 1049, 748, 749, 750, 1050, 1051, 1052, 1053, 1054, 148, 149, 150, 151, 152, 153, 157, 158, 159, 160, 161, 162, 163, 164, 1055, 216, 217, 218, 219, 220, 221, 222, 223, 224, 225, 226, 227, 228, 229, 230, 231, 232, 233, 234, 235, 236, 237, 238, 1056, 264, 265, 266, 267, 268, 269, 270, 271, 272, 273, 274, 1057, 473, 474, 475, 476, 477, 478, 479, 480, 481, 482, 483, 484, 485, 486, 487, 488, 489, 490, 491, 1058, 516, 517, 518, 360, 361, 362, 363, 416, 417, 418, 419, 420, 421, 422, 423, 424, 425, 426, 427, 1059, 637, 638, 639, 640, 641, 642, 643, 644, 113, 645, 646, 647, 648, 649, 650, 651, 652, 653, 654, 655, 656, 657, 658, 659, 660, 661, 662, 663, 664, 665, 666, 667, 668, 669, 670, 671, 672, 673, 674, 675, 676, 677, 678, 679, 412, 413, 414, 415, 535, 536, 537, 538, 1060, 697, 698, 699, 700, 701, 702, 703, 704, 705, 706, 707, 1061, 733, 734, 735, 110, 736, 737, 738, 739, 740, 741, 742, 743, 744, 745, 746, 747, 751, 752, 753, 754, 1062, 764, 765, 766, 1063, 773, 774, 775, 1064, 785, 786, 787, 1169, 1170, 1171, 1172, 1173, 1174, 1175, 1176, 1177, 1178, 1179, 1180, 1181, 1182, 1183, 1184] (by decide +kernel) (by decide +kernel)
set_option maxRecDepth 20000 in
theorem gL_law_X9_script : GoodIn wsL_law (wsV RL 124 RX9 yX9_script wsX9_script) := goodIn_app (goodIn_of _ (by decide +kernel)) ggL_law_X9_script
set_option maxRecDepth 20000 in
theorem ggL_law_X8_image : GoodIn wsL_law wsX8_image := goodIn_r _ [1068, 16, 15, 1069, 802, 992, 993, 994, 14, 995, 129, 173, 174, 288, 461, 462, 134, 135, 136, 137, 40, 45, 996, 997, 998, 44, 999, 142, 143, 144, 145, 146, 1000, 256, 257, 258, 57, 1001, 260, 261, 262, 175, 176, 177, 178, 42, 48, 1002, 1003, 1004, 47, 1005, 183, 184, 195, 196, 197, 198, 185, 62, 63, 64, 1006, 1007, 1008, 24, 1009, 190, 69, 1010, 285, 73, 286, 70, 1011, 334, 335, 336, 75, 1012, 208, 209, 210, 1160, 1161, 1162, 1163, 1164, 1165, 1166, 1167, 1168, 1185, 1186, 1187, 1188, 1189, 1190, 1191, 1192, 1193, 1194, 1195, 1208, 1209, 1210, 1211, 1212, 1213, 1214, 1215, 1216, 1217, 1218, 1219, 1220, 1221, 1222, 1223, 1198, 1199, 1200, 1201] (by decide +kernel) (by decide +kernel)
set_option maxRecDepth 20000 in
theorem gL_law_X8_image : GoodIn wsL_law (wsV RL 125 RX8 yX8_image wsX8_image) := goodIn_app (goodIn_of _ (by decide +kernel)) ggL_law_X8_image
set_option maxRecDepth 20000 in
theorem ggL_law_X9_image : GoodIn wsL_law wsX9_image := goodIn_r _ [1073, 109, 112, 1074, 748, 749, 5, 750, 1169, 1170, 1171, 1172, 1173, 1174, 1175, 1176, 1177, 1178, 1179, 1180, 1181, 1182, 1183, 1184] (by decide +kernel) (by decide +kernel)
set_option maxRecDepth 20000 in
theorem gL_law_X9_image : GoodIn wsL_law (wsV RL 128 RX9 yX9_image wsX9_image) := goodIn_app (goodIn_of _ (by decide +kernel)) ggL_law_X9_image
set_option maxRecDepth 20000 in
theorem ggL_law_X8_back : GoodIn wsL_law wsX8_back := goodIn_r _ [1078, 1069, 15, 16, 923, 1079, 802, 992, 993, 994, 14, 995, 129, 173, 174, 288, 461, 462, 134, 135, 136, 137, 40, 45, 996, 997, 998, 44, 999, 142, 143, 144, 145, 146, 1000, 256, 257, 258, 57, 1001, 260, 261, 262, 175, 176, 177, 178, 42, 48, 1002, 1003, 1004, 47, 1005, 183, 184, 195, 196, 197, 198, 185, 62, 63, 64, 1006, 1007, 1008, 24, 1009, 190, 69, 1010, 285, 73, 286, 70, 1011, 334, 335, 336, 75, 1012, 208, 209, 210, 929, 930, 931, 2, 932, 31, 34, 302, 248, 249, 250, 377, 252, 253, 254, 1080, 1081, 1082, 33, 1083, 101, 1084, 1160, 1161, 1162, 1163, 1164, 1165, 1166, 1167, 1168, 1205, 1206, 1207, 1185, 1186, 1187, 1188, 1189, 1190, 1191, 1192, 1193, 1194, 1195, 1208, 1209, 1210, 1211, 1212, 1213, 1214, 1215, 1216, 1217, 1218, 1219, 1220, 1221, 1222, 1223, 1198, 1199, 1200, 1201] (by decide +kernel) (by decide +kernel)
set_option maxRecDepth 20000 in
theorem gL_law_X8_back : GoodIn wsL_law (wsV RL 129 RX8 yX8_back wsX8_back) := goodIn_app (goodIn_of _ (by decide +kernel)) ggL_law_X8_back
set_option maxRecDepth 20000 in
theorem ggL_law_X9_back : GoodIn wsL_law wsX9_back := goodIn_r _ [1088, 1074, 112, 109, 115, 116, 748, 749, 5, 750, 267, 268, 269, 270, 154, 155, 156, 271, 272, 273, 274, 1169, 1170, 1171, 1172, 1173, 1174, 1175, 1176, 1177, 1178, 1179, 1180, 1181, 1182, 1183, 1184] (by decide +kernel) (by decide +kernel)
set_option maxRecDepth 20000 in
theorem gL_law_X9_back : GoodIn wsL_law (wsV RL 132 RX9 yX9_back wsX9_back) := goodIn_app (goodIn_of _ (by decide +kernel)) ggL_law_X9_back
set_option maxRecDepth 20000 in
theorem ggL_law_X8_hold : GoodIn wsL_law wsX8_hold := goodIn_r _ [1092, 15, 302, 248, 249, 14, 250, 129, 377, 252, 253, 254, 173, 926, 927, 2, 928, 929, 930, 931, 932, 31, 34, 1080, 1081, 1082, 33, 1083, 101, 1084, 1160, 1161, 1162, 1163, 1164, 1165, 1166, 1167, 1168, 1185, 1186, 1187, 1188, 1189, 1190, 1191, 1192, 1193, 1194, 1195, 1205, 1206, 1207] (by decide +kernel) (by decide +kernel)
set_option maxRecDepth 20000 in
theorem gL_law_X8_hold : GoodIn wsL_law (wsV RL 133 RX8 yX8_hold wsX8_hold) := goodIn_app (goodIn_of _ (by decide +kernel)) ggL_law_X8_hold
set_option maxRecDepth 20000 in
theorem ggL_law_X9_hold : GoodIn wsL_law wsX9_hold := goodIn_r _ [1096, 115, 116, 941, 942, 943, 5, 944, 154, 155, 156, 267, 268, 269, 270, 109, 271, 272, 273, 274, 1169, 1170, 1171, 1172, 1173, 1174, 1175, 1176, 1177, 1178, 1179, 1180, 1181, 1182, 1183, 1184] (by decide +kernel) (by decide +kernel)
set_option maxRecDepth 20000 in
theorem gL_law_X9_hold : GoodIn wsL_law (wsV RL 136 RX9 yX9_hold wsX9_hold) := goodIn_app (goodIn_of _ (by decide +kernel)) ggL_law_X9_hold
set_option maxRecDepth 20000 in
theorem ggL_law_X8_row : GoodIn wsL_law wsX8_row := goodIn_r _ [1100, 926, 927, 2, 928, 929, 930, 931, 932, 31, 34, 1101, 1102, 1103, 33, 1104, 103, 1105, 1081, 1082, 1083, 101, 1084, 1106, 187, 188, 24, 189, 190, 1107, 204, 205, 206, 69, 70, 75, 1160, 1161, 1162, 1163, 1164, 1165, 1166, 1167, 1168, 1205, 1206, 1207, 1198, 1199, 1200, 1201] (by decide +kernel) (by decide +kernel)
set_option maxRecDepth 20000 in
theorem gL_law_X8_row : GoodIn wsL_law (wsV RL 137 RX8 yX8_row wsX8_row) := goodIn_app (goodIn_of _ (by decide +kernel)) ggL_law_X8_row
set_option maxRecDepth 20000 in
theorem ggL_law_X9_row : GoodIn wsL_law wsX9_row := goodIn_r _ [1111, 115, 117, 119, 941, 942, 943, 5, 944, 154, 155, 156, 1169, 1170, 1171, 1172, 1173, 1174, 1175, 1176, 1177, 1178, 1179, 1180, 1181, 1182, 1183, 1184] (by decide +kernel) (by decide +kernel)
set_option maxRecDepth 20000 in
theorem gL_law_X9_row : GoodIn wsL_law (wsV RL 140 RX9 yX9_row wsX9_row) := goodIn_app (goodIn_of _ (by decide +kernel)) ggL_law_X9_row
set_option maxRecDepth 20000 in
theorem ggL_law_X8_put : GoodIn wsL_law wsX8_put := goodIn_r _ [1115, 923, 925, 1116, 929, 930, 931, 2, 932, 31, 34, 379, 330, 331, 24, 332, 190, 391, 334, 335, 336, 70, 75, 950, 208, 209, 210, 1205, 1206, 1207, 1160, 1161, 1162, 1163, 1164, 1165, 1166, 1167, 1168, 1198, 1199, 1200, 1201] (by decide +kernel) (by decide +kernel)
set_option maxRecDepth 20000 in
theorem gL_law_X8_put : GoodIn wsL_law (wsV RL 141 RX8 yX8_put wsX8_put) := goodIn_app (goodIn_of _ (by decide +kernel)) ggL_law_X8_put
set_option maxRecDepth 20000 in
theorem ggL_law_X9_put : GoodIn wsL_law wsX9_put := goodIn_r _ [1120, 115, 117, 1121, 119, 941, 942, 943, 5, 944, 154, 155, 156, 1169, 1170, 1171, 1172, 1173, 1174, 1175, 1176, 1177, 1178, 1179, 1180, 1181, 1182, 1183, 1184] (by decide +kernel) (by decide +kernel)
set_option maxRecDepth 20000 in
theorem gL_law_X9_put : GoodIn wsL_law (wsV RL 144 RX9 yX9_put wsX9_put) := goodIn_app (goodIn_of _ (by decide +kernel)) ggL_law_X9_put
set_option maxRecDepth 20000 in
theorem ggL_law_X8_tells : GoodIn wsL_law wsX8_tells := goodIn_r _ [1125, 923, 1079, 15, 299, 368, 370, 926, 927, 2, 928, 929, 930, 931, 932, 31, 34, 303, 135, 136, 14, 137, 40, 45, 378, 176, 177, 178, 42, 48, 1126, 212, 213, 47, 214, 195, 1205, 1206, 1207, 1160, 1161, 1162, 1163, 1164, 1165, 1166, 1167, 1168, 1208, 1209, 1210, 1211, 1212, 1213, 1214, 1215, 1216, 1217, 1218, 1219, 1220, 1221, 1222, 1223, 1185, 1186, 1187, 1188, 1189, 1190, 1191, 1192, 1193, 1194, 1195] (by decide +kernel) (by decide +kernel)
set_option maxRecDepth 20000 in
theorem gL_law_X8_tells : GoodIn wsL_law (wsV RL 145 RX8 yX8_tells wsX8_tells) := goodIn_app (goodIn_of _ (by decide +kernel)) ggL_law_X8_tells
set_option maxRecDepth 20000 in
theorem ggL_law_X9_tells : GoodIn wsL_law wsX9_tells := goodIn_r _ [1130, 115, 116, 941, 942, 943, 5, 944, 154, 155, 156, 235, 236, 237, 238, 231, 232, 233, 234, 109, 157, 158, 159, 160, 1169, 1170, 1171, 1172, 1173, 1174, 1175, 1176, 1177, 1178, 1179, 1180, 1181, 1182, 1183, 1184] (by decide +kernel) (by decide +kernel)
set_option maxRecDepth 20000 in
theorem gL_law_X9_tells : GoodIn wsL_law (wsV RL 148 RX9 yX9_tells wsX9_tells) := goodIn_app (goodIn_of _ (by decide +kernel)) ggL_law_X9_tells
set_option maxRecDepth 20000 in
theorem ggL_law_X8_count : GoodIn wsL_law wsX8_count := goodIn_r _ [1134, 15, 924, 1135, 21, 802, 1136, 25, 1137, 1138, 1139, 20, 1140, 88, 847, 808, 176, 177, 14, 178, 42, 48, 1141, 212, 213, 47, 214, 195, 1142, 1143, 1144, 1145, 807, 1146, 330, 331, 24, 332, 190, 1147, 1148, 1149, 1150, 877, 1151, 880, 135, 136, 137, 40, 45, 379, 1152, 1153, 1154, 2, 1155, 923, 929, 930, 931, 932, 31, 34, 1160, 1161, 1162, 1163, 1164, 1165, 1166, 1167, 1168, 1185, 1186, 1187, 1188, 1189, 1190, 1191, 1192, 1193, 1194, 1195, 1196, 1197, 1214, 1215, 1216, 1217, 1218, 1219, 1220, 1221, 1222, 1223, 1198, 1199, 1200, 1201, 1208, 1209, 1210, 1211, 1212, 1213, 1205, 1206, 1207] (by decide +kernel) (by decide +kernel)
set_option maxRecDepth 20000 in
theorem gL_law_X8_count : GoodIn wsL_law (wsV RL 149 RX8 yX8_count wsX8_count) := goodIn_app (goodIn_of _ (by decide +kernel)) ggL_law_X8_count
set_option maxRecDepth 20000 in
theorem ggL_law_X9_count : GoodIn wsL_law wsX9_count := goodIn_r _ [1159, 109, 955, 115, 235, 236, 237, 5, 238, 231, 232, 233, 234, 157, 158, 159, 160, 1169, 1170, 1171, 1172, 1173, 1174, 1175, 1176, 1177, 1178, 1179, 1180, 1181, 1182, 1183, 1184] (by decide +kernel) (by decide +kernel)
set_option maxRecDepth 20000 in
theorem gL_law_X9_count : GoodIn wsL_law (wsV RL 152 RX9 yX9_count wsX9_count) := goodIn_app (goodIn_of _ (by decide +kernel)) ggL_law_X9_count
theorem dL_law_0 : decode cL_law 0 = .ok (.new 7, 3) := by decide +kernel
theorem dL_law_3 : decode cL_law 3 = .ok (.dup, 1) := by decide +kernel
theorem dL_law_4 : decode cL_law 4 = .ok (.invokespecial 9, 3) := by decide +kernel
theorem dL_law_7 : decode cL_law 7 = .ok (.astore_n 1, 1) := by decide +kernel
theorem dL_law_8 : decode cL_law 8 = .ok (.new 10, 3) := by decide +kernel
theorem dL_law_11 : decode cL_law 11 = .ok (.dup, 1) := by decide +kernel
theorem dL_law_12 : decode cL_law 12 = .ok (.invokespecial 12, 3) := by decide +kernel
theorem dL_law_15 : decode cL_law 15 = .ok (.astore_n 2, 1) := by decide +kernel
theorem dL_law_16 : decode cL_law 16 = .ok (.iconst 0, 1) := by decide +kernel
theorem dL_law_17 : decode cL_law 17 = .ok (.istore_n 3, 1) := by decide +kernel
theorem dL_law_18 : decode cL_law 18 = .ok (.iload_n 3, 1) := by decide +kernel
theorem dL_law_19 : decode cL_law 19 = .ok (.aload_n 0, 1) := by decide +kernel
theorem dL_law_20 : decode cL_law 20 = .ok (.arraylength, 1) := by decide +kernel
theorem dL_law_21 : decode cL_law 21 = .ok (.iconst 4, 1) := by decide +kernel
theorem dL_law_22 : decode cL_law 22 = .ok (.isub, 1) := by decide +kernel
theorem dL_law_23 : decode cL_law 23 = .ok (.if_icmp .gt 1219, 3) := by decide +kernel
theorem dL_law_26 : decode cL_law 26 = .ok (.aload_n 0, 1) := by decide +kernel
theorem dL_law_27 : decode cL_law 27 = .ok (.iload_n 3, 1) := by decide +kernel
theorem dL_law_28 : decode cL_law 28 = .ok (.iaload, 1) := by decide +kernel
theorem dL_law_29 : decode cL_law 29 = .ok (.bipush 63, 2) := by decide +kernel
theorem dL_law_31 : decode cL_law 31 = .ok (.iand, 1) := by decide +kernel
theorem dL_law_32 : decode cL_law 32 = .ok (.tableswitch 1204 0 33 #[152, 185, 208, 251, 284, 317, 350, 393, 436, 479, 502, 545, 588, 621, 644, 677, 710, 743, 766, 789, 812, 845, 878, 901, 934, 967, 990, 1003, 1016, 1029, 1072, 1105, 1148, 1181], 152) := by decide +kernel
theorem dL_law_184 : decode cL_law 184 = .ok (.aload_n 1, 1) := by decide +kernel
theorem dL_law_185 : decode cL_law 185 = .ok (.aload_n 0, 1) := by decide +kernel
theorem dL_law_186 : decode cL_law 186 = .ok (.iload_n 3, 1) := by decide +kernel
theorem dL_law_187 : decode cL_law 187 = .ok (.iconst 1, 1) := by decide +kernel
theorem dL_law_188 : decode cL_law 188 = .ok (.iadd, 1) := by decide +kernel
theorem dL_law_189 : decode cL_law 189 = .ok (.iaload, 1) := by decide +kernel
theorem dL_law_190 : decode cL_law 190 = .ok (.aload_n 0, 1) := by decide +kernel
theorem dL_law_191 : decode cL_law 191 = .ok (.iload_n 3, 1) := by decide +kernel
theorem dL_law_192 : decode cL_law 192 = .ok (.iconst 2, 1) := by decide +kernel
theorem dL_law_193 : decode cL_law 193 = .ok (.iadd, 1) := by decide +kernel
theorem dL_law_194 : decode cL_law 194 = .ok (.iaload, 1) := by decide +kernel
theorem dL_law_195 : decode cL_law 195 = .ok (.invokevirtual 13, 3) := by decide +kernel
theorem dL_law_198 : decode cL_law 198 = .ok (.aload_n 2, 1) := by decide +kernel
theorem dL_law_199 : decode cL_law 199 = .ok (.aload_n 0, 1) := by decide +kernel
theorem dL_law_200 : decode cL_law 200 = .ok (.iload_n 3, 1) := by decide +kernel
theorem dL_law_201 : decode cL_law 201 = .ok (.iconst 1, 1) := by decide +kernel
theorem dL_law_202 : decode cL_law 202 = .ok (.iadd, 1) := by decide +kernel
theorem dL_law_203 : decode cL_law 203 = .ok (.iaload, 1) := by decide +kernel
theorem dL_law_204 : decode cL_law 204 = .ok (.aload_n 0, 1) := by decide +kernel
theorem dL_law_205 : decode cL_law 205 = .ok (.iload_n 3, 1) := by decide +kernel
theorem dL_law_206 : decode cL_law 206 = .ok (.iconst 2, 1) := by decide +kernel
theorem dL_law_207 : decode cL_law 207 = .ok (.iadd, 1) := by decide +kernel
theorem dL_law_208 : decode cL_law 208 = .ok (.iaload, 1) := by decide +kernel
theorem dL_law_209 : decode cL_law 209 = .ok (.invokevirtual 17, 3) := by decide +kernel
theorem dL_law_212 : decode cL_law 212 = .ok (.if_icmp .eq 1024, 3) := by decide +kernel
theorem dL_law_215 : decode cL_law 215 = .ok (.iconst 0, 1) := by decide +kernel
theorem dL_law_216 : decode cL_law 216 = .ok (.ireturn, 1) := by decide +kernel
theorem dL_law_217 : decode cL_law 217 = .ok (.aload_n 1, 1) := by decide +kernel
theorem dL_law_218 : decode cL_law 218 = .ok (.aload_n 0, 1) := by decide +kernel
theorem dL_law_219 : decode cL_law 219 = .ok (.iload_n 3, 1) := by decide +kernel
theorem dL_law_220 : decode cL_law 220 = .ok (.iconst 1, 1) := by decide +kernel
theorem dL_law_221 : decode cL_law 221 = .ok (.iadd, 1) := by decide +kernel
theorem dL_law_222 : decode cL_law 222 = .ok (.iaload, 1) := by decide +kernel
theorem dL_law_223 : decode cL_law 223 = .ok (.invokevirtual 18, 3) := by decide +kernel
theorem dL_law_226 : decode cL_law 226 = .ok (.aload_n 2, 1) := by decide +kernel
theorem dL_law_227 : decode cL_law 227 = .ok (.aload_n 0, 1) := by decide +kernel
theorem dL_law_228 : decode cL_law 228 = .ok (.iload_n 3, 1) := by decide +kernel
theorem dL_law_229 : decode cL_law 229 = .ok (.iconst 1, 1) := by decide +kernel
theorem dL_law_230 : decode cL_law 230 = .ok (.iadd, 1) := by decide +kernel
theorem dL_law_231 : decode cL_law 231 = .ok (.iaload, 1) := by decide +kernel
theorem dL_law_232 : decode cL_law 232 = .ok (.invokevirtual 22, 3) := by decide +kernel
theorem dL_law_235 : decode cL_law 235 = .ok (.if_icmp .eq 1001, 3) := by decide +kernel
theorem dL_law_238 : decode cL_law 238 = .ok (.iconst 0, 1) := by decide +kernel
theorem dL_law_239 : decode cL_law 239 = .ok (.ireturn, 1) := by decide +kernel
theorem dL_law_240 : decode cL_law 240 = .ok (.aload_n 1, 1) := by decide +kernel
theorem dL_law_241 : decode cL_law 241 = .ok (.aload_n 0, 1) := by decide +kernel
theorem dL_law_242 : decode cL_law 242 = .ok (.iload_n 3, 1) := by decide +kernel
theorem dL_law_243 : decode cL_law 243 = .ok (.iconst 1, 1) := by decide +kernel
theorem dL_law_244 : decode cL_law 244 = .ok (.iadd, 1) := by decide +kernel
theorem dL_law_245 : decode cL_law 245 = .ok (.iaload, 1) := by decide +kernel
theorem dL_law_246 : decode cL_law 246 = .ok (.aload_n 0, 1) := by decide +kernel
theorem dL_law_247 : decode cL_law 247 = .ok (.iload_n 3, 1) := by decide +kernel
theorem dL_law_248 : decode cL_law 248 = .ok (.iconst 2, 1) := by decide +kernel
theorem dL_law_249 : decode cL_law 249 = .ok (.iadd, 1) := by decide +kernel
theorem dL_law_250 : decode cL_law 250 = .ok (.iaload, 1) := by decide +kernel
theorem dL_law_251 : decode cL_law 251 = .ok (.aload_n 0, 1) := by decide +kernel
theorem dL_law_252 : decode cL_law 252 = .ok (.iload_n 3, 1) := by decide +kernel
theorem dL_law_253 : decode cL_law 253 = .ok (.iconst 3, 1) := by decide +kernel
theorem dL_law_254 : decode cL_law 254 = .ok (.iadd, 1) := by decide +kernel
theorem dL_law_255 : decode cL_law 255 = .ok (.iaload, 1) := by decide +kernel
theorem dL_law_256 : decode cL_law 256 = .ok (.invokevirtual 23, 3) := by decide +kernel
theorem dL_law_259 : decode cL_law 259 = .ok (.aload_n 2, 1) := by decide +kernel
theorem dL_law_260 : decode cL_law 260 = .ok (.aload_n 0, 1) := by decide +kernel
theorem dL_law_261 : decode cL_law 261 = .ok (.iload_n 3, 1) := by decide +kernel
theorem dL_law_262 : decode cL_law 262 = .ok (.iconst 1, 1) := by decide +kernel
theorem dL_law_263 : decode cL_law 263 = .ok (.iadd, 1) := by decide +kernel
theorem dL_law_264 : decode cL_law 264 = .ok (.iaload, 1) := by decide +kernel
theorem dL_law_265 : decode cL_law 265 = .ok (.aload_n 0, 1) := by decide +kernel
theorem dL_law_266 : decode cL_law 266 = .ok (.iload_n 3, 1) := by decide +kernel
theorem dL_law_267 : decode cL_law 267 = .ok (.iconst 2, 1) := by decide +kernel
theorem dL_law_268 : decode cL_law 268 = .ok (.iadd, 1) := by decide +kernel
theorem dL_law_269 : decode cL_law 269 = .ok (.iaload, 1) := by decide +kernel
theorem dL_law_270 : decode cL_law 270 = .ok (.aload_n 0, 1) := by decide +kernel
theorem dL_law_271 : decode cL_law 271 = .ok (.iload_n 3, 1) := by decide +kernel
theorem dL_law_272 : decode cL_law 272 = .ok (.iconst 3, 1) := by decide +kernel
theorem dL_law_273 : decode cL_law 273 = .ok (.iadd, 1) := by decide +kernel
theorem dL_law_274 : decode cL_law 274 = .ok (.iaload, 1) := by decide +kernel
theorem dL_law_275 : decode cL_law 275 = .ok (.invokevirtual 27, 3) := by decide +kernel
theorem dL_law_278 : decode cL_law 278 = .ok (.if_icmp .eq 958, 3) := by decide +kernel
theorem dL_law_281 : decode cL_law 281 = .ok (.iconst 0, 1) := by decide +kernel
theorem dL_law_282 : decode cL_law 282 = .ok (.ireturn, 1) := by decide +kernel
theorem dL_law_283 : decode cL_law 283 = .ok (.aload_n 1, 1) := by decide +kernel
theorem dL_law_284 : decode cL_law 284 = .ok (.aload_n 0, 1) := by decide +kernel
theorem dL_law_285 : decode cL_law 285 = .ok (.iload_n 3, 1) := by decide +kernel
theorem dL_law_286 : decode cL_law 286 = .ok (.iconst 1, 1) := by decide +kernel
theorem dL_law_287 : decode cL_law 287 = .ok (.iadd, 1) := by decide +kernel
theorem dL_law_288 : decode cL_law 288 = .ok (.iaload, 1) := by decide +kernel
theorem dL_law_289 : decode cL_law 289 = .ok (.aload_n 0, 1) := by decide +kernel
theorem dL_law_290 : decode cL_law 290 = .ok (.iload_n 3, 1) := by decide +kernel
theorem dL_law_291 : decode cL_law 291 = .ok (.iconst 2, 1) := by decide +kernel
theorem dL_law_292 : decode cL_law 292 = .ok (.iadd, 1) := by decide +kernel
theorem dL_law_293 : decode cL_law 293 = .ok (.iaload, 1) := by decide +kernel
theorem dL_law_294 : decode cL_law 294 = .ok (.invokevirtual 28, 3) := by decide +kernel
theorem dL_law_297 : decode cL_law 297 = .ok (.aload_n 2, 1) := by decide +kernel
theorem dL_law_298 : decode cL_law 298 = .ok (.aload_n 0, 1) := by decide +kernel
theorem dL_law_299 : decode cL_law 299 = .ok (.iload_n 3, 1) := by decide +kernel
theorem dL_law_300 : decode cL_law 300 = .ok (.iconst 1, 1) := by decide +kernel
theorem dL_law_301 : decode cL_law 301 = .ok (.iadd, 1) := by decide +kernel
theorem dL_law_302 : decode cL_law 302 = .ok (.iaload, 1) := by decide +kernel
theorem dL_law_303 : decode cL_law 303 = .ok (.aload_n 0, 1) := by decide +kernel
theorem dL_law_304 : decode cL_law 304 = .ok (.iload_n 3, 1) := by decide +kernel
theorem dL_law_305 : decode cL_law 305 = .ok (.iconst 2, 1) := by decide +kernel
theorem dL_law_306 : decode cL_law 306 = .ok (.iadd, 1) := by decide +kernel
theorem dL_law_307 : decode cL_law 307 = .ok (.iaload, 1) := by decide +kernel
theorem dL_law_308 : decode cL_law 308 = .ok (.invokevirtual 31, 3) := by decide +kernel
theorem dL_law_311 : decode cL_law 311 = .ok (.if_icmp .eq 925, 3) := by decide +kernel
theorem dL_law_314 : decode cL_law 314 = .ok (.iconst 0, 1) := by decide +kernel
theorem dL_law_315 : decode cL_law 315 = .ok (.ireturn, 1) := by decide +kernel
theorem dL_law_316 : decode cL_law 316 = .ok (.aload_n 1, 1) := by decide +kernel
theorem dL_law_317 : decode cL_law 317 = .ok (.aload_n 0, 1) := by decide +kernel
theorem dL_law_318 : decode cL_law 318 = .ok (.iload_n 3, 1) := by decide +kernel
theorem dL_law_319 : decode cL_law 319 = .ok (.iconst 1, 1) := by decide +kernel
theorem dL_law_320 : decode cL_law 320 = .ok (.iadd, 1) := by decide +kernel
theorem dL_law_321 : decode cL_law 321 = .ok (.iaload, 1) := by decide +kernel
theorem dL_law_322 : decode cL_law 322 = .ok (.aload_n 0, 1) := by decide +kernel
theorem dL_law_323 : decode cL_law 323 = .ok (.iload_n 3, 1) := by decide +kernel
theorem dL_law_324 : decode cL_law 324 = .ok (.iconst 2, 1) := by decide +kernel
theorem dL_law_325 : decode cL_law 325 = .ok (.iadd, 1) := by decide +kernel
theorem dL_law_326 : decode cL_law 326 = .ok (.iaload, 1) := by decide +kernel
theorem dL_law_327 : decode cL_law 327 = .ok (.invokevirtual 32, 3) := by decide +kernel
theorem dL_law_330 : decode cL_law 330 = .ok (.aload_n 2, 1) := by decide +kernel
theorem dL_law_331 : decode cL_law 331 = .ok (.aload_n 0, 1) := by decide +kernel
theorem dL_law_332 : decode cL_law 332 = .ok (.iload_n 3, 1) := by decide +kernel
theorem dL_law_333 : decode cL_law 333 = .ok (.iconst 1, 1) := by decide +kernel
theorem dL_law_334 : decode cL_law 334 = .ok (.iadd, 1) := by decide +kernel
theorem dL_law_335 : decode cL_law 335 = .ok (.iaload, 1) := by decide +kernel
theorem dL_law_336 : decode cL_law 336 = .ok (.aload_n 0, 1) := by decide +kernel
theorem dL_law_337 : decode cL_law 337 = .ok (.iload_n 3, 1) := by decide +kernel
theorem dL_law_338 : decode cL_law 338 = .ok (.iconst 2, 1) := by decide +kernel
theorem dL_law_339 : decode cL_law 339 = .ok (.iadd, 1) := by decide +kernel
theorem dL_law_340 : decode cL_law 340 = .ok (.iaload, 1) := by decide +kernel
theorem dL_law_341 : decode cL_law 341 = .ok (.invokevirtual 35, 3) := by decide +kernel
theorem dL_law_344 : decode cL_law 344 = .ok (.if_icmp .eq 892, 3) := by decide +kernel
theorem dL_law_347 : decode cL_law 347 = .ok (.iconst 0, 1) := by decide +kernel
theorem dL_law_348 : decode cL_law 348 = .ok (.ireturn, 1) := by decide +kernel
theorem dL_law_349 : decode cL_law 349 = .ok (.aload_n 1, 1) := by decide +kernel
theorem dL_law_350 : decode cL_law 350 = .ok (.aload_n 0, 1) := by decide +kernel
theorem dL_law_351 : decode cL_law 351 = .ok (.iload_n 3, 1) := by decide +kernel
theorem dL_law_352 : decode cL_law 352 = .ok (.iconst 1, 1) := by decide +kernel
theorem dL_law_353 : decode cL_law 353 = .ok (.iadd, 1) := by decide +kernel
theorem dL_law_354 : decode cL_law 354 = .ok (.iaload, 1) := by decide +kernel
theorem dL_law_355 : decode cL_law 355 = .ok (.aload_n 0, 1) := by decide +kernel
theorem dL_law_356 : decode cL_law 356 = .ok (.iload_n 3, 1) := by decide +kernel
theorem dL_law_357 : decode cL_law 357 = .ok (.iconst 2, 1) := by decide +kernel
theorem dL_law_358 : decode cL_law 358 = .ok (.iadd, 1) := by decide +kernel
theorem dL_law_359 : decode cL_law 359 = .ok (.iaload, 1) := by decide +kernel
theorem dL_law_360 : decode cL_law 360 = .ok (.invokevirtual 36, 3) := by decide +kernel
theorem dL_law_363 : decode cL_law 363 = .ok (.aload_n 2, 1) := by decide +kernel
theorem dL_law_364 : decode cL_law 364 = .ok (.aload_n 0, 1) := by decide +kernel
theorem dL_law_365 : decode cL_law 365 = .ok (.iload_n 3, 1) := by decide +kernel
theorem dL_law_366 : decode cL_law 366 = .ok (.iconst 1, 1) := by decide +kernel
theorem dL_law_367 : decode cL_law 367 = .ok (.iadd, 1) := by decide +kernel
theorem dL_law_368 : decode cL_law 368 = .ok (.iaload, 1) := by decide +kernel
theorem dL_law_369 : decode cL_law 369 = .ok (.aload_n 0, 1) := by decide +kernel
theorem dL_law_370 : decode cL_law 370 = .ok (.iload_n 3, 1) := by decide +kernel
theorem dL_law_371 : decode cL_law 371 = .ok (.iconst 2, 1) := by decide +kernel
theorem dL_law_372 : decode cL_law 372 = .ok (.iadd, 1) := by decide +kernel
theorem dL_law_373 : decode cL_law 373 = .ok (.iaload, 1) := by decide +kernel
theorem dL_law_374 : decode cL_law 374 = .ok (.invokevirtual 39, 3) := by decide +kernel
theorem dL_law_377 : decode cL_law 377 = .ok (.if_icmp .eq 859, 3) := by decide +kernel
theorem dL_law_380 : decode cL_law 380 = .ok (.iconst 0, 1) := by decide +kernel
theorem dL_law_381 : decode cL_law 381 = .ok (.ireturn, 1) := by decide +kernel
theorem dL_law_382 : decode cL_law 382 = .ok (.aload_n 1, 1) := by decide +kernel
theorem dL_law_383 : decode cL_law 383 = .ok (.aload_n 0, 1) := by decide +kernel
theorem dL_law_384 : decode cL_law 384 = .ok (.iload_n 3, 1) := by decide +kernel
theorem dL_law_385 : decode cL_law 385 = .ok (.iconst 1, 1) := by decide +kernel
theorem dL_law_386 : decode cL_law 386 = .ok (.iadd, 1) := by decide +kernel
theorem dL_law_387 : decode cL_law 387 = .ok (.iaload, 1) := by decide +kernel
theorem dL_law_388 : decode cL_law 388 = .ok (.aload_n 0, 1) := by decide +kernel
theorem dL_law_389 : decode cL_law 389 = .ok (.iload_n 3, 1) := by decide +kernel
theorem dL_law_390 : decode cL_law 390 = .ok (.iconst 2, 1) := by decide +kernel
theorem dL_law_391 : decode cL_law 391 = .ok (.iadd, 1) := by decide +kernel
theorem dL_law_392 : decode cL_law 392 = .ok (.iaload, 1) := by decide +kernel
theorem dL_law_393 : decode cL_law 393 = .ok (.aload_n 0, 1) := by decide +kernel
theorem dL_law_394 : decode cL_law 394 = .ok (.iload_n 3, 1) := by decide +kernel
theorem dL_law_395 : decode cL_law 395 = .ok (.iconst 3, 1) := by decide +kernel
theorem dL_law_396 : decode cL_law 396 = .ok (.iadd, 1) := by decide +kernel
theorem dL_law_397 : decode cL_law 397 = .ok (.iaload, 1) := by decide +kernel
theorem dL_law_398 : decode cL_law 398 = .ok (.invokevirtual 40, 3) := by decide +kernel
theorem dL_law_401 : decode cL_law 401 = .ok (.aload_n 2, 1) := by decide +kernel
theorem dL_law_402 : decode cL_law 402 = .ok (.aload_n 0, 1) := by decide +kernel
theorem dL_law_403 : decode cL_law 403 = .ok (.iload_n 3, 1) := by decide +kernel
theorem dL_law_404 : decode cL_law 404 = .ok (.iconst 1, 1) := by decide +kernel
theorem dL_law_405 : decode cL_law 405 = .ok (.iadd, 1) := by decide +kernel
theorem dL_law_406 : decode cL_law 406 = .ok (.iaload, 1) := by decide +kernel
theorem dL_law_407 : decode cL_law 407 = .ok (.aload_n 0, 1) := by decide +kernel
theorem dL_law_408 : decode cL_law 408 = .ok (.iload_n 3, 1) := by decide +kernel
theorem dL_law_409 : decode cL_law 409 = .ok (.iconst 2, 1) := by decide +kernel
theorem dL_law_410 : decode cL_law 410 = .ok (.iadd, 1) := by decide +kernel
theorem dL_law_411 : decode cL_law 411 = .ok (.iaload, 1) := by decide +kernel
theorem dL_law_412 : decode cL_law 412 = .ok (.aload_n 0, 1) := by decide +kernel
theorem dL_law_413 : decode cL_law 413 = .ok (.iload_n 3, 1) := by decide +kernel
theorem dL_law_414 : decode cL_law 414 = .ok (.iconst 3, 1) := by decide +kernel
theorem dL_law_415 : decode cL_law 415 = .ok (.iadd, 1) := by decide +kernel
theorem dL_law_416 : decode cL_law 416 = .ok (.iaload, 1) := by decide +kernel
theorem dL_law_417 : decode cL_law 417 = .ok (.invokevirtual 43, 3) := by decide +kernel
theorem dL_law_420 : decode cL_law 420 = .ok (.if_icmp .eq 816, 3) := by decide +kernel
theorem dL_law_423 : decode cL_law 423 = .ok (.iconst 0, 1) := by decide +kernel
theorem dL_law_424 : decode cL_law 424 = .ok (.ireturn, 1) := by decide +kernel
theorem dL_law_425 : decode cL_law 425 = .ok (.aload_n 1, 1) := by decide +kernel
theorem dL_law_426 : decode cL_law 426 = .ok (.aload_n 0, 1) := by decide +kernel
theorem dL_law_427 : decode cL_law 427 = .ok (.iload_n 3, 1) := by decide +kernel
theorem dL_law_428 : decode cL_law 428 = .ok (.iconst 1, 1) := by decide +kernel
theorem dL_law_429 : decode cL_law 429 = .ok (.iadd, 1) := by decide +kernel
theorem dL_law_430 : decode cL_law 430 = .ok (.iaload, 1) := by decide +kernel
theorem dL_law_431 : decode cL_law 431 = .ok (.aload_n 0, 1) := by decide +kernel
theorem dL_law_432 : decode cL_law 432 = .ok (.iload_n 3, 1) := by decide +kernel
theorem dL_law_433 : decode cL_law 433 = .ok (.iconst 2, 1) := by decide +kernel
theorem dL_law_434 : decode cL_law 434 = .ok (.iadd, 1) := by decide +kernel
theorem dL_law_435 : decode cL_law 435 = .ok (.iaload, 1) := by decide +kernel
theorem dL_law_436 : decode cL_law 436 = .ok (.aload_n 0, 1) := by decide +kernel
theorem dL_law_437 : decode cL_law 437 = .ok (.iload_n 3, 1) := by decide +kernel
theorem dL_law_438 : decode cL_law 438 = .ok (.iconst 3, 1) := by decide +kernel
theorem dL_law_439 : decode cL_law 439 = .ok (.iadd, 1) := by decide +kernel
theorem dL_law_440 : decode cL_law 440 = .ok (.iaload, 1) := by decide +kernel
theorem dL_law_441 : decode cL_law 441 = .ok (.invokevirtual 44, 3) := by decide +kernel
theorem dL_law_444 : decode cL_law 444 = .ok (.aload_n 2, 1) := by decide +kernel
theorem dL_law_445 : decode cL_law 445 = .ok (.aload_n 0, 1) := by decide +kernel
theorem dL_law_446 : decode cL_law 446 = .ok (.iload_n 3, 1) := by decide +kernel
theorem dL_law_447 : decode cL_law 447 = .ok (.iconst 1, 1) := by decide +kernel
theorem dL_law_448 : decode cL_law 448 = .ok (.iadd, 1) := by decide +kernel
theorem dL_law_449 : decode cL_law 449 = .ok (.iaload, 1) := by decide +kernel
theorem dL_law_450 : decode cL_law 450 = .ok (.aload_n 0, 1) := by decide +kernel
theorem dL_law_451 : decode cL_law 451 = .ok (.iload_n 3, 1) := by decide +kernel
theorem dL_law_452 : decode cL_law 452 = .ok (.iconst 2, 1) := by decide +kernel
theorem dL_law_453 : decode cL_law 453 = .ok (.iadd, 1) := by decide +kernel
theorem dL_law_454 : decode cL_law 454 = .ok (.iaload, 1) := by decide +kernel
theorem dL_law_455 : decode cL_law 455 = .ok (.aload_n 0, 1) := by decide +kernel
theorem dL_law_456 : decode cL_law 456 = .ok (.iload_n 3, 1) := by decide +kernel
theorem dL_law_457 : decode cL_law 457 = .ok (.iconst 3, 1) := by decide +kernel
theorem dL_law_458 : decode cL_law 458 = .ok (.iadd, 1) := by decide +kernel
theorem dL_law_459 : decode cL_law 459 = .ok (.iaload, 1) := by decide +kernel
theorem dL_law_460 : decode cL_law 460 = .ok (.invokevirtual 47, 3) := by decide +kernel
theorem dL_law_463 : decode cL_law 463 = .ok (.if_icmp .eq 773, 3) := by decide +kernel
theorem dL_law_466 : decode cL_law 466 = .ok (.iconst 0, 1) := by decide +kernel
theorem dL_law_467 : decode cL_law 467 = .ok (.ireturn, 1) := by decide +kernel
theorem dL_law_468 : decode cL_law 468 = .ok (.aload_n 1, 1) := by decide +kernel
theorem dL_law_469 : decode cL_law 469 = .ok (.aload_n 0, 1) := by decide +kernel
