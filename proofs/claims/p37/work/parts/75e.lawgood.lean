set_option maxRecDepth 20000 in
theorem gL_law_L_isFair : GoodIn wsL_law (va_wsS RL 85 yL_isFair wsL_isFair) := goodIn_app (goodIn_of _ (by decide +kernel)) ggL_law_L_isFair
set_option maxRecDepth 20000 in
theorem gh_law_X8_count : GoodIn wsL_law [.code yX8_count cX8_count 2 (some .int)] := goodIn_r _ [533] (by decide +kernel) (by decide +kernel)
set_option maxRecDepth 20000 in
theorem g_law_wsX8_count_r1 : GoodIn wsL_law wsX8_count_r1 := goodIn_r _ [14, 534, 535, 12, 505, 536, 25, 537, 538, 539, 11, 540, 35, 465, 499, 147, 148, 17, 149, 47, 53, 541, 183, 184] (by decide +kernel) (by decide +kernel)
set_option maxRecDepth 20000 in
theorem g_law_wsX8_count_r2 : GoodIn wsL_law wsX8_count_r2 := goodIn_r _ [52, 185, 166, 542, 543, 544, 545, 546, 547, 237, 238, 66, 239, 161, 548, 549, 550, 551, 495, 552, 498, 124, 125, 126] (by decide +kernel) (by decide +kernel)
set_option maxRecDepth 20000 in
theorem g_law_wsX8_count_r3 : GoodIn wsL_law wsX8_count_r3 := goodIn_r _ [45, 50, 553, 554, 555, 556, 2, 557, 558, 559, 560, 561, 562, 27, 30] (by decide +kernel) (by decide +kernel)
set_option maxRecDepth 20000 in
theorem ggL_law_X8_count : GoodIn wsL_law wsX8_count := goodIn_ca (a := []) gh_law_X8_count (goodIn_app (goodIn_app (goodIn_app (goodIn_app (goodIn_app (goodIn_app (goodIn_app (goodIn_app g_law_wsX8_count_r1 (goodIn_app g_law_wsX8_count_r2 g_law_wsX8_count_r3)) gc_law_X8) gc_law_X2) gc_law_X6) gc_law_X7) gc_law_X4) gc_law_X3) gc_law_X1)
set_option maxRecDepth 20000 in
theorem gL_law_X8_count : GoodIn wsL_law (wsV RL 58 RX8 yX8_count wsX8_count) := goodIn_app (goodIn_of _ (by decide +kernel)) ggL_law_X8_count
set_option maxRecDepth 20000 in
theorem gh_law_X8_personOf : GoodIn wsL_law [.code yX8_personOf cX8_personOf 4 (some .int)] := goodIn_r _ [566] (by decide +kernel) (by decide +kernel)
set_option maxRecDepth 20000 in
theorem g_law_wsX8_personOf_r1 : GoodIn wsL_law wsX8_personOf_r1 := goodIn_r _ [14, 567, 568, 569, 570, 571, 572, 199, 200, 17, 201, 118, 573, 124, 125, 126, 45, 50, 574, 575, 576, 577, 144, 230] (by decide +kernel) (by decide +kernel)
set_option maxRecDepth 20000 in
theorem g_law_wsX8_personOf_r2 : GoodIn wsL_law wsX8_personOf_r2 := goodIn_r _ [146, 147, 148, 149, 47, 53, 578, 579, 580, 581, 123, 582, 583, 584, 49, 585, 133, 134, 586, 587, 588, 589, 131, 590] (by decide +kernel) (by decide +kernel)
set_option maxRecDepth 20000 in
theorem g_law_wsX8_personOf_r3 : GoodIn wsL_law wsX8_personOf_r3 := goodIn_r _ [591, 592, 593, 232, 233, 234, 52, 235, 69, 236, 237, 238, 66, 239, 161, 240, 241, 242, 243, 75, 80] (by decide +kernel) (by decide +kernel)
set_option maxRecDepth 20000 in
theorem ggL_law_X8_personOf : GoodIn wsL_law wsX8_personOf := goodIn_ca (a := []) gh_law_X8_personOf (goodIn_app (goodIn_app (goodIn_app (goodIn_app (goodIn_app (goodIn_app g_law_wsX8_personOf_r1 (goodIn_app g_law_wsX8_personOf_r2 g_law_wsX8_personOf_r3)) gc_law_X8) gc_law_X3) gc_law_X2) gc_law_X7) gc_law_X4)
set_option maxRecDepth 20000 in
theorem gL_law_X8_personOf : GoodIn wsL_law (wsV RL 61 RX8 yX8_personOf wsX8_personOf) := goodIn_app (goodIn_of _ (by decide +kernel)) ggL_law_X8_personOf
set_option maxRecDepth 20000 in
theorem gh_law_X8_ahead : GoodIn wsL_law [.code yX8_ahead cX8_ahead 3 (some .int)] := goodIn_r _ [629] (by decide +kernel) (by decide +kernel)
set_option maxRecDepth 20000 in
theorem g_law_wsX8_ahead_r1 : GoodIn wsL_law wsX8_ahead_r1 := goodIn_r _ [12, 14, 505, 630, 631, 632, 11, 633, 35, 465, 499, 147, 148, 17, 149, 47, 53, 634, 336, 337, 52, 338, 168, 280] (by decide +kernel) (by decide +kernel)
set_option maxRecDepth 20000 in
theorem g_law_wsX8_ahead_r2 : GoodIn wsL_law wsX8_ahead_r2 := goodIn_r _ [77, 78, 79, 182, 183, 184, 185, 166, 635, 636, 637, 638, 639, 331, 332, 333, 154, 169, 334, 323, 324, 335] (by decide +kernel) (by decide +kernel)
set_option maxRecDepth 20000 in
theorem ggL_law_X8_ahead : GoodIn wsL_law wsX8_ahead := goodIn_ca (a := []) gh_law_X8_ahead (goodIn_app (goodIn_app (goodIn_app (goodIn_app (goodIn_app g_law_wsX8_ahead_r1 g_law_wsX8_ahead_r2) gc_law_X8) gc_law_X2) gc_law_X6) gc_law_X7)
set_option maxRecDepth 20000 in
theorem gL_law_X8_ahead : GoodIn wsL_law (wsV RL 89 RX8 yX8_ahead wsX8_ahead) := goodIn_app (goodIn_of _ (by decide +kernel)) ggL_law_X8_ahead
set_option maxRecDepth 20000 in
theorem ggL_law_X8_days : GoodIn wsL_law wsX8_days := goodIn_r _ [423, 14, 424, 425, 426, 17, 427, 145, 670, 671, 672, 673, 674, 675, 676, 677, 678, 681, 682, 683, 684, 685, 686, 687, 688, 689, 690, 691] (by decide +kernel) (by decide +kernel)
set_option maxRecDepth 20000 in
theorem gL_law_X8_days : GoodIn wsL_law (wsV RL 46 RX8 yX8_days wsX8_days) := goodIn_app (goodIn_of _ (by decide +kernel)) ggL_law_X8_days
set_option maxRecDepth 20000 in
theorem gh_law_X8_toolOf : GoodIn wsL_law [.code yX8_toolOf cX8_toolOf 4 (some .int)] := goodIn_r _ [606] (by decide +kernel) (by decide +kernel)
set_option maxRecDepth 20000 in
theorem g_law_wsX8_toolOf_r1 : GoodIn wsL_law wsX8_toolOf_r1 := goodIn_r _ [14, 607, 608, 609, 610, 611, 612, 613, 614, 615, 616, 203, 204, 17, 205, 144, 617, 147, 148, 149, 47, 53, 553, 237] (by decide +kernel) (by decide +kernel)
set_option maxRecDepth 20000 in
theorem g_law_wsX8_toolOf_r2 : GoodIn wsL_law wsX8_toolOf_r2 := goodIn_r _ [238, 66, 239, 161] (by decide +kernel) (by decide +kernel)
set_option maxRecDepth 20000 in
theorem ggL_law_X8_toolOf : GoodIn wsL_law wsX8_toolOf := goodIn_ca (a := []) gh_law_X8_toolOf (goodIn_app (goodIn_app (goodIn_app (goodIn_app (goodIn_app g_law_wsX8_toolOf_r1 g_law_wsX8_toolOf_r2) gc_law_X8) gc_law_X7) gc_law_X2) gc_law_X4)
set_option maxRecDepth 20000 in
theorem gL_law_X8_toolOf : GoodIn wsL_law (wsV RL 67 RX8 yX8_toolOf wsX8_toolOf) := goodIn_app (goodIn_of _ (by decide +kernel)) ggL_law_X8_toolOf
set_option maxRecDepth 20000 in
theorem gh_law_X8_told : GoodIn wsL_law [.code yX8_told cX8_told 3 (some .int)] := goodIn_r _ [643] (by decide +kernel) (by decide +kernel)
set_option maxRecDepth 20000 in
theorem g_law_wsX8_told_r1 : GoodIn wsL_law wsX8_told_r1 := goodIn_r _ [14, 12, 505, 616, 203, 204, 17, 205, 144, 644, 645, 646, 11, 647, 35, 546, 499, 147, 148, 149, 47, 53, 648, 354] (by decide +kernel) (by decide +kernel)
set_option maxRecDepth 20000 in
theorem g_law_wsX8_told_r2 : GoodIn wsL_law wsX8_told_r2 := goodIn_r _ [355, 356, 194, 231, 195, 196, 244, 237, 238, 66, 239, 161, 357, 241, 242, 243, 75, 80, 123, 124, 125, 126, 45, 50] (by decide +kernel) (by decide +kernel)
set_option maxRecDepth 20000 in
theorem g_law_wsX8_told_r3 : GoodIn wsL_law wsX8_told_r3 := goodIn_r _ [649, 650, 651, 652, 653, 39, 654, 283, 284, 38, 285, 85, 286, 287, 288, 289, 290, 77, 78, 79, 291, 158, 159, 160] (by decide +kernel) (by decide +kernel)
set_option maxRecDepth 20000 in
theorem g_law_wsX8_told_r4 : GoodIn wsL_law wsX8_told_r4 := goodIn_r _ [292, 293, 294, 295, 296, 297, 298, 299, 300, 301, 302, 175, 176, 177, 74, 303, 179, 180, 181, 655, 656, 657, 658, 617] (by decide +kernel) (by decide +kernel)
set_option maxRecDepth 20000 in
theorem g_law_wsX8_told_r5 : GoodIn wsL_law wsX8_told_r5 := goodIn_r _ [659, 331, 332, 52, 333, 154, 169, 334, 323, 324, 335, 336, 337, 338, 168, 280, 182, 183, 184, 185, 166] (by decide +kernel) (by decide +kernel)
set_option maxRecDepth 20000 in
theorem ggL_law_X8_told : GoodIn wsL_law wsX8_told := goodIn_ca (a := []) gh_law_X8_told (goodIn_app (goodIn_app (goodIn_app (goodIn_app (goodIn_app (goodIn_app (goodIn_app (goodIn_app g_law_wsX8_told_r1 (goodIn_app g_law_wsX8_told_r2 (goodIn_app g_law_wsX8_told_r3 (goodIn_app g_law_wsX8_told_r4 g_law_wsX8_told_r5)))) gc_law_X8) gc_law_X2) gc_law_X6) gc_law_X7) gc_law_X3) gc_law_X4) gc_law_X0)
set_option maxRecDepth 20000 in
theorem gL_law_X8_told : GoodIn wsL_law (wsV RL 92 RX8 yX8_told wsX8_told) := goodIn_app (goodIn_of _ (by decide +kernel)) ggL_law_X8_told
set_option maxRecDepth 20000 in
theorem gh_law_X8_returned : GoodIn wsL_law [.code yX8_returned cX8_returned 2 (some .int)] := goodIn_r _ [261] (by decide +kernel) (by decide +kernel)
set_option maxRecDepth 20000 in
theorem g_law_wsX8_returned_r1 : GoodIn wsL_law wsX8_returned_r1 := goodIn_r _ [14, 262, 263, 264, 17, 265, 230, 145, 266, 195, 217, 267, 202, 203, 204, 205, 144, 146, 147, 148, 149, 47, 53, 206] (by decide +kernel) (by decide +kernel)
set_option maxRecDepth 20000 in
theorem g_law_wsX8_returned_r2 : GoodIn wsL_law wsX8_returned_r2 := goodIn_r _ [183, 184, 52, 185, 166, 268, 269, 270, 271, 55, 272, 273, 274, 275, 155, 68, 236, 237, 238, 66, 239, 161, 240, 241] (by decide +kernel) (by decide +kernel)
set_option maxRecDepth 20000 in
theorem g_law_wsX8_returned_r3 : GoodIn wsL_law wsX8_returned_r3 := goodIn_r _ [242, 243, 75, 80, 276, 277, 278, 279, 154, 280, 77, 78, 79, 281, 282, 283, 284, 38, 285, 85, 286, 287, 288, 289] (by decide +kernel) (by decide +kernel)
set_option maxRecDepth 20000 in
theorem g_law_wsX8_returned_r4 : GoodIn wsL_law wsX8_returned_r4 := goodIn_r _ [290, 291, 158, 159, 160, 292, 293, 294, 295, 296, 297, 298, 299, 300, 301, 302, 175, 176, 177, 74, 303, 179, 180, 181] (by decide +kernel) (by decide +kernel)
set_option maxRecDepth 20000 in
theorem g_law_wsX8_returned_r5 : GoodIn wsL_law wsX8_returned_r5 := goodIn_r _ [304, 171, 172, 173, 156, 174, 178, 182, 305, 306, 307, 308, 309, 310, 311, 312, 123, 124, 125, 126, 45, 50, 313, 314] (by decide +kernel) (by decide +kernel)
set_option maxRecDepth 20000 in
theorem g_law_wsX8_returned_r6 : GoodIn wsL_law wsX8_returned_r6 := goodIn_r _ [315, 316, 317, 318, 319, 320, 49, 321, 132, 322, 323, 324, 135, 325, 326, 327, 328, 133, 329, 330, 331, 332, 333, 169] (by decide +kernel) (by decide +kernel)
set_option maxRecDepth 20000 in
theorem g_law_wsX8_returned_r7 : GoodIn wsL_law wsX8_returned_r7 := goodIn_r _ [334, 335, 336, 337, 338, 168, 339, 340, 341, 342, 343, 344, 345, 346, 347, 67, 348, 163, 164, 165, 167, 349, 350, 351] (by decide +kernel) (by decide +kernel)
set_option maxRecDepth 20000 in
theorem g_law_wsX8_returned_r8 : GoodIn wsL_law wsX8_returned_r8 := goodIn_r _ [352, 231, 353, 354, 355, 356, 194, 196, 244, 357, 358, 359, 360, 361, 213, 214, 215, 216, 197, 218, 219, 220, 221] (by decide +kernel) (by decide +kernel)
set_option maxRecDepth 20000 in
theorem ggL_law_X8_returned : GoodIn wsL_law wsX8_returned := goodIn_ca (a := []) gh_law_X8_returned (goodIn_app (goodIn_app (goodIn_app (goodIn_app (goodIn_app (goodIn_app (goodIn_app g_law_wsX8_returned_r1 (goodIn_app g_law_wsX8_returned_r2 (goodIn_app g_law_wsX8_returned_r3 (goodIn_app g_law_wsX8_returned_r4 (goodIn_app g_law_wsX8_returned_r5 (goodIn_app g_law_wsX8_returned_r6 (goodIn_app g_law_wsX8_returned_r7 g_law_wsX8_returned_r8))))))) gc_law_X8) gc_law_X7) gc_law_X2) gc_law_X3) gc_law_X4) gc_law_X0)
set_option maxRecDepth 20000 in
theorem gL_law_X8_returned : GoodIn wsL_law (wsV RL 31 RX8 yX8_returned wsX8_returned) := goodIn_app (goodIn_of _ (by decide +kernel)) ggL_law_X8_returned
set_option maxRecDepth 20000 in
theorem gh_law_X8_back : GoodIn wsL_law [.code yX8_back cX8_back 5 (some .int)] := goodIn_r _ [663] (by decide +kernel) (by decide +kernel)
set_option maxRecDepth 20000 in
theorem g_law_wsX8_back_r1 : GoodIn wsL_law wsX8_back_r1 := goodIn_r _ [504, 14, 18, 558, 664, 505, 506, 507, 508, 17, 509, 118, 144, 145, 266, 211, 212, 123, 124, 125, 126, 45, 50, 510] (by decide +kernel) (by decide +kernel)
set_option maxRecDepth 20000 in
theorem g_law_wsX8_back_r2 : GoodIn wsL_law wsX8_back_r2 := goodIn_r _ [511, 512, 49, 513, 131, 132, 133, 134, 135, 514, 399, 400, 401, 60, 515, 437, 438, 439, 146, 147, 148, 149, 47, 53] (by decide +kernel) (by decide +kernel)
set_option maxRecDepth 20000 in
theorem g_law_wsX8_back_r3 : GoodIn wsL_law wsX8_back_r3 := goodIn_r _ [516, 517, 518, 52, 519, 154, 155, 166, 167, 168, 169, 156, 67, 68, 69, 520, 521, 522, 66, 523, 161, 74, 524, 323] (by decide +kernel) (by decide +kernel)
set_option maxRecDepth 20000 in
theorem g_law_wsX8_back_r4 : GoodIn wsL_law wsX8_back_r4 := goodIn_r _ [78, 324, 75, 525, 241, 242, 243, 80, 526, 179, 180, 181, 559, 560, 561, 2, 562, 27, 30, 572, 199, 200, 201, 616] (by decide +kernel) (by decide +kernel)
set_option maxRecDepth 20000 in
theorem g_law_wsX8_back_r5 : GoodIn wsL_law wsX8_back_r5 := goodIn_r _ [203, 204, 205, 665, 666, 667, 29, 668, 98, 669] (by decide +kernel) (by decide +kernel)
set_option maxRecDepth 20000 in
theorem ggL_law_X8_back : GoodIn wsL_law wsX8_back := goodIn_ca (a := []) gh_law_X8_back (goodIn_app (goodIn_app (goodIn_app (goodIn_app (goodIn_app (goodIn_app (goodIn_app g_law_wsX8_back_r1 (goodIn_app g_law_wsX8_back_r2 (goodIn_app g_law_wsX8_back_r3 (goodIn_app g_law_wsX8_back_r4 g_law_wsX8_back_r5)))) gc_law_X8) gc_law_X1) gc_law_X2) gc_law_X3) gc_law_X7) gc_law_X4)
