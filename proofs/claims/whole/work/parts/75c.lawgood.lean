set_option maxRecDepth 20000 in
theorem gL_law_X8_claim : GoodIn wsL_law (wsV RL 60 RX8 yX8_claim wsX8_claim) := goodIn_app (goodIn_of _ (by decide +kernel)) ggL_law_X8_claim
set_option maxRecDepth 20000 in
theorem gh_X9_claim : GoodIn wsL_law [.code yX9_claim cX9_claim 5 (some .int)] := goodIn_r _ [518] (by decide +kernel) (by decide +kernel)
set_option maxRecDepth 20000 in
theorem g_wsX9_claim_r1 : GoodIn wsL_law wsX9_claim_r1 := goodIn_r _ [109, 267, 268, 269, 5, 270, 154, 155, 156, 271, 272, 273, 274, 360, 361, 362, 363, 231, 232, 233, 234, 219, 220, 221] (by decide +kernel) (by decide +kernel)
set_option maxRecDepth 20000 in
theorem g_wsX9_claim_r2 : GoodIn wsL_law wsX9_claim_r2 := goodIn_r _ [222, 416, 417, 418, 419, 420, 421, 422, 423, 424, 425, 426, 427] (by decide +kernel) (by decide +kernel)
set_option maxRecDepth 20000 in
theorem ggL_law_X9_claim : GoodIn wsL_law wsX9_claim := goodIn_ca (a := []) gh_X9_claim (goodIn_app (goodIn_app g_wsX9_claim_r1 g_wsX9_claim_r2) gcX9)
set_option maxRecDepth 20000 in
theorem gL_law_X9_claim : GoodIn wsL_law (wsV RL 63 RX9 yX9_claim wsX9_claim) := goodIn_app (goodIn_of _ (by decide +kernel)) ggL_law_X9_claim
set_option maxRecDepth 20000 in
theorem gh_X8_waive : GoodIn wsL_law [.code yX8_waive cX8_waive 3 (some .int)] := goodIn_r _ [522] (by decide +kernel) (by decide +kernel)
set_option maxRecDepth 20000 in
theorem g_wsX8_waive_r1 : GoodIn wsL_law wsX8_waive_r1 := goodIn_r _ [17, 523, 524, 525, 20, 526, 500, 247, 248, 249, 250, 129, 251, 252, 253, 254, 173, 175, 176, 177, 178, 50, 56, 325] (by decide +kernel) (by decide +kernel)
set_option maxRecDepth 20000 in
theorem g_wsX8_waive_r2 : GoodIn wsL_law wsX8_waive_r2 := goodIn_r _ [326, 327, 55, 328, 72, 329, 330, 331, 69, 332, 190, 333, 334, 335, 336, 78, 83, 527, 528, 529, 530, 501] (by decide +kernel) (by decide +kernel)
set_option maxRecDepth 20000 in
theorem ggL_law_X8_waive : GoodIn wsL_law wsX8_waive := goodIn_ca (a := []) gh_X8_waive (goodIn_app (goodIn_app (goodIn_app (goodIn_app (goodIn_app g_wsX8_waive_r1 g_wsX8_waive_r2) gcX8) gcX7) gcX2) gcX4)
set_option maxRecDepth 20000 in
theorem gL_law_X8_waive : GoodIn wsL_law (wsV RL 64 RX8 yX8_waive wsX8_waive) := goodIn_app (goodIn_of _ (by decide +kernel)) ggL_law_X8_waive
set_option maxRecDepth 20000 in
theorem gh_X9_waive : GoodIn wsL_law [.code yX9_waive cX9_waive 4 (some .int)] := goodIn_r _ [534] (by decide +kernel) (by decide +kernel)
set_option maxRecDepth 20000 in
theorem g_wsX9_waive_r1 : GoodIn wsL_law wsX9_waive_r1 := goodIn_r _ [267, 268, 269, 5, 270, 109, 154, 155, 156, 271, 272, 273, 274, 360, 361, 362, 363, 231, 232, 233, 234, 535, 536, 537] (by decide +kernel) (by decide +kernel)
set_option maxRecDepth 20000 in
theorem g_wsX9_waive_r2 : GoodIn wsL_law wsX9_waive_r2 := goodIn_r _ [538, 424, 425, 426, 427, 219, 220, 221, 222] (by decide +kernel) (by decide +kernel)
set_option maxRecDepth 20000 in
theorem ggL_law_X9_waive : GoodIn wsL_law wsX9_waive := goodIn_ca (a := []) gh_X9_waive (goodIn_app (goodIn_app g_wsX9_waive_r1 g_wsX9_waive_r2) gcX9)
set_option maxRecDepth 20000 in
theorem gL_law_X9_waive : GoodIn wsL_law (wsV RL 67 RX9 yX9_waive wsX9_waive) := goodIn_app (goodIn_of _ (by decide +kernel)) ggL_law_X9_waive
set_option maxRecDepth 20000 in
theorem gh_X8_returned : GoodIn wsL_law [.code yX8_returned cX8_returned 2 (some .int)] := goodIn_r _ [542] (by decide +kernel) (by decide +kernel)
set_option maxRecDepth 20000 in
theorem g_wsX8_returned_r1 : GoodIn wsL_law wsX8_returned_r1 := goodIn_r _ [17, 543, 544, 545, 20, 546, 308, 174, 288, 287, 467, 547, 251, 252, 253, 254, 173, 175, 176, 177, 178, 50, 56, 456] (by decide +kernel) (by decide +kernel)
set_option maxRecDepth 20000 in
theorem g_wsX8_returned_r2 : GoodIn wsL_law wsX8_returned_r2 := goodIn_r _ [212, 213, 55, 214, 195, 548, 549, 550, 551, 58, 552, 553, 554, 555, 184, 71, 329, 330, 331, 69, 332, 190, 333, 334] (by decide +kernel) (by decide +kernel)
set_option maxRecDepth 20000 in
theorem g_wsX8_returned_r3 : GoodIn wsL_law wsX8_returned_r3 := goodIn_r _ [335, 336, 78, 83, 556, 557, 558, 559, 183, 560, 80, 81, 82, 561, 562, 563, 564, 41, 565, 88, 566, 567, 568, 569] (by decide +kernel) (by decide +kernel)
set_option maxRecDepth 20000 in
theorem g_wsX8_returned_r4 : GoodIn wsL_law wsX8_returned_r4 := goodIn_r _ [570, 571, 187, 188, 189, 572, 573, 574, 575, 576, 577, 578, 579, 580, 581, 582, 204, 205, 206, 77, 583, 208, 209, 210] (by decide +kernel) (by decide +kernel)
set_option maxRecDepth 20000 in
theorem g_wsX8_returned_r5 : GoodIn wsL_law wsX8_returned_r5 := goodIn_r _ [584, 200, 201, 202, 185, 203, 207, 211, 585, 586, 587, 588, 589, 590, 591, 592, 134, 135, 136, 137, 48, 53, 593, 594] (by decide +kernel) (by decide +kernel)
set_option maxRecDepth 20000 in
theorem g_wsX8_returned_r6 : GoodIn wsL_law wsX8_returned_r6 := goodIn_r _ [595, 596, 597, 598, 599, 600, 52, 601, 143, 602, 285, 286, 146, 603, 604, 605, 606, 144, 607, 608, 609, 610, 611, 198] (by decide +kernel) (by decide +kernel)
set_option maxRecDepth 20000 in
theorem g_wsX8_returned_r7 : GoodIn wsL_law wsX8_returned_r7 := goodIn_r _ [612, 613, 614, 615, 616, 197, 617, 618, 619, 620, 621, 622, 623, 624, 625, 70, 626, 192, 193, 194, 196, 627, 628, 629] (by decide +kernel) (by decide +kernel)
set_option maxRecDepth 20000 in
theorem g_wsX8_returned_r8 : GoodIn wsL_law wsX8_returned_r8 := goodIn_r _ [630, 500, 631, 632, 633, 634, 453, 454, 501, 635, 527, 528, 529, 530, 463, 464, 465, 466, 455, 468, 469, 470, 471] (by decide +kernel) (by decide +kernel)
set_option maxRecDepth 20000 in
theorem ggL_law_X8_returned : GoodIn wsL_law wsX8_returned := goodIn_ca (a := []) gh_X8_returned (goodIn_app (goodIn_app (goodIn_app (goodIn_app (goodIn_app (goodIn_app (goodIn_app g_wsX8_returned_r1 (goodIn_app g_wsX8_returned_r2 (goodIn_app g_wsX8_returned_r3 (goodIn_app g_wsX8_returned_r4 (goodIn_app g_wsX8_returned_r5 (goodIn_app g_wsX8_returned_r6 (goodIn_app g_wsX8_returned_r7 g_wsX8_returned_r8))))))) gcX8) gcX7) gcX2) gcX3) gcX4) gcX0)
set_option maxRecDepth 20000 in
theorem gL_law_X8_returned : GoodIn wsL_law (wsV RL 68 RX8 yX8_returned wsX8_returned) := goodIn_app (goodIn_of _ (by decide +kernel)) ggL_law_X8_returned
set_option maxRecDepth 20000 in
theorem gh_X9_returned : GoodIn wsL_law [.code yX9_returned cX9_returned 5 (some .int)] := goodIn_r _ [639] (by decide +kernel) (by decide +kernel)
set_option maxRecDepth 20000 in
theorem g_wsX9_returned_r1 : GoodIn wsL_law wsX9_returned_r1 := goodIn_r _ [109, 271, 272, 273, 5, 274, 154, 155, 156, 235, 236, 237, 238, 231, 232, 233, 234, 640, 641, 642, 643, 644, 113, 645] (by decide +kernel) (by decide +kernel)
set_option maxRecDepth 20000 in
theorem g_wsX9_returned_r2 : GoodIn wsL_law wsX9_returned_r2 := goodIn_r _ [646, 647, 648, 649, 650, 651, 652, 653, 654, 655, 656, 223, 224, 225, 226, 227, 228, 229, 230, 219, 220, 221, 222, 657] (by decide +kernel) (by decide +kernel)
set_option maxRecDepth 20000 in
theorem g_wsX9_returned_r3 : GoodIn wsL_law wsX9_returned_r3 := goodIn_r _ [658, 659, 660, 157, 158, 159, 160, 161, 162, 163, 164, 661, 662, 663, 664, 665, 666, 667, 668, 669, 670, 671, 672, 673] (by decide +kernel) (by decide +kernel)
set_option maxRecDepth 20000 in
theorem g_wsX9_returned_r4 : GoodIn wsL_law wsX9_returned_r4 := goodIn_r _ [674, 675, 676, 677, 678, 679, 412, 413, 414, 415, 416, 417, 418, 419, 420, 421, 422, 423, 424, 425, 426, 427, 480, 481] (by decide +kernel) (by decide +kernel)
set_option maxRecDepth 20000 in
theorem g_wsX9_returned_r5 : GoodIn wsL_law wsX9_returned_r5 := goodIn_r _ [482, 483, 535, 536, 537, 538, 484, 485, 486, 487, 488, 489, 490, 491] (by decide +kernel) (by decide +kernel)
set_option maxRecDepth 20000 in
theorem ggL_law_X9_returned : GoodIn wsL_law wsX9_returned := goodIn_ca (a := []) gh_X9_returned (goodIn_app (goodIn_app g_wsX9_returned_r1 (goodIn_app g_wsX9_returned_r2 (goodIn_app g_wsX9_returned_r3 (goodIn_app g_wsX9_returned_r4 g_wsX9_returned_r5)))) gcX9)
set_option maxRecDepth 20000 in
theorem gL_law_X9_returned : GoodIn wsL_law (wsV RL 71 RX9 yX9_returned wsX9_returned) := goodIn_app (goodIn_of _ (by decide +kernel)) ggL_law_X9_returned
set_option maxRecDepth 20000 in
theorem gh_X8_pass : GoodIn wsL_law [.code yX8_pass cX8_pass 3 (some .int)] := goodIn_r _ [683] (by decide +kernel) (by decide +kernel)
set_option maxRecDepth 20000 in
theorem g_wsX8_pass_r1 : GoodIn wsL_law wsX8_pass_r1 := goodIn_r _ [17, 684, 685, 686, 20, 687, 308, 287, 251, 252, 253, 254, 173, 247, 248, 249, 250, 129, 175, 176, 177, 178, 50, 56] (by decide +kernel) (by decide +kernel)
set_option maxRecDepth 20000 in
theorem g_wsX8_pass_r2 : GoodIn wsL_law wsX8_pass_r2 := goodIn_r _ [456, 212, 213, 55, 214, 195, 134, 135, 136, 137, 48, 53, 688, 689, 690, 691, 174, 455, 467, 457, 458, 459, 460, 461] (by decide +kernel) (by decide +kernel)
set_option maxRecDepth 20000 in
theorem g_wsX8_pass_r3 : GoodIn wsL_law wsX8_pass_r3 := goodIn_r _ [462, 692, 693, 694, 695, 622, 623, 624, 625, 70, 329, 330, 331, 69, 332, 190, 207, 208, 209, 210, 78, 83, 468, 469] (by decide +kernel) (by decide +kernel)
set_option maxRecDepth 20000 in
theorem g_wsX8_pass_r4 : GoodIn wsL_law wsX8_pass_r4 := goodIn_r _ [470, 471, 196, 185, 203, 204, 205, 206, 77] (by decide +kernel) (by decide +kernel)
set_option maxRecDepth 20000 in
theorem ggL_law_X8_pass : GoodIn wsL_law wsX8_pass := goodIn_ca (a := []) gh_X8_pass (goodIn_app (goodIn_app (goodIn_app (goodIn_app (goodIn_app (goodIn_app g_wsX8_pass_r1 (goodIn_app g_wsX8_pass_r2 (goodIn_app g_wsX8_pass_r3 g_wsX8_pass_r4))) gcX8) gcX7) gcX3) gcX2) gcX4)
set_option maxRecDepth 20000 in
theorem gL_law_X8_pass : GoodIn wsL_law (wsV RL 72 RX8 yX8_pass wsX8_pass) := goodIn_app (goodIn_of _ (by decide +kernel)) ggL_law_X8_pass
set_option maxRecDepth 20000 in
theorem gh_X9_pass : GoodIn wsL_law [.code yX9_pass cX9_pass 4 (some .int)] := goodIn_r _ [699] (by decide +kernel) (by decide +kernel)
set_option maxRecDepth 20000 in
theorem g_wsX9_pass_r1 : GoodIn wsL_law wsX9_pass_r1 := goodIn_r _ [271, 272, 273, 5, 274, 109, 154, 155, 156, 267, 268, 269, 270, 231, 232, 233, 234, 235, 236, 237, 238, 700, 701, 702] (by decide +kernel) (by decide +kernel)
set_option maxRecDepth 20000 in
theorem g_wsX9_pass_r2 : GoodIn wsL_law wsX9_pass_r2 := goodIn_r _ [703, 157, 158, 159, 160, 476, 477, 478, 479, 704, 705, 706, 707, 161, 162, 163, 164, 668, 669, 670, 671, 219, 220, 221] (by decide +kernel) (by decide +kernel)
set_option maxRecDepth 20000 in
theorem g_wsX9_pass_r3 : GoodIn wsL_law wsX9_pass_r3 := goodIn_r _ [222, 488, 489, 490, 491, 227, 228, 229, 230] (by decide +kernel) (by decide +kernel)
set_option maxRecDepth 20000 in
theorem ggL_law_X9_pass : GoodIn wsL_law wsX9_pass := goodIn_ca (a := []) gh_X9_pass (goodIn_app (goodIn_app g_wsX9_pass_r1 (goodIn_app g_wsX9_pass_r2 g_wsX9_pass_r3)) gcX9)
