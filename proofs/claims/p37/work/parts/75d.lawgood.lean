theorem gc_law_X8 : GoodIn wsL_law wsX80 := goodIn_sub inlX8 (by decide +kernel)
theorem gc_law_X6 : GoodIn wsL_law wsX60 := goodIn_sub inlX6 (by decide +kernel)
theorem gc_law_X2 : GoodIn wsL_law wsX20 := goodIn_sub inlX2 (by decide +kernel)
theorem gc_law_X5 : GoodIn wsL_law wsX50 := goodIn_sub inlX5 (by decide +kernel)
theorem gc_law_X1 : GoodIn wsL_law wsX10 := goodIn_sub inlX1 (by decide +kernel)
theorem gc_law_X0 : GoodIn wsL_law wsX00 := goodIn_sub inlX0 (by decide +kernel)
theorem gc_law_X3 : GoodIn wsL_law wsX30 := goodIn_sub inlX3 (by decide +kernel)
theorem gc_law_X7 : GoodIn wsL_law wsX70 := goodIn_sub inlX7 (by decide +kernel)
theorem gc_law_X4 : GoodIn wsL_law wsX40 := goodIn_sub inlX4 (by decide +kernel)
set_option maxRecDepth 20000 in
theorem gh_law_X8_init : GoodIn wsL_law [.code yX8_init cX8_init 2 none] := goodIn_r _ [5] (by decide +kernel) (by decide +kernel)
set_option maxRecDepth 20000 in
theorem g_law_wsX8_init_r1 : GoodIn wsL_law wsX8_init_r1 := goodIn_r _ [6, 7, 8, 9, 10, 11, 12, 13, 14, 15, 16, 17, 18, 19, 20, 21, 22, 23, 24, 25, 26, 27, 28, 29] (by decide +kernel) (by decide +kernel)
set_option maxRecDepth 20000 in
theorem g_law_wsX8_init_r2 : GoodIn wsL_law wsX8_init_r2 := goodIn_r _ [30, 31, 32, 33, 34, 35, 36, 37, 38, 39, 40, 41, 42, 43, 44, 45, 46, 47, 48, 49, 50, 51, 52, 53] (by decide +kernel) (by decide +kernel)
set_option maxRecDepth 20000 in
theorem g_law_wsX8_init_r3 : GoodIn wsL_law wsX8_init_r3 := goodIn_r _ [54, 55, 56, 57, 58, 59, 60, 61, 62, 63, 64, 65, 66, 67, 68, 69, 70, 71, 72, 73, 74, 75, 76, 77] (by decide +kernel) (by decide +kernel)
set_option maxRecDepth 20000 in
theorem g_law_wsX8_init_r4 : GoodIn wsL_law wsX8_init_r4 := goodIn_r _ [78, 79, 80, 81, 82, 83, 84, 85, 86, 87, 88, 89, 90, 91, 92, 93, 94, 95, 96, 97, 98, 99, 100, 101] (by decide +kernel) (by decide +kernel)
set_option maxRecDepth 20000 in
theorem ggL_law_X8_init : GoodIn wsL_law wsX8_init := goodIn_ca (a := []) gh_law_X8_init (goodIn_app (goodIn_app (goodIn_app (goodIn_app (goodIn_app (goodIn_app (goodIn_app (goodIn_app (goodIn_app (goodIn_app g_law_wsX8_init_r1 (goodIn_app g_law_wsX8_init_r2 (goodIn_app g_law_wsX8_init_r3 g_law_wsX8_init_r4))) gc_law_X6) gc_law_X8) gc_law_X2) gc_law_X5) gc_law_X1) gc_law_X0) gc_law_X3) gc_law_X7) gc_law_X4)
set_option maxRecDepth 20000 in
theorem gL_law_X8_init : GoodIn wsL_law (wsX8_init) := ggL_law_X8_init
set_option maxRecDepth 20000 in
theorem gh_law_L_act : GoodIn wsL_law [.code yL_act cL_act 9 (some .int)] := goodIn_r _ [105] (by decide +kernel) (by decide +kernel)
set_option maxRecDepth 20000 in
theorem g_law_wsL_act_r1 : GoodIn wsL_law wsL_act_r1 := goodIn_r _ [106, 107, 108, 104, 109, 110, 111, 112, 2, 113, 14, 114, 115, 116, 17, 117, 118, 119, 120, 121, 122, 123, 124, 125] (by decide +kernel) (by decide +kernel)
set_option maxRecDepth 20000 in
theorem g_law_wsL_act_r2 : GoodIn wsL_law wsL_act_r2 := goodIn_r _ [126, 45, 50, 127, 128, 129, 49, 130, 131, 132, 133, 134, 135, 60, 136, 137, 138, 139, 140, 141, 142, 143, 144, 145] (by decide +kernel) (by decide +kernel)
set_option maxRecDepth 20000 in
theorem g_law_wsL_act_r3 : GoodIn wsL_law wsL_act_r3 := goodIn_r _ [146, 147, 148, 149, 47, 53, 150, 151, 152, 52, 153, 154, 155, 156, 67, 68, 69, 157, 158, 159, 66, 160, 161, 162] (by decide +kernel) (by decide +kernel)
set_option maxRecDepth 20000 in
theorem g_law_wsL_act_r4 : GoodIn wsL_law wsL_act_r4 := goodIn_r _ [163, 164, 165, 166, 167, 168, 169, 170, 171, 172, 173, 174, 175, 176, 177, 74, 80, 75, 178, 179, 180, 181, 182, 183] (by decide +kernel) (by decide +kernel)
set_option maxRecDepth 20000 in
theorem g_law_wsL_act_r5 : GoodIn wsL_law wsL_act_r5 := goodIn_r _ [184, 185, 186, 187, 188, 189, 190, 191, 192, 193, 194, 195, 196, 197, 198, 199, 200, 201, 202, 203, 204, 205, 206, 207] (by decide +kernel) (by decide +kernel)
set_option maxRecDepth 20000 in
theorem g_law_wsL_act_r6 : GoodIn wsL_law wsL_act_r6 := goodIn_r _ [208, 209, 210, 211, 212, 213, 214, 215, 216, 217, 218, 219, 220, 221, 222, 223, 224, 225, 226, 227, 228, 229, 230, 231] (by decide +kernel) (by decide +kernel)
set_option maxRecDepth 20000 in
theorem g_law_wsL_act_r7 : GoodIn wsL_law wsL_act_r7 := goodIn_r _ [232, 233, 234, 235, 236, 237, 238, 239, 240, 241, 242, 243, 244, 245, 246, 247, 248, 249, 250, 251, 252, 253, 254, 255] (by decide +kernel) (by decide +kernel)
set_option maxRecDepth 20000 in
theorem g_law_wsL_act_r8 : GoodIn wsL_law wsL_act_r8 := goodIn_r _ [256, 76, 77, 78, 79, 257, 258, 259, 260, 261, 262, 263, 264, 265, 266, 267, 268, 269, 270, 271, 55, 272, 273, 274] (by decide +kernel) (by decide +kernel)
set_option maxRecDepth 20000 in
theorem g_law_wsL_act_r9 : GoodIn wsL_law wsL_act_r9 := goodIn_r _ [275, 276, 277, 278, 279, 280, 281, 282, 283, 284, 38, 285, 85, 286, 287, 288, 289, 290, 291, 292, 293, 294, 295, 296] (by decide +kernel) (by decide +kernel)
set_option maxRecDepth 20000 in
theorem g_law_wsL_act_r10 : GoodIn wsL_law wsL_act_r10 := goodIn_r _ [297, 298, 299, 300, 301, 302, 303, 304, 305, 306, 307, 308, 309, 310, 311, 312, 313, 314, 315, 316, 317, 318, 319, 320] (by decide +kernel) (by decide +kernel)
set_option maxRecDepth 20000 in
theorem g_law_wsL_act_r11 : GoodIn wsL_law wsL_act_r11 := goodIn_r _ [321, 322, 323, 324, 325, 326, 327, 328, 329, 330, 331, 332, 333, 334, 335, 336, 337, 338, 339, 340, 341, 342, 343, 344] (by decide +kernel) (by decide +kernel)
set_option maxRecDepth 20000 in
theorem g_law_wsL_act_r12 : GoodIn wsL_law wsL_act_r12 := goodIn_r _ [345, 346, 347, 348, 349, 350, 351, 352, 353, 354, 355, 356, 357, 358, 359, 360, 361, 362, 363, 364, 365, 366, 367, 368] (by decide +kernel) (by decide +kernel)
set_option maxRecDepth 20000 in
theorem g_law_wsL_act_r13 : GoodIn wsL_law wsL_act_r13 := goodIn_r _ [369, 370, 371, 372, 373, 374, 375, 376, 377, 378, 379, 380, 381, 382, 383, 384, 385, 386, 387, 388, 389, 390, 391, 392] (by decide +kernel) (by decide +kernel)
set_option maxRecDepth 20000 in
theorem g_law_wsL_act_r14 : GoodIn wsL_law wsL_act_r14 := goodIn_r _ [393, 394, 395, 396, 397, 398, 399, 400, 401, 402, 403, 404, 405, 406, 407, 408, 409, 410, 411, 412, 413, 414, 415, 416] (by decide +kernel) (by decide +kernel)
set_option maxRecDepth 20000 in
theorem g_law_wsL_act_r15 : GoodIn wsL_law wsL_act_r15 := goodIn_r _ [417, 418, 419, 420, 421, 422, 423, 424, 425, 426, 427, 428, 429, 430, 431, 432, 433, 434, 435, 436, 437, 438, 439, 440] (by decide +kernel) (by decide +kernel)
set_option maxRecDepth 20000 in
theorem g_law_wsL_act_r16 : GoodIn wsL_law wsL_act_r16 := goodIn_r _ [441, 442, 443, 444, 445, 446, 447, 448, 449, 450, 451, 452, 453, 454, 455, 456] (by decide +kernel) (by decide +kernel)
set_option maxRecDepth 20000 in
theorem ggL_law_L_act : GoodIn wsL_law wsL_act := goodIn_ca (a := []) gh_law_L_act (goodIn_app (goodIn_app (goodIn_app (goodIn_app (goodIn_app (goodIn_app (goodIn_app g_law_wsL_act_r1 (goodIn_app g_law_wsL_act_r2 (goodIn_app g_law_wsL_act_r3 (goodIn_app g_law_wsL_act_r4 (goodIn_app g_law_wsL_act_r5 (goodIn_app g_law_wsL_act_r6 (goodIn_app g_law_wsL_act_r7 (goodIn_app g_law_wsL_act_r8 (goodIn_app g_law_wsL_act_r9 (goodIn_app g_law_wsL_act_r10 (goodIn_app g_law_wsL_act_r11 (goodIn_app g_law_wsL_act_r12 (goodIn_app g_law_wsL_act_r13 (goodIn_app g_law_wsL_act_r14 (goodIn_app g_law_wsL_act_r15 g_law_wsL_act_r16))))))))))))))) gc_law_X8) gc_law_X2) gc_law_X3) gc_law_X7) gc_law_X4) gc_law_X0)
set_option maxRecDepth 20000 in
theorem gL_law_L_act : GoodIn wsL_law (va_wsS RL 77 yL_act wsL_act) := goodIn_app (goodIn_of _ (by decide +kernel)) ggL_law_L_act
set_option maxRecDepth 20000 in
theorem gh_law_X8_swaps : GoodIn wsL_law [.code yX8_swaps cX8_swaps 2 (some .int)] := goodIn_r _ [460] (by decide +kernel) (by decide +kernel)
set_option maxRecDepth 20000 in
theorem g_law_wsX8_swaps_r1 : GoodIn wsL_law wsX8_swaps_r1 := goodIn_r _ [12, 461, 462, 463, 11, 464, 35, 465, 466, 467, 468, 469, 470, 387, 388, 17, 389, 230, 202, 203, 204, 205, 144, 146] (by decide +kernel) (by decide +kernel)
set_option maxRecDepth 20000 in
theorem g_law_wsX8_swaps_r2 : GoodIn wsL_law wsX8_swaps_r2 := goodIn_r _ [147, 148, 149, 47, 53, 206, 183, 184, 52, 185, 166, 471, 391, 392, 393, 394, 395, 396, 397, 123, 124, 125, 126, 45] (by decide +kernel) (by decide +kernel)
set_option maxRecDepth 20000 in
theorem g_law_wsX8_swaps_r3 : GoodIn wsL_law wsX8_swaps_r3 := goodIn_r _ [50, 398, 399, 400, 49, 401, 60, 472, 403, 404, 405, 195, 217, 370, 371, 372, 373, 145, 197, 473, 474, 475, 476, 477] (by decide +kernel) (by decide +kernel)
set_option maxRecDepth 20000 in
theorem g_law_wsX8_swaps_r4 : GoodIn wsL_law wsX8_swaps_r4 := goodIn_r _ [478, 479, 480, 481, 482, 483, 484, 485, 486, 487, 488, 489, 490, 491, 492, 493, 494, 495, 496, 497, 498, 499] (by decide +kernel) (by decide +kernel)
set_option maxRecDepth 20000 in
theorem ggL_law_X8_swaps : GoodIn wsL_law wsX8_swaps := goodIn_ca (a := []) gh_law_X8_swaps (goodIn_app (goodIn_app (goodIn_app (goodIn_app (goodIn_app (goodIn_app g_law_wsX8_swaps_r1 (goodIn_app g_law_wsX8_swaps_r2 (goodIn_app g_law_wsX8_swaps_r3 g_law_wsX8_swaps_r4))) gc_law_X8) gc_law_X6) gc_law_X2) gc_law_X7) gc_law_X3)
set_option maxRecDepth 20000 in
theorem gL_law_X8_swaps : GoodIn wsL_law (wsV RL 73 RX8 yX8_swaps wsX8_swaps) := goodIn_app (goodIn_of _ (by decide +kernel)) ggL_law_X8_swaps
set_option maxRecDepth 20000 in
theorem gh_law_X8_image : GoodIn wsL_law [.code yX8_image cX8_image 1 (some .int)] := goodIn_r _ [503] (by decide +kernel) (by decide +kernel)
set_option maxRecDepth 20000 in
theorem g_law_wsX8_image_r1 : GoodIn wsL_law wsX8_image_r1 := goodIn_r _ [18, 14, 504, 505, 506, 507, 508, 17, 509, 118, 144, 145, 266, 211, 212, 123, 124, 125, 126, 45, 50, 510, 511, 512] (by decide +kernel) (by decide +kernel)
set_option maxRecDepth 20000 in
theorem g_law_wsX8_image_r2 : GoodIn wsL_law wsX8_image_r2 := goodIn_r _ [49, 513, 131, 132, 133, 134, 135, 514, 399, 400, 401, 60, 515, 437, 438, 439, 146, 147, 148, 149, 47, 53, 516, 517] (by decide +kernel) (by decide +kernel)
set_option maxRecDepth 20000 in
theorem g_law_wsX8_image_r3 : GoodIn wsL_law wsX8_image_r3 := goodIn_r _ [518, 52, 519, 154, 155, 166, 167, 168, 169, 156, 67, 68, 69, 520, 521, 522, 66, 523, 161, 74, 524, 323, 78, 324] (by decide +kernel) (by decide +kernel)
set_option maxRecDepth 20000 in
theorem g_law_wsX8_image_r4 : GoodIn wsL_law wsX8_image_r4 := goodIn_r _ [75, 525, 241, 242, 243, 80, 526, 179, 180, 181] (by decide +kernel) (by decide +kernel)
set_option maxRecDepth 20000 in
theorem ggL_law_X8_image : GoodIn wsL_law wsX8_image := goodIn_ca (a := []) gh_law_X8_image (goodIn_app (goodIn_app (goodIn_app (goodIn_app (goodIn_app (goodIn_app g_law_wsX8_image_r1 (goodIn_app g_law_wsX8_image_r2 (goodIn_app g_law_wsX8_image_r3 g_law_wsX8_image_r4))) gc_law_X8) gc_law_X2) gc_law_X3) gc_law_X7) gc_law_X4)
set_option maxRecDepth 20000 in
theorem gL_law_X8_image : GoodIn wsL_law (wsV RL 81 RX8 yX8_image wsX8_image) := goodIn_app (goodIn_of _ (by decide +kernel)) ggL_law_X8_image
set_option maxRecDepth 20000 in
theorem gh_law_L_isFair : GoodIn wsL_law [.code yL_isFair cL_isFair 9 (some .boolean)] := goodIn_r _ [529] (by decide +kernel) (by decide +kernel)
set_option maxRecDepth 20000 in
theorem g_law_wsL_isFair_r1 : GoodIn wsL_law wsL_isFair_r1 := goodIn_r _ [530, 531, 532, 2, 533, 14, 534, 535, 12, 505, 536, 25, 537, 538, 539, 11, 540, 35, 465, 499, 147, 148, 17, 149] (by decide +kernel) (by decide +kernel)
set_option maxRecDepth 20000 in
theorem g_law_wsL_isFair_r2 : GoodIn wsL_law wsL_isFair_r2 := goodIn_r _ [47, 53, 541, 183, 184, 52, 185, 166, 542, 543, 544, 545, 546, 547, 237, 238, 66, 239, 161, 548, 549, 550, 551, 495] (by decide +kernel) (by decide +kernel)
set_option maxRecDepth 20000 in
theorem g_law_wsL_isFair_r3 : GoodIn wsL_law wsL_isFair_r3 := goodIn_r _ [552, 498, 124, 125, 126, 45, 50, 553, 554, 555, 556, 557, 558, 559, 560, 561, 562, 27, 30, 563, 564, 565, 566, 567] (by decide +kernel) (by decide +kernel)
set_option maxRecDepth 20000 in
theorem g_law_wsL_isFair_r4 : GoodIn wsL_law wsL_isFair_r4 := goodIn_r _ [568, 569, 570, 571, 572, 199, 200, 201, 118, 573, 574, 575, 576, 577, 144, 230, 146, 578, 579, 580, 581, 123, 582, 583] (by decide +kernel) (by decide +kernel)
set_option maxRecDepth 20000 in
theorem g_law_wsL_isFair_r5 : GoodIn wsL_law wsL_isFair_r5 := goodIn_r _ [584, 49, 585, 133, 134, 586, 587, 588, 589, 131, 590, 591, 592, 593, 232, 233, 234, 235, 69, 236, 240, 241, 242, 243] (by decide +kernel) (by decide +kernel)
set_option maxRecDepth 20000 in
theorem g_law_wsL_isFair_r6 : GoodIn wsL_law wsL_isFair_r6 := goodIn_r _ [75, 80, 594, 595, 596, 597, 598, 599, 600, 601, 602, 603, 604, 605, 606, 607, 608, 609, 610, 611, 612, 613, 614, 615] (by decide +kernel) (by decide +kernel)
set_option maxRecDepth 20000 in
theorem g_law_wsL_isFair_r7 : GoodIn wsL_law wsL_isFair_r7 := goodIn_r _ [616, 203, 204, 205, 617, 618, 619, 620, 621, 622, 623, 624, 625, 457, 458, 459, 460, 461, 462, 463, 464, 466, 467, 468] (by decide +kernel) (by decide +kernel)
set_option maxRecDepth 20000 in
theorem g_law_wsL_isFair_r8 : GoodIn wsL_law wsL_isFair_r8 := goodIn_r _ [469, 470, 387, 388, 389, 202, 206, 471, 391, 392, 393, 394, 395, 396, 397, 398, 399, 400, 401, 60, 472, 403, 404, 405] (by decide +kernel) (by decide +kernel)
set_option maxRecDepth 20000 in
theorem g_law_wsL_isFair_r9 : GoodIn wsL_law wsL_isFair_r9 := goodIn_r _ [195, 217, 370, 371, 372, 373, 145, 197, 473, 474, 475, 476, 477, 478, 479, 480, 481, 482, 483, 484, 485, 486, 487, 488] (by decide +kernel) (by decide +kernel)
set_option maxRecDepth 20000 in
theorem g_law_wsL_isFair_r10 : GoodIn wsL_law wsL_isFair_r10 := goodIn_r _ [489, 490, 491, 492, 493, 494, 496, 497] (by decide +kernel) (by decide +kernel)
set_option maxRecDepth 20000 in
theorem ggL_law_L_isFair : GoodIn wsL_law wsL_isFair := goodIn_ca (a := []) gh_law_L_isFair (goodIn_app (goodIn_app (goodIn_app (goodIn_app (goodIn_app (goodIn_app (goodIn_app (goodIn_app g_law_wsL_isFair_r1 (goodIn_app g_law_wsL_isFair_r2 (goodIn_app g_law_wsL_isFair_r3 (goodIn_app g_law_wsL_isFair_r4 (goodIn_app g_law_wsL_isFair_r5 (goodIn_app g_law_wsL_isFair_r6 (goodIn_app g_law_wsL_isFair_r7 (goodIn_app g_law_wsL_isFair_r8 (goodIn_app g_law_wsL_isFair_r9 g_law_wsL_isFair_r10))))))))) gc_law_X8) gc_law_X2) gc_law_X6) gc_law_X7) gc_law_X4) gc_law_X3) gc_law_X1)
