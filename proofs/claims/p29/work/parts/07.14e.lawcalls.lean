set_option maxRecDepth 20000 in
theorem ggc_L_isHearthRight_0 : GoodIn wsL_law [.code yL_isHearthRight cL_isHearthRight 7 (some .boolean)] := goodIn_r _ [547] (by decide +kernel) (by decide +kernel)
set_option maxRecDepth 20000 in
theorem ggc_L_isHearthRight_1 : GoodIn wsL_law wsL_isHearthRight_r1 := goodIn_r _ [434, 435, 436, 2, 437, 438, 439, 440, 129, 130, 131, 132, 133, 134, 135, 136, 137, 263, 264, 265, 266, 21, 12, 267] (by decide +kernel) (by decide +kernel)
set_option maxRecDepth 20000 in
theorem ggc_L_isHearthRight_2 : GoodIn wsL_law wsL_isHearthRight_r2 := goodIn_r _ [268, 269, 20, 270, 271, 272, 273, 274, 11, 275, 28, 128, 32, 217, 36, 276, 153, 154, 152, 40, 155, 156, 157, 158] (by decide +kernel) (by decide +kernel)
set_option maxRecDepth 20000 in
theorem ggc_L_isHearthRight_3 : GoodIn wsL_law wsL_isHearthRight_r3 := goodIn_r _ [159, 160, 277, 278, 279, 39, 280, 281, 282, 283, 284, 89, 285, 236, 237, 43, 238, 59, 286, 287, 288, 289, 290, 235] (by decide +kernel) (by decide +kernel)
set_option maxRecDepth 20000 in
theorem ggc_L_isHearthRight_4 : GoodIn wsL_law wsL_isHearthRight_r4 := goodIn_r _ [548, 549, 550, 551, 552, 358, 359, 360, 329, 330, 331, 332, 318, 333, 334, 335, 336, 337, 338, 339, 340, 341, 342, 343] (by decide +kernel) (by decide +kernel)
set_option maxRecDepth 20000 in
theorem ggc_L_isHearthRight_5 : GoodIn wsL_law wsL_isHearthRight_r5 := goodIn_r _ [44, 344, 345, 346, 347, 348, 553, 554, 114, 555, 556, 557, 558, 559, 349, 350, 351, 352, 353, 354, 355, 356, 357, 361] (by decide +kernel) (by decide +kernel)
set_option maxRecDepth 20000 in
theorem ggc_L_isHearthRight_6 : GoodIn wsL_law wsL_isHearthRight_r6 := goodIn_r _ [362, 363, 364, 200, 201, 203, 365, 366, 367, 368, 369, 370, 172, 371, 478, 479, 480, 481, 383, 384, 385, 386, 560, 561] (by decide +kernel) (by decide +kernel)
set_option maxRecDepth 20000 in
theorem ggc_L_isHearthRight_7 : GoodIn wsL_law wsL_isHearthRight_r7 := goodIn_r _ [562, 563, 377, 378, 379, 380, 381, 382] (by decide +kernel) (by decide +kernel)
set_option maxRecDepth 20000 in
theorem ggc_L_isHearthRight_8 : GoodIn wsL_law wsX80 := goodIn_r _ [596, 597, 598, 599] (by decide +kernel) (by decide +kernel)
set_option maxRecDepth 20000 in
theorem ggc_L_isHearthRight_9 : GoodIn wsL_law wsX00 := goodIn_r _ [617, 618, 619, 620, 621, 622] (by decide +kernel) (by decide +kernel)
set_option maxRecDepth 20000 in
theorem ggc_L_isHearthRight_10 : GoodIn wsL_law wsX70 := goodIn_r _ [600, 601, 602, 603, 604, 605, 606, 607, 608, 609, 610, 611, 612, 613] (by decide +kernel) (by decide +kernel)
set_option maxRecDepth 20000 in
theorem ggc_L_isHearthRight_11 : GoodIn wsL_law wsX40 := goodIn_r _ [623, 624, 625, 626, 627, 628] (by decide +kernel) (by decide +kernel)
set_option maxRecDepth 20000 in
theorem ggc_L_isHearthRight_12 : GoodIn wsL_law wsX30 := goodIn_r _ [629, 630, 631, 632, 633, 634, 635] (by decide +kernel) (by decide +kernel)
set_option maxRecDepth 20000 in
theorem ggc_L_isHearthRight_13 : GoodIn wsL_law wsX10 := goodIn_r _ [636, 637, 638, 639, 640, 641, 642, 643, 644] (by decide +kernel) (by decide +kernel)
set_option maxRecDepth 20000 in
theorem ggc_L_isHearthRight_14 : GoodIn wsL_law wsX50 := goodIn_r _ [645, 646, 647] (by decide +kernel) (by decide +kernel)
set_option maxRecDepth 20000 in
theorem ggc_L_isHearthRight_15 : GoodIn wsL_law wsX60 := goodIn_r _ [648] (by decide +kernel) (by decide +kernel)
set_option maxRecDepth 20000 in
theorem ggL_law_L_isHearthRight : GoodIn wsL_law wsL_isHearthRight := goodIn_ca (goodIn_ca (goodIn_ca ((goodIn_app ggc_L_isHearthRight_0 (goodIn_app (goodIn_app (goodIn_app (goodIn_app (goodIn_app (goodIn_app (goodIn_app (goodIn_app (goodIn_app (ggc_L_isHearthRight_1) (goodIn_app (ggc_L_isHearthRight_2) (goodIn_app (ggc_L_isHearthRight_3) (goodIn_app (ggc_L_isHearthRight_4) (goodIn_app (ggc_L_isHearthRight_5) (goodIn_app (ggc_L_isHearthRight_6) (ggc_L_isHearthRight_7))))))) (ggc_L_isHearthRight_8)) (ggc_L_isHearthRight_9)) (ggc_L_isHearthRight_10)) (ggc_L_isHearthRight_11)) (ggc_L_isHearthRight_12)) (ggc_L_isHearthRight_13)) (ggc_L_isHearthRight_14)) (ggc_L_isHearthRight_15)))) (goodIn_sub (fun _ h => List.mem_append_left _ (List.mem_append_left _ (List.mem_append_right _ h))) (by decide +kernel))) (goodIn_sub (fun _ h => List.mem_append_left _ (List.mem_append_right _ h)) (by decide +kernel))) (goodIn_sub (fun _ h => List.mem_append_right _ h) (by decide +kernel))
set_option maxRecDepth 20000 in
theorem gL_law_L_isHearthRight : GoodIn wsL_law (va_wsS RL 102 yL_isHearthRight wsL_isHearthRight) := goodIn_app (goodIn_of _ (by decide +kernel)) ggL_law_L_isHearthRight
set_option maxRecDepth 20000 in
theorem ggc_L_comesTrue_0 : GoodIn wsL_law [.code yL_comesTrue cL_comesTrue 11 (some .boolean)] := goodIn_r _ [566] (by decide +kernel) (by decide +kernel)
set_option maxRecDepth 20000 in
theorem ggc_L_comesTrue_1 : GoodIn wsL_law wsL_comesTrue_r1 := goodIn_r _ [567, 568, 569, 2, 570, 129, 130, 131, 132, 133, 134, 135, 136, 137, 387, 388, 389, 390, 13, 12, 391, 392, 149, 150] (by decide +kernel) (by decide +kernel)
set_option maxRecDepth 20000 in
theorem ggc_L_comesTrue_2 : GoodIn wsL_law wsL_comesTrue_r2 := goodIn_r _ [11, 151, 28, 32, 36, 40, 44, 152, 153, 154, 155, 156, 157, 158, 159, 160, 161, 162, 163, 27, 164, 165, 49, 50] (by decide +kernel) (by decide +kernel)
set_option maxRecDepth 20000 in
theorem ggc_L_comesTrue_3 : GoodIn wsL_law wsL_comesTrue_r3 := goodIn_r _ [51, 52, 53, 166, 167, 168, 43, 169, 59, 170, 171, 172, 173, 174, 175, 176, 177, 178, 179, 180, 31, 181, 182, 64] (by decide +kernel) (by decide +kernel)
set_option maxRecDepth 20000 in
theorem ggc_L_comesTrue_4 : GoodIn wsL_law wsL_comesTrue_r4 := goodIn_r _ [65, 66, 67, 68, 69, 183, 184, 185, 186, 35, 187, 188, 75, 76, 77, 78, 79, 80, 81, 82, 189, 190, 191, 192] (by decide +kernel) (by decide +kernel)
set_option maxRecDepth 20000 in
theorem ggc_L_comesTrue_5 : GoodIn wsL_law wsL_comesTrue_r5 := goodIn_r _ [39, 193, 89, 90, 91, 194, 195, 393, 394, 395, 396, 397, 398, 399, 400, 333, 335, 203, 204, 336, 235, 236, 237, 238] (by decide +kernel) (by decide +kernel)
set_option maxRecDepth 20000 in
theorem ggc_L_comesTrue_6 : GoodIn wsL_law wsL_comesTrue_r6 := goodIn_r _ [244, 245, 246, 247, 248, 249, 206, 207, 208, 205, 401, 402, 403, 404, 334, 337, 361, 362, 363, 364, 200, 201, 365, 282] (by decide +kernel) (by decide +kernel)
set_option maxRecDepth 20000 in
theorem ggc_L_comesTrue_7 : GoodIn wsL_law wsL_comesTrue_r7 := goodIn_r _ [283, 284, 285, 366, 367, 368, 369, 370, 371, 405, 406, 407, 408, 338, 409, 410, 411, 412, 413, 414, 415, 416, 417, 348] (by decide +kernel) (by decide +kernel)
set_option maxRecDepth 20000 in
theorem ggc_L_comesTrue_8 : GoodIn wsL_law wsL_comesTrue_r8 := goodIn_r _ [381, 382, 290, 318, 418, 419, 420, 421, 276, 422, 423, 424, 425, 202, 426, 427, 428, 429, 339, 312, 313, 430, 431, 432] (by decide +kernel) (by decide +kernel)
set_option maxRecDepth 20000 in
theorem ggc_L_comesTrue_9 : GoodIn wsL_law wsL_comesTrue_r9 := goodIn_r _ [433, 571, 572, 573, 574, 575, 576, 577, 578, 434, 435, 436, 437, 438, 439, 440, 263, 264, 265, 266, 21, 267, 268, 269] (by decide +kernel) (by decide +kernel)
set_option maxRecDepth 20000 in
theorem ggc_L_comesTrue_10 : GoodIn wsL_law wsL_comesTrue_r10 := goodIn_r _ [20, 270, 271, 272, 273, 274, 275, 128, 217, 277, 278, 279, 280, 281, 286, 287, 288, 289, 579, 580, 581, 582, 552, 358] (by decide +kernel) (by decide +kernel)
set_option maxRecDepth 20000 in
theorem ggc_L_comesTrue_11 : GoodIn wsL_law wsL_comesTrue_r11 := goodIn_r _ [359, 360, 583, 354, 355, 356, 357, 584, 585, 586, 587, 548, 549, 550, 551, 329, 330, 331, 332, 340, 341, 342, 343, 344] (by decide +kernel) (by decide +kernel)
set_option maxRecDepth 20000 in
theorem ggc_L_comesTrue_12 : GoodIn wsL_law wsL_comesTrue_r12 := goodIn_r _ [345, 346, 347, 588, 589, 590, 591, 592, 593, 594, 595, 353, 556, 557, 558, 559, 349, 350, 351, 352, 521, 522, 523, 524] (by decide +kernel) (by decide +kernel)
set_option maxRecDepth 20000 in
theorem ggc_L_comesTrue_13 : GoodIn wsL_law wsL_comesTrue_r13 := goodIn_r _ [17, 525, 526, 527, 528, 529, 138, 139, 140, 16, 141, 142, 143, 144, 145, 146, 147, 103, 148] (by decide +kernel) (by decide +kernel)
set_option maxRecDepth 20000 in
theorem ggc_L_comesTrue_14 : GoodIn wsL_law wsX80 := goodIn_r _ [596, 597, 598, 599] (by decide +kernel) (by decide +kernel)
set_option maxRecDepth 20000 in
theorem ggc_L_comesTrue_15 : GoodIn wsL_law wsX70 := goodIn_r _ [600, 601, 602, 603, 604, 605, 606, 607, 608, 609, 610, 611, 612, 613] (by decide +kernel) (by decide +kernel)
set_option maxRecDepth 20000 in
theorem ggc_L_comesTrue_16 : GoodIn wsL_law wsX40 := goodIn_r _ [623, 624, 625, 626, 627, 628] (by decide +kernel) (by decide +kernel)
set_option maxRecDepth 20000 in
theorem ggc_L_comesTrue_17 : GoodIn wsL_law wsX60 := goodIn_r _ [648] (by decide +kernel) (by decide +kernel)
set_option maxRecDepth 20000 in
theorem ggc_L_comesTrue_18 : GoodIn wsL_law wsX30 := goodIn_r _ [629, 630, 631, 632, 633, 634, 635] (by decide +kernel) (by decide +kernel)
set_option maxRecDepth 20000 in
theorem ggc_L_comesTrue_19 : GoodIn wsL_law wsX10 := goodIn_r _ [636, 637, 638, 639, 640, 641, 642, 643, 644] (by decide +kernel) (by decide +kernel)
set_option maxRecDepth 20000 in
theorem ggc_L_comesTrue_20 : GoodIn wsL_law wsX50 := goodIn_r _ [645, 646, 647] (by decide +kernel) (by decide +kernel)
set_option maxRecDepth 20000 in
theorem ggc_L_comesTrue_21 : GoodIn wsL_law wsX00 := goodIn_r _ [617, 618, 619, 620, 621, 622] (by decide +kernel) (by decide +kernel)
set_option maxRecDepth 20000 in
theorem ggc_L_comesTrue_22 : GoodIn wsL_law wsX20 := goodIn_r _ [614, 615, 616] (by decide +kernel) (by decide +kernel)
set_option maxRecDepth 20000 in
theorem ggL_law_L_comesTrue : GoodIn wsL_law wsL_comesTrue := goodIn_ca (goodIn_ca (goodIn_ca ((goodIn_app ggc_L_comesTrue_0 (goodIn_app (goodIn_app (goodIn_app (goodIn_app (goodIn_app (goodIn_app (goodIn_app (goodIn_app (goodIn_app (goodIn_app (ggc_L_comesTrue_1) (goodIn_app (ggc_L_comesTrue_2) (goodIn_app (ggc_L_comesTrue_3) (goodIn_app (ggc_L_comesTrue_4) (goodIn_app (ggc_L_comesTrue_5) (goodIn_app (ggc_L_comesTrue_6) (goodIn_app (ggc_L_comesTrue_7) (goodIn_app (ggc_L_comesTrue_8) (goodIn_app (ggc_L_comesTrue_9) (goodIn_app (ggc_L_comesTrue_10) (goodIn_app (ggc_L_comesTrue_11) (goodIn_app (ggc_L_comesTrue_12) (ggc_L_comesTrue_13))))))))))))) (ggc_L_comesTrue_14)) (ggc_L_comesTrue_15)) (ggc_L_comesTrue_16)) (ggc_L_comesTrue_17)) (ggc_L_comesTrue_18)) (ggc_L_comesTrue_19)) (ggc_L_comesTrue_20)) (ggc_L_comesTrue_21)) (ggc_L_comesTrue_22)))) (goodIn_sub (fun _ h => List.mem_append_left _ (List.mem_append_left _ (List.mem_append_right _ h))) (by decide +kernel))) (goodIn_sub (fun _ h => List.mem_append_left _ (List.mem_append_right _ h)) (by decide +kernel))) (goodIn_sub (fun _ h => List.mem_append_right _ h) (by decide +kernel))
set_option maxRecDepth 20000 in
theorem gL_law_L_comesTrue : GoodIn wsL_law (va_wsS RL 106 yL_comesTrue wsL_comesTrue) := goodIn_app (goodIn_of _ (by decide +kernel)) ggL_law_L_comesTrue

