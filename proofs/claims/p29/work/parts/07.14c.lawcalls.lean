set_option maxRecDepth 20000 in
theorem ggL_law_X8_whole : GoodIn wsL_law wsX8_whole := goodIn_ca (goodIn_ca (goodIn_ca (goodIn_r _ [437, 438, 439, 2, 440, 129, 130, 131, 132, 133, 134, 135, 136, 137, 263, 264, 265, 266, 21, 12, 267, 268, 269, 20, 270, 271, 272, 273, 274, 11, 275, 28, 128, 32, 217, 36, 276, 153, 154, 152, 40, 155, 156, 157, 158, 159, 160, 277, 278, 279, 39, 280, 281, 282, 283, 284, 89, 285, 236, 237, 43, 238, 59, 286, 287, 288, 289, 290, 235, 596, 597, 598, 599, 617, 618, 619, 620, 621, 622, 600, 601, 602, 603, 604, 605, 606, 607, 608, 609, 610, 611, 612, 613, 623, 624, 625, 626, 627, 628, 629, 630, 631, 632, 633, 634, 635, 636, 637, 638, 639, 640, 641, 642, 643, 644, 645, 646, 647, 648] (by decide +kernel) (by decide +kernel)) (goodIn_sub (fun _ h => List.mem_append_left _ (List.mem_append_left _ (List.mem_append_right _ h))) (by decide +kernel))) (goodIn_sub (fun _ h => List.mem_append_left _ (List.mem_append_right _ h)) (by decide +kernel))) (goodIn_sub (fun _ h => List.mem_append_right _ h) (by decide +kernel))
set_option maxRecDepth 20000 in
theorem gL_law_X8_whole : GoodIn wsL_law (wsV RL 8 RX8 yX8_whole wsX8_whole) := goodIn_app (goodIn_of _ (by decide +kernel)) ggL_law_X8_whole
set_option maxRecDepth 20000 in
theorem ggc_L_act_0 : GoodIn wsL_law [.code yL_act cL_act 7 (some .boolean)] := goodIn_r _ [443] (by decide +kernel) (by decide +kernel)
set_option maxRecDepth 20000 in
theorem ggc_L_act_1 : GoodIn wsL_law wsL_act_r1 := goodIn_r _ [434, 435, 436, 2, 437, 438, 439, 440, 129, 130, 131, 132, 133, 134, 135, 136, 137, 263, 264, 265, 266, 21, 12, 267] (by decide +kernel) (by decide +kernel)
set_option maxRecDepth 20000 in
theorem ggc_L_act_2 : GoodIn wsL_law wsL_act_r2 := goodIn_r _ [268, 269, 20, 270, 271, 272, 273, 274, 11, 275, 28, 128, 32, 217, 36, 276, 153, 154, 152, 40, 155, 156, 157, 158] (by decide +kernel) (by decide +kernel)
set_option maxRecDepth 20000 in
theorem ggc_L_act_3 : GoodIn wsL_law wsL_act_r3 := goodIn_r _ [159, 160, 277, 278, 279, 39, 280, 281, 282, 283, 284, 89, 285, 236, 237, 43, 238, 59, 286, 287, 288, 289, 290, 235] (by decide +kernel) (by decide +kernel)
set_option maxRecDepth 20000 in
theorem ggc_L_act_4 : GoodIn wsL_law wsL_act_r4 := goodIn_r _ [116, 117, 114, 118, 119, 120, 121, 122, 123, 17, 124, 125, 126, 127, 138, 139, 140, 16, 141, 142, 143, 144, 145, 146] (by decide +kernel) (by decide +kernel)
set_option maxRecDepth 20000 in
theorem ggc_L_act_5 : GoodIn wsL_law wsL_act_r5 := goodIn_r _ [147, 103, 148, 149, 150, 151, 44, 161, 162, 163, 27, 164, 165, 49, 50, 51, 52, 53, 166, 167, 168, 169, 170, 171] (by decide +kernel) (by decide +kernel)
set_option maxRecDepth 20000 in
theorem ggc_L_act_6 : GoodIn wsL_law wsL_act_r6 := goodIn_r _ [172, 173, 174, 175, 176, 177, 178, 179, 180, 31, 181, 182, 64, 65, 66, 67, 68, 69, 183, 184, 185, 186, 35, 187] (by decide +kernel) (by decide +kernel)
set_option maxRecDepth 20000 in
theorem ggc_L_act_7 : GoodIn wsL_law wsL_act_r7 := goodIn_r _ [188, 75, 76, 77, 78, 79, 80, 81, 82, 189, 190, 191, 192, 193, 90, 91, 194, 195, 196, 197, 198, 199, 200, 201] (by decide +kernel) (by decide +kernel)
set_option maxRecDepth 20000 in
theorem ggc_L_act_8 : GoodIn wsL_law wsL_act_r8 := goodIn_r _ [202, 203, 204, 205, 206, 207, 208, 209, 210, 211, 212, 213, 214, 215, 216, 218, 219, 220, 221, 444, 445, 446, 447, 448] (by decide +kernel) (by decide +kernel)
set_option maxRecDepth 20000 in
theorem ggc_L_act_9 : GoodIn wsL_law wsL_act_r9 := goodIn_r _ [449, 450, 451, 231, 232, 233, 234, 452, 453, 454, 455, 456, 457, 458, 459, 318, 333, 334, 335, 336, 337, 338, 339, 460] (by decide +kernel) (by decide +kernel)
set_option maxRecDepth 20000 in
theorem ggc_L_act_10 : GoodIn wsL_law wsL_act_r10 := goodIn_r _ [461, 462, 463, 464, 465, 466, 467, 468, 469, 470, 471, 472, 473, 474, 475, 476, 477, 348, 478, 479, 480, 481, 383, 384] (by decide +kernel) (by decide +kernel)
set_option maxRecDepth 20000 in
theorem ggc_L_act_11 : GoodIn wsL_law wsL_act_r11 := goodIn_r _ [385, 386, 482, 483, 484, 485, 486, 487, 488, 489, 357, 358, 359, 360, 353, 354, 355, 356, 490, 491, 492, 493, 340, 341] (by decide +kernel) (by decide +kernel)
set_option maxRecDepth 20000 in
theorem ggc_L_act_12 : GoodIn wsL_law wsL_act_r12 := goodIn_r _ [342, 343, 494, 495, 496, 497, 498, 307, 308, 309, 310, 230, 311, 243, 312, 313, 314, 315, 316, 317, 222, 223, 224, 225] (by decide +kernel) (by decide +kernel)
set_option maxRecDepth 20000 in
theorem ggc_L_act_13 : GoodIn wsL_law wsL_act_r13 := goodIn_r _ [226, 227, 228, 229, 239, 240, 241, 242, 244, 245, 246, 247, 248, 249, 499, 500, 501, 502, 503, 504, 505, 506, 507, 508] (by decide +kernel) (by decide +kernel)
set_option maxRecDepth 20000 in
theorem ggc_L_act_14 : GoodIn wsL_law wsL_act_r14 := goodIn_r _ [509, 510, 511, 512, 513, 514, 515, 516, 517, 518, 519, 320, 321, 322, 520, 94, 95, 96, 521, 522, 523, 524, 525, 526] (by decide +kernel) (by decide +kernel)
set_option maxRecDepth 20000 in
theorem ggc_L_act_15 : GoodIn wsL_law wsL_act_r15 := goodIn_r _ [527, 528, 529, 393, 394, 395, 396, 397, 398, 399, 400, 401, 402, 403, 404, 361, 362, 363, 364, 365, 366, 367, 368, 369] (by decide +kernel) (by decide +kernel)
set_option maxRecDepth 20000 in
theorem ggc_L_act_16 : GoodIn wsL_law wsL_act_r16 := goodIn_r _ [370, 371, 405, 406, 407, 408, 409, 410, 411, 412, 413, 414, 415, 416, 417, 381, 382, 418, 419, 420, 421, 422, 423, 424] (by decide +kernel) (by decide +kernel)
set_option maxRecDepth 20000 in
theorem ggc_L_act_17 : GoodIn wsL_law wsL_act_r17 := goodIn_r _ [425, 426, 427, 428, 429, 430, 431, 432, 433] (by decide +kernel) (by decide +kernel)
set_option maxRecDepth 20000 in
theorem ggc_L_act_18 : GoodIn wsL_law wsX80 := goodIn_r _ [596, 597, 598, 599] (by decide +kernel) (by decide +kernel)
set_option maxRecDepth 20000 in
theorem ggc_L_act_19 : GoodIn wsL_law wsX00 := goodIn_r _ [617, 618, 619, 620, 621, 622] (by decide +kernel) (by decide +kernel)
set_option maxRecDepth 20000 in
theorem ggc_L_act_20 : GoodIn wsL_law wsX70 := goodIn_r _ [600, 601, 602, 603, 604, 605, 606, 607, 608, 609, 610, 611, 612, 613] (by decide +kernel) (by decide +kernel)
set_option maxRecDepth 20000 in
theorem ggc_L_act_21 : GoodIn wsL_law wsX40 := goodIn_r _ [623, 624, 625, 626, 627, 628] (by decide +kernel) (by decide +kernel)
set_option maxRecDepth 20000 in
theorem ggc_L_act_22 : GoodIn wsL_law wsX30 := goodIn_r _ [629, 630, 631, 632, 633, 634, 635] (by decide +kernel) (by decide +kernel)
set_option maxRecDepth 20000 in
theorem ggc_L_act_23 : GoodIn wsL_law wsX10 := goodIn_r _ [636, 637, 638, 639, 640, 641, 642, 643, 644] (by decide +kernel) (by decide +kernel)
set_option maxRecDepth 20000 in
theorem ggc_L_act_24 : GoodIn wsL_law wsX50 := goodIn_r _ [645, 646, 647] (by decide +kernel) (by decide +kernel)
set_option maxRecDepth 20000 in
theorem ggc_L_act_25 : GoodIn wsL_law wsX60 := goodIn_r _ [648] (by decide +kernel) (by decide +kernel)
set_option maxRecDepth 20000 in
theorem ggc_L_act_26 : GoodIn wsL_law wsX20 := goodIn_r _ [614, 615, 616] (by decide +kernel) (by decide +kernel)
set_option maxRecDepth 20000 in
theorem ggL_law_L_act : GoodIn wsL_law wsL_act := goodIn_ca (goodIn_ca (goodIn_ca ((goodIn_app ggc_L_act_0 (goodIn_app (goodIn_app (goodIn_app (goodIn_app (goodIn_app (goodIn_app (goodIn_app (goodIn_app (goodIn_app (goodIn_app (ggc_L_act_1) (goodIn_app (ggc_L_act_2) (goodIn_app (ggc_L_act_3) (goodIn_app (ggc_L_act_4) (goodIn_app (ggc_L_act_5) (goodIn_app (ggc_L_act_6) (goodIn_app (ggc_L_act_7) (goodIn_app (ggc_L_act_8) (goodIn_app (ggc_L_act_9) (goodIn_app (ggc_L_act_10) (goodIn_app (ggc_L_act_11) (goodIn_app (ggc_L_act_12) (goodIn_app (ggc_L_act_13) (goodIn_app (ggc_L_act_14) (goodIn_app (ggc_L_act_15) (goodIn_app (ggc_L_act_16) (ggc_L_act_17))))))))))))))))) (ggc_L_act_18)) (ggc_L_act_19)) (ggc_L_act_20)) (ggc_L_act_21)) (ggc_L_act_22)) (ggc_L_act_23)) (ggc_L_act_24)) (ggc_L_act_25)) (ggc_L_act_26)))) (goodIn_sub (fun _ h => List.mem_append_left _ (List.mem_append_left _ (List.mem_append_right _ h))) (by decide +kernel))) (goodIn_sub (fun _ h => List.mem_append_left _ (List.mem_append_right _ h)) (by decide +kernel))) (goodIn_sub (fun _ h => List.mem_append_right _ h) (by decide +kernel))
set_option maxRecDepth 20000 in
theorem gL_law_L_act : GoodIn wsL_law (va_wsS RL 92 yL_act wsL_act) := goodIn_app (goodIn_of _ (by decide +kernel)) ggL_law_L_act
