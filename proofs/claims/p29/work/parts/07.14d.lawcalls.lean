set_option maxRecDepth 20000 in
theorem ggc_X8_undo_0 : GoodIn wsL_law [.code yX8_undo cX8_undo 1 (some .int)] := goodIn_r _ [533] (by decide +kernel) (by decide +kernel)
set_option maxRecDepth 20000 in
theorem ggc_X8_undo_1 : GoodIn wsL_law wsX8_undo_r1 := goodIn_r _ [17, 12, 255, 256, 257, 16, 258, 142, 129, 130, 2, 131, 132, 133, 134, 135, 136, 137, 534, 535, 536, 537, 144, 145] (by decide +kernel) (by decide +kernel)
set_option maxRecDepth 20000 in
theorem ggc_X8_undo_2 : GoodIn wsL_law wsX8_undo_r2 := goodIn_r _ [146, 147, 143, 103, 148, 149, 150, 11, 151, 28, 32, 36, 40, 44, 152, 153, 154, 155, 156, 157, 158, 159, 160, 161] (by decide +kernel) (by decide +kernel)
set_option maxRecDepth 20000 in
theorem ggc_X8_undo_3 : GoodIn wsL_law wsX8_undo_r3 := goodIn_r _ [162, 163, 27, 164, 165, 49, 50, 51, 52, 53, 166, 167, 168, 43, 169, 59, 170, 171, 172, 173, 174, 175, 176, 177] (by decide +kernel) (by decide +kernel)
set_option maxRecDepth 20000 in
theorem ggc_X8_undo_4 : GoodIn wsL_law wsX8_undo_r4 := goodIn_r _ [178, 179, 180, 31, 181, 182, 64, 65, 66, 67, 68, 69, 183, 184, 185, 186, 35, 187, 188, 75, 76, 77, 78, 79] (by decide +kernel) (by decide +kernel)
set_option maxRecDepth 20000 in
theorem ggc_X8_undo_5 : GoodIn wsL_law wsX8_undo_r5 := goodIn_r _ [80, 81, 82, 189, 190, 191, 192, 39, 193, 89, 90, 91, 194, 195] (by decide +kernel) (by decide +kernel)
set_option maxRecDepth 20000 in
theorem ggc_X8_undo_6 : GoodIn wsL_law wsX80 := goodIn_r _ [596, 597, 598, 599] (by decide +kernel) (by decide +kernel)
set_option maxRecDepth 20000 in
theorem ggc_X8_undo_7 : GoodIn wsL_law wsX20 := goodIn_r _ [614, 615, 616] (by decide +kernel) (by decide +kernel)
set_option maxRecDepth 20000 in
theorem ggc_X8_undo_8 : GoodIn wsL_law wsX70 := goodIn_r _ [600, 601, 602, 603, 604, 605, 606, 607, 608, 609, 610, 611, 612, 613] (by decide +kernel) (by decide +kernel)
set_option maxRecDepth 20000 in
theorem ggc_X8_undo_9 : GoodIn wsL_law wsX40 := goodIn_r _ [623, 624, 625, 626, 627, 628] (by decide +kernel) (by decide +kernel)
set_option maxRecDepth 20000 in
theorem ggc_X8_undo_10 : GoodIn wsL_law wsX60 := goodIn_r _ [648] (by decide +kernel) (by decide +kernel)
set_option maxRecDepth 20000 in
theorem ggc_X8_undo_11 : GoodIn wsL_law wsX30 := goodIn_r _ [629, 630, 631, 632, 633, 634, 635] (by decide +kernel) (by decide +kernel)
set_option maxRecDepth 20000 in
theorem ggc_X8_undo_12 : GoodIn wsL_law wsX10 := goodIn_r _ [636, 637, 638, 639, 640, 641, 642, 643, 644] (by decide +kernel) (by decide +kernel)
set_option maxRecDepth 20000 in
theorem ggc_X8_undo_13 : GoodIn wsL_law wsX50 := goodIn_r _ [645, 646, 647] (by decide +kernel) (by decide +kernel)
set_option maxRecDepth 20000 in
theorem ggL_law_X8_undo : GoodIn wsL_law wsX8_undo := goodIn_ca (goodIn_ca (goodIn_ca ((goodIn_app ggc_X8_undo_0 (goodIn_app (goodIn_app (goodIn_app (goodIn_app (goodIn_app (goodIn_app (goodIn_app (goodIn_app (goodIn_app (ggc_X8_undo_1) (goodIn_app (ggc_X8_undo_2) (goodIn_app (ggc_X8_undo_3) (goodIn_app (ggc_X8_undo_4) (ggc_X8_undo_5))))) (ggc_X8_undo_6)) (ggc_X8_undo_7)) (ggc_X8_undo_8)) (ggc_X8_undo_9)) (ggc_X8_undo_10)) (ggc_X8_undo_11)) (ggc_X8_undo_12)) (ggc_X8_undo_13)))) (goodIn_sub (fun _ h => List.mem_append_left _ (List.mem_append_left _ (List.mem_append_right _ h))) (by decide +kernel))) (goodIn_sub (fun _ h => List.mem_append_left _ (List.mem_append_right _ h)) (by decide +kernel))) (goodIn_sub (fun _ h => List.mem_append_right _ h) (by decide +kernel))
set_option maxRecDepth 20000 in
theorem gL_law_X8_undo : GoodIn wsL_law (wsV RL 96 RX8 yX8_undo wsX8_undo) := goodIn_app (goodIn_of _ (by decide +kernel)) ggL_law_X8_undo

set_option maxRecDepth 20000 in
theorem ggc_L_addsUp_0 : GoodIn wsL_law [.code yL_addsUp cL_addsUp 10 (some .boolean)] := goodIn_r _ [540] (by decide +kernel) (by decide +kernel)
set_option maxRecDepth 20000 in
theorem ggc_L_addsUp_1 : GoodIn wsL_law wsL_addsUp_r1 := goodIn_r _ [434, 435, 436, 2, 437, 438, 439, 440, 129, 130, 131, 132, 133, 134, 135, 136, 137, 263, 264, 265, 266, 21, 12, 267] (by decide +kernel) (by decide +kernel)
set_option maxRecDepth 20000 in
theorem ggc_L_addsUp_2 : GoodIn wsL_law wsL_addsUp_r2 := goodIn_r _ [268, 269, 20, 270, 271, 272, 273, 274, 11, 275, 28, 128, 32, 217, 36, 276, 153, 154, 152, 40, 155, 156, 157, 158] (by decide +kernel) (by decide +kernel)
set_option maxRecDepth 20000 in
theorem ggc_L_addsUp_3 : GoodIn wsL_law wsL_addsUp_r3 := goodIn_r _ [159, 160, 277, 278, 279, 39, 280, 281, 282, 283, 284, 89, 285, 236, 237, 43, 238, 59, 286, 287, 288, 289, 290, 235] (by decide +kernel) (by decide +kernel)
set_option maxRecDepth 20000 in
theorem ggc_L_addsUp_4 : GoodIn wsL_law wsL_addsUp_r4 := goodIn_r _ [494, 495, 496, 497, 498, 232, 233, 234, 307, 308, 309, 310, 230, 311, 243, 312, 313, 314, 315, 316, 317, 318, 541, 542] (by decide +kernel) (by decide +kernel)
set_option maxRecDepth 20000 in
theorem ggc_L_addsUp_5 : GoodIn wsL_law wsL_addsUp_r5 := goodIn_r _ [543, 544, 319, 320, 321, 322] (by decide +kernel) (by decide +kernel)
set_option maxRecDepth 20000 in
theorem ggc_L_addsUp_6 : GoodIn wsL_law wsX80 := goodIn_r _ [596, 597, 598, 599] (by decide +kernel) (by decide +kernel)
set_option maxRecDepth 20000 in
theorem ggc_L_addsUp_7 : GoodIn wsL_law wsX00 := goodIn_r _ [617, 618, 619, 620, 621, 622] (by decide +kernel) (by decide +kernel)
set_option maxRecDepth 20000 in
theorem ggc_L_addsUp_8 : GoodIn wsL_law wsX70 := goodIn_r _ [600, 601, 602, 603, 604, 605, 606, 607, 608, 609, 610, 611, 612, 613] (by decide +kernel) (by decide +kernel)
set_option maxRecDepth 20000 in
theorem ggc_L_addsUp_9 : GoodIn wsL_law wsX40 := goodIn_r _ [623, 624, 625, 626, 627, 628] (by decide +kernel) (by decide +kernel)
set_option maxRecDepth 20000 in
theorem ggc_L_addsUp_10 : GoodIn wsL_law wsX30 := goodIn_r _ [629, 630, 631, 632, 633, 634, 635] (by decide +kernel) (by decide +kernel)
set_option maxRecDepth 20000 in
theorem ggc_L_addsUp_11 : GoodIn wsL_law wsX10 := goodIn_r _ [636, 637, 638, 639, 640, 641, 642, 643, 644] (by decide +kernel) (by decide +kernel)
set_option maxRecDepth 20000 in
theorem ggc_L_addsUp_12 : GoodIn wsL_law wsX50 := goodIn_r _ [645, 646, 647] (by decide +kernel) (by decide +kernel)
set_option maxRecDepth 20000 in
theorem ggc_L_addsUp_13 : GoodIn wsL_law wsX60 := goodIn_r _ [648] (by decide +kernel) (by decide +kernel)
set_option maxRecDepth 20000 in
theorem ggL_law_L_addsUp : GoodIn wsL_law wsL_addsUp := goodIn_ca (goodIn_ca (goodIn_ca ((goodIn_app ggc_L_addsUp_0 (goodIn_app (goodIn_app (goodIn_app (goodIn_app (goodIn_app (goodIn_app (goodIn_app (goodIn_app (goodIn_app (ggc_L_addsUp_1) (goodIn_app (ggc_L_addsUp_2) (goodIn_app (ggc_L_addsUp_3) (goodIn_app (ggc_L_addsUp_4) (ggc_L_addsUp_5))))) (ggc_L_addsUp_6)) (ggc_L_addsUp_7)) (ggc_L_addsUp_8)) (ggc_L_addsUp_9)) (ggc_L_addsUp_10)) (ggc_L_addsUp_11)) (ggc_L_addsUp_12)) (ggc_L_addsUp_13)))) (goodIn_sub (fun _ h => List.mem_append_left _ (List.mem_append_left _ (List.mem_append_right _ h))) (by decide +kernel))) (goodIn_sub (fun _ h => List.mem_append_left _ (List.mem_append_right _ h)) (by decide +kernel))) (goodIn_sub (fun _ h => List.mem_append_right _ h) (by decide +kernel))
set_option maxRecDepth 20000 in
theorem gL_law_L_addsUp : GoodIn wsL_law (va_wsS RL 99 yL_addsUp wsL_addsUp) := goodIn_app (goodIn_of _ (by decide +kernel)) ggL_law_L_addsUp
