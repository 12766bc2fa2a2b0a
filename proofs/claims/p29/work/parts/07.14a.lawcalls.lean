set_option maxRecDepth 20000 in
theorem ggL_law_L_low : GoodIn wsL_law wsL_low := goodIn_r _ [118, 119] (by decide +kernel) (by decide +kernel)
set_option maxRecDepth 20000 in
theorem gL_law_L_low : GoodIn wsL_law (va_wsS RL 14 yL_low wsL_low) := goodIn_app (goodIn_of _ (by decide +kernel)) ggL_law_L_low
set_option maxRecDepth 20000 in
theorem ggc_X8_addKind_0 : GoodIn wsL_law [.code yX8_addKind cX8_addKind 6 (some .int)] := goodIn_r _ [123] (by decide +kernel) (by decide +kernel)
set_option maxRecDepth 20000 in
theorem ggc_X8_addKind_1 : GoodIn wsL_law wsX8_addKind_r1 := goodIn_r _ [12, 17, 124, 125, 126, 11, 127, 28, 128, 129, 130, 2, 131, 132, 133, 134, 135, 136, 137, 138, 139, 140, 16, 141] (by decide +kernel) (by decide +kernel)
set_option maxRecDepth 20000 in
theorem ggc_X8_addKind_2 : GoodIn wsL_law wsX8_addKind_r2 := goodIn_r _ [142, 143, 144, 145, 146, 147, 103, 148, 149, 150, 151, 32, 36, 40, 44, 152, 153, 154, 155, 156, 157, 158, 159, 160] (by decide +kernel) (by decide +kernel)
set_option maxRecDepth 20000 in
theorem ggc_X8_addKind_3 : GoodIn wsL_law wsX8_addKind_r3 := goodIn_r _ [161, 162, 163, 27, 164, 165, 49, 50, 51, 52, 53, 166, 167, 168, 43, 169, 59, 170, 171, 172, 173, 174, 175, 176] (by decide +kernel) (by decide +kernel)
set_option maxRecDepth 20000 in
theorem ggc_X8_addKind_4 : GoodIn wsL_law wsX8_addKind_r4 := goodIn_r _ [177, 178, 179, 180, 31, 181, 182, 64, 65, 66, 67, 68, 69, 183, 184, 185, 186, 35, 187, 188, 75, 76, 77, 78] (by decide +kernel) (by decide +kernel)
set_option maxRecDepth 20000 in
theorem ggc_X8_addKind_5 : GoodIn wsL_law wsX8_addKind_r5 := goodIn_r _ [79, 80, 81, 82, 189, 190, 191, 192, 39, 193, 89, 90, 91, 194, 195, 196, 197, 198, 199, 200, 201, 202, 203, 204] (by decide +kernel) (by decide +kernel)
set_option maxRecDepth 20000 in
theorem ggc_X8_addKind_6 : GoodIn wsL_law wsX8_addKind_r6 := goodIn_r _ [205, 206, 207, 208] (by decide +kernel) (by decide +kernel)
set_option maxRecDepth 20000 in
theorem ggc_X8_addKind_7 : GoodIn wsL_law wsX80 := goodIn_r _ [596, 597, 598, 599] (by decide +kernel) (by decide +kernel)
set_option maxRecDepth 20000 in
theorem ggc_X8_addKind_8 : GoodIn wsL_law wsX70 := goodIn_r _ [600, 601, 602, 603, 604, 605, 606, 607, 608, 609, 610, 611, 612, 613] (by decide +kernel) (by decide +kernel)
set_option maxRecDepth 20000 in
theorem ggc_X8_addKind_9 : GoodIn wsL_law wsX40 := goodIn_r _ [623, 624, 625, 626, 627, 628] (by decide +kernel) (by decide +kernel)
set_option maxRecDepth 20000 in
theorem ggc_X8_addKind_10 : GoodIn wsL_law wsX20 := goodIn_r _ [614, 615, 616] (by decide +kernel) (by decide +kernel)
set_option maxRecDepth 20000 in
theorem ggc_X8_addKind_11 : GoodIn wsL_law wsX60 := goodIn_r _ [648] (by decide +kernel) (by decide +kernel)
set_option maxRecDepth 20000 in
theorem ggc_X8_addKind_12 : GoodIn wsL_law wsX30 := goodIn_r _ [629, 630, 631, 632, 633, 634, 635] (by decide +kernel) (by decide +kernel)
set_option maxRecDepth 20000 in
theorem ggc_X8_addKind_13 : GoodIn wsL_law wsX10 := goodIn_r _ [636, 637, 638, 639, 640, 641, 642, 643, 644] (by decide +kernel) (by decide +kernel)
set_option maxRecDepth 20000 in
theorem ggc_X8_addKind_14 : GoodIn wsL_law wsX50 := goodIn_r _ [645, 646, 647] (by decide +kernel) (by decide +kernel)
set_option maxRecDepth 20000 in
theorem ggL_law_X8_addKind : GoodIn wsL_law wsX8_addKind := goodIn_ca (goodIn_ca (goodIn_ca ((goodIn_app ggc_X8_addKind_0 (goodIn_app (goodIn_app (goodIn_app (goodIn_app (goodIn_app (goodIn_app (goodIn_app (goodIn_app (goodIn_app (ggc_X8_addKind_1) (goodIn_app (ggc_X8_addKind_2) (goodIn_app (ggc_X8_addKind_3) (goodIn_app (ggc_X8_addKind_4) (goodIn_app (ggc_X8_addKind_5) (ggc_X8_addKind_6)))))) (ggc_X8_addKind_7)) (ggc_X8_addKind_8)) (ggc_X8_addKind_9)) (ggc_X8_addKind_10)) (ggc_X8_addKind_11)) (ggc_X8_addKind_12)) (ggc_X8_addKind_13)) (ggc_X8_addKind_14)))) (goodIn_sub (fun _ h => List.mem_append_left _ (List.mem_append_left _ (List.mem_append_right _ h))) (by decide +kernel))) (goodIn_sub (fun _ h => List.mem_append_left _ (List.mem_append_right _ h)) (by decide +kernel))) (goodIn_sub (fun _ h => List.mem_append_right _ h) (by decide +kernel))
set_option maxRecDepth 20000 in
theorem gL_law_X8_addKind : GoodIn wsL_law (wsV RL 20 RX8 yX8_addKind wsX8_addKind) := goodIn_app (goodIn_of _ (by decide +kernel)) ggL_law_X8_addKind
set_option maxRecDepth 20000 in
theorem ggc_X8_addHouse_0 : GoodIn wsL_law [.code yX8_addHouse cX8_addHouse 1 (some .int)] := goodIn_r _ [212] (by decide +kernel) (by decide +kernel)
set_option maxRecDepth 20000 in
theorem ggc_X8_addHouse_1 : GoodIn wsL_law wsX8_addHouse_r1 := goodIn_r _ [12, 17, 213, 214, 215, 11, 216, 32, 217, 129, 130, 2, 131, 132, 133, 134, 135, 136, 137, 138, 139, 140, 16, 141] (by decide +kernel) (by decide +kernel)
set_option maxRecDepth 20000 in
theorem ggc_X8_addHouse_2 : GoodIn wsL_law wsX8_addHouse_r2 := goodIn_r _ [142, 143, 144, 145, 146, 147, 103, 148, 149, 150, 151, 28, 36, 40, 44, 152, 153, 154, 155, 156, 157, 158, 159, 160] (by decide +kernel) (by decide +kernel)
set_option maxRecDepth 20000 in
theorem ggc_X8_addHouse_3 : GoodIn wsL_law wsX8_addHouse_r3 := goodIn_r _ [161, 162, 163, 27, 164, 165, 49, 50, 51, 52, 53, 166, 167, 168, 43, 169, 59, 170, 171, 172, 173, 174, 175, 176] (by decide +kernel) (by decide +kernel)
set_option maxRecDepth 20000 in
theorem ggc_X8_addHouse_4 : GoodIn wsL_law wsX8_addHouse_r4 := goodIn_r _ [177, 178, 179, 180, 31, 181, 182, 64, 65, 66, 67, 68, 69, 183, 184, 185, 186, 35, 187, 188, 75, 76, 77, 78] (by decide +kernel) (by decide +kernel)
set_option maxRecDepth 20000 in
theorem ggc_X8_addHouse_5 : GoodIn wsL_law wsX8_addHouse_r5 := goodIn_r _ [79, 80, 81, 82, 189, 190, 191, 192, 39, 193, 89, 90, 91, 194, 195, 218, 219, 220, 221] (by decide +kernel) (by decide +kernel)
set_option maxRecDepth 20000 in
theorem ggc_X8_addHouse_6 : GoodIn wsL_law wsX80 := goodIn_r _ [596, 597, 598, 599] (by decide +kernel) (by decide +kernel)
set_option maxRecDepth 20000 in
theorem ggc_X8_addHouse_7 : GoodIn wsL_law wsX70 := goodIn_r _ [600, 601, 602, 603, 604, 605, 606, 607, 608, 609, 610, 611, 612, 613] (by decide +kernel) (by decide +kernel)
set_option maxRecDepth 20000 in
theorem ggc_X8_addHouse_8 : GoodIn wsL_law wsX30 := goodIn_r _ [629, 630, 631, 632, 633, 634, 635] (by decide +kernel) (by decide +kernel)
set_option maxRecDepth 20000 in
theorem ggc_X8_addHouse_9 : GoodIn wsL_law wsX20 := goodIn_r _ [614, 615, 616] (by decide +kernel) (by decide +kernel)
set_option maxRecDepth 20000 in
theorem ggc_X8_addHouse_10 : GoodIn wsL_law wsX40 := goodIn_r _ [623, 624, 625, 626, 627, 628] (by decide +kernel) (by decide +kernel)
set_option maxRecDepth 20000 in
theorem ggc_X8_addHouse_11 : GoodIn wsL_law wsX60 := goodIn_r _ [648] (by decide +kernel) (by decide +kernel)
set_option maxRecDepth 20000 in
theorem ggc_X8_addHouse_12 : GoodIn wsL_law wsX10 := goodIn_r _ [636, 637, 638, 639, 640, 641, 642, 643, 644] (by decide +kernel) (by decide +kernel)
set_option maxRecDepth 20000 in
theorem ggc_X8_addHouse_13 : GoodIn wsL_law wsX50 := goodIn_r _ [645, 646, 647] (by decide +kernel) (by decide +kernel)
set_option maxRecDepth 20000 in
theorem ggL_law_X8_addHouse : GoodIn wsL_law wsX8_addHouse := goodIn_ca (goodIn_ca (goodIn_ca ((goodIn_app ggc_X8_addHouse_0 (goodIn_app (goodIn_app (goodIn_app (goodIn_app (goodIn_app (goodIn_app (goodIn_app (goodIn_app (goodIn_app (ggc_X8_addHouse_1) (goodIn_app (ggc_X8_addHouse_2) (goodIn_app (ggc_X8_addHouse_3) (goodIn_app (ggc_X8_addHouse_4) (ggc_X8_addHouse_5))))) (ggc_X8_addHouse_6)) (ggc_X8_addHouse_7)) (ggc_X8_addHouse_8)) (ggc_X8_addHouse_9)) (ggc_X8_addHouse_10)) (ggc_X8_addHouse_11)) (ggc_X8_addHouse_12)) (ggc_X8_addHouse_13)))) (goodIn_sub (fun _ h => List.mem_append_left _ (List.mem_append_left _ (List.mem_append_right _ h))) (by decide +kernel))) (goodIn_sub (fun _ h => List.mem_append_left _ (List.mem_append_right _ h)) (by decide +kernel))) (goodIn_sub (fun _ h => List.mem_append_right _ h) (by decide +kernel))
set_option maxRecDepth 20000 in
theorem gL_law_X8_addHouse : GoodIn wsL_law (wsV RL 24 RX8 yX8_addHouse wsX8_addHouse) := goodIn_app (goodIn_of _ (by decide +kernel)) ggL_law_X8_addHouse
