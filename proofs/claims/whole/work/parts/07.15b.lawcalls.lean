/-! the law's calls, 15b -/
set_option maxRecDepth 20000 in
theorem ggL_law_X9_spoiledIn : GoodIn wsL_law wsX9_spoiledIn := goodIn_r _ [876, 128, 120, 121, 232, 233, 5, 234, 858, 859, 860, 861, 819, 820, 821, 822, 598, 599, 600, 601, 602, 603, 355, 356, 357, 325, 326, 327, 604, 605, 606, 607, 608, 609, 610, 611, 612, 404, 405, 406, 613, 614, 615, 616, 617, 618, 619, 620, 621, 622, 623, 624, 358, 359, 360, 625, 626, 627, 628, 629, 630, 631, 632, 633, 634, 635, 636, 637, 638, 639, 1171, 1172, 1173, 1174, 1175, 1176, 1177, 1178, 1179, 1180, 1181, 1182, 1183] (by decide +kernel) (by decide +kernel)
set_option maxRecDepth 20000 in
theorem gL_law_X9_spoiledIn : GoodIn wsL_law (wsV RL 158 RX9 yX9_spoiledIn wsX9_spoiledIn) := goodIn_app (goodIn_of _ (by decide +kernel)) ggL_law_X9_spoiledIn
set_option maxRecDepth 20000 in
theorem ggL_law_L_owes : GoodIn wsL_law wsL_owes := goodIn_ca (goodIn_ca (goodIn_ca (goodIn_r _ [879, 275, 880, 881, 882, 2, 883, 16, 666, 286, 287, 15, 288, 36, 259, 144, 145, 146, 147, 148, 149, 150, 151, 152, 884, 492, 493, 494, 170, 486, 487, 488, 489, 490, 336, 337, 338, 47, 339, 63, 1167, 1168, 1169, 1170, 1184, 1185, 1186, 1187, 1188, 1189, 1190, 1191, 1192, 1193, 1194, 1195, 1196, 1197, 1213, 1214, 1215, 1216, 1217, 1218, 1219, 1232] (by decide +kernel) (by decide +kernel)) (goodIn_sub (fun _ h => List.mem_append_left _ (List.mem_append_left _ (List.mem_append_right _ h))) (by decide +kernel))) (goodIn_sub (fun _ h => List.mem_append_left _ (List.mem_append_right _ h)) (by decide +kernel))) (goodIn_sub (fun _ h => List.mem_append_right _ h) (by decide +kernel))
set_option maxRecDepth 20000 in
theorem gL_law_L_owes : GoodIn wsL_law (va_wsS RL 159 yL_owes wsL_owes) := goodIn_app (goodIn_of _ (by decide +kernel)) ggL_law_L_owes
