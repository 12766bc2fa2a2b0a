/-! law calls, by their lists -/
set_option maxRecDepth 20000 in
theorem ggc_X9_digest_0 : GoodIn wsL_law [.code yX9_digest cX9_digest 5 (some .long)] := goodIn_r _ [1164] (by decide +kernel) (by decide +kernel)
set_option maxRecDepth 20000 in
theorem ggc_X9_digest_1 : GoodIn wsL_law wsX9_digest_r1 := goodIn_r _ [128, 1165, 239, 1166, 120, 763, 764, 765, 5, 766, 767, 619, 620, 621, 622, 623, 624, 358, 359, 360, 625, 626, 627, 232] (by decide +kernel) (by decide +kernel)
set_option maxRecDepth 20000 in
theorem ggc_X9_digest_2 : GoodIn wsL_law wsX9_digest_r2 := goodIn_r _ [233, 234, 504, 505, 506, 507, 607, 608, 609, 679, 680, 681, 682, 683, 684, 685, 686, 355, 356, 357, 889, 890, 891, 892] (by decide +kernel) (by decide +kernel)
set_option maxRecDepth 20000 in
theorem ggc_X9_digest_3 : GoodIn wsL_law wsX9_digest_r3 := goodIn_r _ [124, 508, 509, 510, 511, 125, 512, 707, 708, 709, 710, 404, 405, 406, 711, 712, 713, 714, 798, 799, 800, 801, 616, 617] (by decide +kernel) (by decide +kernel)
set_option maxRecDepth 20000 in
theorem ggc_X9_digest_4 : GoodIn wsL_law wsX9_digest_r4 := goodIn_r _ [618, 604, 605, 606, 730, 731, 732, 733, 854, 855, 856, 857, 121, 858, 859, 860, 861, 819, 820, 821, 822, 598, 599, 600] (by decide +kernel) (by decide +kernel)
set_option maxRecDepth 20000 in
theorem ggc_X9_digest_5 : GoodIn wsL_law wsX9_digest_r5 := goodIn_r _ [601, 602, 603, 325, 326, 327, 610, 611, 612, 613, 614, 615, 628, 629, 630, 631, 632, 633, 634, 635, 636, 637, 638, 639] (by decide +kernel) (by decide +kernel)
set_option maxRecDepth 20000 in
theorem ggc_X9_digest_6 : GoodIn wsL_law wsX90 := goodIn_r _ [1171, 1172, 1173, 1174, 1175, 1176, 1177, 1178, 1179, 1180, 1181, 1182, 1183] (by decide +kernel) (by decide +kernel)
set_option maxRecDepth 20000 in
theorem ggL_law_X9_digest : GoodIn wsL_law wsX9_digest := goodIn_app ggc_X9_digest_0 (goodIn_app (goodIn_app (ggc_X9_digest_1) (goodIn_app (ggc_X9_digest_2) (goodIn_app (ggc_X9_digest_3) (goodIn_app (ggc_X9_digest_4) (ggc_X9_digest_5))))) (ggc_X9_digest_6))
set_option maxRecDepth 20000 in
theorem gL_law_X9_digest : GoodIn wsL_law (wsV RL 180 RX9 yX9_digest wsX9_digest) := goodIn_app (goodIn_of _ (by decide +kernel)) ggL_law_X9_digest
