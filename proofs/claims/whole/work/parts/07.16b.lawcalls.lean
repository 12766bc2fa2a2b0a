/-! law calls, by their lists -/
set_option maxRecDepth 20000 in
theorem ggc_X9_undo_0 : GoodIn wsL_law [.code yX9_undo cX9_undo 2 (some .int)] := goodIn_r _ [1128] (by decide +kernel) (by decide +kernel)
set_option maxRecDepth 20000 in
theorem ggc_X9_undo_1 : GoodIn wsL_law [.fieldLink RX9 39 "BakeTurnsModel" "savedMany" "I", .fieldLink RX9 35 "BakeTurnsModel" "thrown" "I", .fieldLink RX9 7 "BakeTurnsModel" "s" "[I", .fieldLink RX9 16 "BakeTurnsModel" "saved" "[I"] := goodIn_r _ [239, 128, 120, 122] (by decide +kernel) (by decide +kernel)
set_option maxRecDepth 20000 in
theorem ggc_X9_undo_2 : GoodIn wsL_law wsX90 := goodIn_r _ [1171, 1172, 1173, 1174, 1175, 1176, 1177, 1178, 1179, 1180, 1181, 1182, 1183] (by decide +kernel) (by decide +kernel)
set_option maxRecDepth 20000 in
theorem ggL_law_X9_undo : GoodIn wsL_law wsX9_undo := goodIn_app ggc_X9_undo_0 (goodIn_app (ggc_X9_undo_1) (ggc_X9_undo_2))
set_option maxRecDepth 20000 in
theorem gL_law_X9_undo : GoodIn wsL_law (wsV RL 175 RX9 yX9_undo wsX9_undo) := goodIn_app (goodIn_of _ (by decide +kernel)) ggL_law_X9_undo
set_option maxRecDepth 20000 in
theorem ggc_X8_digest_0 : GoodIn wsL_law [.code yX8_digest cX8_digest 4 (some .long)] := goodIn_r _ [1132] (by decide +kernel) (by decide +kernel)
set_option maxRecDepth 20000 in
theorem ggc_X8_digest_1 : GoodIn wsL_law wsX8_digest_r1 := goodIn_r _ [1133, 21, 1117, 1118, 1119, 20, 1120, 157, 1134, 1135, 2, 1136, 1137, 741, 742, 743, 744, 25, 16, 745, 746, 747, 24, 748] (by decide +kernel) (by decide +kernel)
set_option maxRecDepth 20000 in
theorem ggc_X8_digest_2 : GoodIn wsL_law wsX8_digest_r2 := goodIn_r _ [749, 750, 751, 752, 15, 753, 32, 143, 36, 259, 40, 284, 168, 169, 167, 44, 170, 171, 172, 173, 174, 175, 754, 755] (by decide +kernel) (by decide +kernel)
set_option maxRecDepth 20000 in
theorem ggc_X8_digest_3 : GoodIn wsL_law wsX8_digest_r3 := goodIn_r _ [756, 43, 757, 758, 542, 543, 544, 93, 545, 337, 338, 47, 339, 63, 487, 488, 489, 490, 486, 336, 1138, 1139, 1140, 1141] (by decide +kernel) (by decide +kernel)
set_option maxRecDepth 20000 in
theorem ggc_X8_digest_4 : GoodIn wsL_law wsX8_digest_r4 := goodIn_r _ [1142, 1143, 651, 652, 653, 654, 215, 216, 217, 218, 219, 1144, 1145, 1146, 1147, 1148, 1149, 667, 668, 669, 670, 418, 465, 423] (by decide +kernel) (by decide +kernel)
set_option maxRecDepth 20000 in
theorem ggc_X8_digest_5 : GoodIn wsL_law wsX8_digest_r5 := goodIn_r _ [579, 580, 671, 672, 673, 674, 297, 884, 492, 493, 494, 1150, 1151, 1152, 1153, 1154, 1155, 695, 696, 697, 698, 298, 299, 300] (by decide +kernel) (by decide +kernel)
set_option maxRecDepth 20000 in
theorem ggc_X8_digest_6 : GoodIn wsL_law wsX8_digest_r6 := goodIn_r _ [301, 302, 303, 304, 384, 385, 386, 387, 48, 699, 700, 701, 702, 350, 790, 791, 792, 793, 376, 377, 378, 379, 372, 373] (by decide +kernel) (by decide +kernel)
set_option maxRecDepth 20000 in
theorem ggc_X8_digest_7 : GoodIn wsL_law wsX8_digest_r7 := goodIn_r _ [374, 375, 537, 538, 539, 540, 541, 546, 547, 548, 549, 550, 187, 551, 1156, 1157, 1158, 1159, 1160, 722, 723, 724, 725, 565] (by decide +kernel) (by decide +kernel)
set_option maxRecDepth 20000 in
theorem ggc_X8_digest_8 : GoodIn wsL_law wsX8_digest_r8 := goodIn_r _ [566, 775, 776, 777, 778, 845, 846, 847, 848, 17, 849, 810, 164, 165, 166, 176, 177, 178, 31, 179, 180, 53, 54, 55] (by decide +kernel) (by decide +kernel)
set_option maxRecDepth 20000 in
theorem ggc_X8_digest_9 : GoodIn wsL_law wsX8_digest_r9 := goodIn_r _ [56, 57, 181, 182, 183, 184, 185, 186, 188, 189, 190, 191, 192, 193, 194, 195, 35, 196, 197, 68, 69, 70, 71, 72] (by decide +kernel) (by decide +kernel)
set_option maxRecDepth 20000 in
theorem ggc_X8_digest_10 : GoodIn wsL_law wsX8_digest_r10 := goodIn_r _ [73, 198, 199, 200, 201, 39, 202, 203, 79, 80, 81, 82, 83, 84, 85, 86, 204, 205, 206, 207, 208, 94, 95, 209] (by decide +kernel) (by decide +kernel)
set_option maxRecDepth 20000 in
theorem ggc_X8_digest_11 : GoodIn wsL_law wsX8_digest_r11 := goodIn_r _ [210, 525, 526, 527, 528, 529, 530, 531, 532, 424, 425, 426, 427, 428, 429, 221, 222, 223, 220, 533, 534, 535, 536, 552] (by decide +kernel) (by decide +kernel)
set_option maxRecDepth 20000 in
theorem ggc_X8_digest_12 : GoodIn wsL_law wsX8_digest_r12 := goodIn_r _ [553, 554, 555, 556, 557, 558, 559, 560, 561, 562, 563, 564, 567, 568, 569, 570, 571, 572, 573, 574, 575, 576, 577, 578] (by decide +kernel) (by decide +kernel)
set_option maxRecDepth 20000 in
theorem ggc_X8_digest_13 : GoodIn wsL_law wsX8_digest_r13 := goodIn_r _ [581, 582, 583, 584] (by decide +kernel) (by decide +kernel)
set_option maxRecDepth 20000 in
theorem ggc_X8_digest_14 : GoodIn wsL_law wsX80 := goodIn_r _ [1167, 1168, 1169, 1170] (by decide +kernel) (by decide +kernel)
set_option maxRecDepth 20000 in
theorem ggc_X8_digest_15 : GoodIn wsL_law wsX20 := goodIn_r _ [1198, 1199, 1200] (by decide +kernel) (by decide +kernel)
set_option maxRecDepth 20000 in
theorem ggc_X8_digest_16 : GoodIn wsL_law wsX00 := goodIn_r _ [1201, 1202, 1203, 1204, 1205, 1206] (by decide +kernel) (by decide +kernel)
set_option maxRecDepth 20000 in
theorem ggc_X8_digest_17 : GoodIn wsL_law wsX70 := goodIn_r _ [1184, 1185, 1186, 1187, 1188, 1189, 1190, 1191, 1192, 1193, 1194, 1195, 1196, 1197] (by decide +kernel) (by decide +kernel)
set_option maxRecDepth 20000 in
theorem ggc_X8_digest_18 : GoodIn wsL_law wsX40 := goodIn_r _ [1207, 1208, 1209, 1210, 1211, 1212] (by decide +kernel) (by decide +kernel)
set_option maxRecDepth 20000 in
theorem ggc_X8_digest_19 : GoodIn wsL_law wsX30 := goodIn_r _ [1213, 1214, 1215, 1216, 1217, 1218, 1219] (by decide +kernel) (by decide +kernel)
set_option maxRecDepth 20000 in
theorem ggc_X8_digest_20 : GoodIn wsL_law wsX10 := goodIn_r _ [1220, 1221, 1222, 1223, 1224, 1225, 1226, 1227, 1228] (by decide +kernel) (by decide +kernel)
set_option maxRecDepth 20000 in
theorem ggc_X8_digest_21 : GoodIn wsL_law wsX50 := goodIn_r _ [1229, 1230, 1231] (by decide +kernel) (by decide +kernel)
set_option maxRecDepth 20000 in
theorem ggc_X8_digest_22 : GoodIn wsL_law wsX60 := goodIn_r _ [1232] (by decide +kernel) (by decide +kernel)
set_option maxRecDepth 20000 in
theorem ggL_law_X8_digest : GoodIn wsL_law wsX8_digest := goodIn_app ggc_X8_digest_0 (goodIn_app (goodIn_app (goodIn_app (goodIn_app (goodIn_app (goodIn_app (goodIn_app (goodIn_app (goodIn_app (goodIn_app (ggc_X8_digest_1) (goodIn_app (ggc_X8_digest_2) (goodIn_app (ggc_X8_digest_3) (goodIn_app (ggc_X8_digest_4) (goodIn_app (ggc_X8_digest_5) (goodIn_app (ggc_X8_digest_6) (goodIn_app (ggc_X8_digest_7) (goodIn_app (ggc_X8_digest_8) (goodIn_app (ggc_X8_digest_9) (goodIn_app (ggc_X8_digest_10) (goodIn_app (ggc_X8_digest_11) (goodIn_app (ggc_X8_digest_12) (ggc_X8_digest_13))))))))))))) (ggc_X8_digest_14)) (ggc_X8_digest_15)) (ggc_X8_digest_16)) (ggc_X8_digest_17)) (ggc_X8_digest_18)) (ggc_X8_digest_19)) (ggc_X8_digest_20)) (ggc_X8_digest_21)) (ggc_X8_digest_22))
set_option maxRecDepth 20000 in
theorem gL_law_X8_digest : GoodIn wsL_law (wsV RL 176 RX8 yX8_digest wsX8_digest) := goodIn_app (goodIn_of _ (by decide +kernel)) ggL_law_X8_digest
