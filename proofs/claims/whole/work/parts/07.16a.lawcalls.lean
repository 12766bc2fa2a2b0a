/-! law calls, by their lists -/
set_option maxRecDepth 20000 in
theorem ggc_X9_runCommands_0 : GoodIn wsL_law [.code yX9_runCommands cX9_runCommands 3 (some .int)] := goodIn_r _ [1054] (by decide +kernel) (by decide +kernel)
set_option maxRecDepth 20000 in
theorem ggc_X9_runCommands_1 : GoodIn wsL_law wsX9_runCommands_r1 := goodIn_r _ [128, 1055, 1056, 767, 1057, 1058, 1059, 5, 1060, 1061, 1062, 1063, 1064, 1065, 1066, 1067, 1068, 123, 1069, 1070, 1071, 1072, 1073, 1074] (by decide +kernel) (by decide +kernel)
set_option maxRecDepth 20000 in
theorem ggc_X9_runCommands_2 : GoodIn wsL_law wsX9_runCommands_r2 := goodIn_r _ [1075, 1076, 1077, 1078, 1079, 1080, 232, 233, 234, 1081, 1082, 1083, 1084, 1085, 1086, 1087, 1088, 1089, 1090, 1091, 1092, 1093, 1094, 1095] (by decide +kernel) (by decide +kernel)
set_option maxRecDepth 20000 in
theorem ggc_X9_runCommands_3 : GoodIn wsL_law wsX9_runCommands_r3 := goodIn_r _ [1096, 1097, 1098, 1099, 1100, 1101, 127, 1102, 1103, 1104, 1105, 235, 236, 237, 238, 239, 122, 120, 1106, 1107, 1108, 1109, 228, 229] (by decide +kernel) (by decide +kernel)
set_option maxRecDepth 20000 in
theorem ggc_X9_runCommands_4 : GoodIn wsL_law wsX9_runCommands_r4 := goodIn_r _ [230, 231, 240, 241, 242, 243, 268, 269, 270, 271, 309, 310, 311, 312, 313, 314, 315, 316, 317, 318, 319, 320, 321, 322] (by decide +kernel) (by decide +kernel)
set_option maxRecDepth 20000 in
theorem ggc_X9_runCommands_5 : GoodIn wsL_law wsX9_runCommands_r5 := goodIn_r _ [323, 324, 325, 326, 327, 434, 435, 436, 437, 438, 439, 440, 441, 442, 443, 444, 445, 446, 447, 448, 449, 470, 471, 472] (by decide +kernel) (by decide +kernel)
set_option maxRecDepth 20000 in
theorem ggc_X9_runCommands_6 : GoodIn wsL_law wsX9_runCommands_r6 := goodIn_r _ [473, 474, 475, 476, 477, 589, 590, 591, 592, 593, 594, 595, 596, 597, 598, 599, 600, 601, 602, 603, 355, 356, 357, 604] (by decide +kernel) (by decide +kernel)
set_option maxRecDepth 20000 in
theorem ggc_X9_runCommands_7 : GoodIn wsL_law wsX9_runCommands_r7 := goodIn_r _ [605, 606, 607, 608, 609, 610, 611, 612, 404, 405, 406, 613, 614, 615, 616, 617, 618, 619, 620, 621, 622, 623, 624, 358] (by decide +kernel) (by decide +kernel)
set_option maxRecDepth 20000 in
theorem ggc_X9_runCommands_8 : GoodIn wsL_law wsX9_runCommands_r8 := goodIn_r _ [359, 360, 625, 626, 627, 628, 629, 630, 631, 632, 633, 634, 635, 636, 637, 638, 639, 392, 393, 394, 395, 396, 397, 398] (by decide +kernel) (by decide +kernel)
set_option maxRecDepth 20000 in
theorem ggc_X9_runCommands_9 : GoodIn wsL_law wsX9_runCommands_r9 := goodIn_r _ [399, 400, 401, 402, 403, 500, 501, 502, 503, 124, 504, 505, 506, 507, 508, 509, 510, 511, 125, 512] (by decide +kernel) (by decide +kernel)
set_option maxRecDepth 20000 in
theorem ggc_X9_runCommands_10 : GoodIn wsL_law wsX90 := goodIn_r _ [1171, 1172, 1173, 1174, 1175, 1176, 1177, 1178, 1179, 1180, 1181, 1182, 1183] (by decide +kernel) (by decide +kernel)
set_option maxRecDepth 20000 in
theorem ggL_law_X9_runCommands : GoodIn wsL_law wsX9_runCommands := goodIn_app ggc_X9_runCommands_0 (goodIn_app (goodIn_app (ggc_X9_runCommands_1) (goodIn_app (ggc_X9_runCommands_2) (goodIn_app (ggc_X9_runCommands_3) (goodIn_app (ggc_X9_runCommands_4) (goodIn_app (ggc_X9_runCommands_5) (goodIn_app (ggc_X9_runCommands_6) (goodIn_app (ggc_X9_runCommands_7) (goodIn_app (ggc_X9_runCommands_8) (ggc_X9_runCommands_9))))))))) (ggc_X9_runCommands_10))
set_option maxRecDepth 20000 in
theorem gL_law_X9_runCommands : GoodIn wsL_law (wsV RL 172 RX9 yX9_runCommands wsX9_runCommands) := goodIn_app (goodIn_of _ (by decide +kernel)) ggL_law_X9_runCommands
set_option maxRecDepth 20000 in
theorem ggL_law_L_undo : GoodIn wsL_law wsL_undo := goodIn_ca (goodIn_ca (goodIn_ca (goodIn_r _ [1112, 134, 1113, 1114, 1115, 2, 1116, 21, 16, 1117, 1118, 1119, 20, 1120, 157, 144, 145, 146, 147, 148, 149, 150, 151, 152, 1121, 1122, 1123, 1124, 159, 160, 161, 162, 158, 107, 163, 164, 165, 15, 166, 32, 36, 40, 44, 48, 167, 168, 169, 170, 171, 172, 173, 174, 175, 176, 177, 178, 31, 179, 180, 53, 54, 55, 56, 57, 181, 182, 183, 47, 184, 63, 185, 186, 187, 188, 189, 190, 191, 192, 193, 194, 195, 35, 196, 197, 68, 69, 70, 71, 72, 73, 198, 199, 200, 201, 39, 202, 203, 79, 80, 81, 82, 83, 84, 85, 86, 204, 205, 206, 207, 43, 208, 93, 94, 95, 209, 210, 1167, 1168, 1169, 1170, 1198, 1199, 1200, 1184, 1185, 1186, 1187, 1188, 1189, 1190, 1191, 1192, 1193, 1194, 1195, 1196, 1197, 1207, 1208, 1209, 1210, 1211, 1212, 1232, 1213, 1214, 1215, 1216, 1217, 1218, 1219, 1220, 1221, 1222, 1223, 1224, 1225, 1226, 1227, 1228, 1229, 1230, 1231] (by decide +kernel) (by decide +kernel)) (goodIn_sub (fun _ h => List.mem_append_left _ (List.mem_append_left _ (List.mem_append_right _ h))) (by decide +kernel))) (goodIn_sub (fun _ h => List.mem_append_left _ (List.mem_append_right _ h)) (by decide +kernel))) (goodIn_sub (fun _ h => List.mem_append_right _ h) (by decide +kernel))
set_option maxRecDepth 20000 in
theorem gL_law_L_undo : GoodIn wsL_law (va_wsS RL 173 yL_undo wsL_undo) := goodIn_app (goodIn_of _ (by decide +kernel)) ggL_law_L_undo
