/-! law calls, by their lists -/
set_option maxRecDepth 20000 in
theorem ggc_X9_clearCommands_0 : GoodIn wsL_law [.code yX9_clearCommands cX9_clearCommands 2 (some .int)] := goodIn_r _ [924] (by decide +kernel) (by decide +kernel)
set_option maxRecDepth 20000 in
theorem ggc_X9_clearCommands_1 : GoodIn wsL_law [.fieldLink RX9 35 "BakeTurnsModel" "thrown" "I", .fieldLink RX9 198 "BakeTurnsModel" "length" "I"] := goodIn_r _ [128, 767] (by decide +kernel) (by decide +kernel)
set_option maxRecDepth 20000 in
theorem ggc_X9_clearCommands_2 : GoodIn wsL_law wsX90 := goodIn_r _ [1171, 1172, 1173, 1174, 1175, 1176, 1177, 1178, 1179, 1180, 1181, 1182, 1183] (by decide +kernel) (by decide +kernel)
set_option maxRecDepth 20000 in
theorem ggL_law_X9_clearCommands : GoodIn wsL_law wsX9_clearCommands := goodIn_app ggc_X9_clearCommands_0 (goodIn_app (ggc_X9_clearCommands_1) (ggc_X9_clearCommands_2))
set_option maxRecDepth 20000 in
theorem gL_law_X9_clearCommands : GoodIn wsL_law (wsV RL 168 RX9 yX9_clearCommands wsX9_clearCommands) := goodIn_app (goodIn_of _ (by decide +kernel)) ggL_law_X9_clearCommands
set_option maxRecDepth 20000 in
theorem ggc_X8_runCommands_0 : GoodIn wsL_law [.code yX8_runCommands cX8_runCommands 3 (some .int)] := goodIn_r _ [928] (by decide +kernel) (by decide +kernel)
set_option maxRecDepth 20000 in
theorem ggc_X8_runCommands_1 : GoodIn wsL_law wsX8_runCommands_r1 := goodIn_r _ [25, 21, 16, 929, 930, 931, 24, 932, 114, 933, 934, 935, 936, 937, 938, 939, 940, 941, 749, 942, 943, 944, 945, 946] (by decide +kernel) (by decide +kernel)
set_option maxRecDepth 20000 in
theorem ggc_X8_runCommands_2 : GoodIn wsL_law wsX8_runCommands_r2 := goodIn_r _ [947, 948, 949, 950, 112, 951, 337, 338, 47, 339, 63, 952, 953, 954, 955, 956, 957, 958, 959, 960, 961, 962, 963, 964] (by decide +kernel) (by decide +kernel)
set_option maxRecDepth 20000 in
theorem ggc_X8_runCommands_3 : GoodIn wsL_law wsX8_runCommands_r3 := goodIn_r _ [965, 966, 967, 968, 969, 970, 971, 972, 973, 974, 975, 976, 977, 978, 979, 980, 981, 982, 983, 984, 985, 986, 987, 988] (by decide +kernel) (by decide +kernel)
set_option maxRecDepth 20000 in
theorem ggc_X8_runCommands_4 : GoodIn wsL_law wsX8_runCommands_r4 := goodIn_r _ [989, 990, 991, 992, 993, 994, 995, 996, 997, 998, 999, 1000, 1001, 1002, 1003, 1004, 1005, 1006, 1007, 1008, 1009, 1010, 1011, 1012] (by decide +kernel) (by decide +kernel)
set_option maxRecDepth 20000 in
theorem ggc_X8_runCommands_5 : GoodIn wsL_law wsX8_runCommands_r5 := goodIn_r _ [1013, 1014, 1015, 1016, 1017, 1018, 1019, 1020, 1021, 1022, 1023, 1024, 1025, 1026, 1027, 1028, 1029, 113, 1030, 1031, 1032, 908, 221, 222] (by decide +kernel) (by decide +kernel)
set_option maxRecDepth 20000 in
theorem ggc_X8_runCommands_6 : GoodIn wsL_law wsX8_runCommands_r6 := goodIn_r _ [223, 153, 154, 155, 20, 156, 157, 158, 159, 160, 161, 162, 107, 163, 164, 165, 15, 166, 32, 36, 40, 44, 48, 167] (by decide +kernel) (by decide +kernel)
set_option maxRecDepth 20000 in
theorem ggc_X8_runCommands_7 : GoodIn wsL_law wsX8_runCommands_r7 := goodIn_r _ [168, 169, 170, 171, 172, 173, 174, 175, 176, 177, 178, 31, 179, 180, 53, 54, 55, 56, 57, 181, 182, 183, 184, 185] (by decide +kernel) (by decide +kernel)
set_option maxRecDepth 20000 in
theorem ggc_X8_runCommands_8 : GoodIn wsL_law wsX8_runCommands_r8 := goodIn_r _ [186, 187, 188, 189, 190, 191, 192, 193, 194, 195, 35, 196, 197, 68, 69, 70, 71, 72, 73, 198, 199, 200, 201, 39] (by decide +kernel) (by decide +kernel)
set_option maxRecDepth 20000 in
theorem ggc_X8_runCommands_9 : GoodIn wsL_law wsX8_runCommands_r9 := goodIn_r _ [202, 203, 79, 80, 81, 82, 83, 84, 85, 86, 204, 205, 206, 207, 43, 208, 93, 94, 95, 209, 210, 1033, 1034, 1035] (by decide +kernel) (by decide +kernel)
set_option maxRecDepth 20000 in
theorem ggc_X8_runCommands_10 : GoodIn wsL_law wsX8_runCommands_r10 := goodIn_r _ [1036, 1037, 2, 1038, 1039, 1040, 1041, 1042, 1043, 1044, 1045, 1046, 1047, 1048, 1049, 1050, 139, 140, 141, 142, 143, 255, 256, 257] (by decide +kernel) (by decide +kernel)
set_option maxRecDepth 20000 in
theorem ggc_X8_runCommands_11 : GoodIn wsL_law wsX8_runCommands_r11 := goodIn_r _ [258, 259, 280, 281, 282, 283, 284, 285, 286, 287, 288, 289, 290, 291, 292, 414, 415, 416, 417, 418, 336, 457, 458, 459] (by decide +kernel) (by decide +kernel)
set_option maxRecDepth 20000 in
theorem ggc_X8_runCommands_12 : GoodIn wsL_law wsX8_runCommands_r12 := goodIn_r _ [460, 520, 521, 522, 523, 524, 368, 369, 370, 371, 372, 373, 374, 375, 376, 377, 378, 379, 301, 211, 212, 213, 214, 215] (by decide +kernel) (by decide +kernel)
set_option maxRecDepth 20000 in
theorem ggc_X8_runCommands_13 : GoodIn wsL_law wsX8_runCommands_r13 := goodIn_r _ [216, 217, 218, 219, 220, 260, 261, 262, 263, 293, 294, 295, 296, 297, 298, 299, 300, 302, 303, 304, 419, 420, 421, 422] (by decide +kernel) (by decide +kernel)
set_option maxRecDepth 20000 in
theorem ggc_X8_runCommands_14 : GoodIn wsL_law wsX8_runCommands_r14 := goodIn_r _ [423, 424, 425, 426, 427, 428, 429, 461, 462, 463, 464, 465, 525, 526, 527, 528, 529, 530, 531, 532, 533, 534, 535, 536] (by decide +kernel) (by decide +kernel)
set_option maxRecDepth 20000 in
theorem ggc_X8_runCommands_15 : GoodIn wsL_law wsX8_runCommands_r15 := goodIn_r _ [537, 538, 539, 540, 541, 542, 543, 544, 545, 546, 547, 548, 549, 550, 551, 552, 553, 554, 555, 556, 557, 558, 559, 560] (by decide +kernel) (by decide +kernel)
set_option maxRecDepth 20000 in
theorem ggc_X8_runCommands_16 : GoodIn wsL_law wsX8_runCommands_r16 := goodIn_r _ [561, 562, 563, 564, 350, 565, 566, 486, 567, 568, 569, 570, 571, 572, 573, 574, 575, 576, 577, 578, 579, 580, 581, 582] (by decide +kernel) (by decide +kernel)
set_option maxRecDepth 20000 in
theorem ggc_X8_runCommands_17 : GoodIn wsL_law wsX8_runCommands_r17 := goodIn_r _ [583, 584, 380, 381, 382, 383, 384, 385, 386, 387, 482, 483, 484, 485, 487, 488, 489, 490, 491, 492, 493, 494, 495, 98] (by decide +kernel) (by decide +kernel)
set_option maxRecDepth 20000 in
theorem ggc_X8_runCommands_18 : GoodIn wsL_law wsX8_runCommands_r18 := goodIn_r _ [99, 100] (by decide +kernel) (by decide +kernel)
set_option maxRecDepth 20000 in
theorem ggc_X8_runCommands_19 : GoodIn wsL_law wsX80 := goodIn_r _ [1167, 1168, 1169, 1170] (by decide +kernel) (by decide +kernel)
set_option maxRecDepth 20000 in
theorem ggc_X8_runCommands_20 : GoodIn wsL_law wsX00 := goodIn_r _ [1201, 1202, 1203, 1204, 1205, 1206] (by decide +kernel) (by decide +kernel)
set_option maxRecDepth 20000 in
theorem ggc_X8_runCommands_21 : GoodIn wsL_law wsX60 := goodIn_r _ [1232] (by decide +kernel) (by decide +kernel)
set_option maxRecDepth 20000 in
theorem ggc_X8_runCommands_22 : GoodIn wsL_law wsX20 := goodIn_r _ [1198, 1199, 1200] (by decide +kernel) (by decide +kernel)
set_option maxRecDepth 20000 in
theorem ggc_X8_runCommands_23 : GoodIn wsL_law wsX70 := goodIn_r _ [1184, 1185, 1186, 1187, 1188, 1189, 1190, 1191, 1192, 1193, 1194, 1195, 1196, 1197] (by decide +kernel) (by decide +kernel)
set_option maxRecDepth 20000 in
theorem ggc_X8_runCommands_24 : GoodIn wsL_law wsX40 := goodIn_r _ [1207, 1208, 1209, 1210, 1211, 1212] (by decide +kernel) (by decide +kernel)
set_option maxRecDepth 20000 in
theorem ggc_X8_runCommands_25 : GoodIn wsL_law wsX30 := goodIn_r _ [1213, 1214, 1215, 1216, 1217, 1218, 1219] (by decide +kernel) (by decide +kernel)
set_option maxRecDepth 20000 in
theorem ggc_X8_runCommands_26 : GoodIn wsL_law wsX10 := goodIn_r _ [1220, 1221, 1222, 1223, 1224, 1225, 1226, 1227, 1228] (by decide +kernel) (by decide +kernel)
set_option maxRecDepth 20000 in
theorem ggc_X8_runCommands_27 : GoodIn wsL_law wsX50 := goodIn_r _ [1229, 1230, 1231] (by decide +kernel) (by decide +kernel)
set_option maxRecDepth 20000 in
theorem ggL_law_X8_runCommands : GoodIn wsL_law wsX8_runCommands := goodIn_app ggc_X8_runCommands_0 (goodIn_app (goodIn_app (goodIn_app (goodIn_app (goodIn_app (goodIn_app (goodIn_app (goodIn_app (goodIn_app (goodIn_app (ggc_X8_runCommands_1) (goodIn_app (ggc_X8_runCommands_2) (goodIn_app (ggc_X8_runCommands_3) (goodIn_app (ggc_X8_runCommands_4) (goodIn_app (ggc_X8_runCommands_5) (goodIn_app (ggc_X8_runCommands_6) (goodIn_app (ggc_X8_runCommands_7) (goodIn_app (ggc_X8_runCommands_8) (goodIn_app (ggc_X8_runCommands_9) (goodIn_app (ggc_X8_runCommands_10) (goodIn_app (ggc_X8_runCommands_11) (goodIn_app (ggc_X8_runCommands_12) (goodIn_app (ggc_X8_runCommands_13) (goodIn_app (ggc_X8_runCommands_14) (goodIn_app (ggc_X8_runCommands_15) (goodIn_app (ggc_X8_runCommands_16) (goodIn_app (ggc_X8_runCommands_17) (ggc_X8_runCommands_18)))))))))))))))))) (ggc_X8_runCommands_19)) (ggc_X8_runCommands_20)) (ggc_X8_runCommands_21)) (ggc_X8_runCommands_22)) (ggc_X8_runCommands_23)) (ggc_X8_runCommands_24)) (ggc_X8_runCommands_25)) (ggc_X8_runCommands_26)) (ggc_X8_runCommands_27))
set_option maxRecDepth 20000 in
theorem gL_law_X8_runCommands : GoodIn wsL_law (wsV RL 169 RX8 yX8_runCommands wsX8_runCommands) := goodIn_app (goodIn_of _ (by decide +kernel)) ggL_law_X8_runCommands
