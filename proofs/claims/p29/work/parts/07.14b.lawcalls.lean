set_option maxRecDepth 20000 in
theorem ggc_X8_bring_0 : GoodIn wsL_law [.code yX8_bring cX8_bring 3 (some .int)] := goodIn_r _ [225] (by decide +kernel) (by decide +kernel)
set_option maxRecDepth 20000 in
theorem ggc_X8_bring_1 : GoodIn wsL_law wsX8_bring_r1 := goodIn_r _ [12, 17, 226, 227, 228, 11, 229, 32, 230, 231, 232, 233, 234, 217, 235, 236, 237, 43, 238, 59, 129, 130, 2, 131] (by decide +kernel) (by decide +kernel)
set_option maxRecDepth 20000 in
theorem ggc_X8_bring_2 : GoodIn wsL_law wsX8_bring_r2 := goodIn_r _ [132, 133, 134, 135, 136, 137, 138, 139, 140, 16, 141, 142, 143, 144, 145, 146, 147, 103, 148, 149, 150, 151, 28, 36] (by decide +kernel) (by decide +kernel)
set_option maxRecDepth 20000 in
theorem ggc_X8_bring_3 : GoodIn wsL_law wsX8_bring_r3 := goodIn_r _ [40, 44, 152, 153, 154, 155, 156, 157, 158, 159, 160, 161, 162, 163, 27, 164, 165, 49, 50, 51, 52, 53, 166, 167] (by decide +kernel) (by decide +kernel)
set_option maxRecDepth 20000 in
theorem ggc_X8_bring_4 : GoodIn wsL_law wsX8_bring_r4 := goodIn_r _ [168, 169, 170, 171, 172, 173, 174, 175, 176, 177, 178, 179, 180, 31, 181, 182, 64, 65, 66, 67, 68, 69, 183, 184] (by decide +kernel) (by decide +kernel)
set_option maxRecDepth 20000 in
theorem ggc_X8_bring_5 : GoodIn wsL_law wsX8_bring_r5 := goodIn_r _ [185, 186, 35, 187, 188, 75, 76, 77, 78, 79, 80, 81, 82, 189, 190, 191, 192, 39, 193, 89, 90, 91, 194, 195] (by decide +kernel) (by decide +kernel)
set_option maxRecDepth 20000 in
theorem ggc_X8_bring_6 : GoodIn wsL_law wsX8_bring_r6 := goodIn_r _ [239, 240, 241, 242, 243, 244, 245, 246, 247, 248, 249, 206, 207, 208] (by decide +kernel) (by decide +kernel)
set_option maxRecDepth 20000 in
theorem ggc_X8_bring_7 : GoodIn wsL_law wsX80 := goodIn_r _ [596, 597, 598, 599] (by decide +kernel) (by decide +kernel)
set_option maxRecDepth 20000 in
theorem ggc_X8_bring_8 : GoodIn wsL_law wsX70 := goodIn_r _ [600, 601, 602, 603, 604, 605, 606, 607, 608, 609, 610, 611, 612, 613] (by decide +kernel) (by decide +kernel)
set_option maxRecDepth 20000 in
theorem ggc_X8_bring_9 : GoodIn wsL_law wsX30 := goodIn_r _ [629, 630, 631, 632, 633, 634, 635] (by decide +kernel) (by decide +kernel)
set_option maxRecDepth 20000 in
theorem ggc_X8_bring_10 : GoodIn wsL_law wsX60 := goodIn_r _ [648] (by decide +kernel) (by decide +kernel)
set_option maxRecDepth 20000 in
theorem ggc_X8_bring_11 : GoodIn wsL_law wsX20 := goodIn_r _ [614, 615, 616] (by decide +kernel) (by decide +kernel)
set_option maxRecDepth 20000 in
theorem ggc_X8_bring_12 : GoodIn wsL_law wsX40 := goodIn_r _ [623, 624, 625, 626, 627, 628] (by decide +kernel) (by decide +kernel)
set_option maxRecDepth 20000 in
theorem ggc_X8_bring_13 : GoodIn wsL_law wsX10 := goodIn_r _ [636, 637, 638, 639, 640, 641, 642, 643, 644] (by decide +kernel) (by decide +kernel)
set_option maxRecDepth 20000 in
theorem ggc_X8_bring_14 : GoodIn wsL_law wsX50 := goodIn_r _ [645, 646, 647] (by decide +kernel) (by decide +kernel)
set_option maxRecDepth 20000 in
theorem ggL_law_X8_bring : GoodIn wsL_law wsX8_bring := goodIn_ca (goodIn_ca (goodIn_ca ((goodIn_app ggc_X8_bring_0 (goodIn_app (goodIn_app (goodIn_app (goodIn_app (goodIn_app (goodIn_app (goodIn_app (goodIn_app (goodIn_app (ggc_X8_bring_1) (goodIn_app (ggc_X8_bring_2) (goodIn_app (ggc_X8_bring_3) (goodIn_app (ggc_X8_bring_4) (goodIn_app (ggc_X8_bring_5) (ggc_X8_bring_6)))))) (ggc_X8_bring_7)) (ggc_X8_bring_8)) (ggc_X8_bring_9)) (ggc_X8_bring_10)) (ggc_X8_bring_11)) (ggc_X8_bring_12)) (ggc_X8_bring_13)) (ggc_X8_bring_14)))) (goodIn_sub (fun _ h => List.mem_append_left _ (List.mem_append_left _ (List.mem_append_right _ h))) (by decide +kernel))) (goodIn_sub (fun _ h => List.mem_append_left _ (List.mem_append_right _ h)) (by decide +kernel))) (goodIn_sub (fun _ h => List.mem_append_right _ h) (by decide +kernel))
set_option maxRecDepth 20000 in
theorem gL_law_X8_bring : GoodIn wsL_law (wsV RL 44 RX8 yX8_bring wsX8_bring) := goodIn_app (goodIn_of _ (by decide +kernel)) ggL_law_X8_bring
set_option maxRecDepth 20000 in
theorem ggc_X8_digest_0 : GoodIn wsL_law [.code yX8_digest cX8_digest 4 (some .long)] := goodIn_r _ [253] (by decide +kernel) (by decide +kernel)
set_option maxRecDepth 20000 in
theorem ggc_X8_digest_1 : GoodIn wsL_law wsX8_digest_r1 := goodIn_r _ [254, 17, 255, 256, 257, 16, 258, 142, 259, 260, 2, 261, 262, 263, 264, 265, 266, 21, 12, 267, 268, 269, 20, 270] (by decide +kernel) (by decide +kernel)
set_option maxRecDepth 20000 in
theorem ggc_X8_digest_2 : GoodIn wsL_law wsX8_digest_r2 := goodIn_r _ [271, 272, 273, 274, 11, 275, 28, 128, 32, 217, 36, 276, 153, 154, 152, 40, 155, 156, 157, 158, 159, 160, 277, 278] (by decide +kernel) (by decide +kernel)
set_option maxRecDepth 20000 in
theorem ggc_X8_digest_3 : GoodIn wsL_law wsX8_digest_r3 := goodIn_r _ [279, 39, 280, 281, 282, 283, 284, 89, 285, 236, 237, 43, 238, 59, 286, 287, 288, 289, 290, 235, 291, 292, 293, 294] (by decide +kernel) (by decide +kernel)
set_option maxRecDepth 20000 in
theorem ggc_X8_digest_4 : GoodIn wsL_law wsX8_digest_r4 := goodIn_r _ [295, 296, 297, 298, 299, 300, 200, 201, 202, 203, 204, 301, 302, 303, 304, 305, 306, 307, 308, 309, 310, 230, 311, 243] (by decide +kernel) (by decide +kernel)
set_option maxRecDepth 20000 in
theorem ggc_X8_digest_5 : GoodIn wsL_law wsX8_digest_r5 := goodIn_r _ [312, 313, 314, 315, 316, 317, 318, 319, 320, 321, 322, 323, 324, 325, 326, 327, 328, 329, 330, 331, 332, 333, 334, 335] (by decide +kernel) (by decide +kernel)
set_option maxRecDepth 20000 in
theorem ggc_X8_digest_6 : GoodIn wsL_law wsX8_digest_r6 := goodIn_r _ [336, 337, 338, 339, 340, 341, 342, 343, 44, 344, 345, 346, 347, 348, 349, 350, 351, 352, 353, 354, 355, 356, 357, 358] (by decide +kernel) (by decide +kernel)
set_option maxRecDepth 20000 in
theorem ggc_X8_digest_7 : GoodIn wsL_law wsX8_digest_r7 := goodIn_r _ [359, 360, 361, 362, 363, 364, 365, 366, 367, 368, 369, 370, 172, 371, 372, 373, 374, 375, 376, 377, 378, 379, 380, 381] (by decide +kernel) (by decide +kernel)
set_option maxRecDepth 20000 in
theorem ggc_X8_digest_8 : GoodIn wsL_law wsX8_digest_r8 := goodIn_r _ [382, 383, 384, 385, 386, 387, 388, 389, 390, 13, 391, 392, 149, 150, 151, 161, 162, 163, 27, 164, 165, 49, 50, 51] (by decide +kernel) (by decide +kernel)
set_option maxRecDepth 20000 in
theorem ggc_X8_digest_9 : GoodIn wsL_law wsX8_digest_r9 := goodIn_r _ [52, 53, 166, 167, 168, 169, 170, 171, 173, 174, 175, 176, 177, 178, 179, 180, 31, 181, 182, 64, 65, 66, 67, 68] (by decide +kernel) (by decide +kernel)
set_option maxRecDepth 20000 in
theorem ggc_X8_digest_10 : GoodIn wsL_law wsX8_digest_r10 := goodIn_r _ [69, 183, 184, 185, 186, 35, 187, 188, 75, 76, 77, 78, 79, 80, 81, 82, 189, 190, 191, 192, 193, 90, 91, 194] (by decide +kernel) (by decide +kernel)
set_option maxRecDepth 20000 in
theorem ggc_X8_digest_11 : GoodIn wsL_law wsX8_digest_r11 := goodIn_r _ [195, 393, 394, 395, 396, 397, 398, 399, 400, 244, 245, 246, 247, 248, 249, 206, 207, 208, 205, 401, 402, 403, 404, 405] (by decide +kernel) (by decide +kernel)
set_option maxRecDepth 20000 in
theorem ggc_X8_digest_12 : GoodIn wsL_law wsX8_digest_r12 := goodIn_r _ [406, 407, 408, 409, 410, 411, 412, 413, 414, 415, 416, 417, 418, 419, 420, 421, 422, 423, 424, 425, 426, 427, 428, 429] (by decide +kernel) (by decide +kernel)
set_option maxRecDepth 20000 in
theorem ggc_X8_digest_13 : GoodIn wsL_law wsX8_digest_r13 := goodIn_r _ [430, 431, 432, 433] (by decide +kernel) (by decide +kernel)
set_option maxRecDepth 20000 in
theorem ggc_X8_digest_14 : GoodIn wsL_law wsX80 := goodIn_r _ [596, 597, 598, 599] (by decide +kernel) (by decide +kernel)
set_option maxRecDepth 20000 in
theorem ggc_X8_digest_15 : GoodIn wsL_law wsX20 := goodIn_r _ [614, 615, 616] (by decide +kernel) (by decide +kernel)
set_option maxRecDepth 20000 in
theorem ggc_X8_digest_16 : GoodIn wsL_law wsX00 := goodIn_r _ [617, 618, 619, 620, 621, 622] (by decide +kernel) (by decide +kernel)
set_option maxRecDepth 20000 in
theorem ggc_X8_digest_17 : GoodIn wsL_law wsX70 := goodIn_r _ [600, 601, 602, 603, 604, 605, 606, 607, 608, 609, 610, 611, 612, 613] (by decide +kernel) (by decide +kernel)
set_option maxRecDepth 20000 in
theorem ggc_X8_digest_18 : GoodIn wsL_law wsX40 := goodIn_r _ [623, 624, 625, 626, 627, 628] (by decide +kernel) (by decide +kernel)
set_option maxRecDepth 20000 in
theorem ggc_X8_digest_19 : GoodIn wsL_law wsX30 := goodIn_r _ [629, 630, 631, 632, 633, 634, 635] (by decide +kernel) (by decide +kernel)
set_option maxRecDepth 20000 in
theorem ggc_X8_digest_20 : GoodIn wsL_law wsX10 := goodIn_r _ [636, 637, 638, 639, 640, 641, 642, 643, 644] (by decide +kernel) (by decide +kernel)
set_option maxRecDepth 20000 in
theorem ggc_X8_digest_21 : GoodIn wsL_law wsX50 := goodIn_r _ [645, 646, 647] (by decide +kernel) (by decide +kernel)
set_option maxRecDepth 20000 in
theorem ggc_X8_digest_22 : GoodIn wsL_law wsX60 := goodIn_r _ [648] (by decide +kernel) (by decide +kernel)
set_option maxRecDepth 20000 in
theorem ggL_law_X8_digest : GoodIn wsL_law wsX8_digest := (goodIn_app ggc_X8_digest_0 (goodIn_app (goodIn_app (goodIn_app (goodIn_app (goodIn_app (goodIn_app (goodIn_app (goodIn_app (goodIn_app (goodIn_app (ggc_X8_digest_1) (goodIn_app (ggc_X8_digest_2) (goodIn_app (ggc_X8_digest_3) (goodIn_app (ggc_X8_digest_4) (goodIn_app (ggc_X8_digest_5) (goodIn_app (ggc_X8_digest_6) (goodIn_app (ggc_X8_digest_7) (goodIn_app (ggc_X8_digest_8) (goodIn_app (ggc_X8_digest_9) (goodIn_app (ggc_X8_digest_10) (goodIn_app (ggc_X8_digest_11) (goodIn_app (ggc_X8_digest_12) (ggc_X8_digest_13))))))))))))) (ggc_X8_digest_14)) (ggc_X8_digest_15)) (ggc_X8_digest_16)) (ggc_X8_digest_17)) (ggc_X8_digest_18)) (ggc_X8_digest_19)) (ggc_X8_digest_20)) (ggc_X8_digest_21)) (ggc_X8_digest_22)))
set_option maxRecDepth 20000 in
theorem gL_law_X8_digest : GoodIn wsL_law (wsV RL 88 RX8 yX8_digest wsX8_digest) := goodIn_app (goodIn_of _ (by decide +kernel)) ggL_law_X8_digest
