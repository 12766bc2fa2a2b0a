theorem dX8_type_11 : decode cX8_type 11 = .ok (.aload_n 0, 1) := by decide +kernel
theorem dX8_type_12 : decode cX8_type 12 = .ok (.getfield 29, 3) := by decide +kernel
theorem dX8_type_15 : decode cX8_type 15 = .ok (.iload_n 1, 1) := by decide +kernel
theorem dX8_type_16 : decode cX8_type 16 = .ok (.invokevirtual 153, 3) := by decide +kernel
theorem dX8_type_19 : decode cX8_type 19 = .ok (.ireturn, 1) := by decide +kernel
set_option maxRecDepth 20000 in
theorem ggX8_clearCommands_X0_empty : GoodIn wsX8_clearCommands wsX0_empty := goodIn_r _ [6, 7, 12, 13, 14, 15, 16, 17] (by decide +kernel) (by decide +kernel)
set_option maxRecDepth 20000 in
theorem gX8_clearCommands_X0_empty : GoodIn wsX8_clearCommands (wsV RX8 156 RX0 yX0_empty wsX0_empty) := goodIn_app (goodIn_of _ (by decide +kernel)) ggX8_clearCommands_X0_empty
theorem dX8_clearCommands_0 : decode cX8_clearCommands 0 = .ok (.aload_n 0, 1) := by decide +kernel
theorem dX8_clearCommands_1 : decode cX8_clearCommands 1 = .ok (.getfield 29, 3) := by decide +kernel
theorem dX8_clearCommands_4 : decode cX8_clearCommands 4 = .ok (.invokevirtual 156, 3) := by decide +kernel
theorem dX8_clearCommands_7 : decode cX8_clearCommands 7 = .ok (.ireturn, 1) := by decide +kernel
set_option maxRecDepth 20000 in
theorem ggX8_runCommands_X0_findFault : GoodIn wsX8_runCommands wsX0_findFault := goodIn_r _ [8, 9, 10, 11, 12, 7, 13, 14, 15, 16, 17, 18, 19, 20, 21, 22, 23, 24, 25, 26, 27, 28, 29, 30, 31, 32, 33, 34, 35, 36, 37, 38, 39, 40, 41, 42, 43, 44, 45, 46, 47, 48, 49, 50, 51, 52, 53, 54, 55, 56, 57, 58, 59, 60, 61, 62, 63, 64, 65, 66, 67, 68, 69, 70, 71, 72, 73, 74, 75, 76, 77, 78, 79, 80, 81, 82, 83, 84, 85, 86, 87, 88, 89, 90, 91, 92, 93, 94, 95, 96, 97, 98, 99, 100, 101, 102, 103, 104, 105, 106, 107, 108, 109, 110, 111, 112, 113, 114, 115, 116, 117, 118, 119, 120, 121, 415, 416, 417, 418, 419, 420, 421] (by decide +kernel) (by decide +kernel)
set_option maxRecDepth 20000 in
theorem gX8_runCommands_X0_findFault : GoodIn wsX8_runCommands (wsV RX8 159 RX0 yX0_findFault wsX0_findFault) := goodIn_app (goodIn_of _ (by decide +kernel)) ggX8_runCommands_X0_findFault
set_option maxRecDepth 20000 in
theorem ggX8_runCommands_X2_save : GoodIn wsX8_runCommands wsX2_save := goodIn_r _ [126, 127, 128, 129, 130, 131, 125, 132, 133, 134, 135, 136, 137, 138, 139, 140, 141, 142, 143, 144, 145, 146, 147, 148, 149, 150, 151, 152, 153, 154, 155, 156, 157, 158, 159, 160, 161, 162, 163, 164, 165, 166, 33, 167, 35, 168, 169, 170, 171, 172, 173, 174, 175, 176, 177, 178, 179, 180, 181, 182, 183, 184, 185, 186, 187, 188, 189, 190, 191, 192, 193, 194, 195, 196, 197, 198, 199, 200, 201, 202, 203, 204, 205, 206, 207, 208, 209, 210, 211, 212, 213, 422, 423, 424, 425, 426, 427, 428, 429, 430, 431, 432, 433, 434, 435, 436, 437, 438, 439, 440, 441, 442, 443, 444, 421, 445, 446, 447, 448, 449, 450, 451, 452, 453, 454, 455, 456, 457, 458, 459, 460, 461, 462, 463] (by decide +kernel) (by decide +kernel)
set_option maxRecDepth 20000 in
theorem gX8_runCommands_X2_save : GoodIn wsX8_runCommands (wsV RX8 41 RX2 yX2_save wsX2_save) := goodIn_app (goodIn_of _ (by decide +kernel)) ggX8_runCommands_X2_save
set_option maxRecDepth 20000 in
theorem ggX8_runCommands_X0_rewind : GoodIn wsX8_runCommands wsX0_rewind := goodIn_r _ [13, 14, 9, 415, 416, 417, 418, 419, 420] (by decide +kernel) (by decide +kernel)
set_option maxRecDepth 20000 in
theorem gX8_runCommands_X0_rewind : GoodIn wsX8_runCommands (wsV RX8 162 RX0 yX0_rewind wsX0_rewind) := goodIn_app (goodIn_of _ (by decide +kernel)) ggX8_runCommands_X0_rewind
set_option maxRecDepth 20000 in
theorem ggX8_runCommands_X0_readNext : GoodIn wsX8_runCommands wsX0_readNext := goodIn_r _ [18, 14, 19, 20, 21, 22, 23, 7, 24, 25, 26, 27, 28, 29, 30, 31, 32, 33, 34, 35, 36, 37, 38, 39, 40, 41, 42, 43, 44, 45, 46, 47, 48, 49, 50, 51, 52, 53, 54, 55, 56, 57, 58, 59, 60, 61, 62, 63, 64, 65, 66, 67, 68, 69, 70, 71, 72, 73, 74, 75, 76, 77, 78, 79, 80, 81, 82, 83, 84, 85, 86, 87, 88, 89, 90, 91, 92, 93, 94, 95, 96, 97, 98, 99, 100, 101, 102, 103, 104, 105, 106, 9, 107, 108, 109, 110, 111, 112, 113, 114, 115, 116, 117, 118, 119, 120, 121, 415, 416, 417, 418, 419, 420, 421] (by decide +kernel) (by decide +kernel)
set_option maxRecDepth 20000 in
theorem gX8_runCommands_X0_readNext : GoodIn wsX8_runCommands (wsV RX8 165 RX0 yX0_readNext wsX0_readNext) := goodIn_app (goodIn_of _ (by decide +kernel)) ggX8_runCommands_X0_readNext
set_option maxRecDepth 20000 in
theorem ggX8_runCommands_X8_carryOut : GoodIn wsX8_runCommands wsX8_carryOut := goodIn_r _ [220, 1, 3, 221, 222, 223, 219, 224, 225, 226, 227, 7, 228, 114, 30, 31, 32, 33, 34, 35, 229, 230, 231, 232, 20, 233, 234, 235, 137, 236, 139, 237, 238, 239, 240, 241, 140, 242, 243, 244, 245, 246, 141, 247, 248, 249, 250, 251, 252, 253, 254, 255, 256, 257, 258, 259, 260, 261, 262, 263, 264, 265, 145, 266, 267, 268, 269, 146, 270, 271, 272, 273, 274, 275, 276, 277, 278, 279, 280, 281, 282, 283, 284, 285, 286, 287, 288, 289, 290, 291, 292, 293, 119, 120, 121, 294, 295, 296, 297, 298, 299, 300, 301, 302, 303, 304, 305, 306, 307, 308, 143, 144, 309, 310, 311, 312, 313, 149, 314, 315, 316, 317, 318, 319, 320, 321, 322, 323, 324, 147, 148, 325, 326, 327, 328, 329, 330, 331, 332, 152, 333, 334, 335, 336, 337, 338, 339, 340, 142, 341, 342, 343, 207, 344, 209, 345, 346, 347, 348, 349, 350, 170, 351, 352, 353, 354, 355, 356, 357, 358, 359, 210, 211, 360, 361, 362, 363, 364, 365, 366, 367, 368, 369, 370, 371, 372, 373, 374, 375, 376, 377, 378, 379, 380, 381, 382, 151, 383, 384, 385, 386, 150, 387, 388, 389, 390, 391, 392, 393, 394, 395, 396, 397, 398, 399, 400, 401, 402, 403, 404, 405, 406, 407, 408, 409, 410, 411, 412, 413, 414, 415, 416, 417, 418, 419, 420, 421, 425, 426, 427, 428, 429, 430, 431, 432, 433, 434, 435, 436, 437, 438, 439, 440, 441, 442, 443, 444, 445, 446, 447, 448, 449, 450, 451, 452, 453, 454, 455, 456, 457, 458, 459, 460, 461, 462, 463] (by decide +kernel) (by decide +kernel)
set_option maxRecDepth 20000 in
theorem gX8_runCommands_X8_carryOut : GoodIn wsX8_runCommands (wsV RX8 169 RX8 yX8_carryOut wsX8_carryOut) := goodIn_app (goodIn_of _ (by decide +kernel)) ggX8_runCommands_X8_carryOut
theorem dX8_runCommands_0 : decode cX8_runCommands 0 = .ok (.aload_n 0, 1) := by decide +kernel
theorem dX8_runCommands_1 : decode cX8_runCommands 1 = .ok (.getfield 29, 3) := by decide +kernel
theorem dX8_runCommands_4 : decode cX8_runCommands 4 = .ok (.invokevirtual 159, 3) := by decide +kernel
theorem dX8_runCommands_7 : decode cX8_runCommands 7 = .ok (.istore_n 1, 1) := by decide +kernel
theorem dX8_runCommands_8 : decode cX8_runCommands 8 = .ok (.iload_n 1, 1) := by decide +kernel
theorem dX8_runCommands_9 : decode cX8_runCommands 9 = .ok (.iconst (-1), 1) := by decide +kernel
theorem dX8_runCommands_10 : decode cX8_runCommands 10 = .ok (.if_icmp .eq 8, 3) := by decide +kernel
theorem dX8_runCommands_13 : decode cX8_runCommands 13 = .ok (.bipush (-10), 2) := by decide +kernel
theorem dX8_runCommands_15 : decode cX8_runCommands 15 = .ok (.iload_n 1, 1) := by decide +kernel
theorem dX8_runCommands_16 : decode cX8_runCommands 16 = .ok (.isub, 1) := by decide +kernel
theorem dX8_runCommands_17 : decode cX8_runCommands 17 = .ok (.ireturn, 1) := by decide +kernel
theorem dX8_runCommands_18 : decode cX8_runCommands 18 = .ok (.aload_n 0, 1) := by decide +kernel
theorem dX8_runCommands_19 : decode cX8_runCommands 19 = .ok (.getfield 22, 3) := by decide +kernel
theorem dX8_runCommands_22 : decode cX8_runCommands 22 = .ok (.aload_n 0, 1) := by decide +kernel
theorem dX8_runCommands_23 : decode cX8_runCommands 23 = .ok (.getfield 10, 3) := by decide +kernel
theorem dX8_runCommands_26 : decode cX8_runCommands 26 = .ok (.invokevirtual 41, 3) := by decide +kernel
theorem dX8_runCommands_29 : decode cX8_runCommands 29 = .ok (.aload_n 0, 1) := by decide +kernel
theorem dX8_runCommands_30 : decode cX8_runCommands 30 = .ok (.getfield 29, 3) := by decide +kernel
theorem dX8_runCommands_33 : decode cX8_runCommands 33 = .ok (.invokevirtual 162, 3) := by decide +kernel
theorem dX8_runCommands_36 : decode cX8_runCommands 36 = .ok (.iconst 0, 1) := by decide +kernel
theorem dX8_runCommands_37 : decode cX8_runCommands 37 = .ok (.istore_n 2, 1) := by decide +kernel
theorem dX8_runCommands_38 : decode cX8_runCommands 38 = .ok (.iload_n 2, 1) := by decide +kernel
theorem dX8_runCommands_39 : decode cX8_runCommands 39 = .ok (.sipush 150, 3) := by decide +kernel
theorem dX8_runCommands_42 : decode cX8_runCommands 42 = .ok (.if_icmp .ge 26, 3) := by decide +kernel
theorem dX8_runCommands_45 : decode cX8_runCommands 45 = .ok (.aload_n 0, 1) := by decide +kernel
theorem dX8_runCommands_46 : decode cX8_runCommands 46 = .ok (.getfield 29, 3) := by decide +kernel
theorem dX8_runCommands_49 : decode cX8_runCommands 49 = .ok (.invokevirtual 165, 3) := by decide +kernel
theorem dX8_runCommands_52 : decode cX8_runCommands 52 = .ok (.ifCond .eq 16, 3) := by decide +kernel
theorem dX8_runCommands_55 : decode cX8_runCommands 55 = .ok (.aload_n 0, 1) := by decide +kernel
theorem dX8_runCommands_56 : decode cX8_runCommands 56 = .ok (.invokevirtual 169, 3) := by decide +kernel
theorem dX8_runCommands_59 : decode cX8_runCommands 59 = .ok (.ifCond .eq 9, 3) := by decide +kernel
theorem dX8_runCommands_62 : decode cX8_runCommands 62 = .ok (.iinc 2 1, 3) := by decide +kernel
theorem dX8_runCommands_65 : decode cX8_runCommands 65 = .ok (.goto (-27), 3) := by decide +kernel
theorem dX8_runCommands_68 : decode cX8_runCommands 68 = .ok (.iload_n 2, 1) := by decide +kernel
theorem dX8_runCommands_69 : decode cX8_runCommands 69 = .ok (.ireturn, 1) := by decide +kernel
set_option maxRecDepth 20000 in
theorem ggX8_undo_X2_size : GoodIn wsX8_undo wsX2_size := goodIn_r _ [7, 8, 115, 116, 117] (by decide +kernel) (by decide +kernel)
set_option maxRecDepth 20000 in
theorem gX8_undo_X2_size : GoodIn wsX8_undo (wsV RX8 172 RX2 yX2_size wsX2_size) := goodIn_app (goodIn_of _ (by decide +kernel)) ggX8_undo_X2_size
set_option maxRecDepth 20000 in
theorem ggX8_undo_X8_refuse : GoodIn wsX8_undo wsX8_refuse := goodIn_ca (goodIn_ca (goodIn_ca (goodIn_r _ [12, 13, 14, 15, 16, 17, 18] (by decide +kernel) (by decide +kernel)) (goodIn_sub (fun _ h => List.mem_cons_of_mem _ (List.mem_append_left _ (List.mem_append_left _ (List.mem_append_right _ h)))) (by decide +kernel))) (goodIn_sub (fun _ h => List.mem_cons_of_mem _ (List.mem_append_left _ (List.mem_append_right _ h))) (by decide +kernel))) (goodIn_sub (fun _ h => List.mem_cons_of_mem _ (List.mem_append_right _ h)) (by decide +kernel))
set_option maxRecDepth 20000 in
theorem gX8_undo_X8_refuse : GoodIn wsX8_undo (va_wsS RX8 37 yX8_refuse wsX8_refuse) := goodIn_app (goodIn_of _ (by decide +kernel)) ggX8_undo_X8_refuse
set_option maxRecDepth 20000 in
theorem ggX8_undo_X2_restoreTo : GoodIn wsX8_undo wsX2_restoreTo := goodIn_r _ [22, 8, 23, 24, 25, 6, 26, 27, 28, 29, 30, 31, 32, 33, 34, 35, 36, 37, 38, 39, 40, 41, 42, 43, 44, 45, 46, 47, 48, 49, 50, 51, 52, 53, 54, 55, 56, 57, 58, 59, 60, 61, 62, 63, 64, 65, 66, 67, 68, 69, 70, 71, 72, 73, 74, 75, 76, 77, 78, 79, 80, 81, 82, 83, 84, 85, 86, 87, 88, 89, 90, 91, 92, 93, 94, 95, 96, 97, 98, 99, 100, 101, 102, 103, 104, 105, 106, 107, 108, 109, 110, 115, 116, 117, 118, 119, 120, 121, 122, 123, 124, 125, 126, 127, 128, 129, 130, 131, 132, 133, 134, 135, 136, 137, 138, 139, 140, 141, 142, 143, 144, 145, 146, 147, 148, 149, 150, 151, 152, 153, 154, 155, 156, 157] (by decide +kernel) (by decide +kernel)
set_option maxRecDepth 20000 in
theorem gX8_undo_X2_restoreTo : GoodIn wsX8_undo (wsV RX8 175 RX2 yX2_restoreTo wsX2_restoreTo) := goodIn_app (goodIn_of _ (by decide +kernel)) ggX8_undo_X2_restoreTo
theorem dX8_undo_0 : decode cX8_undo 0 = .ok (.aload_n 0, 1) := by decide +kernel
theorem dX8_undo_1 : decode cX8_undo 1 = .ok (.getfield 22, 3) := by decide +kernel
theorem dX8_undo_4 : decode cX8_undo 4 = .ok (.invokevirtual 172, 3) := by decide +kernel
theorem dX8_undo_7 : decode cX8_undo 7 = .ok (.ifCond .ne 7, 3) := by decide +kernel
theorem dX8_undo_10 : decode cX8_undo 10 = .ok (.iconst 3, 1) := by decide +kernel
theorem dX8_undo_11 : decode cX8_undo 11 = .ok (.goto 4, 3) := by decide +kernel
theorem dX8_undo_14 : decode cX8_undo 14 = .ok (.iconst 0, 1) := by decide +kernel
theorem dX8_undo_15 : decode cX8_undo 15 = .ok (.invokestatic 37, 3) := by decide +kernel
theorem dX8_undo_18 : decode cX8_undo 18 = .ok (.aload_n 0, 1) := by decide +kernel
theorem dX8_undo_19 : decode cX8_undo 19 = .ok (.getfield 22, 3) := by decide +kernel
theorem dX8_undo_22 : decode cX8_undo 22 = .ok (.aload_n 0, 1) := by decide +kernel
theorem dX8_undo_23 : decode cX8_undo 23 = .ok (.getfield 10, 3) := by decide +kernel
theorem dX8_undo_26 : decode cX8_undo 26 = .ok (.invokevirtual 175, 3) := by decide +kernel
theorem dX8_undo_29 : decode cX8_undo 29 = .ok (.aload_n 0, 1) := by decide +kernel
theorem dX8_undo_30 : decode cX8_undo 30 = .ok (.getfield 22, 3) := by decide +kernel
theorem dX8_undo_33 : decode cX8_undo 33 = .ok (.invokevirtual 172, 3) := by decide +kernel
theorem dX8_undo_36 : decode cX8_undo 36 = .ok (.ireturn, 1) := by decide +kernel
set_option maxRecDepth 20000 in
theorem ggX8_digest_X2_size : GoodIn wsX8_digest wsX2_size := goodIn_r _ [7, 8, 297, 298, 299] (by decide +kernel) (by decide +kernel)
set_option maxRecDepth 20000 in
theorem gX8_digest_X2_size : GoodIn wsX8_digest (wsV RX8 172 RX2 yX2_size wsX2_size) := goodIn_app (goodIn_of _ (by decide +kernel)) ggX8_digest_X2_size
set_option maxRecDepth 20000 in
theorem ggX8_digest_X8_mixed : GoodIn wsX8_digest wsX8_mixed := goodIn_r _ [12, 13] (by decide +kernel) (by decide +kernel)
set_option maxRecDepth 20000 in
theorem gX8_digest_X8_mixed : GoodIn wsX8_digest (va_wsS RX8 180 yX8_mixed wsX8_mixed) := goodIn_app (goodIn_of _ (by decide +kernel)) ggX8_digest_X8_mixed
set_option maxRecDepth 20000 in
theorem ggX8_digest_X8_valueOfWhole : GoodIn wsX8_digest wsX8_valueOfWhole := goodIn_r _ [17, 18, 19, 20, 21, 22, 23, 24, 25, 26, 27, 28, 29, 30, 31, 32, 33, 34, 35, 36, 37, 38, 39, 40, 41, 42, 43, 44, 45, 46, 47, 48, 49, 50, 51, 52, 53, 54, 55, 56, 57, 58, 59, 60, 61, 62, 63, 64, 65, 66, 67, 68, 293, 294, 295, 296, 300, 301, 302, 303, 304, 305, 306, 307, 308, 309, 310, 311, 312, 313, 314, 315, 316, 317, 318, 319, 320, 321, 322, 323, 324, 325, 326, 327, 328, 329, 330, 331, 332, 333, 334, 335, 336, 337, 338, 339, 340, 341, 342, 343, 344, 345] (by decide +kernel) (by decide +kernel)
set_option maxRecDepth 20000 in
theorem gX8_digest_X8_valueOfWhole : GoodIn wsX8_digest (wsV RX8 120 RX8 yX8_valueOfWhole wsX8_valueOfWhole) := goodIn_app (goodIn_of _ (by decide +kernel)) ggX8_digest_X8_valueOfWhole
set_option maxRecDepth 20000 in
theorem ggX8_digest_X8_mixedKinds : GoodIn wsX8_digest wsX8_mixedKinds := goodIn_r _ [72, 19, 73, 74, 75, 76, 77, 29, 78, 31, 79, 80, 81, 82, 83, 68, 58, 59, 60, 61, 62, 9, 10, 11, 12, 13, 293, 294, 295, 296, 306, 307, 308, 309, 310, 311, 312, 313, 314, 315, 316, 317, 318, 319, 320, 321, 322, 323, 324, 325, 345] (by decide +kernel) (by decide +kernel)
set_option maxRecDepth 20000 in
theorem gX8_digest_X8_mixedKinds : GoodIn wsX8_digest (wsV RX8 184 RX8 yX8_mixedKinds wsX8_mixedKinds) := goodIn_app (goodIn_of _ (by decide +kernel)) ggX8_digest_X8_mixedKinds
set_option maxRecDepth 20000 in
theorem ggX8_digest_X8_mixedHouses : GoodIn wsX8_digest wsX8_mixedHouses := goodIn_r _ [87, 19, 88, 89, 90, 91, 92, 29, 93, 33, 94, 67, 95, 96, 97, 98, 68, 58, 59, 60, 61, 62, 99, 100, 101, 102, 35, 36, 103, 9, 10, 11, 12, 13, 104, 105, 106, 107, 41, 34, 63, 64, 65, 66, 293, 294, 295, 296, 306, 307, 308, 309, 310, 311, 312, 313, 314, 315, 316, 317, 318, 319, 326, 327, 328, 329, 330, 331, 332, 345, 333, 334, 335, 336, 337, 338, 339, 340, 341] (by decide +kernel) (by decide +kernel)
set_option maxRecDepth 20000 in
theorem gX8_digest_X8_mixedHouses : GoodIn wsX8_digest (wsV RX8 188 RX8 yX8_mixedHouses wsX8_mixedHouses) := goodIn_app (goodIn_of _ (by decide +kernel)) ggX8_digest_X8_mixedHouses
set_option maxRecDepth 20000 in
theorem ggX8_digest_X8_mixedDoughs : GoodIn wsX8_digest wsX8_mixedDoughs := goodIn_r _ [111, 19, 112, 113, 114, 115, 116, 29, 117, 35, 103, 118, 119, 120, 121, 122, 123, 124, 68, 58, 59, 60, 61, 62, 125, 126, 127, 128, 39, 129, 130, 131, 132, 133, 40, 134, 9, 10, 11, 12, 13, 135, 136, 137, 138, 37, 139, 140, 141, 142, 143, 144, 145, 146, 36, 147, 148, 149, 150, 31, 79, 80, 82, 151, 53, 54, 50, 55, 56, 57, 152, 153, 154, 155, 156, 157, 158, 293, 294, 295, 296, 306, 307, 308, 309, 310, 311, 312, 313, 314, 315, 316, 317, 318, 319, 333, 334, 335, 336, 337, 338, 339, 340, 341, 345, 342, 343, 344, 320, 321, 322, 323, 324, 325] (by decide +kernel) (by decide +kernel)
set_option maxRecDepth 20000 in
theorem gX8_digest_X8_mixedDoughs : GoodIn wsX8_digest (wsV RX8 191 RX8 yX8_mixedDoughs wsX8_mixedDoughs) := goodIn_app (goodIn_of _ (by decide +kernel)) ggX8_digest_X8_mixedDoughs
set_option maxRecDepth 20000 in
theorem ggX8_digest_X8_mixedPlaces : GoodIn wsX8_digest wsX8_mixedPlaces := goodIn_r _ [162, 19, 163, 164, 165, 166, 29, 167, 37, 40, 134, 168, 169, 152, 153, 154, 155, 156, 157, 158, 151, 53, 54, 50, 55, 56, 57, 58, 59, 60, 61, 62, 68, 9, 10, 11, 12, 13, 170, 171, 172, 173, 39, 129, 293, 294, 295, 296, 306, 307, 308, 309, 310, 311, 312, 313, 314, 315, 316, 317, 318, 319, 342, 343, 344, 345] (by decide +kernel) (by decide +kernel)
set_option maxRecDepth 20000 in
theorem gX8_digest_X8_mixedPlaces : GoodIn wsX8_digest (wsV RX8 194 RX8 yX8_mixedPlaces wsX8_mixedPlaces) := goodIn_app (goodIn_of _ (by decide +kernel)) ggX8_digest_X8_mixedPlaces
set_option maxRecDepth 20000 in
theorem ggX8_digest_X8_heatAfter : GoodIn wsX8_digest wsX8_heatAfter := goodIn_r _ [177, 178, 19, 179, 180, 181, 182, 29, 183, 31, 33, 35, 40, 129, 39, 37, 38, 41, 42, 43, 44, 45, 46, 184, 185, 186, 187, 188, 189, 190, 191, 192, 193, 194, 195, 196, 197, 60, 198, 62, 199, 200, 157, 201, 202, 203, 204, 205, 206, 207, 208, 209, 210, 211, 212, 213, 214, 215, 216, 217, 218, 219, 220, 221, 222, 223, 224, 225, 226, 227, 228, 229, 230, 231, 232, 233, 234, 235, 236, 50, 237, 56, 238, 239, 240, 241, 242, 243, 244, 245, 246, 247, 248, 249, 118, 120, 82, 83, 121, 68, 58, 59, 61, 250, 251, 252, 253, 254, 255, 256, 257, 258, 259, 260, 261, 262, 263, 119, 122, 147, 148, 149, 150, 79, 80, 151, 53, 54, 55, 57, 152, 153, 154, 155, 156, 158, 264, 265, 266, 267, 123, 268, 269, 270, 271, 272, 273, 274, 275, 276, 134, 168, 169, 67, 103, 277, 278, 279, 280, 36, 281, 282, 283, 284, 81, 285, 286, 287, 288, 124, 97, 98, 289, 290, 291, 292, 293, 294, 295, 296, 306, 307, 308, 309, 310, 311, 312, 313, 314, 315, 316, 317, 318, 319, 320, 321, 322, 323, 324, 325, 345, 326, 327, 328, 329, 330, 331, 332, 333, 334, 335, 336, 337, 338, 339, 340, 341, 342, 343, 344] (by decide +kernel) (by decide +kernel)
set_option maxRecDepth 20000 in
theorem gX8_digest_X8_heatAfter : GoodIn wsX8_digest (wsV RX8 141 RX8 yX8_heatAfter wsX8_heatAfter) := goodIn_app (goodIn_of _ (by decide +kernel)) ggX8_digest_X8_heatAfter
theorem dX8_digest_0 : decode cX8_digest 0 = .ok (.ldc2_w 178, 3) := by decide +kernel
theorem dX8_digest_3 : decode cX8_digest 3 = .ok (.aload_n 0, 1) := by decide +kernel
theorem dX8_digest_4 : decode cX8_digest 4 = .ok (.getfield 22, 3) := by decide +kernel
theorem dX8_digest_7 : decode cX8_digest 7 = .ok (.invokevirtual 172, 3) := by decide +kernel
theorem dX8_digest_10 : decode cX8_digest 10 = .ok (.invokestatic 180, 3) := by decide +kernel
theorem dX8_digest_13 : decode cX8_digest 13 = .ok (.lstore_n 1, 1) := by decide +kernel
theorem dX8_digest_14 : decode cX8_digest 14 = .ok (.iconst 0, 1) := by decide +kernel
theorem dX8_digest_15 : decode cX8_digest 15 = .ok (.istore_n 3, 1) := by decide +kernel
theorem dX8_digest_16 : decode cX8_digest 16 = .ok (.iload_n 3, 1) := by decide +kernel
theorem dX8_digest_17 : decode cX8_digest 17 = .ok (.bipush 15, 2) := by decide +kernel
theorem dX8_digest_19 : decode cX8_digest 19 = .ok (.if_icmp .ge 19, 3) := by decide +kernel
theorem dX8_digest_22 : decode cX8_digest 22 = .ok (.lload_n 1, 1) := by decide +kernel
theorem dX8_digest_23 : decode cX8_digest 23 = .ok (.aload_n 0, 1) := by decide +kernel
theorem dX8_digest_24 : decode cX8_digest 24 = .ok (.iload_n 3, 1) := by decide +kernel
theorem dX8_digest_25 : decode cX8_digest 25 = .ok (.invokevirtual 120, 3) := by decide +kernel
theorem dX8_digest_28 : decode cX8_digest 28 = .ok (.invokestatic 180, 3) := by decide +kernel
theorem dX8_digest_31 : decode cX8_digest 31 = .ok (.lstore_n 1, 1) := by decide +kernel
theorem dX8_digest_32 : decode cX8_digest 32 = .ok (.iinc 3 1, 3) := by decide +kernel
theorem dX8_digest_35 : decode cX8_digest 35 = .ok (.goto (-19), 3) := by decide +kernel
theorem dX8_digest_38 : decode cX8_digest 38 = .ok (.aload_n 0, 1) := by decide +kernel
theorem dX8_digest_39 : decode cX8_digest 39 = .ok (.lload_n 1, 1) := by decide +kernel
theorem dX8_digest_40 : decode cX8_digest 40 = .ok (.invokevirtual 184, 3) := by decide +kernel
theorem dX8_digest_43 : decode cX8_digest 43 = .ok (.lstore_n 1, 1) := by decide +kernel
theorem dX8_digest_44 : decode cX8_digest 44 = .ok (.aload_n 0, 1) := by decide +kernel
theorem dX8_digest_45 : decode cX8_digest 45 = .ok (.lload_n 1, 1) := by decide +kernel
theorem dX8_digest_46 : decode cX8_digest 46 = .ok (.invokevirtual 188, 3) := by decide +kernel
theorem dX8_digest_49 : decode cX8_digest 49 = .ok (.lstore_n 1, 1) := by decide +kernel
theorem dX8_digest_50 : decode cX8_digest 50 = .ok (.aload_n 0, 1) := by decide +kernel
theorem dX8_digest_51 : decode cX8_digest 51 = .ok (.lload_n 1, 1) := by decide +kernel
theorem dX8_digest_52 : decode cX8_digest 52 = .ok (.invokevirtual 191, 3) := by decide +kernel
theorem dX8_digest_55 : decode cX8_digest 55 = .ok (.lstore_n 1, 1) := by decide +kernel
theorem dX8_digest_56 : decode cX8_digest 56 = .ok (.aload_n 0, 1) := by decide +kernel
theorem dX8_digest_57 : decode cX8_digest 57 = .ok (.lload_n 1, 1) := by decide +kernel
theorem dX8_digest_58 : decode cX8_digest 58 = .ok (.invokevirtual 194, 3) := by decide +kernel
theorem dX8_digest_61 : decode cX8_digest 61 = .ok (.lstore_n 1, 1) := by decide +kernel
theorem dX8_digest_62 : decode cX8_digest 62 = .ok (.lload_n 1, 1) := by decide +kernel
theorem dX8_digest_63 : decode cX8_digest 63 = .ok (.aload_n 0, 1) := by decide +kernel
theorem dX8_digest_64 : decode cX8_digest 64 = .ok (.bipush 10, 2) := by decide +kernel
theorem dX8_digest_66 : decode cX8_digest 66 = .ok (.invokevirtual 141, 3) := by decide +kernel
theorem dX8_digest_69 : decode cX8_digest 69 = .ok (.invokestatic 180, 3) := by decide +kernel
theorem dX8_digest_72 : decode cX8_digest 72 = .ok (.lreturn, 1) := by decide +kernel
theorem dX8_refuse_0 : decode cX8_refuse 0 = .ok (.iload_n 0, 1) := by decide +kernel
theorem dX8_refuse_1 : decode cX8_refuse 1 = .ok (.tableswitch 57 1 3 #[27, 37, 47], 27) := by decide +kernel
theorem dX8_refuse_28 : decode cX8_refuse 28 = .ok (.new 197, 3) := by decide +kernel
theorem dX8_refuse_31 : decode cX8_refuse 31 = .ok (.dup, 1) := by decide +kernel
theorem dX8_refuse_32 : decode cX8_refuse 32 = .ok (.ldc 199, 2) := by decide +kernel
theorem dX8_refuse_34 : decode cX8_refuse 34 = .ok (.invokespecial 201, 3) := by decide +kernel
theorem dX8_refuse_37 : decode cX8_refuse 37 = .ok (.athrow, 1) := by decide +kernel
theorem dX8_refuse_38 : decode cX8_refuse 38 = .ok (.new 204, 3) := by decide +kernel
theorem dX8_refuse_41 : decode cX8_refuse 41 = .ok (.dup, 1) := by decide +kernel
theorem dX8_refuse_42 : decode cX8_refuse 42 = .ok (.ldc 206, 2) := by decide +kernel
theorem dX8_refuse_44 : decode cX8_refuse 44 = .ok (.invokespecial 208, 3) := by decide +kernel
theorem dX8_refuse_47 : decode cX8_refuse 47 = .ok (.athrow, 1) := by decide +kernel
theorem dX8_refuse_48 : decode cX8_refuse 48 = .ok (.new 209, 3) := by decide +kernel
theorem dX8_refuse_51 : decode cX8_refuse 51 = .ok (.dup, 1) := by decide +kernel
theorem dX8_refuse_52 : decode cX8_refuse 52 = .ok (.ldc 211, 2) := by decide +kernel
theorem dX8_refuse_54 : decode cX8_refuse 54 = .ok (.invokespecial 213, 3) := by decide +kernel
theorem dX8_refuse_57 : decode cX8_refuse 57 = .ok (.athrow, 1) := by decide +kernel
theorem dX8_refuse_58 : decode cX8_refuse 58 = .ok (.return_, 1) := by decide +kernel
theorem dX8_refusalOfValue_0 : decode cX8_refusalOfValue 0 = .ok (.iload_n 0, 1) := by decide +kernel
theorem dX8_refusalOfValue_1 : decode cX8_refusalOfValue 1 = .ok (.ifCond .ne 5, 3) := by decide +kernel
theorem dX8_refusalOfValue_4 : decode cX8_refusalOfValue 4 = .ok (.iconst 1, 1) := by decide +kernel
theorem dX8_refusalOfValue_5 : decode cX8_refusalOfValue 5 = .ok (.ireturn, 1) := by decide +kernel
theorem dX8_refusalOfValue_6 : decode cX8_refusalOfValue 6 = .ok (.iload_n 1, 1) := by decide +kernel
theorem dX8_refusalOfValue_7 : decode cX8_refusalOfValue 7 = .ok (.ifCond .lt 8, 3) := by decide +kernel
theorem dX8_refusalOfValue_10 : decode cX8_refusalOfValue 10 = .ok (.iload_n 1, 1) := by decide +kernel
theorem dX8_refusalOfValue_11 : decode cX8_refusalOfValue 11 = .ok (.iload_n 2, 1) := by decide +kernel
theorem dX8_refusalOfValue_12 : decode cX8_refusalOfValue 12 = .ok (.if_icmp .lt 7, 3) := by decide +kernel
theorem dX8_refusalOfValue_15 : decode cX8_refusalOfValue 15 = .ok (.iconst 2, 1) := by decide +kernel
theorem dX8_refusalOfValue_16 : decode cX8_refusalOfValue 16 = .ok (.goto 4, 3) := by decide +kernel
theorem dX8_refusalOfValue_19 : decode cX8_refusalOfValue 19 = .ok (.iconst 0, 1) := by decide +kernel
theorem dX8_refusalOfValue_20 : decode cX8_refusalOfValue 20 = .ok (.ireturn, 1) := by decide +kernel
set_option maxRecDepth 20000 in
theorem ggX8_valueOfWhole_X0_length : GoodIn wsX8_valueOfWhole wsX0_length := goodIn_r _ [7, 8, 56, 57, 58, 59, 60, 61] (by decide +kernel) (by decide +kernel)
set_option maxRecDepth 20000 in
theorem gX8_valueOfWhole_X0_length : GoodIn wsX8_valueOfWhole (wsV RX8 214 RX0 yX0_length wsX0_length) := goodIn_app (goodIn_of _ (by decide +kernel)) ggX8_valueOfWhole_X0_length
set_option maxRecDepth 20000 in
theorem ggX8_valueOfWhole_X7_valueOfWholeHouse : GoodIn wsX8_valueOfWhole wsX7_valueOfWholeHouse := goodIn_r _ [13, 14, 15, 16, 17, 18, 19, 20, 21, 22, 23, 24, 25, 26, 27, 28, 29, 30, 31, 32, 33, 34, 35, 36, 37, 38, 39, 40, 41, 42, 43, 44, 45, 46, 47, 48, 12, 49, 50, 51, 62, 63, 64, 65, 66, 67, 68, 69, 70, 71, 72, 73, 74, 75, 76, 77, 78, 79, 80, 81, 82, 83, 84, 85, 86, 87, 88, 89, 90, 91, 92, 93, 94, 95, 96, 97, 98, 99, 100, 101] (by decide +kernel) (by decide +kernel)
set_option maxRecDepth 20000 in
theorem gX8_valueOfWhole_X7_valueOfWholeHouse : GoodIn wsX8_valueOfWhole (wsV RX8 217 RX7 yX7_valueOfWholeHouse wsX7_valueOfWholeHouse) := goodIn_app (goodIn_of _ (by decide +kernel)) ggX8_valueOfWhole_X7_valueOfWholeHouse
theorem dX8_valueOfWhole_0 : decode cX8_valueOfWhole 0 = .ok (.iload_n 1, 1) := by decide +kernel
theorem dX8_valueOfWhole_1 : decode cX8_valueOfWhole 1 = .ok (.bipush 14, 2) := by decide +kernel
theorem dX8_valueOfWhole_3 : decode cX8_valueOfWhole 3 = .ok (.if_icmp .ne 13, 3) := by decide +kernel
theorem dX8_valueOfWhole_6 : decode cX8_valueOfWhole 6 = .ok (.aload_n 0, 1) := by decide +kernel
theorem dX8_valueOfWhole_7 : decode cX8_valueOfWhole 7 = .ok (.getfield 29, 3) := by decide +kernel
theorem dX8_valueOfWhole_10 : decode cX8_valueOfWhole 10 = .ok (.invokevirtual 214, 3) := by decide +kernel
theorem dX8_valueOfWhole_13 : decode cX8_valueOfWhole 13 = .ok (.goto 11, 3) := by decide +kernel
theorem dX8_valueOfWhole_16 : decode cX8_valueOfWhole 16 = .ok (.aload_n 0, 1) := by decide +kernel
theorem dX8_valueOfWhole_17 : decode cX8_valueOfWhole 17 = .ok (.getfield 10, 3) := by decide +kernel
theorem dX8_valueOfWhole_20 : decode cX8_valueOfWhole 20 = .ok (.iload_n 1, 1) := by decide +kernel
theorem dX8_valueOfWhole_21 : decode cX8_valueOfWhole 21 = .ok (.invokevirtual 217, 3) := by decide +kernel
theorem dX8_valueOfWhole_24 : decode cX8_valueOfWhole 24 = .ok (.ireturn, 1) := by decide +kernel
set_option maxRecDepth 20000 in
theorem ggX8_heatAfter_X7_copyFrom : GoodIn wsX8_heatAfter wsX7_copyFrom := goodIn_r _ [8, 9, 10, 11, 12, 13, 14, 15, 16, 17, 18, 19, 20, 21, 22, 23, 24, 25, 26, 27, 28, 29, 30, 31, 32, 33, 34, 35, 36, 37, 38, 39, 40, 41, 42, 43, 44, 45, 46, 47, 48, 49, 50, 51, 52, 53, 54, 55, 56, 57, 58, 59, 60, 61, 62, 63, 64, 65, 66, 67, 68, 69, 70, 71, 72, 73, 74, 75, 76, 77, 78, 79, 80, 81, 82, 83, 84, 85, 180, 181, 182, 183, 184, 185, 186, 187, 188, 189, 190, 191, 192, 193, 194, 195, 196, 197, 198, 199, 200, 201, 202, 203, 204, 205, 206, 207, 208, 209, 210, 211, 212, 213, 214, 215, 216, 217, 218, 219] (by decide +kernel) (by decide +kernel)
set_option maxRecDepth 20000 in
theorem gX8_heatAfter_X7_copyFrom : GoodIn wsX8_heatAfter (wsV RX8 132 RX7 yX7_copyFrom wsX7_copyFrom) := goodIn_app (goodIn_of _ (by decide +kernel)) ggX8_heatAfter_X7_copyFrom
set_option maxRecDepth 20000 in
theorem ggX8_heatAfter_X7_passTicks : GoodIn wsX8_heatAfter wsX7_passTicks := goodIn_r _ [89, 16, 90, 91, 92, 7, 93, 14, 13, 11, 94, 95, 9, 96, 97, 98, 22, 99, 100, 101, 37, 102, 39, 103, 104, 105, 106, 107, 108, 109, 110, 111, 112, 113, 114, 115, 116, 15, 117, 118, 119, 120, 121, 122, 12, 123, 124, 125, 126, 127, 79, 128, 81, 129, 130, 131, 132, 133, 134, 42, 135, 136, 137, 138, 139, 140, 141, 142, 143, 144, 82, 83, 145, 146, 147, 148, 149, 150, 151, 152, 10, 153, 154, 155, 156, 157, 158, 159, 160, 161, 162, 163, 164, 165, 166, 167, 168, 169, 170, 171, 21, 172, 173, 174, 175, 20, 180, 181, 182, 183, 184, 185, 186, 187, 188, 189, 190, 191, 192, 193, 208, 209, 210, 211, 212, 213, 214, 215, 216, 194, 195, 196, 197, 198, 199, 200, 217, 218, 219, 201, 202, 203, 204, 205, 206, 207] (by decide +kernel) (by decide +kernel)
set_option maxRecDepth 20000 in
theorem gX8_heatAfter_X7_passTicks : GoodIn wsX8_heatAfter (wsV RX8 91 RX7 yX7_passTicks wsX7_passTicks) := goodIn_app (goodIn_of _ (by decide +kernel)) ggX8_heatAfter_X7_passTicks
theorem dX8_heatAfter_0 : decode cX8_heatAfter 0 = .ok (.aload_n 0, 1) := by decide +kernel
theorem dX8_heatAfter_1 : decode cX8_heatAfter 1 = .ok (.getfield 16, 3) := by decide +kernel
theorem dX8_heatAfter_4 : decode cX8_heatAfter 4 = .ok (.aload_n 0, 1) := by decide +kernel
theorem dX8_heatAfter_5 : decode cX8_heatAfter 5 = .ok (.getfield 10, 3) := by decide +kernel
theorem dX8_heatAfter_8 : decode cX8_heatAfter 8 = .ok (.invokevirtual 132, 3) := by decide +kernel
theorem dX8_heatAfter_11 : decode cX8_heatAfter 11 = .ok (.aload_n 0, 1) := by decide +kernel
theorem dX8_heatAfter_12 : decode cX8_heatAfter 12 = .ok (.getfield 16, 3) := by decide +kernel
theorem dX8_heatAfter_15 : decode cX8_heatAfter 15 = .ok (.iload_n 1, 1) := by decide +kernel
theorem dX8_heatAfter_16 : decode cX8_heatAfter 16 = .ok (.invokevirtual 91, 3) := by decide +kernel
theorem dX8_heatAfter_19 : decode cX8_heatAfter 19 = .ok (.pop, 1) := by decide +kernel
theorem dX8_heatAfter_20 : decode cX8_heatAfter 20 = .ok (.aload_n 0, 1) := by decide +kernel
theorem dX8_heatAfter_21 : decode cX8_heatAfter 21 = .ok (.getfield 16, 3) := by decide +kernel
theorem dX8_heatAfter_24 : decode cX8_heatAfter 24 = .ok (.getfield 220, 3) := by decide +kernel
theorem dX8_heatAfter_27 : decode cX8_heatAfter 27 = .ok (.ireturn, 1) := by decide +kernel
theorem dX8_mixed_0 : decode cX8_mixed 0 = .ok (.ldc2_w 224, 3) := by decide +kernel
theorem dX8_mixed_3 : decode cX8_mixed 3 = .ok (.lload_n 0, 1) := by decide +kernel
theorem dX8_mixed_4 : decode cX8_mixed 4 = .ok (.lmul, 1) := by decide +kernel
theorem dX8_mixed_5 : decode cX8_mixed 5 = .ok (.iload_n 2, 1) := by decide +kernel
theorem dX8_mixed_6 : decode cX8_mixed 6 = .ok (.i2l, 1) := by decide +kernel
theorem dX8_mixed_7 : decode cX8_mixed 7 = .ok (.ladd, 1) := by decide +kernel
theorem dX8_mixed_8 : decode cX8_mixed 8 = .ok (.lreturn, 1) := by decide +kernel
set_option maxRecDepth 20000 in
theorem ggX8_mixedKinds_X7_valueOfKind : GoodIn wsX8_mixedKinds wsX7_valueOfKind := goodIn_r _ [8, 9, 10, 11, 12, 13, 14, 15, 16, 17, 18, 19, 20, 30, 31, 32, 33, 34, 35, 36, 37, 38, 39, 40, 41, 42, 43, 44, 45, 46, 47, 48, 49, 50] (by decide +kernel) (by decide +kernel)
set_option maxRecDepth 20000 in
theorem gX8_mixedKinds_X7_valueOfKind : GoodIn wsX8_mixedKinds (wsV RX8 102 RX7 yX7_valueOfKind wsX7_valueOfKind) := goodIn_app (goodIn_of _ (by decide +kernel)) ggX8_mixedKinds_X7_valueOfKind
set_option maxRecDepth 20000 in
theorem ggX8_mixedKinds_X8_mixed : GoodIn wsX8_mixedKinds wsX8_mixed := goodIn_r _ [24, 25] (by decide +kernel) (by decide +kernel)
set_option maxRecDepth 20000 in
theorem gX8_mixedKinds_X8_mixed : GoodIn wsX8_mixedKinds (va_wsS RX8 180 yX8_mixed wsX8_mixed) := goodIn_app (goodIn_of _ (by decide +kernel)) ggX8_mixedKinds_X8_mixed
theorem dX8_mixedKinds_0 : decode cX8_mixedKinds 0 = .ok (.lload_n 1, 1) := by decide +kernel
theorem dX8_mixedKinds_1 : decode cX8_mixedKinds 1 = .ok (.lstore_n 3, 1) := by decide +kernel
theorem dX8_mixedKinds_2 : decode cX8_mixedKinds 2 = .ok (.iconst 0, 1) := by decide +kernel
theorem dX8_mixedKinds_3 : decode cX8_mixedKinds 3 = .ok (.istore 5, 2) := by decide +kernel
theorem dX8_mixedKinds_5 : decode cX8_mixedKinds 5 = .ok (.iload 5, 2) := by decide +kernel
theorem dX8_mixedKinds_7 : decode cX8_mixedKinds 7 = .ok (.aload_n 0, 1) := by decide +kernel
theorem dX8_mixedKinds_8 : decode cX8_mixedKinds 8 = .ok (.getfield 10, 3) := by decide +kernel
theorem dX8_mixedKinds_11 : decode cX8_mixedKinds 11 = .ok (.getfield 226, 3) := by decide +kernel
theorem dX8_mixedKinds_14 : decode cX8_mixedKinds 14 = .ok (.getfield 230, 3) := by decide +kernel
theorem dX8_mixedKinds_17 : decode cX8_mixedKinds 17 = .ok (.if_icmp .ge 40, 3) := by decide +kernel
theorem dX8_mixedKinds_20 : decode cX8_mixedKinds 20 = .ok (.iconst 0, 1) := by decide +kernel
theorem dX8_mixedKinds_21 : decode cX8_mixedKinds 21 = .ok (.istore 6, 2) := by decide +kernel
theorem dX8_mixedKinds_23 : decode cX8_mixedKinds 23 = .ok (.iload 6, 2) := by decide +kernel
theorem dX8_mixedKinds_25 : decode cX8_mixedKinds 25 = .ok (.iconst 5, 1) := by decide +kernel
theorem dX8_mixedKinds_26 : decode cX8_mixedKinds 26 = .ok (.if_icmp .ge 25, 3) := by decide +kernel
theorem dX8_mixedKinds_29 : decode cX8_mixedKinds 29 = .ok (.lload_n 3, 1) := by decide +kernel
theorem dX8_mixedKinds_30 : decode cX8_mixedKinds 30 = .ok (.aload_n 0, 1) := by decide +kernel
theorem dX8_mixedKinds_31 : decode cX8_mixedKinds 31 = .ok (.getfield 10, 3) := by decide +kernel
theorem dX8_mixedKinds_34 : decode cX8_mixedKinds 34 = .ok (.iload 5, 2) := by decide +kernel
theorem dX8_mixedKinds_36 : decode cX8_mixedKinds 36 = .ok (.iload 6, 2) := by decide +kernel
theorem dX8_mixedKinds_38 : decode cX8_mixedKinds 38 = .ok (.invokevirtual 102, 3) := by decide +kernel
theorem dX8_mixedKinds_41 : decode cX8_mixedKinds 41 = .ok (.invokestatic 180, 3) := by decide +kernel
theorem dX8_mixedKinds_44 : decode cX8_mixedKinds 44 = .ok (.lstore_n 3, 1) := by decide +kernel
theorem dX8_mixedKinds_45 : decode cX8_mixedKinds 45 = .ok (.iinc 6 1, 3) := by decide +kernel
theorem dX8_mixedKinds_48 : decode cX8_mixedKinds 48 = .ok (.goto (-25), 3) := by decide +kernel
theorem dX8_mixedKinds_51 : decode cX8_mixedKinds 51 = .ok (.iinc 5 1, 3) := by decide +kernel
theorem dX8_mixedKinds_54 : decode cX8_mixedKinds 54 = .ok (.goto (-49), 3) := by decide +kernel
theorem dX8_mixedKinds_57 : decode cX8_mixedKinds 57 = .ok (.lload_n 3, 1) := by decide +kernel
theorem dX8_mixedKinds_58 : decode cX8_mixedKinds 58 = .ok (.lreturn, 1) := by decide +kernel
set_option maxRecDepth 20000 in
theorem ggX8_mixedHouses_X7_valueOfHouse : GoodIn wsX8_mixedHouses wsX7_valueOfHouse := goodIn_r _ [8, 9, 10, 11, 12, 13, 14, 15, 16, 17, 18, 19, 20, 21, 22, 23, 24, 7, 25, 26, 27, 28, 48, 49, 50, 51, 52, 53, 54, 55, 56, 57, 58, 59, 60, 61, 62, 63, 64, 65, 66, 67, 68, 69, 70, 71, 72, 73, 74, 75, 76, 77, 78] (by decide +kernel) (by decide +kernel)
set_option maxRecDepth 20000 in
theorem gX8_mixedHouses_X7_valueOfHouse : GoodIn wsX8_mixedHouses (wsV RX8 108 RX7 yX7_valueOfHouse wsX7_valueOfHouse) := goodIn_app (goodIn_of _ (by decide +kernel)) ggX8_mixedHouses_X7_valueOfHouse
set_option maxRecDepth 20000 in
theorem ggX8_mixedHouses_X8_mixed : GoodIn wsX8_mixedHouses wsX8_mixed := goodIn_r _ [32, 33] (by decide +kernel) (by decide +kernel)
set_option maxRecDepth 20000 in
theorem gX8_mixedHouses_X8_mixed : GoodIn wsX8_mixedHouses (va_wsS RX8 180 yX8_mixed wsX8_mixed) := goodIn_app (goodIn_of _ (by decide +kernel)) ggX8_mixedHouses_X8_mixed
set_option maxRecDepth 20000 in
theorem ggX8_mixedHouses_X7_owedBy : GoodIn wsX8_mixedHouses wsX7_owedBy := goodIn_r _ [37, 38, 9, 11, 39, 40, 41, 42, 7, 43, 16, 17, 18, 19, 20, 21, 48, 49, 50, 51, 52, 53, 54, 55, 56, 57, 58, 59, 60, 61, 62, 63, 64, 65, 66, 67, 68, 69] (by decide +kernel) (by decide +kernel)
set_option maxRecDepth 20000 in
theorem gX8_mixedHouses_X7_owedBy : GoodIn wsX8_mixedHouses (wsV RX8 147 RX7 yX7_owedBy wsX7_owedBy) := goodIn_app (goodIn_of _ (by decide +kernel)) ggX8_mixedHouses_X7_owedBy
theorem dX8_mixedHouses_0 : decode cX8_mixedHouses 0 = .ok (.lload_n 1, 1) := by decide +kernel
theorem dX8_mixedHouses_1 : decode cX8_mixedHouses 1 = .ok (.lstore_n 3, 1) := by decide +kernel
theorem dX8_mixedHouses_2 : decode cX8_mixedHouses 2 = .ok (.iconst 0, 1) := by decide +kernel
theorem dX8_mixedHouses_3 : decode cX8_mixedHouses 3 = .ok (.istore 5, 2) := by decide +kernel
theorem dX8_mixedHouses_5 : decode cX8_mixedHouses 5 = .ok (.iload 5, 2) := by decide +kernel
theorem dX8_mixedHouses_7 : decode cX8_mixedHouses 7 = .ok (.aload_n 0, 1) := by decide +kernel
theorem dX8_mixedHouses_8 : decode cX8_mixedHouses 8 = .ok (.getfield 10, 3) := by decide +kernel
theorem dX8_mixedHouses_11 : decode cX8_mixedHouses 11 = .ok (.getfield 235, 3) := by decide +kernel
theorem dX8_mixedHouses_14 : decode cX8_mixedHouses 14 = .ok (.getfield 239, 3) := by decide +kernel
theorem dX8_mixedHouses_17 : decode cX8_mixedHouses 17 = .ok (.if_icmp .ge 55, 3) := by decide +kernel
theorem dX8_mixedHouses_20 : decode cX8_mixedHouses 20 = .ok (.iconst 0, 1) := by decide +kernel
theorem dX8_mixedHouses_21 : decode cX8_mixedHouses 21 = .ok (.istore 6, 2) := by decide +kernel
theorem dX8_mixedHouses_23 : decode cX8_mixedHouses 23 = .ok (.iload 6, 2) := by decide +kernel
theorem dX8_mixedHouses_25 : decode cX8_mixedHouses 25 = .ok (.bipush 7, 2) := by decide +kernel
theorem dX8_mixedHouses_27 : decode cX8_mixedHouses 27 = .ok (.if_icmp .ge 25, 3) := by decide +kernel
theorem dX8_mixedHouses_30 : decode cX8_mixedHouses 30 = .ok (.lload_n 3, 1) := by decide +kernel
theorem dX8_mixedHouses_31 : decode cX8_mixedHouses 31 = .ok (.aload_n 0, 1) := by decide +kernel
theorem dX8_mixedHouses_32 : decode cX8_mixedHouses 32 = .ok (.getfield 10, 3) := by decide +kernel
theorem dX8_mixedHouses_35 : decode cX8_mixedHouses 35 = .ok (.iload 5, 2) := by decide +kernel
theorem dX8_mixedHouses_37 : decode cX8_mixedHouses 37 = .ok (.iload 6, 2) := by decide +kernel
theorem dX8_mixedHouses_39 : decode cX8_mixedHouses 39 = .ok (.invokevirtual 108, 3) := by decide +kernel
theorem dX8_mixedHouses_42 : decode cX8_mixedHouses 42 = .ok (.invokestatic 180, 3) := by decide +kernel
theorem dX8_mixedHouses_45 : decode cX8_mixedHouses 45 = .ok (.lstore_n 3, 1) := by decide +kernel
theorem dX8_mixedHouses_46 : decode cX8_mixedHouses 46 = .ok (.iinc 6 1, 3) := by decide +kernel
theorem dX8_mixedHouses_49 : decode cX8_mixedHouses 49 = .ok (.goto (-26), 3) := by decide +kernel
theorem dX8_mixedHouses_52 : decode cX8_mixedHouses 52 = .ok (.lload_n 3, 1) := by decide +kernel
theorem dX8_mixedHouses_53 : decode cX8_mixedHouses 53 = .ok (.aload_n 0, 1) := by decide +kernel
theorem dX8_mixedHouses_54 : decode cX8_mixedHouses 54 = .ok (.getfield 10, 3) := by decide +kernel
theorem dX8_mixedHouses_57 : decode cX8_mixedHouses 57 = .ok (.iload 5, 2) := by decide +kernel
theorem dX8_mixedHouses_59 : decode cX8_mixedHouses 59 = .ok (.invokevirtual 147, 3) := by decide +kernel
theorem dX8_mixedHouses_62 : decode cX8_mixedHouses 62 = .ok (.invokestatic 180, 3) := by decide +kernel
theorem dX8_mixedHouses_65 : decode cX8_mixedHouses 65 = .ok (.lstore_n 3, 1) := by decide +kernel
theorem dX8_mixedHouses_66 : decode cX8_mixedHouses 66 = .ok (.iinc 5 1, 3) := by decide +kernel
theorem dX8_mixedHouses_69 : decode cX8_mixedHouses 69 = .ok (.goto (-64), 3) := by decide +kernel
theorem dX8_mixedHouses_72 : decode cX8_mixedHouses 72 = .ok (.lload_n 3, 1) := by decide +kernel
theorem dX8_mixedHouses_73 : decode cX8_mixedHouses 73 = .ok (.lreturn, 1) := by decide +kernel
set_option maxRecDepth 20000 in
theorem ggX8_mixedDoughs_X7_valueOfDough : GoodIn wsX8_mixedDoughs wsX7_valueOfDough := goodIn_r _ [8, 9, 10, 11, 12, 13, 14, 15, 16, 17, 18, 19, 20, 21, 22, 23, 24, 25, 26, 7, 27, 28, 29, 30, 31, 32, 33, 34, 35, 81, 82, 83, 84, 85, 86, 87, 88, 89, 90, 91, 92, 93, 94, 95, 96, 97, 98, 99, 100, 101, 102, 103, 104, 105, 106, 107] (by decide +kernel) (by decide +kernel)
set_option maxRecDepth 20000 in
theorem gX8_mixedDoughs_X7_valueOfDough : GoodIn wsX8_mixedDoughs (wsV RX8 114 RX7 yX7_valueOfDough wsX7_valueOfDough) := goodIn_app (goodIn_of _ (by decide +kernel)) ggX8_mixedDoughs_X7_valueOfDough
set_option maxRecDepth 20000 in
theorem ggX8_mixedDoughs_X8_mixed : GoodIn wsX8_mixedDoughs wsX8_mixed := goodIn_r _ [39, 40] (by decide +kernel) (by decide +kernel)
set_option maxRecDepth 20000 in
theorem gX8_mixedDoughs_X8_mixed : GoodIn wsX8_mixedDoughs (va_wsS RX8 180 yX8_mixed wsX8_mixed) := goodIn_app (goodIn_of _ (by decide +kernel)) ggX8_mixedDoughs_X8_mixed
set_option maxRecDepth 20000 in
theorem ggX8_mixedDoughs_X7_reasonNow : GoodIn wsX8_mixedDoughs wsX7_reasonNow := goodIn_r _ [44, 45, 46, 47, 48, 7, 49, 9, 14, 50, 51, 52, 53, 54, 18, 19, 20, 21, 22, 23, 55, 56, 57, 58, 11, 34, 59, 60, 61, 12, 13, 62, 63, 64, 65, 66, 67, 68, 69, 70, 71, 72, 73, 74, 75, 76, 81, 82, 83, 84, 85, 86, 87, 88, 89, 90, 91, 92, 93, 94, 95, 96, 97, 98, 99, 100, 101, 102, 103, 104, 108, 109, 110, 111, 112, 113, 105, 106, 107] (by decide +kernel) (by decide +kernel)
set_option maxRecDepth 20000 in
theorem gX8_mixedDoughs_X7_reasonNow : GoodIn wsX8_mixedDoughs (wsV RX8 126 RX7 yX7_reasonNow wsX7_reasonNow) := goodIn_app (goodIn_of _ (by decide +kernel)) ggX8_mixedDoughs_X7_reasonNow
theorem dX8_mixedDoughs_0 : decode cX8_mixedDoughs 0 = .ok (.lload_n 1, 1) := by decide +kernel
theorem dX8_mixedDoughs_1 : decode cX8_mixedDoughs 1 = .ok (.lstore_n 3, 1) := by decide +kernel
theorem dX8_mixedDoughs_2 : decode cX8_mixedDoughs 2 = .ok (.iconst 0, 1) := by decide +kernel
theorem dX8_mixedDoughs_3 : decode cX8_mixedDoughs 3 = .ok (.istore 5, 2) := by decide +kernel
theorem dX8_mixedDoughs_5 : decode cX8_mixedDoughs 5 = .ok (.iload 5, 2) := by decide +kernel
theorem dX8_mixedDoughs_7 : decode cX8_mixedDoughs 7 = .ok (.aload_n 0, 1) := by decide +kernel
theorem dX8_mixedDoughs_8 : decode cX8_mixedDoughs 8 = .ok (.getfield 10, 3) := by decide +kernel
theorem dX8_mixedDoughs_11 : decode cX8_mixedDoughs 11 = .ok (.getfield 242, 3) := by decide +kernel
theorem dX8_mixedDoughs_14 : decode cX8_mixedDoughs 14 = .ok (.getfield 246, 3) := by decide +kernel
theorem dX8_mixedDoughs_17 : decode cX8_mixedDoughs 17 = .ok (.if_icmp .ge 55, 3) := by decide +kernel
theorem dX8_mixedDoughs_20 : decode cX8_mixedDoughs 20 = .ok (.iconst 0, 1) := by decide +kernel
theorem dX8_mixedDoughs_21 : decode cX8_mixedDoughs 21 = .ok (.istore 6, 2) := by decide +kernel
theorem dX8_mixedDoughs_23 : decode cX8_mixedDoughs 23 = .ok (.iload 6, 2) := by decide +kernel
theorem dX8_mixedDoughs_25 : decode cX8_mixedDoughs 25 = .ok (.bipush 10, 2) := by decide +kernel
theorem dX8_mixedDoughs_27 : decode cX8_mixedDoughs 27 = .ok (.if_icmp .ge 25, 3) := by decide +kernel
theorem dX8_mixedDoughs_30 : decode cX8_mixedDoughs 30 = .ok (.lload_n 3, 1) := by decide +kernel
theorem dX8_mixedDoughs_31 : decode cX8_mixedDoughs 31 = .ok (.aload_n 0, 1) := by decide +kernel
theorem dX8_mixedDoughs_32 : decode cX8_mixedDoughs 32 = .ok (.getfield 10, 3) := by decide +kernel
theorem dX8_mixedDoughs_35 : decode cX8_mixedDoughs 35 = .ok (.iload 5, 2) := by decide +kernel
theorem dX8_mixedDoughs_37 : decode cX8_mixedDoughs 37 = .ok (.iload 6, 2) := by decide +kernel
theorem dX8_mixedDoughs_39 : decode cX8_mixedDoughs 39 = .ok (.invokevirtual 114, 3) := by decide +kernel
theorem dX8_mixedDoughs_42 : decode cX8_mixedDoughs 42 = .ok (.invokestatic 180, 3) := by decide +kernel
theorem dX8_mixedDoughs_45 : decode cX8_mixedDoughs 45 = .ok (.lstore_n 3, 1) := by decide +kernel
theorem dX8_mixedDoughs_46 : decode cX8_mixedDoughs 46 = .ok (.iinc 6 1, 3) := by decide +kernel
theorem dX8_mixedDoughs_49 : decode cX8_mixedDoughs 49 = .ok (.goto (-26), 3) := by decide +kernel
theorem dX8_mixedDoughs_52 : decode cX8_mixedDoughs 52 = .ok (.lload_n 3, 1) := by decide +kernel
theorem dX8_mixedDoughs_53 : decode cX8_mixedDoughs 53 = .ok (.aload_n 0, 1) := by decide +kernel
theorem dX8_mixedDoughs_54 : decode cX8_mixedDoughs 54 = .ok (.getfield 10, 3) := by decide +kernel
theorem dX8_mixedDoughs_57 : decode cX8_mixedDoughs 57 = .ok (.iload 5, 2) := by decide +kernel
theorem dX8_mixedDoughs_59 : decode cX8_mixedDoughs 59 = .ok (.invokevirtual 126, 3) := by decide +kernel
theorem dX8_mixedDoughs_62 : decode cX8_mixedDoughs 62 = .ok (.invokestatic 180, 3) := by decide +kernel
theorem dX8_mixedDoughs_65 : decode cX8_mixedDoughs 65 = .ok (.lstore_n 3, 1) := by decide +kernel
theorem dX8_mixedDoughs_66 : decode cX8_mixedDoughs 66 = .ok (.iinc 5 1, 3) := by decide +kernel
theorem dX8_mixedDoughs_69 : decode cX8_mixedDoughs 69 = .ok (.goto (-64), 3) := by decide +kernel
theorem dX8_mixedDoughs_72 : decode cX8_mixedDoughs 72 = .ok (.lload_n 3, 1) := by decide +kernel
theorem dX8_mixedDoughs_73 : decode cX8_mixedDoughs 73 = .ok (.lreturn, 1) := by decide +kernel
set_option maxRecDepth 20000 in
theorem ggX8_mixedPlaces_X7_valueOfPlace : GoodIn wsX8_mixedPlaces wsX7_valueOfPlace := goodIn_r _ [7, 8, 9, 10, 11, 12, 13, 14, 6, 15, 16, 17, 18, 19, 20, 21, 22, 23, 24, 25, 26, 27, 28, 29, 30, 31, 32, 48, 49, 50, 51, 52, 53, 54, 55, 56, 57, 58, 59, 60, 61, 62, 63, 64, 65] (by decide +kernel) (by decide +kernel)
set_option maxRecDepth 20000 in
theorem gX8_mixedPlaces_X7_valueOfPlace : GoodIn wsX8_mixedPlaces (wsV RX8 117 RX7 yX7_valueOfPlace wsX7_valueOfPlace) := goodIn_app (goodIn_of _ (by decide +kernel)) ggX8_mixedPlaces_X7_valueOfPlace
set_option maxRecDepth 20000 in
theorem ggX8_mixedPlaces_X8_mixed : GoodIn wsX8_mixedPlaces wsX8_mixed := goodIn_r _ [36, 37] (by decide +kernel) (by decide +kernel)
set_option maxRecDepth 20000 in
theorem gX8_mixedPlaces_X8_mixed : GoodIn wsX8_mixedPlaces (va_wsS RX8 180 yX8_mixed wsX8_mixed) := goodIn_app (goodIn_of _ (by decide +kernel)) ggX8_mixedPlaces_X8_mixed
set_option maxRecDepth 20000 in
theorem ggX8_mixedPlaces_X7_doughInLine : GoodIn wsX8_mixedPlaces wsX7_doughInLine := goodIn_r _ [41, 42, 43, 32, 27, 28, 29, 30, 31, 48, 49, 50, 51, 52, 53, 54, 55, 56, 57, 58, 59, 60, 61, 65] (by decide +kernel) (by decide +kernel)
set_option maxRecDepth 20000 in
theorem gX8_mixedPlaces_X7_doughInLine : GoodIn wsX8_mixedPlaces (wsV RX8 123 RX7 yX7_doughInLine wsX7_doughInLine) := goodIn_app (goodIn_of _ (by decide +kernel)) ggX8_mixedPlaces_X7_doughInLine
theorem dX8_mixedPlaces_0 : decode cX8_mixedPlaces 0 = .ok (.lload_n 1, 1) := by decide +kernel
theorem dX8_mixedPlaces_1 : decode cX8_mixedPlaces 1 = .ok (.lstore_n 3, 1) := by decide +kernel
theorem dX8_mixedPlaces_2 : decode cX8_mixedPlaces 2 = .ok (.iconst 0, 1) := by decide +kernel
theorem dX8_mixedPlaces_3 : decode cX8_mixedPlaces 3 = .ok (.istore 5, 2) := by decide +kernel
theorem dX8_mixedPlaces_5 : decode cX8_mixedPlaces 5 = .ok (.iload 5, 2) := by decide +kernel
theorem dX8_mixedPlaces_7 : decode cX8_mixedPlaces 7 = .ok (.bipush 12, 2) := by decide +kernel
theorem dX8_mixedPlaces_9 : decode cX8_mixedPlaces 9 = .ok (.if_icmp .ge 40, 3) := by decide +kernel
theorem dX8_mixedPlaces_12 : decode cX8_mixedPlaces 12 = .ok (.iconst 0, 1) := by decide +kernel
theorem dX8_mixedPlaces_13 : decode cX8_mixedPlaces 13 = .ok (.istore 6, 2) := by decide +kernel
theorem dX8_mixedPlaces_15 : decode cX8_mixedPlaces 15 = .ok (.iload 6, 2) := by decide +kernel
theorem dX8_mixedPlaces_17 : decode cX8_mixedPlaces 17 = .ok (.iconst 4, 1) := by decide +kernel
theorem dX8_mixedPlaces_18 : decode cX8_mixedPlaces 18 = .ok (.if_icmp .ge 25, 3) := by decide +kernel
theorem dX8_mixedPlaces_21 : decode cX8_mixedPlaces 21 = .ok (.lload_n 3, 1) := by decide +kernel
theorem dX8_mixedPlaces_22 : decode cX8_mixedPlaces 22 = .ok (.aload_n 0, 1) := by decide +kernel
theorem dX8_mixedPlaces_23 : decode cX8_mixedPlaces 23 = .ok (.getfield 10, 3) := by decide +kernel
theorem dX8_mixedPlaces_26 : decode cX8_mixedPlaces 26 = .ok (.iload 5, 2) := by decide +kernel
theorem dX8_mixedPlaces_28 : decode cX8_mixedPlaces 28 = .ok (.iload 6, 2) := by decide +kernel
theorem dX8_mixedPlaces_30 : decode cX8_mixedPlaces 30 = .ok (.invokevirtual 117, 3) := by decide +kernel
theorem dX8_mixedPlaces_33 : decode cX8_mixedPlaces 33 = .ok (.invokestatic 180, 3) := by decide +kernel
theorem dX8_mixedPlaces_36 : decode cX8_mixedPlaces 36 = .ok (.lstore_n 3, 1) := by decide +kernel
theorem dX8_mixedPlaces_37 : decode cX8_mixedPlaces 37 = .ok (.iinc 6 1, 3) := by decide +kernel
theorem dX8_mixedPlaces_40 : decode cX8_mixedPlaces 40 = .ok (.goto (-25), 3) := by decide +kernel
theorem dX8_mixedPlaces_43 : decode cX8_mixedPlaces 43 = .ok (.iinc 5 1, 3) := by decide +kernel
theorem dX8_mixedPlaces_46 : decode cX8_mixedPlaces 46 = .ok (.goto (-41), 3) := by decide +kernel
theorem dX8_mixedPlaces_49 : decode cX8_mixedPlaces 49 = .ok (.iconst 0, 1) := by decide +kernel
theorem dX8_mixedPlaces_50 : decode cX8_mixedPlaces 50 = .ok (.istore 5, 2) := by decide +kernel
theorem dX8_mixedPlaces_52 : decode cX8_mixedPlaces 52 = .ok (.iload 5, 2) := by decide +kernel
theorem dX8_mixedPlaces_54 : decode cX8_mixedPlaces 54 = .ok (.aload_n 0, 1) := by decide +kernel
theorem dX8_mixedPlaces_55 : decode cX8_mixedPlaces 55 = .ok (.getfield 10, 3) := by decide +kernel
theorem dX8_mixedPlaces_58 : decode cX8_mixedPlaces 58 = .ok (.getfield 249, 3) := by decide +kernel
theorem dX8_mixedPlaces_61 : decode cX8_mixedPlaces 61 = .ok (.if_icmp .ge 23, 3) := by decide +kernel
theorem dX8_mixedPlaces_64 : decode cX8_mixedPlaces 64 = .ok (.lload_n 3, 1) := by decide +kernel
theorem dX8_mixedPlaces_65 : decode cX8_mixedPlaces 65 = .ok (.aload_n 0, 1) := by decide +kernel
theorem dX8_mixedPlaces_66 : decode cX8_mixedPlaces 66 = .ok (.getfield 10, 3) := by decide +kernel
theorem dX8_mixedPlaces_69 : decode cX8_mixedPlaces 69 = .ok (.iload 5, 2) := by decide +kernel
theorem dX8_mixedPlaces_71 : decode cX8_mixedPlaces 71 = .ok (.invokevirtual 123, 3) := by decide +kernel
theorem dX8_mixedPlaces_74 : decode cX8_mixedPlaces 74 = .ok (.invokestatic 180, 3) := by decide +kernel
theorem dX8_mixedPlaces_77 : decode cX8_mixedPlaces 77 = .ok (.lstore_n 3, 1) := by decide +kernel
theorem dX8_mixedPlaces_78 : decode cX8_mixedPlaces 78 = .ok (.iinc 5 1, 3) := by decide +kernel
theorem dX8_mixedPlaces_81 : decode cX8_mixedPlaces 81 = .ok (.goto (-29), 3) := by decide +kernel
theorem dX8_mixedPlaces_84 : decode cX8_mixedPlaces 84 = .ok (.lload_n 3, 1) := by decide +kernel
theorem dX8_mixedPlaces_85 : decode cX8_mixedPlaces 85 = .ok (.lreturn, 1) := by decide +kernel
set_option maxRecDepth 20000 in
theorem ggX8_carryOut_X8_refusalOfCommand : GoodIn wsX8_carryOut wsX8_refusalOfCommand := goodIn_r _ [7, 1, 2, 8, 9, 10, 11, 12, 13, 14, 15, 16, 17, 18, 19, 20, 21, 22, 23, 24, 25, 26, 27, 28, 29, 30, 31, 32, 33, 34, 35, 36, 37, 38, 39, 40, 41, 42, 43, 44, 45, 46, 47, 48, 49, 50, 51, 52, 53, 54, 55, 56, 57, 58, 59, 60, 61, 62, 63, 64, 65, 66, 67, 68, 69, 70, 71, 72, 73, 74, 75, 76, 77, 78, 79, 80, 81, 226, 227, 228, 229, 230, 231, 232, 233, 234, 235, 236, 237, 238, 239, 240, 241, 242, 243, 244, 245, 246, 247, 248, 249, 250, 251, 252, 253, 254, 255, 256, 257, 258, 259, 260, 261, 262, 263, 264, 265, 266, 267, 268, 269, 270, 271, 272] (by decide +kernel) (by decide +kernel)
set_option maxRecDepth 20000 in
theorem gX8_carryOut_X8_refusalOfCommand : GoodIn wsX8_carryOut (wsV RX8 252 RX8 yX8_refusalOfCommand wsX8_refusalOfCommand) := goodIn_app (goodIn_of _ (by decide +kernel)) ggX8_carryOut_X8_refusalOfCommand
set_option maxRecDepth 20000 in
theorem ggX8_carryOut_X0_number : GoodIn wsX8_carryOut wsX0_number := goodIn_r _ [12, 13, 14, 15, 16, 17, 18, 19, 230, 231, 232, 233, 234, 235, 236] (by decide +kernel) (by decide +kernel)
set_option maxRecDepth 20000 in
theorem gX8_carryOut_X0_number : GoodIn wsX8_carryOut (wsV RX8 255 RX0 yX0_number wsX0_number) := goodIn_app (goodIn_of _ (by decide +kernel)) ggX8_carryOut_X0_number
set_option maxRecDepth 20000 in
theorem ggX8_carryOut_X0_word : GoodIn wsX8_carryOut wsX0_word := goodIn_r _ [23, 24, 230, 231, 232, 233, 234, 235] (by decide +kernel) (by decide +kernel)
set_option maxRecDepth 20000 in
theorem gX8_carryOut_X0_word : GoodIn wsX8_carryOut (wsV RX8 258 RX0 yX0_word wsX0_word) := goodIn_app (goodIn_of _ (by decide +kernel)) ggX8_carryOut_X0_word
set_option maxRecDepth 20000 in
theorem ggX8_carryOut_X7_newKind : GoodIn wsX8_carryOut wsX7_newKind := goodIn_r _ [85, 30, 31, 86, 87, 88, 89, 90, 91, 92, 93, 17, 94, 19, 237, 238, 239, 240, 241, 242, 243, 244, 245, 246, 247, 248, 249, 250, 251, 252, 253, 254, 255, 256, 236] (by decide +kernel) (by decide +kernel)
set_option maxRecDepth 20000 in
theorem gX8_carryOut_X7_newKind : GoodIn wsX8_carryOut (wsV RX8 45 RX7 yX7_newKind wsX7_newKind) := goodIn_app (goodIn_of _ (by decide +kernel)) ggX8_carryOut_X7_newKind
set_option maxRecDepth 20000 in
theorem ggX8_carryOut_X7_newHouse : GoodIn wsX8_carryOut wsX7_newHouse := goodIn_r _ [98, 36, 37, 237, 238, 239, 240, 241, 242, 243, 244, 245, 246, 247, 248, 249, 250, 257, 258, 259, 260, 261, 262, 263] (by decide +kernel) (by decide +kernel)
set_option maxRecDepth 20000 in
theorem gX8_carryOut_X7_newHouse : GoodIn wsX8_carryOut (wsV RX8 52 RX7 yX7_newHouse wsX7_newHouse) := goodIn_app (goodIn_of _ (by decide +kernel)) ggX8_carryOut_X7_newHouse
set_option maxRecDepth 20000 in
theorem ggX8_carryOut_X7_newDough : GoodIn wsX8_carryOut wsX7_newDough := goodIn_r _ [102, 42, 43, 103, 104, 105, 106, 81, 107, 108, 109, 110, 111, 91, 92, 93, 17, 94, 19, 237, 238, 239, 240, 241, 242, 243, 244, 245, 246, 247, 248, 249, 250, 264, 265, 266, 267, 268, 269, 270, 271, 272, 236] (by decide +kernel) (by decide +kernel)
set_option maxRecDepth 20000 in
theorem gX8_carryOut_X7_newDough : GoodIn wsX8_carryOut (wsV RX8 59 RX7 yX7_newDough wsX7_newDough) := goodIn_app (goodIn_of _ (by decide +kernel)) ggX8_carryOut_X7_newDough
set_option maxRecDepth 20000 in
theorem ggX8_carryOut_X7_takeLogs : GoodIn wsX8_carryOut wsX7_takeLogs := goodIn_r _ [115, 36, 56, 116, 117, 118, 119, 120, 17, 121, 122, 15, 16, 18, 19, 123, 92, 93, 94, 57, 237, 238, 239, 240, 241, 242, 243, 244, 245, 246, 247, 248, 249, 250, 257, 258, 259, 260, 261, 262, 263, 236] (by decide +kernel) (by decide +kernel)
set_option maxRecDepth 20000 in
theorem gX8_carryOut_X7_takeLogs : GoodIn wsX8_carryOut (wsV RX8 75 RX7 yX7_takeLogs wsX7_takeLogs) := goodIn_app (goodIn_of _ (by decide +kernel)) ggX8_carryOut_X7_takeLogs
set_option maxRecDepth 20000 in
theorem ggX8_carryOut_X7_burnLogs : GoodIn wsX8_carryOut wsX7_burnLogs := goodIn_r _ [127, 36, 56, 128, 129, 130, 62, 118, 119, 120, 17, 121, 122, 15, 16, 18, 19, 123, 92, 93, 94, 237, 238, 239, 240, 241, 242, 243, 244, 245, 246, 247, 248, 249, 250, 257, 258, 259, 260, 261, 262, 263, 236] (by decide +kernel) (by decide +kernel)
set_option maxRecDepth 20000 in
theorem gX8_carryOut_X7_burnLogs : GoodIn wsX8_carryOut (wsV RX8 81 RX7 yX7_burnLogs wsX7_burnLogs) := goodIn_app (goodIn_of _ (by decide +kernel)) ggX8_carryOut_X7_burnLogs
set_option maxRecDepth 20000 in
theorem ggX8_carryOut_X7_passTicks : GoodIn wsX8_carryOut wsX7_passTicks := goodIn_r _ [134, 67, 135, 136, 137, 28, 138, 111, 110, 42, 104, 106, 30, 89, 90, 81, 139, 57, 15, 16, 17, 18, 19, 118, 119, 120, 121, 122, 123, 92, 93, 94, 91, 140, 141, 142, 143, 62, 105, 107, 144, 145, 146, 147, 148, 86, 87, 149, 150, 151, 152, 153, 154, 155, 156, 157, 158, 159, 160, 161, 162, 163, 164, 165, 166, 108, 167, 168, 169, 170, 171, 172, 173, 174, 175, 176, 177, 178, 179, 180, 36, 181, 103, 182, 183, 184, 185, 43, 186, 187, 188, 189, 88, 190, 191, 192, 193, 109, 194, 195, 196, 197, 198, 199, 200, 201, 237, 238, 239, 240, 241, 242, 243, 244, 245, 246, 247, 248, 249, 250, 264, 265, 266, 267, 268, 269, 270, 271, 272, 251, 252, 253, 254, 255, 256, 236, 273, 274, 275, 257, 258, 259, 260, 261, 262, 263] (by decide +kernel) (by decide +kernel)
set_option maxRecDepth 20000 in
theorem gX8_carryOut_X7_passTicks : GoodIn wsX8_carryOut (wsV RX8 91 RX7 yX7_passTicks wsX7_passTicks) := goodIn_app (goodIn_of _ (by decide +kernel)) ggX8_carryOut_X7_passTicks
set_option maxRecDepth 20000 in
theorem ggX8_carryOut_X7_exchange : GoodIn wsX8_carryOut wsX7_exchange := goodIn_r _ [205, 110, 206, 207, 208, 28, 209, 111, 57, 15, 16, 17, 18, 19, 91, 92, 93, 94, 237, 238, 239, 240, 241, 242, 243, 244, 245, 246, 247, 248, 249, 250, 236] (by decide +kernel) (by decide +kernel)
set_option maxRecDepth 20000 in
theorem gX8_carryOut_X7_exchange : GoodIn wsX8_carryOut (wsV RX8 69 RX7 yX7_exchange wsX7_exchange) := goodIn_app (goodIn_of _ (by decide +kernel)) ggX8_carryOut_X7_exchange
set_option maxRecDepth 20000 in
theorem ggX8_carryOut_X7_settleLogs : GoodIn wsX8_carryOut wsX7_settleLogs := goodIn_r _ [213, 129, 36, 37, 56, 128, 181, 214, 215, 216, 28, 217, 57, 15, 16, 17, 18, 19, 218, 219, 220, 221, 118, 119, 120, 121, 122, 123, 92, 93, 94, 222, 223, 224, 225, 237, 238, 239, 240, 241, 242, 243, 244, 245, 246, 247, 248, 249, 250, 257, 258, 259, 260, 261, 262, 263, 236] (by decide +kernel) (by decide +kernel)
set_option maxRecDepth 20000 in
theorem gX8_carryOut_X7_settleLogs : GoodIn wsX8_carryOut (wsV RX8 84 RX7 yX7_settleLogs wsX7_settleLogs) := goodIn_app (goodIn_of _ (by decide +kernel)) ggX8_carryOut_X7_settleLogs
theorem dX8_carryOut_0 : decode cX8_carryOut 0 = .ok (.aload_n 0, 1) := by decide +kernel
theorem dX8_carryOut_1 : decode cX8_carryOut 1 = .ok (.invokevirtual 252, 3) := by decide +kernel
theorem dX8_carryOut_4 : decode cX8_carryOut 4 = .ok (.ifCond .eq 5, 3) := by decide +kernel
theorem dX8_carryOut_7 : decode cX8_carryOut 7 = .ok (.iconst 0, 1) := by decide +kernel
theorem dX8_carryOut_8 : decode cX8_carryOut 8 = .ok (.ireturn, 1) := by decide +kernel
theorem dX8_carryOut_9 : decode cX8_carryOut 9 = .ok (.aload_n 0, 1) := by decide +kernel
theorem dX8_carryOut_10 : decode cX8_carryOut 10 = .ok (.getfield 29, 3) := by decide +kernel
theorem dX8_carryOut_13 : decode cX8_carryOut 13 = .ok (.iconst 0, 1) := by decide +kernel
theorem dX8_carryOut_14 : decode cX8_carryOut 14 = .ok (.invokevirtual 255, 3) := by decide +kernel
theorem dX8_carryOut_17 : decode cX8_carryOut 17 = .ok (.istore_n 1, 1) := by decide +kernel
theorem dX8_carryOut_18 : decode cX8_carryOut 18 = .ok (.aload_n 0, 1) := by decide +kernel
theorem dX8_carryOut_19 : decode cX8_carryOut 19 = .ok (.getfield 29, 3) := by decide +kernel
theorem dX8_carryOut_22 : decode cX8_carryOut 22 = .ok (.iconst 1, 1) := by decide +kernel
theorem dX8_carryOut_23 : decode cX8_carryOut 23 = .ok (.invokevirtual 255, 3) := by decide +kernel
theorem dX8_carryOut_26 : decode cX8_carryOut 26 = .ok (.istore_n 2, 1) := by decide +kernel
theorem dX8_carryOut_27 : decode cX8_carryOut 27 = .ok (.aload_n 0, 1) := by decide +kernel
theorem dX8_carryOut_28 : decode cX8_carryOut 28 = .ok (.getfield 29, 3) := by decide +kernel
theorem dX8_carryOut_31 : decode cX8_carryOut 31 = .ok (.iconst 2, 1) := by decide +kernel
theorem dX8_carryOut_32 : decode cX8_carryOut 32 = .ok (.invokevirtual 255, 3) := by decide +kernel
theorem dX8_carryOut_35 : decode cX8_carryOut 35 = .ok (.istore_n 3, 1) := by decide +kernel
theorem dX8_carryOut_36 : decode cX8_carryOut 36 = .ok (.aload_n 0, 1) := by decide +kernel
theorem dX8_carryOut_37 : decode cX8_carryOut 37 = .ok (.getfield 29, 3) := by decide +kernel
theorem dX8_carryOut_40 : decode cX8_carryOut 40 = .ok (.invokevirtual 258, 3) := by decide +kernel
theorem dX8_carryOut_43 : decode cX8_carryOut 43 = .ok (.tableswitch 162 0 7 #[45, 75, 86, 100, 113, 126, 138, 151], 45) := by decide +kernel
theorem dX8_carryOut_88 : decode cX8_carryOut 88 = .ok (.aload_n 0, 1) := by decide +kernel
theorem dX8_carryOut_89 : decode cX8_carryOut 89 = .ok (.getfield 10, 3) := by decide +kernel
theorem dX8_carryOut_92 : decode cX8_carryOut 92 = .ok (.iload_n 1, 1) := by decide +kernel
theorem dX8_carryOut_93 : decode cX8_carryOut 93 = .ok (.iload_n 2, 1) := by decide +kernel
theorem dX8_carryOut_94 : decode cX8_carryOut 94 = .ok (.iload_n 3, 1) := by decide +kernel
theorem dX8_carryOut_95 : decode cX8_carryOut 95 = .ok (.aload_n 0, 1) := by decide +kernel
theorem dX8_carryOut_96 : decode cX8_carryOut 96 = .ok (.getfield 29, 3) := by decide +kernel
theorem dX8_carryOut_99 : decode cX8_carryOut 99 = .ok (.iconst 3, 1) := by decide +kernel
theorem dX8_carryOut_100 : decode cX8_carryOut 100 = .ok (.invokevirtual 255, 3) := by decide +kernel
theorem dX8_carryOut_103 : decode cX8_carryOut 103 = .ok (.aload_n 0, 1) := by decide +kernel
theorem dX8_carryOut_104 : decode cX8_carryOut 104 = .ok (.getfield 29, 3) := by decide +kernel
theorem dX8_carryOut_107 : decode cX8_carryOut 107 = .ok (.iconst 4, 1) := by decide +kernel
theorem dX8_carryOut_108 : decode cX8_carryOut 108 = .ok (.invokevirtual 255, 3) := by decide +kernel
theorem dX8_carryOut_111 : decode cX8_carryOut 111 = .ok (.invokevirtual 45, 3) := by decide +kernel
theorem dX8_carryOut_114 : decode cX8_carryOut 114 = .ok (.pop, 1) := by decide +kernel
theorem dX8_carryOut_115 : decode cX8_carryOut 115 = .ok (.goto 92, 3) := by decide +kernel
theorem dX8_carryOut_118 : decode cX8_carryOut 118 = .ok (.aload_n 0, 1) := by decide +kernel
theorem dX8_carryOut_119 : decode cX8_carryOut 119 = .ok (.getfield 10, 3) := by decide +kernel
theorem dX8_carryOut_122 : decode cX8_carryOut 122 = .ok (.invokevirtual 52, 3) := by decide +kernel
theorem dX8_carryOut_125 : decode cX8_carryOut 125 = .ok (.pop, 1) := by decide +kernel
theorem dX8_carryOut_126 : decode cX8_carryOut 126 = .ok (.goto 81, 3) := by decide +kernel
theorem dX8_carryOut_129 : decode cX8_carryOut 129 = .ok (.aload_n 0, 1) := by decide +kernel
theorem dX8_carryOut_130 : decode cX8_carryOut 130 = .ok (.getfield 10, 3) := by decide +kernel
theorem dX8_carryOut_133 : decode cX8_carryOut 133 = .ok (.iload_n 1, 1) := by decide +kernel
theorem dX8_carryOut_134 : decode cX8_carryOut 134 = .ok (.iload_n 2, 1) := by decide +kernel
theorem dX8_carryOut_135 : decode cX8_carryOut 135 = .ok (.iload_n 3, 1) := by decide +kernel
theorem dX8_carryOut_136 : decode cX8_carryOut 136 = .ok (.invokevirtual 59, 3) := by decide +kernel
theorem dX8_carryOut_139 : decode cX8_carryOut 139 = .ok (.pop, 1) := by decide +kernel
theorem dX8_carryOut_140 : decode cX8_carryOut 140 = .ok (.goto 67, 3) := by decide +kernel
theorem dX8_carryOut_143 : decode cX8_carryOut 143 = .ok (.aload_n 0, 1) := by decide +kernel
theorem dX8_carryOut_144 : decode cX8_carryOut 144 = .ok (.getfield 10, 3) := by decide +kernel
theorem dX8_carryOut_147 : decode cX8_carryOut 147 = .ok (.iload_n 1, 1) := by decide +kernel
theorem dX8_carryOut_148 : decode cX8_carryOut 148 = .ok (.iload_n 2, 1) := by decide +kernel
theorem dX8_carryOut_149 : decode cX8_carryOut 149 = .ok (.invokevirtual 75, 3) := by decide +kernel
theorem dX8_carryOut_152 : decode cX8_carryOut 152 = .ok (.pop, 1) := by decide +kernel
theorem dX8_carryOut_153 : decode cX8_carryOut 153 = .ok (.goto 54, 3) := by decide +kernel
theorem dX8_carryOut_156 : decode cX8_carryOut 156 = .ok (.aload_n 0, 1) := by decide +kernel
theorem dX8_carryOut_157 : decode cX8_carryOut 157 = .ok (.getfield 10, 3) := by decide +kernel
theorem dX8_carryOut_160 : decode cX8_carryOut 160 = .ok (.iload_n 1, 1) := by decide +kernel
theorem dX8_carryOut_161 : decode cX8_carryOut 161 = .ok (.iload_n 2, 1) := by decide +kernel
theorem dX8_carryOut_162 : decode cX8_carryOut 162 = .ok (.invokevirtual 81, 3) := by decide +kernel
theorem dX8_carryOut_165 : decode cX8_carryOut 165 = .ok (.pop, 1) := by decide +kernel
theorem dX8_carryOut_166 : decode cX8_carryOut 166 = .ok (.goto 41, 3) := by decide +kernel
theorem dX8_carryOut_169 : decode cX8_carryOut 169 = .ok (.aload_n 0, 1) := by decide +kernel
theorem dX8_carryOut_170 : decode cX8_carryOut 170 = .ok (.getfield 10, 3) := by decide +kernel
theorem dX8_carryOut_173 : decode cX8_carryOut 173 = .ok (.iload_n 1, 1) := by decide +kernel
theorem dX8_carryOut_174 : decode cX8_carryOut 174 = .ok (.invokevirtual 91, 3) := by decide +kernel
theorem dX8_carryOut_177 : decode cX8_carryOut 177 = .ok (.pop, 1) := by decide +kernel
theorem dX8_carryOut_178 : decode cX8_carryOut 178 = .ok (.goto 29, 3) := by decide +kernel
theorem dX8_carryOut_181 : decode cX8_carryOut 181 = .ok (.aload_n 0, 1) := by decide +kernel
theorem dX8_carryOut_182 : decode cX8_carryOut 182 = .ok (.getfield 10, 3) := by decide +kernel
theorem dX8_carryOut_185 : decode cX8_carryOut 185 = .ok (.iload_n 1, 1) := by decide +kernel
theorem dX8_carryOut_186 : decode cX8_carryOut 186 = .ok (.iload_n 2, 1) := by decide +kernel
theorem dX8_carryOut_187 : decode cX8_carryOut 187 = .ok (.invokevirtual 69, 3) := by decide +kernel
theorem dX8_carryOut_190 : decode cX8_carryOut 190 = .ok (.pop, 1) := by decide +kernel
theorem dX8_carryOut_191 : decode cX8_carryOut 191 = .ok (.goto 16, 3) := by decide +kernel
theorem dX8_carryOut_194 : decode cX8_carryOut 194 = .ok (.aload_n 0, 1) := by decide +kernel
theorem dX8_carryOut_195 : decode cX8_carryOut 195 = .ok (.getfield 10, 3) := by decide +kernel
theorem dX8_carryOut_198 : decode cX8_carryOut 198 = .ok (.invokevirtual 84, 3) := by decide +kernel
theorem dX8_carryOut_201 : decode cX8_carryOut 201 = .ok (.pop, 1) := by decide +kernel
theorem dX8_carryOut_202 : decode cX8_carryOut 202 = .ok (.goto 5, 3) := by decide +kernel
theorem dX8_carryOut_205 : decode cX8_carryOut 205 = .ok (.iconst 0, 1) := by decide +kernel
theorem dX8_carryOut_206 : decode cX8_carryOut 206 = .ok (.ireturn, 1) := by decide +kernel
theorem dX8_carryOut_207 : decode cX8_carryOut 207 = .ok (.iconst 1, 1) := by decide +kernel
theorem dX8_carryOut_208 : decode cX8_carryOut 208 = .ok (.ireturn, 1) := by decide +kernel
set_option maxRecDepth 20000 in
theorem ggX8_refusalOfCommand_X0_number : GoodIn wsX8_refusalOfCommand wsX0_number := goodIn_r _ [7, 8, 9, 10, 11, 12, 13, 14, 81, 82, 83, 84, 85, 86, 87] (by decide +kernel) (by decide +kernel)
set_option maxRecDepth 20000 in
theorem gX8_refusalOfCommand_X0_number : GoodIn wsX8_refusalOfCommand (wsV RX8 255 RX0 yX0_number wsX0_number) := goodIn_app (goodIn_of _ (by decide +kernel)) ggX8_refusalOfCommand_X0_number
set_option maxRecDepth 20000 in
theorem ggX8_refusalOfCommand_X0_word : GoodIn wsX8_refusalOfCommand wsX0_word := goodIn_r _ [18, 19, 81, 82, 83, 84, 85, 86] (by decide +kernel) (by decide +kernel)
set_option maxRecDepth 20000 in
theorem gX8_refusalOfCommand_X0_word : GoodIn wsX8_refusalOfCommand (wsV RX8 258 RX0 yX0_word wsX0_word) := goodIn_app (goodIn_of _ (by decide +kernel)) ggX8_refusalOfCommand_X0_word
set_option maxRecDepth 20000 in
theorem ggX8_refusalOfCommand_X7_refusalOfKind : GoodIn wsX8_refusalOfCommand wsX7_refusalOfKind := goodIn_r _ [24, 25, 26, 88, 89, 90, 91, 92, 93, 94, 95, 96, 97, 98, 99, 100, 101, 102, 103, 104, 105, 106, 107] (by decide +kernel) (by decide +kernel)
set_option maxRecDepth 20000 in
theorem gX8_refusalOfCommand_X7_refusalOfKind : GoodIn wsX8_refusalOfCommand (wsV RX8 33 RX7 yX7_refusalOfKind wsX7_refusalOfKind) := goodIn_app (goodIn_of _ (by decide +kernel)) ggX8_refusalOfCommand_X7_refusalOfKind
set_option maxRecDepth 20000 in
theorem ggX8_refusalOfCommand_X7_refusalOfHouse : GoodIn wsX8_refusalOfCommand wsX7_refusalOfHouse := goodIn_r _ [30, 31, 32, 88, 89, 90, 91, 92, 93, 94, 95, 96, 97, 98, 99, 100, 101, 108, 109, 110, 111, 112, 113, 114] (by decide +kernel) (by decide +kernel)
set_option maxRecDepth 20000 in
theorem gX8_refusalOfCommand_X7_refusalOfHouse : GoodIn wsX8_refusalOfCommand (wsV RX8 48 RX7 yX7_refusalOfHouse wsX7_refusalOfHouse) := goodIn_app (goodIn_of _ (by decide +kernel)) ggX8_refusalOfCommand_X7_refusalOfHouse
set_option maxRecDepth 20000 in
theorem ggX8_refusalOfCommand_X7_refusalOfDough : GoodIn wsX8_refusalOfCommand wsX7_refusalOfDough := goodIn_r _ [36, 37, 38, 39, 40, 41, 23, 42, 31, 32, 43, 44, 45, 46, 25, 26, 88, 89, 90, 91, 92, 93, 94, 95, 96, 97, 98, 99, 100, 101, 115, 116, 117, 118, 119, 120, 121, 122, 123, 108, 109, 110, 111, 112, 113, 114, 102, 103, 104, 105, 106, 107] (by decide +kernel) (by decide +kernel)
set_option maxRecDepth 20000 in
theorem gX8_refusalOfCommand_X7_refusalOfDough : GoodIn wsX8_refusalOfCommand (wsV RX8 55 RX7 yX7_refusalOfDough wsX7_refusalOfDough) := goodIn_app (goodIn_of _ (by decide +kernel)) ggX8_refusalOfCommand_X7_refusalOfDough
set_option maxRecDepth 20000 in
theorem ggX8_refusalOfCommand_X7_refusalOfBring : GoodIn wsX8_refusalOfCommand wsX7_refusalOfBring := goodIn_r _ [50, 31, 51, 39, 40, 41, 23, 42, 32, 52, 10, 11, 12, 13, 14, 88, 89, 90, 91, 92, 93, 94, 95, 96, 97, 98, 99, 100, 101, 108, 109, 110, 111, 112, 113, 114, 87] (by decide +kernel) (by decide +kernel)
set_option maxRecDepth 20000 in
theorem gX8_refusalOfCommand_X7_refusalOfBring : GoodIn wsX8_refusalOfCommand (wsV RX8 72 RX7 yX7_refusalOfBring wsX7_refusalOfBring) := goodIn_app (goodIn_of _ (by decide +kernel)) ggX8_refusalOfCommand_X7_refusalOfBring
set_option maxRecDepth 20000 in
theorem ggX8_refusalOfCommand_X7_refusalOfStoke : GoodIn wsX8_refusalOfCommand wsX7_refusalOfStoke := goodIn_r _ [56, 31, 51, 57, 39, 40, 41, 23, 42, 32, 52, 10, 11, 12, 13, 14, 88, 89, 90, 91, 92, 93, 94, 95, 96, 97, 98, 99, 100, 101, 108, 109, 110, 111, 112, 113, 114, 87] (by decide +kernel) (by decide +kernel)
set_option maxRecDepth 20000 in
theorem gX8_refusalOfCommand_X7_refusalOfStoke : GoodIn wsX8_refusalOfCommand (wsV RX8 78 RX7 yX7_refusalOfStoke wsX7_refusalOfStoke) := goodIn_app (goodIn_of _ (by decide +kernel)) ggX8_refusalOfCommand_X7_refusalOfStoke
set_option maxRecDepth 20000 in
theorem ggX8_refusalOfCommand_X7_refusalOfPass : GoodIn wsX8_refusalOfCommand wsX7_refusalOfPass := goodIn_r _ [61, 62, 63, 88, 89, 90, 91, 92, 93, 94, 95, 96, 97, 98, 99, 100, 101] (by decide +kernel) (by decide +kernel)
set_option maxRecDepth 20000 in
theorem gX8_refusalOfCommand_X7_refusalOfPass : GoodIn wsX8_refusalOfCommand (wsV RX8 87 RX7 yX7_refusalOfPass wsX7_refusalOfPass) := goodIn_app (goodIn_of _ (by decide +kernel)) ggX8_refusalOfCommand_X7_refusalOfPass
set_option maxRecDepth 20000 in
theorem ggX8_refusalOfCommand_X7_refusalOfSwap : GoodIn wsX8_refusalOfCommand wsX7_refusalOfSwap := goodIn_r _ [67, 68, 69, 70, 23, 71, 37, 38, 72, 73, 74, 75, 76, 52, 10, 11, 12, 13, 14, 88, 89, 90, 91, 92, 93, 94, 95, 96, 97, 98, 99, 100, 101, 115, 116, 117, 118, 119, 120, 121, 122, 123, 87] (by decide +kernel) (by decide +kernel)
set_option maxRecDepth 20000 in
theorem gX8_refusalOfCommand_X7_refusalOfSwap : GoodIn wsX8_refusalOfCommand (wsV RX8 65 RX7 yX7_refusalOfSwap wsX7_refusalOfSwap) := goodIn_app (goodIn_of _ (by decide +kernel)) ggX8_refusalOfCommand_X7_refusalOfSwap
theorem dX8_refusalOfCommand_0 : decode cX8_refusalOfCommand 0 = .ok (.aload_n 0, 1) := by decide +kernel
theorem dX8_refusalOfCommand_1 : decode cX8_refusalOfCommand 1 = .ok (.getfield 29, 3) := by decide +kernel
theorem dX8_refusalOfCommand_4 : decode cX8_refusalOfCommand 4 = .ok (.iconst 0, 1) := by decide +kernel
theorem dX8_refusalOfCommand_5 : decode cX8_refusalOfCommand 5 = .ok (.invokevirtual 255, 3) := by decide +kernel
theorem dX8_refusalOfCommand_8 : decode cX8_refusalOfCommand 8 = .ok (.istore_n 1, 1) := by decide +kernel
theorem dX8_refusalOfCommand_9 : decode cX8_refusalOfCommand 9 = .ok (.aload_n 0, 1) := by decide +kernel
theorem dX8_refusalOfCommand_10 : decode cX8_refusalOfCommand 10 = .ok (.getfield 29, 3) := by decide +kernel
theorem dX8_refusalOfCommand_13 : decode cX8_refusalOfCommand 13 = .ok (.iconst 1, 1) := by decide +kernel
theorem dX8_refusalOfCommand_14 : decode cX8_refusalOfCommand 14 = .ok (.invokevirtual 255, 3) := by decide +kernel
theorem dX8_refusalOfCommand_17 : decode cX8_refusalOfCommand 17 = .ok (.istore_n 2, 1) := by decide +kernel
theorem dX8_refusalOfCommand_18 : decode cX8_refusalOfCommand 18 = .ok (.aload_n 0, 1) := by decide +kernel
theorem dX8_refusalOfCommand_19 : decode cX8_refusalOfCommand 19 = .ok (.getfield 29, 3) := by decide +kernel
theorem dX8_refusalOfCommand_22 : decode cX8_refusalOfCommand 22 = .ok (.iconst 2, 1) := by decide +kernel
theorem dX8_refusalOfCommand_23 : decode cX8_refusalOfCommand 23 = .ok (.invokevirtual 255, 3) := by decide +kernel
theorem dX8_refusalOfCommand_26 : decode cX8_refusalOfCommand 26 = .ok (.istore_n 3, 1) := by decide +kernel
theorem dX8_refusalOfCommand_27 : decode cX8_refusalOfCommand 27 = .ok (.aload_n 0, 1) := by decide +kernel
theorem dX8_refusalOfCommand_28 : decode cX8_refusalOfCommand 28 = .ok (.getfield 29, 3) := by decide +kernel
theorem dX8_refusalOfCommand_31 : decode cX8_refusalOfCommand 31 = .ok (.invokevirtual 258, 3) := by decide +kernel
theorem dX8_refusalOfCommand_34 : decode cX8_refusalOfCommand 34 = .ok (.tableswitch 127 0 6 #[42, 69, 77, 88, 98, 108, 117], 42) := by decide +kernel
theorem dX8_refusalOfCommand_76 : decode cX8_refusalOfCommand 76 = .ok (.aload_n 0, 1) := by decide +kernel
theorem dX8_refusalOfCommand_77 : decode cX8_refusalOfCommand 77 = .ok (.getfield 10, 3) := by decide +kernel
theorem dX8_refusalOfCommand_80 : decode cX8_refusalOfCommand 80 = .ok (.iload_n 1, 1) := by decide +kernel
theorem dX8_refusalOfCommand_81 : decode cX8_refusalOfCommand 81 = .ok (.iload_n 2, 1) := by decide +kernel
theorem dX8_refusalOfCommand_82 : decode cX8_refusalOfCommand 82 = .ok (.iload_n 3, 1) := by decide +kernel
theorem dX8_refusalOfCommand_83 : decode cX8_refusalOfCommand 83 = .ok (.aload_n 0, 1) := by decide +kernel
theorem dX8_refusalOfCommand_84 : decode cX8_refusalOfCommand 84 = .ok (.getfield 29, 3) := by decide +kernel
theorem dX8_refusalOfCommand_87 : decode cX8_refusalOfCommand 87 = .ok (.iconst 3, 1) := by decide +kernel
theorem dX8_refusalOfCommand_88 : decode cX8_refusalOfCommand 88 = .ok (.invokevirtual 255, 3) := by decide +kernel
theorem dX8_refusalOfCommand_91 : decode cX8_refusalOfCommand 91 = .ok (.aload_n 0, 1) := by decide +kernel
theorem dX8_refusalOfCommand_92 : decode cX8_refusalOfCommand 92 = .ok (.getfield 29, 3) := by decide +kernel
theorem dX8_refusalOfCommand_95 : decode cX8_refusalOfCommand 95 = .ok (.iconst 4, 1) := by decide +kernel
theorem dX8_refusalOfCommand_96 : decode cX8_refusalOfCommand 96 = .ok (.invokevirtual 255, 3) := by decide +kernel
theorem dX8_refusalOfCommand_99 : decode cX8_refusalOfCommand 99 = .ok (.invokevirtual 33, 3) := by decide +kernel
theorem dX8_refusalOfCommand_102 : decode cX8_refusalOfCommand 102 = .ok (.ireturn, 1) := by decide +kernel
theorem dX8_refusalOfCommand_103 : decode cX8_refusalOfCommand 103 = .ok (.aload_n 0, 1) := by decide +kernel
theorem dX8_refusalOfCommand_104 : decode cX8_refusalOfCommand 104 = .ok (.getfield 10, 3) := by decide +kernel
theorem dX8_refusalOfCommand_107 : decode cX8_refusalOfCommand 107 = .ok (.invokevirtual 48, 3) := by decide +kernel
theorem dX8_refusalOfCommand_110 : decode cX8_refusalOfCommand 110 = .ok (.ireturn, 1) := by decide +kernel
theorem dX8_refusalOfCommand_111 : decode cX8_refusalOfCommand 111 = .ok (.aload_n 0, 1) := by decide +kernel
theorem dX8_refusalOfCommand_112 : decode cX8_refusalOfCommand 112 = .ok (.getfield 10, 3) := by decide +kernel
theorem dX8_refusalOfCommand_115 : decode cX8_refusalOfCommand 115 = .ok (.iload_n 1, 1) := by decide +kernel
theorem dX8_refusalOfCommand_116 : decode cX8_refusalOfCommand 116 = .ok (.iload_n 2, 1) := by decide +kernel
theorem dX8_refusalOfCommand_117 : decode cX8_refusalOfCommand 117 = .ok (.iload_n 3, 1) := by decide +kernel
theorem dX8_refusalOfCommand_118 : decode cX8_refusalOfCommand 118 = .ok (.invokevirtual 55, 3) := by decide +kernel
theorem dX8_refusalOfCommand_121 : decode cX8_refusalOfCommand 121 = .ok (.ireturn, 1) := by decide +kernel
theorem dX8_refusalOfCommand_122 : decode cX8_refusalOfCommand 122 = .ok (.aload_n 0, 1) := by decide +kernel
theorem dX8_refusalOfCommand_123 : decode cX8_refusalOfCommand 123 = .ok (.getfield 10, 3) := by decide +kernel
theorem dX8_refusalOfCommand_126 : decode cX8_refusalOfCommand 126 = .ok (.iload_n 1, 1) := by decide +kernel
theorem dX8_refusalOfCommand_127 : decode cX8_refusalOfCommand 127 = .ok (.iload_n 2, 1) := by decide +kernel
theorem dX8_refusalOfCommand_128 : decode cX8_refusalOfCommand 128 = .ok (.invokevirtual 72, 3) := by decide +kernel
theorem dX8_refusalOfCommand_131 : decode cX8_refusalOfCommand 131 = .ok (.ireturn, 1) := by decide +kernel
theorem dX8_refusalOfCommand_132 : decode cX8_refusalOfCommand 132 = .ok (.aload_n 0, 1) := by decide +kernel
theorem dX8_refusalOfCommand_133 : decode cX8_refusalOfCommand 133 = .ok (.getfield 10, 3) := by decide +kernel
theorem dX8_refusalOfCommand_136 : decode cX8_refusalOfCommand 136 = .ok (.iload_n 1, 1) := by decide +kernel
theorem dX8_refusalOfCommand_137 : decode cX8_refusalOfCommand 137 = .ok (.iload_n 2, 1) := by decide +kernel
theorem dX8_refusalOfCommand_138 : decode cX8_refusalOfCommand 138 = .ok (.invokevirtual 78, 3) := by decide +kernel
theorem dX8_refusalOfCommand_141 : decode cX8_refusalOfCommand 141 = .ok (.ireturn, 1) := by decide +kernel
theorem dX8_refusalOfCommand_142 : decode cX8_refusalOfCommand 142 = .ok (.aload_n 0, 1) := by decide +kernel
theorem dX8_refusalOfCommand_143 : decode cX8_refusalOfCommand 143 = .ok (.getfield 10, 3) := by decide +kernel
theorem dX8_refusalOfCommand_146 : decode cX8_refusalOfCommand 146 = .ok (.iload_n 1, 1) := by decide +kernel
theorem dX8_refusalOfCommand_147 : decode cX8_refusalOfCommand 147 = .ok (.invokevirtual 87, 3) := by decide +kernel
theorem dX8_refusalOfCommand_150 : decode cX8_refusalOfCommand 150 = .ok (.ireturn, 1) := by decide +kernel
theorem dX8_refusalOfCommand_151 : decode cX8_refusalOfCommand 151 = .ok (.aload_n 0, 1) := by decide +kernel
theorem dX8_refusalOfCommand_152 : decode cX8_refusalOfCommand 152 = .ok (.getfield 10, 3) := by decide +kernel
theorem dX8_refusalOfCommand_155 : decode cX8_refusalOfCommand 155 = .ok (.iload_n 1, 1) := by decide +kernel
theorem dX8_refusalOfCommand_156 : decode cX8_refusalOfCommand 156 = .ok (.iload_n 2, 1) := by decide +kernel
theorem dX8_refusalOfCommand_157 : decode cX8_refusalOfCommand 157 = .ok (.invokevirtual 65, 3) := by decide +kernel
theorem dX8_refusalOfCommand_160 : decode cX8_refusalOfCommand 160 = .ok (.ireturn, 1) := by decide +kernel
theorem dX8_refusalOfCommand_161 : decode cX8_refusalOfCommand 161 = .ok (.iconst 0, 1) := by decide +kernel
theorem dX8_refusalOfCommand_162 : decode cX8_refusalOfCommand 162 = .ok (.ireturn, 1) := by decide +kernel
theorem dX9_init_0 : decode cX9_init 0 = .ok (.aload_n 0, 1) := by decide +kernel
theorem dX9_init_1 : decode cX9_init 1 = .ok (.invokespecial 1, 3) := by decide +kernel
theorem dX9_init_4 : decode cX9_init 4 = .ok (.aload_n 0, 1) := by decide +kernel
theorem dX9_init_5 : decode cX9_init 5 = .ok (.sipush 265, 3) := by decide +kernel
theorem dX9_init_8 : decode cX9_init 8 = .ok (.newarray .int, 2) := by decide +kernel
theorem dX9_init_10 : decode cX9_init 10 = .ok (.putfield 7, 3) := by decide +kernel
theorem dX9_init_13 : decode cX9_init 13 = .ok (.aload_n 0, 1) := by decide +kernel
theorem dX9_init_14 : decode cX9_init 14 = .ok (.sipush 265, 3) := by decide +kernel
theorem dX9_init_17 : decode cX9_init 17 = .ok (.newarray .int, 2) := by decide +kernel
theorem dX9_init_19 : decode cX9_init 19 = .ok (.putfield 13, 3) := by decide +kernel
theorem dX9_init_22 : decode cX9_init 22 = .ok (.aload_n 0, 1) := by decide +kernel
theorem dX9_init_23 : decode cX9_init 23 = .ok (.sipush 1060, 3) := by decide +kernel
theorem dX9_init_26 : decode cX9_init 26 = .ok (.newarray .int, 2) := by decide +kernel
theorem dX9_init_28 : decode cX9_init 28 = .ok (.putfield 16, 3) := by decide +kernel
theorem dX9_init_31 : decode cX9_init 31 = .ok (.aload_n 0, 1) := by decide +kernel
theorem dX9_init_32 : decode cX9_init 32 = .ok (.sipush 150, 3) := by decide +kernel
theorem dX9_init_35 : decode cX9_init 35 = .ok (.newarray .int, 2) := by decide +kernel
theorem dX9_init_37 : decode cX9_init 37 = .ok (.putfield 19, 3) := by decide +kernel
theorem dX9_init_40 : decode cX9_init 40 = .ok (.aload_n 0, 1) := by decide +kernel
theorem dX9_init_41 : decode cX9_init 41 = .ok (.bipush 8, 2) := by decide +kernel
theorem dX9_init_43 : decode cX9_init 43 = .ok (.newarray .int, 2) := by decide +kernel
theorem dX9_init_45 : decode cX9_init 45 = .ok (.putfield 22, 3) := by decide +kernel
theorem dX9_init_48 : decode cX9_init 48 = .ok (.aload_n 0, 1) := by decide +kernel
theorem dX9_init_49 : decode cX9_init 49 = .ok (.bipush 8, 2) := by decide +kernel
theorem dX9_init_51 : decode cX9_init 51 = .ok (.newarray .long, 2) := by decide +kernel
theorem dX9_init_53 : decode cX9_init 53 = .ok (.putfield 25, 3) := by decide +kernel
theorem dX9_init_56 : decode cX9_init 56 = .ok (.aload_n 0, 1) := by decide +kernel
theorem dX9_init_57 : decode cX9_init 57 = .ok (.bipush 16, 2) := by decide +kernel
theorem dX9_init_59 : decode cX9_init 59 = .ok (.newarray .int, 2) := by decide +kernel
theorem dX9_init_61 : decode cX9_init 61 = .ok (.putfield 29, 3) := by decide +kernel
theorem dX9_init_64 : decode cX9_init 64 = .ok (.aload_n 0, 1) := by decide +kernel
theorem dX9_init_65 : decode cX9_init 65 = .ok (.iconst 5, 1) := by decide +kernel
theorem dX9_init_66 : decode cX9_init 66 = .ok (.newarray .int, 2) := by decide +kernel
theorem dX9_init_68 : decode cX9_init 68 = .ok (.putfield 32, 3) := by decide +kernel
theorem dX9_init_71 : decode cX9_init 71 = .ok (.aload_n 0, 1) := by decide +kernel
theorem dX9_init_72 : decode cX9_init 72 = .ok (.iconst 0, 1) := by decide +kernel
theorem dX9_init_73 : decode cX9_init 73 = .ok (.putfield 35, 3) := by decide +kernel
theorem dX9_init_76 : decode cX9_init 76 = .ok (.iconst 0, 1) := by decide +kernel
theorem dX9_init_77 : decode cX9_init 77 = .ok (.istore_n 1, 1) := by decide +kernel
theorem dX9_init_78 : decode cX9_init 78 = .ok (.iload_n 1, 1) := by decide +kernel
theorem dX9_init_79 : decode cX9_init 79 = .ok (.bipush 12, 2) := by decide +kernel
theorem dX9_init_81 : decode cX9_init 81 = .ok (.if_icmp .ge 24, 3) := by decide +kernel
theorem dX9_init_84 : decode cX9_init 84 = .ok (.aload_n 0, 1) := by decide +kernel
theorem dX9_init_85 : decode cX9_init 85 = .ok (.getfield 7, 3) := by decide +kernel
theorem dX9_init_88 : decode cX9_init 88 = .ok (.sipush 229, 3) := by decide +kernel
theorem dX9_init_91 : decode cX9_init 91 = .ok (.iconst 3, 1) := by decide +kernel
theorem dX9_init_92 : decode cX9_init 92 = .ok (.iload_n 1, 1) := by decide +kernel
theorem dX9_init_93 : decode cX9_init 93 = .ok (.imul, 1) := by decide +kernel
theorem dX9_init_94 : decode cX9_init 94 = .ok (.iadd, 1) := by decide +kernel
theorem dX9_init_95 : decode cX9_init 95 = .ok (.iconst 0, 1) := by decide +kernel
theorem dX9_init_96 : decode cX9_init 96 = .ok (.iadd, 1) := by decide +kernel
theorem dX9_init_97 : decode cX9_init 97 = .ok (.iconst (-1), 1) := by decide +kernel
theorem dX9_init_98 : decode cX9_init 98 = .ok (.iastore, 1) := by decide +kernel
theorem dX9_init_99 : decode cX9_init 99 = .ok (.iinc 1 1, 3) := by decide +kernel
theorem dX9_init_102 : decode cX9_init 102 = .ok (.goto (-24), 3) := by decide +kernel
theorem dX9_init_105 : decode cX9_init 105 = .ok (.return_, 1) := by decide +kernel
theorem dX9_thrown_0 : decode cX9_thrown 0 = .ok (.aload_n 0, 1) := by decide +kernel
theorem dX9_thrown_1 : decode cX9_thrown 1 = .ok (.getfield 35, 3) := by decide +kernel
theorem dX9_thrown_4 : decode cX9_thrown 4 = .ok (.ireturn, 1) := by decide +kernel
theorem dX9_in_0 : decode cX9_in 0 = .ok (.iload_n 0, 1) := by decide +kernel
theorem dX9_in_1 : decode cX9_in 1 = .ok (.iload_n 1, 1) := by decide +kernel
theorem dX9_in_2 : decode cX9_in 2 = .ok (.if_icmp .lt 12, 3) := by decide +kernel
theorem dX9_in_5 : decode cX9_in 5 = .ok (.iload_n 0, 1) := by decide +kernel
theorem dX9_in_6 : decode cX9_in 6 = .ok (.iload_n 2, 1) := by decide +kernel
theorem dX9_in_7 : decode cX9_in 7 = .ok (.if_icmp .gt 7, 3) := by decide +kernel
theorem dX9_in_10 : decode cX9_in 10 = .ok (.iconst 1, 1) := by decide +kernel
theorem dX9_in_11 : decode cX9_in 11 = .ok (.goto 4, 3) := by decide +kernel
theorem dX9_in_14 : decode cX9_in 14 = .ok (.iconst 0, 1) := by decide +kernel
theorem dX9_in_15 : decode cX9_in 15 = .ok (.ireturn, 1) := by decide +kernel
theorem dX9_save_0 : decode cX9_save 0 = .ok (.aload_n 0, 1) := by decide +kernel
theorem dX9_save_1 : decode cX9_save 1 = .ok (.getfield 39, 3) := by decide +kernel
theorem dX9_save_4 : decode cX9_save 4 = .ok (.iconst 4, 1) := by decide +kernel
theorem dX9_save_5 : decode cX9_save 5 = .ok (.if_icmp .ne 44, 3) := by decide +kernel
theorem dX9_save_8 : decode cX9_save 8 = .ok (.iconst 0, 1) := by decide +kernel
theorem dX9_save_9 : decode cX9_save 9 = .ok (.istore_n 1, 1) := by decide +kernel
theorem dX9_save_10 : decode cX9_save 10 = .ok (.iload_n 1, 1) := by decide +kernel
theorem dX9_save_11 : decode cX9_save 11 = .ok (.sipush 795, 3) := by decide +kernel
theorem dX9_save_14 : decode cX9_save 14 = .ok (.if_icmp .ge 25, 3) := by decide +kernel
theorem dX9_save_17 : decode cX9_save 17 = .ok (.aload_n 0, 1) := by decide +kernel
theorem dX9_save_18 : decode cX9_save 18 = .ok (.getfield 16, 3) := by decide +kernel
theorem dX9_save_21 : decode cX9_save 21 = .ok (.iload_n 1, 1) := by decide +kernel
theorem dX9_save_22 : decode cX9_save 22 = .ok (.aload_n 0, 1) := by decide +kernel
theorem dX9_save_23 : decode cX9_save 23 = .ok (.getfield 16, 3) := by decide +kernel
theorem dX9_save_26 : decode cX9_save 26 = .ok (.iload_n 1, 1) := by decide +kernel
theorem dX9_save_27 : decode cX9_save 27 = .ok (.sipush 265, 3) := by decide +kernel
theorem dX9_save_30 : decode cX9_save 30 = .ok (.iadd, 1) := by decide +kernel
theorem dX9_save_31 : decode cX9_save 31 = .ok (.iaload, 1) := by decide +kernel
theorem dX9_save_32 : decode cX9_save 32 = .ok (.iastore, 1) := by decide +kernel
theorem dX9_save_33 : decode cX9_save 33 = .ok (.iinc 1 1, 3) := by decide +kernel
theorem dX9_save_36 : decode cX9_save 36 = .ok (.goto (-26), 3) := by decide +kernel
theorem dX9_save_39 : decode cX9_save 39 = .ok (.aload_n 0, 1) := by decide +kernel
theorem dX9_save_40 : decode cX9_save 40 = .ok (.dup, 1) := by decide +kernel
theorem dX9_save_41 : decode cX9_save 41 = .ok (.getfield 39, 3) := by decide +kernel
theorem dX9_save_44 : decode cX9_save 44 = .ok (.iconst 1, 1) := by decide +kernel
theorem dX9_save_45 : decode cX9_save 45 = .ok (.isub, 1) := by decide +kernel
theorem dX9_save_46 : decode cX9_save 46 = .ok (.putfield 39, 3) := by decide +kernel
theorem dX9_save_49 : decode cX9_save 49 = .ok (.iconst 0, 1) := by decide +kernel
theorem dX9_save_50 : decode cX9_save 50 = .ok (.istore_n 1, 1) := by decide +kernel
theorem dX9_save_51 : decode cX9_save 51 = .ok (.iload_n 1, 1) := by decide +kernel
theorem dX9_save_52 : decode cX9_save 52 = .ok (.sipush 265, 3) := by decide +kernel
theorem dX9_save_55 : decode cX9_save 55 = .ok (.if_icmp .ge 30, 3) := by decide +kernel
theorem dX9_save_58 : decode cX9_save 58 = .ok (.aload_n 0, 1) := by decide +kernel
theorem dX9_save_59 : decode cX9_save 59 = .ok (.getfield 16, 3) := by decide +kernel
theorem dX9_save_62 : decode cX9_save 62 = .ok (.sipush 265, 3) := by decide +kernel
theorem dX9_save_65 : decode cX9_save 65 = .ok (.aload_n 0, 1) := by decide +kernel
theorem dX9_save_66 : decode cX9_save 66 = .ok (.getfield 39, 3) := by decide +kernel
theorem dX9_save_69 : decode cX9_save 69 = .ok (.imul, 1) := by decide +kernel
theorem dX9_save_70 : decode cX9_save 70 = .ok (.iload_n 1, 1) := by decide +kernel
theorem dX9_save_71 : decode cX9_save 71 = .ok (.iadd, 1) := by decide +kernel
theorem dX9_save_72 : decode cX9_save 72 = .ok (.aload_n 0, 1) := by decide +kernel
theorem dX9_save_73 : decode cX9_save 73 = .ok (.getfield 7, 3) := by decide +kernel
theorem dX9_save_76 : decode cX9_save 76 = .ok (.iload_n 1, 1) := by decide +kernel
theorem dX9_save_77 : decode cX9_save 77 = .ok (.iaload, 1) := by decide +kernel
theorem dX9_save_78 : decode cX9_save 78 = .ok (.iastore, 1) := by decide +kernel
theorem dX9_save_79 : decode cX9_save 79 = .ok (.iinc 1 1, 3) := by decide +kernel
theorem dX9_save_82 : decode cX9_save 82 = .ok (.goto (-31), 3) := by decide +kernel
theorem dX9_save_85 : decode cX9_save 85 = .ok (.aload_n 0, 1) := by decide +kernel
theorem dX9_save_86 : decode cX9_save 86 = .ok (.dup, 1) := by decide +kernel
theorem dX9_save_87 : decode cX9_save 87 = .ok (.getfield 39, 3) := by decide +kernel
theorem dX9_save_90 : decode cX9_save 90 = .ok (.iconst 1, 1) := by decide +kernel
theorem dX9_save_91 : decode cX9_save 91 = .ok (.iadd, 1) := by decide +kernel
theorem dX9_save_92 : decode cX9_save 92 = .ok (.putfield 39, 3) := by decide +kernel
theorem dX9_save_95 : decode cX9_save 95 = .ok (.return_, 1) := by decide +kernel
theorem dX9_kindOf_0 : decode cX9_kindOf 0 = .ok (.aload_n 0, 1) := by decide +kernel
theorem dX9_kindOf_1 : decode cX9_kindOf 1 = .ok (.bipush 12, 2) := by decide +kernel
theorem dX9_kindOf_3 : decode cX9_kindOf 3 = .ok (.iconst 5, 1) := by decide +kernel
theorem dX9_kindOf_4 : decode cX9_kindOf 4 = .ok (.iload_n 1, 1) := by decide +kernel
theorem dX9_kindOf_5 : decode cX9_kindOf 5 = .ok (.imul, 1) := by decide +kernel
theorem dX9_kindOf_6 : decode cX9_kindOf 6 = .ok (.iadd, 1) := by decide +kernel
theorem dX9_kindOf_7 : decode cX9_kindOf 7 = .ok (.iload_n 2, 1) := by decide +kernel
theorem dX9_kindOf_8 : decode cX9_kindOf 8 = .ok (.iadd, 1) := by decide +kernel
theorem dX9_kindOf_9 : decode cX9_kindOf 9 = .ok (.iaload, 1) := by decide +kernel
theorem dX9_kindOf_10 : decode cX9_kindOf 10 = .ok (.ireturn, 1) := by decide +kernel
theorem dX9_of_0 : decode cX9_of 0 = .ok (.aload_n 0, 1) := by decide +kernel
theorem dX9_of_1 : decode cX9_of 1 = .ok (.bipush 85, 2) := by decide +kernel
theorem dX9_of_3 : decode cX9_of 3 = .ok (.bipush 8, 2) := by decide +kernel
theorem dX9_of_5 : decode cX9_of 5 = .ok (.iload_n 1, 1) := by decide +kernel
theorem dX9_of_6 : decode cX9_of 6 = .ok (.imul, 1) := by decide +kernel
theorem dX9_of_7 : decode cX9_of 7 = .ok (.iadd, 1) := by decide +kernel
theorem dX9_of_8 : decode cX9_of 8 = .ok (.iload_n 2, 1) := by decide +kernel
theorem dX9_of_9 : decode cX9_of 9 = .ok (.iadd, 1) := by decide +kernel
theorem dX9_of_10 : decode cX9_of 10 = .ok (.iaload, 1) := by decide +kernel
theorem dX9_of_11 : decode cX9_of 11 = .ok (.ireturn, 1) := by decide +kernel
theorem dX9_put_0 : decode cX9_put 0 = .ok (.aload_n 0, 1) := by decide +kernel
theorem dX9_put_1 : decode cX9_put 1 = .ok (.bipush 85, 2) := by decide +kernel
theorem dX9_put_3 : decode cX9_put 3 = .ok (.bipush 8, 2) := by decide +kernel
theorem dX9_put_5 : decode cX9_put 5 = .ok (.iload_n 1, 1) := by decide +kernel
theorem dX9_put_6 : decode cX9_put 6 = .ok (.imul, 1) := by decide +kernel
theorem dX9_put_7 : decode cX9_put 7 = .ok (.iadd, 1) := by decide +kernel
theorem dX9_put_8 : decode cX9_put 8 = .ok (.iload_n 2, 1) := by decide +kernel
theorem dX9_put_9 : decode cX9_put 9 = .ok (.iadd, 1) := by decide +kernel
theorem dX9_put_10 : decode cX9_put 10 = .ok (.iload_n 3, 1) := by decide +kernel
theorem dX9_put_11 : decode cX9_put 11 = .ok (.iastore, 1) := by decide +kernel
theorem dX9_put_12 : decode cX9_put 12 = .ok (.return_, 1) := by decide +kernel
set_option maxRecDepth 20000 in
theorem ggX9_byKind_X9_of : GoodIn wsX9_byKind wsX9_of := goodIn_r _ [4] (by decide +kernel) (by decide +kernel)
set_option maxRecDepth 20000 in
theorem gX9_byKind_X9_of : GoodIn wsX9_byKind (va_wsS RX9 42 yX9_of wsX9_of) := goodIn_app (goodIn_of _ (by decide +kernel)) ggX9_byKind_X9_of
set_option maxRecDepth 20000 in
theorem ggX9_byKind_X9_kindOf : GoodIn wsX9_byKind wsX9_kindOf := goodIn_r _ [7] (by decide +kernel) (by decide +kernel)
set_option maxRecDepth 20000 in
theorem gX9_byKind_X9_kindOf : GoodIn wsX9_byKind (va_wsS RX9 46 yX9_kindOf wsX9_kindOf) := goodIn_app (goodIn_of _ (by decide +kernel)) ggX9_byKind_X9_kindOf
theorem dX9_byKind_0 : decode cX9_byKind 0 = .ok (.aload_n 0, 1) := by decide +kernel
theorem dX9_byKind_1 : decode cX9_byKind 1 = .ok (.aload_n 0, 1) := by decide +kernel
theorem dX9_byKind_2 : decode cX9_byKind 2 = .ok (.iload_n 1, 1) := by decide +kernel
theorem dX9_byKind_3 : decode cX9_byKind 3 = .ok (.iconst 1, 1) := by decide +kernel
theorem dX9_byKind_4 : decode cX9_byKind 4 = .ok (.invokestatic 42, 3) := by decide +kernel
theorem dX9_byKind_7 : decode cX9_byKind 7 = .ok (.iload_n 2, 1) := by decide +kernel
theorem dX9_byKind_8 : decode cX9_byKind 8 = .ok (.invokestatic 46, 3) := by decide +kernel
theorem dX9_byKind_11 : decode cX9_byKind 11 = .ok (.ireturn, 1) := by decide +kernel
theorem dX9_at_0 : decode cX9_at 0 = .ok (.aload_n 0, 1) := by decide +kernel
theorem dX9_at_1 : decode cX9_at 1 = .ok (.sipush 229, 3) := by decide +kernel
theorem dX9_at_4 : decode cX9_at 4 = .ok (.iconst 3, 1) := by decide +kernel
theorem dX9_at_5 : decode cX9_at 5 = .ok (.iload_n 1, 1) := by decide +kernel
theorem dX9_at_6 : decode cX9_at 6 = .ok (.imul, 1) := by decide +kernel
theorem dX9_at_7 : decode cX9_at 7 = .ok (.iadd, 1) := by decide +kernel
theorem dX9_at_8 : decode cX9_at 8 = .ok (.iload_n 2, 1) := by decide +kernel
theorem dX9_at_9 : decode cX9_at 9 = .ok (.iadd, 1) := by decide +kernel
theorem dX9_at_10 : decode cX9_at 10 = .ok (.iaload, 1) := by decide +kernel
theorem dX9_at_11 : decode cX9_at 11 = .ok (.ireturn, 1) := by decide +kernel
theorem dX9_heatAt_0 : decode cX9_heatAt 0 = .ok (.aload_n 0, 1) := by decide +kernel
theorem dX9_heatAt_1 : decode cX9_heatAt 1 = .ok (.iconst 0, 1) := by decide +kernel
theorem dX9_heatAt_2 : decode cX9_heatAt 2 = .ok (.iaload, 1) := by decide +kernel
theorem dX9_heatAt_3 : decode cX9_heatAt 3 = .ok (.bipush 20, 2) := by decide +kernel
theorem dX9_heatAt_5 : decode cX9_heatAt 5 = .ok (.iload_n 1, 1) := by decide +kernel
theorem dX9_heatAt_6 : decode cX9_heatAt 6 = .ok (.iconst 4, 1) := by decide +kernel
theorem dX9_heatAt_7 : decode cX9_heatAt 7 = .ok (.idiv, 1) := by decide +kernel
theorem dX9_heatAt_8 : decode cX9_heatAt 8 = .ok (.imul, 1) := by decide +kernel
theorem dX9_heatAt_9 : decode cX9_heatAt 9 = .ok (.isub, 1) := by decide +kernel
theorem dX9_heatAt_10 : decode cX9_heatAt 10 = .ok (.istore_n 2, 1) := by decide +kernel
theorem dX9_heatAt_11 : decode cX9_heatAt 11 = .ok (.iload_n 2, 1) := by decide +kernel
theorem dX9_heatAt_12 : decode cX9_heatAt 12 = .ok (.ifCond .ge 7, 3) := by decide +kernel
theorem dX9_heatAt_15 : decode cX9_heatAt 15 = .ok (.iconst 0, 1) := by decide +kernel
theorem dX9_heatAt_16 : decode cX9_heatAt 16 = .ok (.goto 4, 3) := by decide +kernel
theorem dX9_heatAt_19 : decode cX9_heatAt 19 = .ok (.iload_n 2, 1) := by decide +kernel
theorem dX9_heatAt_20 : decode cX9_heatAt 20 = .ok (.ireturn, 1) := by decide +kernel
set_option maxRecDepth 20000 in
theorem ggX9_isKind_X9_in : GoodIn wsX9_isKind wsX9_in := goodIn_r _ [5] (by decide +kernel) (by decide +kernel)
set_option maxRecDepth 20000 in
theorem gX9_isKind_X9_in : GoodIn wsX9_isKind (va_wsS RX9 49 yX9_in wsX9_in) := goodIn_app (goodIn_of _ (by decide +kernel)) ggX9_isKind_X9_in
theorem dX9_isKind_0 : decode cX9_isKind 0 = .ok (.iload_n 1, 1) := by decide +kernel
theorem dX9_isKind_1 : decode cX9_isKind 1 = .ok (.iconst 0, 1) := by decide +kernel
theorem dX9_isKind_2 : decode cX9_isKind 2 = .ok (.aload_n 0, 1) := by decide +kernel
theorem dX9_isKind_3 : decode cX9_isKind 3 = .ok (.getfield 7, 3) := by decide +kernel
theorem dX9_isKind_6 : decode cX9_isKind 6 = .ok (.iconst 2, 1) := by decide +kernel
theorem dX9_isKind_7 : decode cX9_isKind 7 = .ok (.iaload, 1) := by decide +kernel
theorem dX9_isKind_8 : decode cX9_isKind 8 = .ok (.iconst 1, 1) := by decide +kernel
theorem dX9_isKind_9 : decode cX9_isKind 9 = .ok (.isub, 1) := by decide +kernel
theorem dX9_isKind_10 : decode cX9_isKind 10 = .ok (.invokestatic 49, 3) := by decide +kernel
theorem dX9_isKind_13 : decode cX9_isKind 13 = .ok (.ireturn, 1) := by decide +kernel
set_option maxRecDepth 20000 in
theorem ggX9_isHouse_X9_in : GoodIn wsX9_isHouse wsX9_in := goodIn_r _ [5] (by decide +kernel) (by decide +kernel)
set_option maxRecDepth 20000 in
theorem gX9_isHouse_X9_in : GoodIn wsX9_isHouse (va_wsS RX9 49 yX9_in wsX9_in) := goodIn_app (goodIn_of _ (by decide +kernel)) ggX9_isHouse_X9_in
theorem dX9_isHouse_0 : decode cX9_isHouse 0 = .ok (.iload_n 1, 1) := by decide +kernel
theorem dX9_isHouse_1 : decode cX9_isHouse 1 = .ok (.iconst 0, 1) := by decide +kernel
theorem dX9_isHouse_2 : decode cX9_isHouse 2 = .ok (.aload_n 0, 1) := by decide +kernel
theorem dX9_isHouse_3 : decode cX9_isHouse 3 = .ok (.getfield 7, 3) := by decide +kernel
theorem dX9_isHouse_6 : decode cX9_isHouse 6 = .ok (.iconst 3, 1) := by decide +kernel
theorem dX9_isHouse_7 : decode cX9_isHouse 7 = .ok (.iaload, 1) := by decide +kernel
theorem dX9_isHouse_8 : decode cX9_isHouse 8 = .ok (.iconst 1, 1) := by decide +kernel
theorem dX9_isHouse_9 : decode cX9_isHouse 9 = .ok (.isub, 1) := by decide +kernel
theorem dX9_isHouse_10 : decode cX9_isHouse 10 = .ok (.invokestatic 49, 3) := by decide +kernel
theorem dX9_isHouse_13 : decode cX9_isHouse 13 = .ok (.ireturn, 1) := by decide +kernel
set_option maxRecDepth 20000 in
theorem ggX9_isDough_X9_in : GoodIn wsX9_isDough wsX9_in := goodIn_r _ [5] (by decide +kernel) (by decide +kernel)
set_option maxRecDepth 20000 in
theorem gX9_isDough_X9_in : GoodIn wsX9_isDough (va_wsS RX9 49 yX9_in wsX9_in) := goodIn_app (goodIn_of _ (by decide +kernel)) ggX9_isDough_X9_in
theorem dX9_isDough_0 : decode cX9_isDough 0 = .ok (.iload_n 1, 1) := by decide +kernel
theorem dX9_isDough_1 : decode cX9_isDough 1 = .ok (.iconst 0, 1) := by decide +kernel
theorem dX9_isDough_2 : decode cX9_isDough 2 = .ok (.aload_n 0, 1) := by decide +kernel
theorem dX9_isDough_3 : decode cX9_isDough 3 = .ok (.getfield 7, 3) := by decide +kernel
theorem dX9_isDough_6 : decode cX9_isDough 6 = .ok (.iconst 4, 1) := by decide +kernel
theorem dX9_isDough_7 : decode cX9_isDough 7 = .ok (.iaload, 1) := by decide +kernel
theorem dX9_isDough_8 : decode cX9_isDough 8 = .ok (.iconst 1, 1) := by decide +kernel
theorem dX9_isDough_9 : decode cX9_isDough 9 = .ok (.isub, 1) := by decide +kernel
theorem dX9_isDough_10 : decode cX9_isDough 10 = .ok (.invokestatic 49, 3) := by decide +kernel
theorem dX9_isDough_13 : decode cX9_isDough 13 = .ok (.ireturn, 1) := by decide +kernel
theorem dX9_placeInLine_0 : decode cX9_placeInLine 0 = .ok (.iconst (-1), 1) := by decide +kernel
theorem dX9_placeInLine_1 : decode cX9_placeInLine 1 = .ok (.istore_n 2, 1) := by decide +kernel
theorem dX9_placeInLine_2 : decode cX9_placeInLine 2 = .ok (.iconst 0, 1) := by decide +kernel
theorem dX9_placeInLine_3 : decode cX9_placeInLine 3 = .ok (.istore_n 3, 1) := by decide +kernel
theorem dX9_placeInLine_4 : decode cX9_placeInLine 4 = .ok (.iload_n 3, 1) := by decide +kernel
theorem dX9_placeInLine_5 : decode cX9_placeInLine 5 = .ok (.aload_n 0, 1) := by decide +kernel
theorem dX9_placeInLine_6 : decode cX9_placeInLine 6 = .ok (.iconst 5, 1) := by decide +kernel
theorem dX9_placeInLine_7 : decode cX9_placeInLine 7 = .ok (.iaload, 1) := by decide +kernel
theorem dX9_placeInLine_8 : decode cX9_placeInLine 8 = .ok (.if_icmp .ge 26, 3) := by decide +kernel
theorem dX9_placeInLine_11 : decode cX9_placeInLine 11 = .ok (.aload_n 0, 1) := by decide +kernel
theorem dX9_placeInLine_12 : decode cX9_placeInLine 12 = .ok (.sipush 213, 3) := by decide +kernel
theorem dX9_placeInLine_15 : decode cX9_placeInLine 15 = .ok (.iload_n 3, 1) := by decide +kernel
theorem dX9_placeInLine_16 : decode cX9_placeInLine 16 = .ok (.iadd, 1) := by decide +kernel
theorem dX9_placeInLine_17 : decode cX9_placeInLine 17 = .ok (.iaload, 1) := by decide +kernel
theorem dX9_placeInLine_18 : decode cX9_placeInLine 18 = .ok (.iload_n 1, 1) := by decide +kernel
theorem dX9_placeInLine_19 : decode cX9_placeInLine 19 = .ok (.if_icmp .ne 7, 3) := by decide +kernel
theorem dX9_placeInLine_22 : decode cX9_placeInLine 22 = .ok (.iload_n 3, 1) := by decide +kernel
theorem dX9_placeInLine_23 : decode cX9_placeInLine 23 = .ok (.goto 4, 3) := by decide +kernel
theorem dX9_placeInLine_26 : decode cX9_placeInLine 26 = .ok (.iload_n 2, 1) := by decide +kernel
theorem dX9_placeInLine_27 : decode cX9_placeInLine 27 = .ok (.istore_n 2, 1) := by decide +kernel
theorem dX9_placeInLine_28 : decode cX9_placeInLine 28 = .ok (.iinc 3 1, 3) := by decide +kernel
theorem dX9_placeInLine_31 : decode cX9_placeInLine 31 = .ok (.goto (-27), 3) := by decide +kernel
theorem dX9_placeInLine_34 : decode cX9_placeInLine 34 = .ok (.iload_n 2, 1) := by decide +kernel
theorem dX9_placeInLine_35 : decode cX9_placeInLine 35 = .ok (.ireturn, 1) := by decide +kernel
set_option maxRecDepth 20000 in
theorem ggX9_leaveLine_X9_placeInLine : GoodIn wsX9_leaveLine wsX9_placeInLine := goodIn_r _ [4] (by decide +kernel) (by decide +kernel)
set_option maxRecDepth 20000 in
theorem gX9_leaveLine_X9_placeInLine : GoodIn wsX9_leaveLine (va_wsS RX9 53 yX9_placeInLine wsX9_placeInLine) := goodIn_app (goodIn_of _ (by decide +kernel)) ggX9_leaveLine_X9_placeInLine
theorem dX9_leaveLine_0 : decode cX9_leaveLine 0 = .ok (.aload_n 0, 1) := by decide +kernel
theorem dX9_leaveLine_1 : decode cX9_leaveLine 1 = .ok (.iload_n 1, 1) := by decide +kernel
theorem dX9_leaveLine_2 : decode cX9_leaveLine 2 = .ok (.invokestatic 53, 3) := by decide +kernel
theorem dX9_leaveLine_5 : decode cX9_leaveLine 5 = .ok (.istore_n 2, 1) := by decide +kernel
theorem dX9_leaveLine_6 : decode cX9_leaveLine 6 = .ok (.aload_n 0, 1) := by decide +kernel
theorem dX9_leaveLine_7 : decode cX9_leaveLine 7 = .ok (.iconst 5, 1) := by decide +kernel
theorem dX9_leaveLine_8 : decode cX9_leaveLine 8 = .ok (.dup2, 1) := by decide +kernel
theorem dX9_leaveLine_9 : decode cX9_leaveLine 9 = .ok (.iaload, 1) := by decide +kernel
theorem dX9_leaveLine_10 : decode cX9_leaveLine 10 = .ok (.iconst 1, 1) := by decide +kernel
theorem dX9_leaveLine_11 : decode cX9_leaveLine 11 = .ok (.isub, 1) := by decide +kernel
theorem dX9_leaveLine_12 : decode cX9_leaveLine 12 = .ok (.iastore, 1) := by decide +kernel
theorem dX9_leaveLine_13 : decode cX9_leaveLine 13 = .ok (.iload_n 2, 1) := by decide +kernel
theorem dX9_leaveLine_14 : decode cX9_leaveLine 14 = .ok (.istore_n 3, 1) := by decide +kernel
theorem dX9_leaveLine_15 : decode cX9_leaveLine 15 = .ok (.iload_n 3, 1) := by decide +kernel
theorem dX9_leaveLine_16 : decode cX9_leaveLine 16 = .ok (.aload_n 0, 1) := by decide +kernel
theorem dX9_leaveLine_17 : decode cX9_leaveLine 17 = .ok (.iconst 5, 1) := by decide +kernel
theorem dX9_leaveLine_18 : decode cX9_leaveLine 18 = .ok (.iaload, 1) := by decide +kernel
theorem dX9_leaveLine_19 : decode cX9_leaveLine 19 = .ok (.if_icmp .ge 25, 3) := by decide +kernel
theorem dX9_leaveLine_22 : decode cX9_leaveLine 22 = .ok (.aload_n 0, 1) := by decide +kernel
theorem dX9_leaveLine_23 : decode cX9_leaveLine 23 = .ok (.sipush 213, 3) := by decide +kernel
theorem dX9_leaveLine_26 : decode cX9_leaveLine 26 = .ok (.iload_n 3, 1) := by decide +kernel
theorem dX9_leaveLine_27 : decode cX9_leaveLine 27 = .ok (.iadd, 1) := by decide +kernel
theorem dX9_leaveLine_28 : decode cX9_leaveLine 28 = .ok (.aload_n 0, 1) := by decide +kernel
theorem dX9_leaveLine_29 : decode cX9_leaveLine 29 = .ok (.sipush 213, 3) := by decide +kernel
theorem dX9_leaveLine_32 : decode cX9_leaveLine 32 = .ok (.iload_n 3, 1) := by decide +kernel
theorem dX9_leaveLine_33 : decode cX9_leaveLine 33 = .ok (.iadd, 1) := by decide +kernel
theorem dX9_leaveLine_34 : decode cX9_leaveLine 34 = .ok (.iconst 1, 1) := by decide +kernel
theorem dX9_leaveLine_35 : decode cX9_leaveLine 35 = .ok (.iadd, 1) := by decide +kernel
theorem dX9_leaveLine_36 : decode cX9_leaveLine 36 = .ok (.iaload, 1) := by decide +kernel
theorem dX9_leaveLine_37 : decode cX9_leaveLine 37 = .ok (.iastore, 1) := by decide +kernel
theorem dX9_leaveLine_38 : decode cX9_leaveLine 38 = .ok (.iinc 3 1, 3) := by decide +kernel
theorem dX9_leaveLine_41 : decode cX9_leaveLine 41 = .ok (.goto (-26), 3) := by decide +kernel
theorem dX9_leaveLine_44 : decode cX9_leaveLine 44 = .ok (.return_, 1) := by decide +kernel
set_option maxRecDepth 20000 in
theorem ggX9_age_X9_of : GoodIn wsX9_age wsX9_of := goodIn_r _ [4] (by decide +kernel) (by decide +kernel)
set_option maxRecDepth 20000 in
theorem gX9_age_X9_of : GoodIn wsX9_age (va_wsS RX9 42 yX9_of wsX9_of) := goodIn_app (goodIn_of _ (by decide +kernel)) ggX9_age_X9_of
set_option maxRecDepth 20000 in
theorem ggX9_age_X9_put : GoodIn wsX9_age wsX9_put := goodIn_r _ [7] (by decide +kernel) (by decide +kernel)
set_option maxRecDepth 20000 in
theorem gX9_age_X9_put : GoodIn wsX9_age (va_wsS RX9 57 yX9_put wsX9_put) := goodIn_app (goodIn_of _ (by decide +kernel)) ggX9_age_X9_put
set_option maxRecDepth 20000 in
theorem ggX9_age_X9_byKind : GoodIn wsX9_age wsX9_byKind := goodIn_r _ [10, 1, 2, 3, 4, 11, 12, 13] (by decide +kernel) (by decide +kernel)
set_option maxRecDepth 20000 in
theorem gX9_age_X9_byKind : GoodIn wsX9_age (va_wsS RX9 61 yX9_byKind wsX9_byKind) := goodIn_app (goodIn_of _ (by decide +kernel)) ggX9_age_X9_byKind
set_option maxRecDepth 20000 in
theorem ggX9_age_X9_leaveLine : GoodIn wsX9_age wsX9_leaveLine := goodIn_r _ [16, 17, 18, 3, 19] (by decide +kernel) (by decide +kernel)
set_option maxRecDepth 20000 in
theorem gX9_age_X9_leaveLine : GoodIn wsX9_age (va_wsS RX9 64 yX9_leaveLine wsX9_leaveLine) := goodIn_app (goodIn_of _ (by decide +kernel)) ggX9_age_X9_leaveLine
theorem dX9_age_0 : decode cX9_age 0 = .ok (.iconst 0, 1) := by decide +kernel
theorem dX9_age_1 : decode cX9_age 1 = .ok (.istore_n 1, 1) := by decide +kernel
theorem dX9_age_2 : decode cX9_age 2 = .ok (.iload_n 1, 1) := by decide +kernel
theorem dX9_age_3 : decode cX9_age 3 = .ok (.aload_n 0, 1) := by decide +kernel
theorem dX9_age_4 : decode cX9_age 4 = .ok (.iconst 4, 1) := by decide +kernel
theorem dX9_age_5 : decode cX9_age 5 = .ok (.iaload, 1) := by decide +kernel
theorem dX9_age_6 : decode cX9_age 6 = .ok (.if_icmp .ge 74, 3) := by decide +kernel
theorem dX9_age_9 : decode cX9_age 9 = .ok (.aload_n 0, 1) := by decide +kernel
theorem dX9_age_10 : decode cX9_age 10 = .ok (.iload_n 1, 1) := by decide +kernel
theorem dX9_age_11 : decode cX9_age 11 = .ok (.iconst 4, 1) := by decide +kernel
theorem dX9_age_12 : decode cX9_age 12 = .ok (.invokestatic 42, 3) := by decide +kernel
theorem dX9_age_15 : decode cX9_age 15 = .ok (.ifCond .ne 59, 3) := by decide +kernel
theorem dX9_age_18 : decode cX9_age 18 = .ok (.aload_n 0, 1) := by decide +kernel
theorem dX9_age_19 : decode cX9_age 19 = .ok (.iload_n 1, 1) := by decide +kernel
theorem dX9_age_20 : decode cX9_age 20 = .ok (.iconst 3, 1) := by decide +kernel
theorem dX9_age_21 : decode cX9_age 21 = .ok (.aload_n 0, 1) := by decide +kernel
theorem dX9_age_22 : decode cX9_age 22 = .ok (.iload_n 1, 1) := by decide +kernel
theorem dX9_age_23 : decode cX9_age 23 = .ok (.iconst 3, 1) := by decide +kernel
theorem dX9_age_24 : decode cX9_age 24 = .ok (.invokestatic 42, 3) := by decide +kernel
theorem dX9_age_27 : decode cX9_age 27 = .ok (.iconst 1, 1) := by decide +kernel
theorem dX9_age_28 : decode cX9_age 28 = .ok (.iadd, 1) := by decide +kernel
theorem dX9_age_29 : decode cX9_age 29 = .ok (.invokestatic 57, 3) := by decide +kernel
theorem dX9_age_32 : decode cX9_age 32 = .ok (.aload_n 0, 1) := by decide +kernel
theorem dX9_age_33 : decode cX9_age 33 = .ok (.iload_n 1, 1) := by decide +kernel
theorem dX9_age_34 : decode cX9_age 34 = .ok (.iconst 3, 1) := by decide +kernel
theorem dX9_age_35 : decode cX9_age 35 = .ok (.invokestatic 42, 3) := by decide +kernel
theorem dX9_age_38 : decode cX9_age 38 = .ok (.aload_n 0, 1) := by decide +kernel
theorem dX9_age_39 : decode cX9_age 39 = .ok (.iload_n 1, 1) := by decide +kernel
theorem dX9_age_40 : decode cX9_age 40 = .ok (.iconst 3, 1) := by decide +kernel
theorem dX9_age_41 : decode cX9_age 41 = .ok (.invokestatic 61, 3) := by decide +kernel
theorem dX9_age_44 : decode cX9_age 44 = .ok (.aload_n 0, 1) := by decide +kernel
theorem dX9_age_45 : decode cX9_age 45 = .ok (.iload_n 1, 1) := by decide +kernel
theorem dX9_age_46 : decode cX9_age 46 = .ok (.iconst 4, 1) := by decide +kernel
theorem dX9_age_47 : decode cX9_age 47 = .ok (.invokestatic 61, 3) := by decide +kernel
theorem dX9_age_50 : decode cX9_age 50 = .ok (.iadd, 1) := by decide +kernel
theorem dX9_age_51 : decode cX9_age 51 = .ok (.if_icmp .le 23, 3) := by decide +kernel
theorem dX9_age_54 : decode cX9_age 54 = .ok (.aload_n 0, 1) := by decide +kernel
theorem dX9_age_55 : decode cX9_age 55 = .ok (.iload_n 1, 1) := by decide +kernel
theorem dX9_age_56 : decode cX9_age 56 = .ok (.iconst 4, 1) := by decide +kernel
theorem dX9_age_57 : decode cX9_age 57 = .ok (.iconst 3, 1) := by decide +kernel
theorem dX9_age_58 : decode cX9_age 58 = .ok (.invokestatic 57, 3) := by decide +kernel
theorem dX9_age_61 : decode cX9_age 61 = .ok (.aload_n 0, 1) := by decide +kernel
theorem dX9_age_62 : decode cX9_age 62 = .ok (.iload_n 1, 1) := by decide +kernel
theorem dX9_age_63 : decode cX9_age 63 = .ok (.invokestatic 64, 3) := by decide +kernel
theorem dX9_age_66 : decode cX9_age 66 = .ok (.aload_n 0, 1) := by decide +kernel
theorem dX9_age_67 : decode cX9_age 67 = .ok (.bipush 11, 2) := by decide +kernel
theorem dX9_age_69 : decode cX9_age 69 = .ok (.dup2, 1) := by decide +kernel
theorem dX9_age_70 : decode cX9_age 70 = .ok (.iaload, 1) := by decide +kernel
theorem dX9_age_71 : decode cX9_age 71 = .ok (.iconst 1, 1) := by decide +kernel
theorem dX9_age_72 : decode cX9_age 72 = .ok (.iadd, 1) := by decide +kernel
theorem dX9_age_73 : decode cX9_age 73 = .ok (.iastore, 1) := by decide +kernel
theorem dX9_age_74 : decode cX9_age 74 = .ok (.iinc 1 1, 3) := by decide +kernel
theorem dX9_age_77 : decode cX9_age 77 = .ok (.goto (-75), 3) := by decide +kernel
theorem dX9_age_80 : decode cX9_age 80 = .ok (.return_, 1) := by decide +kernel
set_option maxRecDepth 20000 in
theorem ggX9_isFreeIn_X9_at : GoodIn wsX9_isFreeIn wsX9_at := goodIn_r _ [4] (by decide +kernel) (by decide +kernel)
set_option maxRecDepth 20000 in
theorem gX9_isFreeIn_X9_at : GoodIn wsX9_isFreeIn (va_wsS RX9 68 yX9_at wsX9_at) := goodIn_app (goodIn_of _ (by decide +kernel)) ggX9_isFreeIn_X9_at
set_option maxRecDepth 20000 in
theorem ggX9_isFreeIn_X9_heatAt : GoodIn wsX9_isFreeIn wsX9_heatAt := goodIn_r _ [7] (by decide +kernel) (by decide +kernel)
set_option maxRecDepth 20000 in
theorem gX9_isFreeIn_X9_heatAt : GoodIn wsX9_isFreeIn (va_wsS RX9 71 yX9_heatAt wsX9_heatAt) := goodIn_app (goodIn_of _ (by decide +kernel)) ggX9_isFreeIn_X9_heatAt
set_option maxRecDepth 20000 in
theorem ggX9_isFreeIn_X9_in : GoodIn wsX9_isFreeIn wsX9_in := goodIn_r _ [10] (by decide +kernel) (by decide +kernel)
set_option maxRecDepth 20000 in
theorem gX9_isFreeIn_X9_in : GoodIn wsX9_isFreeIn (va_wsS RX9 49 yX9_in wsX9_in) := goodIn_app (goodIn_of _ (by decide +kernel)) ggX9_isFreeIn_X9_in
theorem dX9_isFreeIn_0 : decode cX9_isFreeIn 0 = .ok (.aload_n 0, 1) := by decide +kernel
theorem dX9_isFreeIn_1 : decode cX9_isFreeIn 1 = .ok (.iload_n 1, 1) := by decide +kernel
theorem dX9_isFreeIn_2 : decode cX9_isFreeIn 2 = .ok (.iconst 0, 1) := by decide +kernel
theorem dX9_isFreeIn_3 : decode cX9_isFreeIn 3 = .ok (.invokestatic 68, 3) := by decide +kernel
theorem dX9_isFreeIn_6 : decode cX9_isFreeIn 6 = .ok (.iconst (-1), 1) := by decide +kernel
theorem dX9_isFreeIn_7 : decode cX9_isFreeIn 7 = .ok (.if_icmp .ne 20, 3) := by decide +kernel
theorem dX9_isFreeIn_10 : decode cX9_isFreeIn 10 = .ok (.aload_n 0, 1) := by decide +kernel
theorem dX9_isFreeIn_11 : decode cX9_isFreeIn 11 = .ok (.iload_n 1, 1) := by decide +kernel
theorem dX9_isFreeIn_12 : decode cX9_isFreeIn 12 = .ok (.invokestatic 71, 3) := by decide +kernel
theorem dX9_isFreeIn_15 : decode cX9_isFreeIn 15 = .ok (.iload_n 2, 1) := by decide +kernel
theorem dX9_isFreeIn_16 : decode cX9_isFreeIn 16 = .ok (.iload_n 3, 1) := by decide +kernel
theorem dX9_isFreeIn_17 : decode cX9_isFreeIn 17 = .ok (.invokestatic 49, 3) := by decide +kernel
theorem dX9_isFreeIn_20 : decode cX9_isFreeIn 20 = .ok (.ifCond .eq 7, 3) := by decide +kernel
theorem dX9_isFreeIn_23 : decode cX9_isFreeIn 23 = .ok (.iconst 1, 1) := by decide +kernel
theorem dX9_isFreeIn_24 : decode cX9_isFreeIn 24 = .ok (.goto 4, 3) := by decide +kernel
theorem dX9_isFreeIn_27 : decode cX9_isFreeIn 27 = .ok (.iconst 0, 1) := by decide +kernel
theorem dX9_isFreeIn_28 : decode cX9_isFreeIn 28 = .ok (.ireturn, 1) := by decide +kernel
set_option maxRecDepth 20000 in
theorem ggX9_freeIn_X9_isFreeIn : GoodIn wsX9_freeIn wsX9_isFreeIn := goodIn_r _ [4, 5, 6, 3, 7, 8, 9, 10, 11, 12, 13] (by decide +kernel) (by decide +kernel)
set_option maxRecDepth 20000 in
theorem gX9_freeIn_X9_isFreeIn : GoodIn wsX9_freeIn (va_wsS RX9 74 yX9_isFreeIn wsX9_isFreeIn) := goodIn_app (goodIn_of _ (by decide +kernel)) ggX9_freeIn_X9_isFreeIn
theorem dX9_freeIn_0 : decode cX9_freeIn 0 = .ok (.iconst 0, 1) := by decide +kernel
theorem dX9_freeIn_1 : decode cX9_freeIn 1 = .ok (.istore_n 3, 1) := by decide +kernel
theorem dX9_freeIn_2 : decode cX9_freeIn 2 = .ok (.iconst 0, 1) := by decide +kernel
theorem dX9_freeIn_3 : decode cX9_freeIn 3 = .ok (.istore 4, 2) := by decide +kernel
theorem dX9_freeIn_5 : decode cX9_freeIn 5 = .ok (.iload 4, 2) := by decide +kernel
theorem dX9_freeIn_7 : decode cX9_freeIn 7 = .ok (.bipush 12, 2) := by decide +kernel
theorem dX9_freeIn_9 : decode cX9_freeIn 9 = .ok (.if_icmp .ge 28, 3) := by decide +kernel
theorem dX9_freeIn_12 : decode cX9_freeIn 12 = .ok (.iload_n 3, 1) := by decide +kernel
theorem dX9_freeIn_13 : decode cX9_freeIn 13 = .ok (.aload_n 0, 1) := by decide +kernel
theorem dX9_freeIn_14 : decode cX9_freeIn 14 = .ok (.iload 4, 2) := by decide +kernel
theorem dX9_freeIn_16 : decode cX9_freeIn 16 = .ok (.iload_n 1, 1) := by decide +kernel
theorem dX9_freeIn_17 : decode cX9_freeIn 17 = .ok (.iload_n 2, 1) := by decide +kernel
theorem dX9_freeIn_18 : decode cX9_freeIn 18 = .ok (.invokestatic 74, 3) := by decide +kernel
theorem dX9_freeIn_21 : decode cX9_freeIn 21 = .ok (.ifCond .eq 7, 3) := by decide +kernel
theorem dX9_freeIn_24 : decode cX9_freeIn 24 = .ok (.iconst 1, 1) := by decide +kernel
theorem dX9_freeIn_25 : decode cX9_freeIn 25 = .ok (.goto 4, 3) := by decide +kernel
theorem dX9_freeIn_28 : decode cX9_freeIn 28 = .ok (.iconst 0, 1) := by decide +kernel
theorem dX9_freeIn_29 : decode cX9_freeIn 29 = .ok (.iadd, 1) := by decide +kernel
theorem dX9_freeIn_30 : decode cX9_freeIn 30 = .ok (.istore_n 3, 1) := by decide +kernel
theorem dX9_freeIn_31 : decode cX9_freeIn 31 = .ok (.iinc 4 1, 3) := by decide +kernel
theorem dX9_freeIn_34 : decode cX9_freeIn 34 = .ok (.goto (-29), 3) := by decide +kernel
theorem dX9_freeIn_37 : decode cX9_freeIn 37 = .ok (.iload_n 3, 1) := by decide +kernel
theorem dX9_freeIn_38 : decode cX9_freeIn 38 = .ok (.ireturn, 1) := by decide +kernel
set_option maxRecDepth 20000 in
theorem ggX9_reasonOf_X9_of : GoodIn wsX9_reasonOf wsX9_of := goodIn_r _ [4] (by decide +kernel) (by decide +kernel)
set_option maxRecDepth 20000 in
theorem gX9_reasonOf_X9_of : GoodIn wsX9_reasonOf (va_wsS RX9 42 yX9_of wsX9_of) := goodIn_app (goodIn_of _ (by decide +kernel)) ggX9_reasonOf_X9_of
set_option maxRecDepth 20000 in
theorem ggX9_reasonOf_X9_byKind : GoodIn wsX9_reasonOf wsX9_byKind := goodIn_r _ [7, 1, 2, 3, 4, 8, 9, 10] (by decide +kernel) (by decide +kernel)
set_option maxRecDepth 20000 in
theorem gX9_reasonOf_X9_byKind : GoodIn wsX9_reasonOf (va_wsS RX9 61 yX9_byKind wsX9_byKind) := goodIn_app (goodIn_of _ (by decide +kernel)) ggX9_reasonOf_X9_byKind
set_option maxRecDepth 20000 in
theorem ggX9_reasonOf_X9_freeIn : GoodIn wsX9_reasonOf wsX9_freeIn := goodIn_r _ [13, 14, 15, 3, 16, 17, 18, 19, 20, 21, 22, 23, 24, 25] (by decide +kernel) (by decide +kernel)
set_option maxRecDepth 20000 in
theorem gX9_reasonOf_X9_freeIn : GoodIn wsX9_reasonOf (va_wsS RX9 78 yX9_freeIn wsX9_freeIn) := goodIn_app (goodIn_of _ (by decide +kernel)) ggX9_reasonOf_X9_freeIn
theorem dX9_reasonOf_0 : decode cX9_reasonOf 0 = .ok (.aload_n 0, 1) := by decide +kernel
theorem dX9_reasonOf_1 : decode cX9_reasonOf 1 = .ok (.iload_n 1, 1) := by decide +kernel
theorem dX9_reasonOf_2 : decode cX9_reasonOf 2 = .ok (.iconst 2, 1) := by decide +kernel
theorem dX9_reasonOf_3 : decode cX9_reasonOf 3 = .ok (.invokestatic 42, 3) := by decide +kernel
theorem dX9_reasonOf_6 : decode cX9_reasonOf 6 = .ok (.istore_n 2, 1) := by decide +kernel
theorem dX9_reasonOf_7 : decode cX9_reasonOf 7 = .ok (.aload_n 0, 1) := by decide +kernel
theorem dX9_reasonOf_8 : decode cX9_reasonOf 8 = .ok (.iload_n 1, 1) := by decide +kernel
theorem dX9_reasonOf_9 : decode cX9_reasonOf 9 = .ok (.iconst 3, 1) := by decide +kernel
theorem dX9_reasonOf_10 : decode cX9_reasonOf 10 = .ok (.invokestatic 42, 3) := by decide +kernel
theorem dX9_reasonOf_13 : decode cX9_reasonOf 13 = .ok (.aload_n 0, 1) := by decide +kernel
theorem dX9_reasonOf_14 : decode cX9_reasonOf 14 = .ok (.iload_n 1, 1) := by decide +kernel
theorem dX9_reasonOf_15 : decode cX9_reasonOf 15 = .ok (.iconst 3, 1) := by decide +kernel
theorem dX9_reasonOf_16 : decode cX9_reasonOf 16 = .ok (.invokestatic 61, 3) := by decide +kernel
theorem dX9_reasonOf_19 : decode cX9_reasonOf 19 = .ok (.if_icmp .ge 5, 3) := by decide +kernel
theorem dX9_reasonOf_22 : decode cX9_reasonOf 22 = .ok (.iconst 2, 1) := by decide +kernel
theorem dX9_reasonOf_23 : decode cX9_reasonOf 23 = .ok (.ireturn, 1) := by decide +kernel
theorem dX9_reasonOf_24 : decode cX9_reasonOf 24 = .ok (.aload_n 0, 1) := by decide +kernel
theorem dX9_reasonOf_25 : decode cX9_reasonOf 25 = .ok (.iconst 0, 1) := by decide +kernel
theorem dX9_reasonOf_26 : decode cX9_reasonOf 26 = .ok (.sipush 400, 3) := by decide +kernel
theorem dX9_reasonOf_29 : decode cX9_reasonOf 29 = .ok (.invokestatic 78, 3) := by decide +kernel
theorem dX9_reasonOf_32 : decode cX9_reasonOf 32 = .ok (.iload_n 2, 1) := by decide +kernel
theorem dX9_reasonOf_33 : decode cX9_reasonOf 33 = .ok (.if_icmp .ge 5, 3) := by decide +kernel
theorem dX9_reasonOf_36 : decode cX9_reasonOf 36 = .ok (.iconst 3, 1) := by decide +kernel
theorem dX9_reasonOf_37 : decode cX9_reasonOf 37 = .ok (.ireturn, 1) := by decide +kernel
theorem dX9_reasonOf_38 : decode cX9_reasonOf 38 = .ok (.aload_n 0, 1) := by decide +kernel
theorem dX9_reasonOf_39 : decode cX9_reasonOf 39 = .ok (.aload_n 0, 1) := by decide +kernel
theorem dX9_reasonOf_40 : decode cX9_reasonOf 40 = .ok (.iload_n 1, 1) := by decide +kernel
theorem dX9_reasonOf_41 : decode cX9_reasonOf 41 = .ok (.iconst 0, 1) := by decide +kernel
theorem dX9_reasonOf_42 : decode cX9_reasonOf 42 = .ok (.invokestatic 61, 3) := by decide +kernel
theorem dX9_reasonOf_45 : decode cX9_reasonOf 45 = .ok (.sipush 400, 3) := by decide +kernel
theorem dX9_reasonOf_48 : decode cX9_reasonOf 48 = .ok (.invokestatic 78, 3) := by decide +kernel
theorem dX9_reasonOf_51 : decode cX9_reasonOf 51 = .ok (.iload_n 2, 1) := by decide +kernel
theorem dX9_reasonOf_52 : decode cX9_reasonOf 52 = .ok (.if_icmp .ge 5, 3) := by decide +kernel
theorem dX9_reasonOf_55 : decode cX9_reasonOf 55 = .ok (.iconst 4, 1) := by decide +kernel
theorem dX9_reasonOf_56 : decode cX9_reasonOf 56 = .ok (.ireturn, 1) := by decide +kernel
theorem dX9_reasonOf_57 : decode cX9_reasonOf 57 = .ok (.aload_n 0, 1) := by decide +kernel
theorem dX9_reasonOf_58 : decode cX9_reasonOf 58 = .ok (.aload_n 0, 1) := by decide +kernel
theorem dX9_reasonOf_59 : decode cX9_reasonOf 59 = .ok (.iload_n 1, 1) := by decide +kernel
theorem dX9_reasonOf_60 : decode cX9_reasonOf 60 = .ok (.iconst 0, 1) := by decide +kernel
theorem dX9_reasonOf_61 : decode cX9_reasonOf 61 = .ok (.invokestatic 61, 3) := by decide +kernel
theorem dX9_reasonOf_64 : decode cX9_reasonOf 64 = .ok (.aload_n 0, 1) := by decide +kernel
theorem dX9_reasonOf_65 : decode cX9_reasonOf 65 = .ok (.iload_n 1, 1) := by decide +kernel
theorem dX9_reasonOf_66 : decode cX9_reasonOf 66 = .ok (.iconst 1, 1) := by decide +kernel
theorem dX9_reasonOf_67 : decode cX9_reasonOf 67 = .ok (.invokestatic 61, 3) := by decide +kernel
theorem dX9_reasonOf_70 : decode cX9_reasonOf 70 = .ok (.invokestatic 78, 3) := by decide +kernel
theorem dX9_reasonOf_73 : decode cX9_reasonOf 73 = .ok (.iload_n 2, 1) := by decide +kernel
theorem dX9_reasonOf_74 : decode cX9_reasonOf 74 = .ok (.if_icmp .ge 7, 3) := by decide +kernel
theorem dX9_reasonOf_77 : decode cX9_reasonOf 77 = .ok (.iconst 5, 1) := by decide +kernel
theorem dX9_reasonOf_78 : decode cX9_reasonOf 78 = .ok (.goto 4, 3) := by decide +kernel
theorem dX9_reasonOf_81 : decode cX9_reasonOf 81 = .ok (.iconst 0, 1) := by decide +kernel
theorem dX9_reasonOf_82 : decode cX9_reasonOf 82 = .ok (.ireturn, 1) := by decide +kernel
set_option maxRecDepth 20000 in
theorem ggX9_load_X9_leaveLine : GoodIn wsX9_load wsX9_leaveLine := goodIn_r _ [4, 5, 6, 3, 7] (by decide +kernel) (by decide +kernel)
set_option maxRecDepth 20000 in
theorem gX9_load_X9_leaveLine : GoodIn wsX9_load (va_wsS RX9 64 yX9_leaveLine wsX9_leaveLine) := goodIn_app (goodIn_of _ (by decide +kernel)) ggX9_load_X9_leaveLine
set_option maxRecDepth 20000 in
theorem ggX9_load_X9_put : GoodIn wsX9_load wsX9_put := goodIn_r _ [10] (by decide +kernel) (by decide +kernel)
set_option maxRecDepth 20000 in
theorem gX9_load_X9_put : GoodIn wsX9_load (va_wsS RX9 57 yX9_put wsX9_put) := goodIn_app (goodIn_of _ (by decide +kernel)) ggX9_load_X9_put
set_option maxRecDepth 20000 in
theorem ggX9_load_X9_of : GoodIn wsX9_load wsX9_of := goodIn_r _ [13] (by decide +kernel) (by decide +kernel)
set_option maxRecDepth 20000 in
theorem gX9_load_X9_of : GoodIn wsX9_load (va_wsS RX9 42 yX9_of wsX9_of) := goodIn_app (goodIn_of _ (by decide +kernel)) ggX9_load_X9_of
set_option maxRecDepth 20000 in
theorem ggX9_load_X9_byKind : GoodIn wsX9_load wsX9_byKind := goodIn_r _ [16, 11, 12, 3, 13, 17, 18, 19] (by decide +kernel) (by decide +kernel)
set_option maxRecDepth 20000 in
theorem gX9_load_X9_byKind : GoodIn wsX9_load (va_wsS RX9 61 yX9_byKind wsX9_byKind) := goodIn_app (goodIn_of _ (by decide +kernel)) ggX9_load_X9_byKind
set_option maxRecDepth 20000 in
theorem ggX9_load_X9_isFreeIn : GoodIn wsX9_load wsX9_isFreeIn := goodIn_r _ [22, 23, 24, 3, 25, 26, 27, 28, 29, 30, 31] (by decide +kernel) (by decide +kernel)
set_option maxRecDepth 20000 in
theorem gX9_load_X9_isFreeIn : GoodIn wsX9_load (va_wsS RX9 74 yX9_isFreeIn wsX9_isFreeIn) := goodIn_app (goodIn_of _ (by decide +kernel)) ggX9_load_X9_isFreeIn
theorem dX9_load_0 : decode cX9_load 0 = .ok (.aload_n 0, 1) := by decide +kernel
theorem dX9_load_1 : decode cX9_load 1 = .ok (.iload_n 1, 1) := by decide +kernel
theorem dX9_load_2 : decode cX9_load 2 = .ok (.invokestatic 64, 3) := by decide +kernel
theorem dX9_load_5 : decode cX9_load 5 = .ok (.aload_n 0, 1) := by decide +kernel
theorem dX9_load_6 : decode cX9_load 6 = .ok (.iload_n 1, 1) := by decide +kernel
theorem dX9_load_7 : decode cX9_load 7 = .ok (.iconst 4, 1) := by decide +kernel
theorem dX9_load_8 : decode cX9_load 8 = .ok (.iconst 1, 1) := by decide +kernel
theorem dX9_load_9 : decode cX9_load 9 = .ok (.invokestatic 57, 3) := by decide +kernel
theorem dX9_load_12 : decode cX9_load 12 = .ok (.aload_n 0, 1) := by decide +kernel
theorem dX9_load_13 : decode cX9_load 13 = .ok (.iload_n 1, 1) := by decide +kernel
theorem dX9_load_14 : decode cX9_load 14 = .ok (.bipush 6, 2) := by decide +kernel
theorem dX9_load_16 : decode cX9_load 16 = .ok (.aload_n 0, 1) := by decide +kernel
theorem dX9_load_17 : decode cX9_load 17 = .ok (.iconst 1, 1) := by decide +kernel
theorem dX9_load_18 : decode cX9_load 18 = .ok (.iaload, 1) := by decide +kernel
theorem dX9_load_19 : decode cX9_load 19 = .ok (.invokestatic 57, 3) := by decide +kernel
theorem dX9_load_22 : decode cX9_load 22 = .ok (.aload_n 0, 1) := by decide +kernel
theorem dX9_load_23 : decode cX9_load 23 = .ok (.iload_n 1, 1) := by decide +kernel
theorem dX9_load_24 : decode cX9_load 24 = .ok (.iconst 2, 1) := by decide +kernel
theorem dX9_load_25 : decode cX9_load 25 = .ok (.invokestatic 42, 3) := by decide +kernel
theorem dX9_load_28 : decode cX9_load 28 = .ok (.istore_n 2, 1) := by decide +kernel
theorem dX9_load_29 : decode cX9_load 29 = .ok (.iconst 0, 1) := by decide +kernel
theorem dX9_load_30 : decode cX9_load 30 = .ok (.istore_n 3, 1) := by decide +kernel
theorem dX9_load_31 : decode cX9_load 31 = .ok (.iload_n 3, 1) := by decide +kernel
theorem dX9_load_32 : decode cX9_load 32 = .ok (.bipush 12, 2) := by decide +kernel
theorem dX9_load_34 : decode cX9_load 34 = .ok (.if_icmp .ge 72, 3) := by decide +kernel
theorem dX9_load_37 : decode cX9_load 37 = .ok (.iload_n 2, 1) := by decide +kernel
theorem dX9_load_38 : decode cX9_load 38 = .ok (.ifCond .le 68, 3) := by decide +kernel
theorem dX9_load_41 : decode cX9_load 41 = .ok (.aload_n 0, 1) := by decide +kernel
theorem dX9_load_42 : decode cX9_load 42 = .ok (.iload_n 3, 1) := by decide +kernel
theorem dX9_load_43 : decode cX9_load 43 = .ok (.aload_n 0, 1) := by decide +kernel
theorem dX9_load_44 : decode cX9_load 44 = .ok (.iload_n 1, 1) := by decide +kernel
theorem dX9_load_45 : decode cX9_load 45 = .ok (.iconst 0, 1) := by decide +kernel
theorem dX9_load_46 : decode cX9_load 46 = .ok (.invokestatic 61, 3) := by decide +kernel
theorem dX9_load_49 : decode cX9_load 49 = .ok (.aload_n 0, 1) := by decide +kernel
theorem dX9_load_50 : decode cX9_load 50 = .ok (.iload_n 1, 1) := by decide +kernel
theorem dX9_load_51 : decode cX9_load 51 = .ok (.iconst 1, 1) := by decide +kernel
theorem dX9_load_52 : decode cX9_load 52 = .ok (.invokestatic 61, 3) := by decide +kernel
theorem dX9_load_55 : decode cX9_load 55 = .ok (.invokestatic 74, 3) := by decide +kernel
theorem dX9_load_58 : decode cX9_load 58 = .ok (.ifCond .eq 42, 3) := by decide +kernel
theorem dX9_load_61 : decode cX9_load 61 = .ok (.aload_n 0, 1) := by decide +kernel
theorem dX9_load_62 : decode cX9_load 62 = .ok (.sipush 229, 3) := by decide +kernel
theorem dX9_load_65 : decode cX9_load 65 = .ok (.iconst 3, 1) := by decide +kernel
theorem dX9_load_66 : decode cX9_load 66 = .ok (.iload_n 3, 1) := by decide +kernel
theorem dX9_load_67 : decode cX9_load 67 = .ok (.imul, 1) := by decide +kernel
theorem dX9_load_68 : decode cX9_load 68 = .ok (.iadd, 1) := by decide +kernel
theorem dX9_load_69 : decode cX9_load 69 = .ok (.iconst 0, 1) := by decide +kernel
theorem dX9_load_70 : decode cX9_load 70 = .ok (.iadd, 1) := by decide +kernel
theorem dX9_load_71 : decode cX9_load 71 = .ok (.iload_n 1, 1) := by decide +kernel
theorem dX9_load_72 : decode cX9_load 72 = .ok (.iastore, 1) := by decide +kernel
theorem dX9_load_73 : decode cX9_load 73 = .ok (.aload_n 0, 1) := by decide +kernel
theorem dX9_load_74 : decode cX9_load 74 = .ok (.sipush 229, 3) := by decide +kernel
theorem dX9_load_77 : decode cX9_load 77 = .ok (.iconst 3, 1) := by decide +kernel
theorem dX9_load_78 : decode cX9_load 78 = .ok (.iload_n 3, 1) := by decide +kernel
theorem dX9_load_79 : decode cX9_load 79 = .ok (.imul, 1) := by decide +kernel
theorem dX9_load_80 : decode cX9_load 80 = .ok (.iadd, 1) := by decide +kernel
theorem dX9_load_81 : decode cX9_load 81 = .ok (.iconst 1, 1) := by decide +kernel
theorem dX9_load_82 : decode cX9_load 82 = .ok (.iadd, 1) := by decide +kernel
theorem dX9_load_83 : decode cX9_load 83 = .ok (.iconst 0, 1) := by decide +kernel
theorem dX9_load_84 : decode cX9_load 84 = .ok (.iastore, 1) := by decide +kernel
theorem dX9_load_85 : decode cX9_load 85 = .ok (.aload_n 0, 1) := by decide +kernel
theorem dX9_load_86 : decode cX9_load 86 = .ok (.sipush 229, 3) := by decide +kernel
theorem dX9_load_89 : decode cX9_load 89 = .ok (.iconst 3, 1) := by decide +kernel
theorem dX9_load_90 : decode cX9_load 90 = .ok (.iload_n 3, 1) := by decide +kernel
theorem dX9_load_91 : decode cX9_load 91 = .ok (.imul, 1) := by decide +kernel
theorem dX9_load_92 : decode cX9_load 92 = .ok (.iadd, 1) := by decide +kernel
theorem dX9_load_93 : decode cX9_load 93 = .ok (.iconst 2, 1) := by decide +kernel
theorem dX9_load_94 : decode cX9_load 94 = .ok (.iadd, 1) := by decide +kernel
theorem dX9_load_95 : decode cX9_load 95 = .ok (.iconst 0, 1) := by decide +kernel
theorem dX9_load_96 : decode cX9_load 96 = .ok (.iastore, 1) := by decide +kernel
theorem dX9_load_97 : decode cX9_load 97 = .ok (.iinc 2 (-1), 3) := by decide +kernel
theorem dX9_load_100 : decode cX9_load 100 = .ok (.iinc 3 1, 3) := by decide +kernel
theorem dX9_load_103 : decode cX9_load 103 = .ok (.goto (-72), 3) := by decide +kernel
theorem dX9_load_106 : decode cX9_load 106 = .ok (.aload_n 0, 1) := by decide +kernel
theorem dX9_load_107 : decode cX9_load 107 = .ok (.bipush 9, 2) := by decide +kernel
theorem dX9_load_109 : decode cX9_load 109 = .ok (.dup2, 1) := by decide +kernel
theorem dX9_load_110 : decode cX9_load 110 = .ok (.iaload, 1) := by decide +kernel
theorem dX9_load_111 : decode cX9_load 111 = .ok (.iconst 1, 1) := by decide +kernel
theorem dX9_load_112 : decode cX9_load 112 = .ok (.iadd, 1) := by decide +kernel
theorem dX9_load_113 : decode cX9_load 113 = .ok (.iastore, 1) := by decide +kernel
theorem dX9_load_114 : decode cX9_load 114 = .ok (.return_, 1) := by decide +kernel
set_option maxRecDepth 20000 in
theorem ggX9_lookAlong_X9_reasonOf : GoodIn wsX9_lookAlong wsX9_reasonOf := goodIn_r _ [4, 5, 6, 3, 7, 8, 9, 10, 11, 12, 13, 14, 15, 16, 17, 18, 19, 20, 21, 22, 23, 24, 25, 26, 27, 28] (by decide +kernel) (by decide +kernel)
set_option maxRecDepth 20000 in
theorem gX9_lookAlong_X9_reasonOf : GoodIn wsX9_lookAlong (va_wsS RX9 81 yX9_reasonOf wsX9_reasonOf) := goodIn_app (goodIn_of _ (by decide +kernel)) ggX9_lookAlong_X9_reasonOf
set_option maxRecDepth 20000 in
theorem ggX9_lookAlong_X9_of : GoodIn wsX9_lookAlong wsX9_of := goodIn_r _ [7] (by decide +kernel) (by decide +kernel)
set_option maxRecDepth 20000 in
theorem gX9_lookAlong_X9_of : GoodIn wsX9_lookAlong (va_wsS RX9 42 yX9_of wsX9_of) := goodIn_app (goodIn_of _ (by decide +kernel)) ggX9_lookAlong_X9_of
set_option maxRecDepth 20000 in
theorem ggX9_lookAlong_X9_load : GoodIn wsX9_lookAlong wsX9_load := goodIn_r _ [31, 32, 33, 3, 34, 35, 36, 37, 38, 39, 40, 5, 6, 7, 8, 9, 10, 11, 12, 13, 17, 18, 19, 20, 21, 22, 23, 24, 25, 26, 27, 28] (by decide +kernel) (by decide +kernel)
set_option maxRecDepth 20000 in
theorem gX9_lookAlong_X9_load : GoodIn wsX9_lookAlong (va_wsS RX9 84 yX9_load wsX9_load) := goodIn_app (goodIn_of _ (by decide +kernel)) ggX9_lookAlong_X9_load
set_option maxRecDepth 20000 in
theorem ggX9_lookAlong_X9_put : GoodIn wsX9_lookAlong wsX9_put := goodIn_r _ [40] (by decide +kernel) (by decide +kernel)
set_option maxRecDepth 20000 in
theorem gX9_lookAlong_X9_put : GoodIn wsX9_lookAlong (va_wsS RX9 57 yX9_put wsX9_put) := goodIn_app (goodIn_of _ (by decide +kernel)) ggX9_lookAlong_X9_put
theorem dX9_lookAlong_0 : decode cX9_lookAlong 0 = .ok (.iconst 0, 1) := by decide +kernel
theorem dX9_lookAlong_1 : decode cX9_lookAlong 1 = .ok (.istore_n 1, 1) := by decide +kernel
theorem dX9_lookAlong_2 : decode cX9_lookAlong 2 = .ok (.iconst 0, 1) := by decide +kernel
theorem dX9_lookAlong_3 : decode cX9_lookAlong 3 = .ok (.istore_n 2, 1) := by decide +kernel
theorem dX9_lookAlong_4 : decode cX9_lookAlong 4 = .ok (.iload_n 2, 1) := by decide +kernel
theorem dX9_lookAlong_5 : decode cX9_lookAlong 5 = .ok (.aload_n 0, 1) := by decide +kernel
theorem dX9_lookAlong_6 : decode cX9_lookAlong 6 = .ok (.iconst 5, 1) := by decide +kernel
theorem dX9_lookAlong_7 : decode cX9_lookAlong 7 = .ok (.iaload, 1) := by decide +kernel
theorem dX9_lookAlong_8 : decode cX9_lookAlong 8 = .ok (.if_icmp .ge 60, 3) := by decide +kernel
theorem dX9_lookAlong_11 : decode cX9_lookAlong 11 = .ok (.aload_n 0, 1) := by decide +kernel
theorem dX9_lookAlong_12 : decode cX9_lookAlong 12 = .ok (.sipush 213, 3) := by decide +kernel
theorem dX9_lookAlong_15 : decode cX9_lookAlong 15 = .ok (.iload_n 2, 1) := by decide +kernel
theorem dX9_lookAlong_16 : decode cX9_lookAlong 16 = .ok (.iadd, 1) := by decide +kernel
theorem dX9_lookAlong_17 : decode cX9_lookAlong 17 = .ok (.iaload, 1) := by decide +kernel
theorem dX9_lookAlong_18 : decode cX9_lookAlong 18 = .ok (.istore_n 3, 1) := by decide +kernel
theorem dX9_lookAlong_19 : decode cX9_lookAlong 19 = .ok (.iload_n 1, 1) := by decide +kernel
theorem dX9_lookAlong_20 : decode cX9_lookAlong 20 = .ok (.ifCond .le 7, 3) := by decide +kernel
theorem dX9_lookAlong_23 : decode cX9_lookAlong 23 = .ok (.iconst 1, 1) := by decide +kernel
theorem dX9_lookAlong_24 : decode cX9_lookAlong 24 = .ok (.goto 8, 3) := by decide +kernel
theorem dX9_lookAlong_27 : decode cX9_lookAlong 27 = .ok (.aload_n 0, 1) := by decide +kernel
