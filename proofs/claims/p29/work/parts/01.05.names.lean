theorem dX8_dough_14 : decode cX8_dough 14 = .ok (.invokestatic 37, 3) := by decide +kernel
theorem dX8_dough_17 : decode cX8_dough 17 = .ok (.aload_n 0, 1) := by decide +kernel
theorem dX8_dough_18 : decode cX8_dough 18 = .ok (.getfield 10, 3) := by decide +kernel
theorem dX8_dough_21 : decode cX8_dough 21 = .ok (.iload_n 1, 1) := by decide +kernel
theorem dX8_dough_22 : decode cX8_dough 22 = .ok (.iload_n 2, 1) := by decide +kernel
theorem dX8_dough_23 : decode cX8_dough 23 = .ok (.invokevirtual 114, 3) := by decide +kernel
theorem dX8_dough_26 : decode cX8_dough 26 = .ok (.ireturn, 1) := by decide +kernel
set_option maxRecDepth 20000 in
theorem ggX8_place_X8_refusalOfValue : GoodIn wsX8_place wsX8_refusalOfValue := goodIn_r _ [5] (by decide +kernel) (by decide +kernel)
set_option maxRecDepth 20000 in
theorem gX8_place_X8_refusalOfValue : GoodIn wsX8_place (va_wsS RX8 98 yX8_refusalOfValue wsX8_refusalOfValue) := goodIn_app (goodIn_of _ (by decide +kernel)) ggX8_place_X8_refusalOfValue
set_option maxRecDepth 20000 in
theorem ggX8_place_X8_refuse : GoodIn wsX8_place wsX8_refuse := goodIn_ca (goodIn_ca (goodIn_ca (goodIn_r _ [8, 9, 10, 11, 12, 13, 14] (by decide +kernel) (by decide +kernel)) (goodIn_sub (fun _ h => List.mem_cons_of_mem _ (List.mem_append_left _ (List.mem_append_left _ (List.mem_append_right _ h)))) (by decide +kernel))) (goodIn_sub (fun _ h => List.mem_cons_of_mem _ (List.mem_append_left _ (List.mem_append_right _ h))) (by decide +kernel))) (goodIn_sub (fun _ h => List.mem_cons_of_mem _ (List.mem_append_right _ h)) (by decide +kernel))
set_option maxRecDepth 20000 in
theorem gX8_place_X8_refuse : GoodIn wsX8_place (va_wsS RX8 37 yX8_refuse wsX8_refuse) := goodIn_app (goodIn_of _ (by decide +kernel)) ggX8_place_X8_refuse
set_option maxRecDepth 20000 in
theorem ggX8_place_X7_valueOfPlace : GoodIn wsX8_place wsX7_valueOfPlace := goodIn_r _ [19, 20, 21, 22, 23, 24, 25, 26, 18, 27, 28, 29, 30, 31, 32, 33, 34, 35, 36, 37, 38, 39, 40, 41, 42, 43, 44, 49, 50, 51, 52, 53, 54, 55, 56, 57, 58, 59, 60, 61, 62, 63, 64, 65, 66] (by decide +kernel) (by decide +kernel)
set_option maxRecDepth 20000 in
theorem gX8_place_X7_valueOfPlace : GoodIn wsX8_place (wsV RX8 117 RX7 yX7_valueOfPlace wsX7_valueOfPlace) := goodIn_app (goodIn_of _ (by decide +kernel)) ggX8_place_X7_valueOfPlace
theorem dX8_place_0 : decode cX8_place 0 = .ok (.iload_n 1, 1) := by decide +kernel
theorem dX8_place_1 : decode cX8_place 1 = .ok (.ifCond .lt 13, 3) := by decide +kernel
theorem dX8_place_4 : decode cX8_place 4 = .ok (.iload_n 1, 1) := by decide +kernel
theorem dX8_place_5 : decode cX8_place 5 = .ok (.bipush 12, 2) := by decide +kernel
theorem dX8_place_7 : decode cX8_place 7 = .ok (.if_icmp .ge 7, 3) := by decide +kernel
theorem dX8_place_10 : decode cX8_place 10 = .ok (.iconst 1, 1) := by decide +kernel
theorem dX8_place_11 : decode cX8_place 11 = .ok (.goto 4, 3) := by decide +kernel
theorem dX8_place_14 : decode cX8_place 14 = .ok (.iconst 0, 1) := by decide +kernel
theorem dX8_place_15 : decode cX8_place 15 = .ok (.iload_n 2, 1) := by decide +kernel
theorem dX8_place_16 : decode cX8_place 16 = .ok (.iconst 4, 1) := by decide +kernel
theorem dX8_place_17 : decode cX8_place 17 = .ok (.invokestatic 98, 3) := by decide +kernel
theorem dX8_place_20 : decode cX8_place 20 = .ok (.invokestatic 37, 3) := by decide +kernel
theorem dX8_place_23 : decode cX8_place 23 = .ok (.aload_n 0, 1) := by decide +kernel
theorem dX8_place_24 : decode cX8_place 24 = .ok (.getfield 10, 3) := by decide +kernel
theorem dX8_place_27 : decode cX8_place 27 = .ok (.iload_n 1, 1) := by decide +kernel
theorem dX8_place_28 : decode cX8_place 28 = .ok (.iload_n 2, 1) := by decide +kernel
theorem dX8_place_29 : decode cX8_place 29 = .ok (.invokevirtual 117, 3) := by decide +kernel
theorem dX8_place_32 : decode cX8_place 32 = .ok (.ireturn, 1) := by decide +kernel
set_option maxRecDepth 20000 in
theorem ggX8_whole_X8_refusalOfValue : GoodIn wsX8_whole wsX8_refusalOfValue := goodIn_r _ [4] (by decide +kernel) (by decide +kernel)
set_option maxRecDepth 20000 in
theorem gX8_whole_X8_refusalOfValue : GoodIn wsX8_whole (va_wsS RX8 98 yX8_refusalOfValue wsX8_refusalOfValue) := goodIn_app (goodIn_of _ (by decide +kernel)) ggX8_whole_X8_refusalOfValue
set_option maxRecDepth 20000 in
theorem ggX8_whole_X8_refuse : GoodIn wsX8_whole wsX8_refuse := goodIn_ca (goodIn_ca (goodIn_ca (goodIn_r _ [7, 8, 9, 10, 11, 12, 13] (by decide +kernel) (by decide +kernel)) (goodIn_sub (fun _ h => List.mem_cons_of_mem _ (List.mem_append_left _ (List.mem_append_left _ (List.mem_append_right _ h)))) (by decide +kernel))) (goodIn_sub (fun _ h => List.mem_cons_of_mem _ (List.mem_append_left _ (List.mem_append_right _ h))) (by decide +kernel))) (goodIn_sub (fun _ h => List.mem_cons_of_mem _ (List.mem_append_right _ h)) (by decide +kernel))
set_option maxRecDepth 20000 in
theorem gX8_whole_X8_refuse : GoodIn wsX8_whole (va_wsS RX8 37 yX8_refuse wsX8_refuse) := goodIn_app (goodIn_of _ (by decide +kernel)) ggX8_whole_X8_refuse
set_option maxRecDepth 20000 in
theorem ggX8_whole_X8_valueOfWhole : GoodIn wsX8_whole wsX8_valueOfWhole := goodIn_r _ [17, 18, 19, 20, 21, 22, 23, 24, 25, 26, 27, 28, 29, 30, 31, 32, 33, 34, 35, 36, 37, 38, 39, 40, 41, 42, 43, 44, 45, 46, 47, 48, 49, 50, 51, 52, 53, 54, 55, 56, 57, 58, 59, 60, 61, 62, 63, 64, 65, 66, 67, 68, 69, 70, 71, 72, 73, 74, 75, 76, 77, 78, 79, 80, 81, 82, 83, 84, 85, 86, 87, 88, 89, 90, 91, 92, 93, 94, 95, 96, 97, 98, 99, 100, 101, 102, 103, 104, 105, 106, 107, 108, 109, 110, 111, 112, 113, 114, 115, 116, 117, 118] (by decide +kernel) (by decide +kernel)
set_option maxRecDepth 20000 in
theorem gX8_whole_X8_valueOfWhole : GoodIn wsX8_whole (wsV RX8 120 RX8 yX8_valueOfWhole wsX8_valueOfWhole) := goodIn_app (goodIn_of _ (by decide +kernel)) ggX8_whole_X8_valueOfWhole
theorem dX8_whole_0 : decode cX8_whole 0 = .ok (.iconst 1, 1) := by decide +kernel
theorem dX8_whole_1 : decode cX8_whole 1 = .ok (.iload_n 1, 1) := by decide +kernel
theorem dX8_whole_2 : decode cX8_whole 2 = .ok (.bipush 15, 2) := by decide +kernel
theorem dX8_whole_4 : decode cX8_whole 4 = .ok (.invokestatic 98, 3) := by decide +kernel
theorem dX8_whole_7 : decode cX8_whole 7 = .ok (.invokestatic 37, 3) := by decide +kernel
theorem dX8_whole_10 : decode cX8_whole 10 = .ok (.aload_n 0, 1) := by decide +kernel
theorem dX8_whole_11 : decode cX8_whole 11 = .ok (.iload_n 1, 1) := by decide +kernel
theorem dX8_whole_12 : decode cX8_whole 12 = .ok (.invokevirtual 120, 3) := by decide +kernel
theorem dX8_whole_15 : decode cX8_whole 15 = .ok (.ireturn, 1) := by decide +kernel
set_option maxRecDepth 20000 in
theorem ggX8_line_X8_refuse : GoodIn wsX8_line wsX8_refuse := goodIn_ca (goodIn_ca (goodIn_ca (goodIn_r _ [5, 6, 7, 8, 9, 10, 11] (by decide +kernel) (by decide +kernel)) (goodIn_sub (fun _ h => List.mem_cons_of_mem _ (List.mem_append_left _ (List.mem_append_left _ (List.mem_append_right _ h)))) (by decide +kernel))) (goodIn_sub (fun _ h => List.mem_cons_of_mem _ (List.mem_append_left _ (List.mem_append_right _ h))) (by decide +kernel))) (goodIn_sub (fun _ h => List.mem_cons_of_mem _ (List.mem_append_right _ h)) (by decide +kernel))
set_option maxRecDepth 20000 in
theorem gX8_line_X8_refuse : GoodIn wsX8_line (va_wsS RX8 37 yX8_refuse wsX8_refuse) := goodIn_app (goodIn_of _ (by decide +kernel)) ggX8_line_X8_refuse
set_option maxRecDepth 20000 in
theorem ggX8_line_X7_doughInLine : GoodIn wsX8_line wsX7_doughInLine := goodIn_r _ [16, 17, 18, 19, 20, 21, 22, 23, 24, 29, 30, 31, 32, 33, 34, 35, 36, 37, 38, 39, 40, 41, 42, 43] (by decide +kernel) (by decide +kernel)
set_option maxRecDepth 20000 in
theorem gX8_line_X7_doughInLine : GoodIn wsX8_line (wsV RX8 123 RX7 yX7_doughInLine wsX7_doughInLine) := goodIn_app (goodIn_of _ (by decide +kernel)) ggX8_line_X7_doughInLine
theorem dX8_line_0 : decode cX8_line 0 = .ok (.iload_n 1, 1) := by decide +kernel
theorem dX8_line_1 : decode cX8_line 1 = .ok (.ifCond .ge 7, 3) := by decide +kernel
theorem dX8_line_4 : decode cX8_line 4 = .ok (.iconst 2, 1) := by decide +kernel
theorem dX8_line_5 : decode cX8_line 5 = .ok (.goto 4, 3) := by decide +kernel
theorem dX8_line_8 : decode cX8_line 8 = .ok (.iconst 0, 1) := by decide +kernel
theorem dX8_line_9 : decode cX8_line 9 = .ok (.invokestatic 37, 3) := by decide +kernel
theorem dX8_line_12 : decode cX8_line 12 = .ok (.aload_n 0, 1) := by decide +kernel
theorem dX8_line_13 : decode cX8_line 13 = .ok (.getfield 10, 3) := by decide +kernel
theorem dX8_line_16 : decode cX8_line 16 = .ok (.iload_n 1, 1) := by decide +kernel
theorem dX8_line_17 : decode cX8_line 17 = .ok (.invokevirtual 123, 3) := by decide +kernel
theorem dX8_line_20 : decode cX8_line 20 = .ok (.ireturn, 1) := by decide +kernel
set_option maxRecDepth 20000 in
theorem ggX8_reason_X7_isDough : GoodIn wsX8_reason wsX7_isDough := goodIn_r _ [6, 7, 8, 66, 67, 68, 69, 70, 71, 72, 73, 74, 75, 76, 77, 78, 79, 80, 81, 82, 83, 84, 85, 86, 87, 88] (by decide +kernel) (by decide +kernel)
set_option maxRecDepth 20000 in
theorem gX8_reason_X7_isDough : GoodIn wsX8_reason (wsV RX8 111 RX7 yX7_isDough wsX7_isDough) := goodIn_app (goodIn_of _ (by decide +kernel)) ggX8_reason_X7_isDough
set_option maxRecDepth 20000 in
theorem ggX8_reason_X8_refuse : GoodIn wsX8_reason wsX8_refuse := goodIn_ca (goodIn_ca (goodIn_ca (goodIn_r _ [12, 13, 14, 15, 16, 17, 18] (by decide +kernel) (by decide +kernel)) (goodIn_sub (fun _ h => List.mem_cons_of_mem _ (List.mem_append_left _ (List.mem_append_left _ (List.mem_append_right _ h)))) (by decide +kernel))) (goodIn_sub (fun _ h => List.mem_cons_of_mem _ (List.mem_append_left _ (List.mem_append_right _ h))) (by decide +kernel))) (goodIn_sub (fun _ h => List.mem_cons_of_mem _ (List.mem_append_right _ h)) (by decide +kernel))
set_option maxRecDepth 20000 in
theorem gX8_reason_X8_refuse : GoodIn wsX8_reason (va_wsS RX8 37 yX8_refuse wsX8_refuse) := goodIn_app (goodIn_of _ (by decide +kernel)) ggX8_reason_X8_refuse
set_option maxRecDepth 20000 in
theorem ggX8_reason_X7_reasonNow : GoodIn wsX8_reason wsX7_reasonNow := goodIn_r _ [22, 23, 24, 25, 26, 5, 27, 7, 28, 29, 3, 4, 6, 8, 30, 31, 32, 33, 34, 35, 36, 37, 38, 39, 40, 41, 42, 43, 44, 45, 46, 47, 48, 49, 50, 51, 52, 53, 54, 55, 56, 57, 58, 59, 60, 61, 66, 67, 68, 69, 70, 71, 72, 73, 74, 75, 76, 77, 78, 79, 80, 81, 82, 83, 84, 85, 86, 87, 88, 89, 90, 91, 92, 93, 94, 95, 96, 97, 98] (by decide +kernel) (by decide +kernel)
set_option maxRecDepth 20000 in
theorem gX8_reason_X7_reasonNow : GoodIn wsX8_reason (wsV RX8 126 RX7 yX7_reasonNow wsX7_reasonNow) := goodIn_app (goodIn_of _ (by decide +kernel)) ggX8_reason_X7_reasonNow
theorem dX8_reason_0 : decode cX8_reason 0 = .ok (.aload_n 0, 1) := by decide +kernel
theorem dX8_reason_1 : decode cX8_reason 1 = .ok (.getfield 10, 3) := by decide +kernel
theorem dX8_reason_4 : decode cX8_reason 4 = .ok (.iload_n 1, 1) := by decide +kernel
theorem dX8_reason_5 : decode cX8_reason 5 = .ok (.invokevirtual 111, 3) := by decide +kernel
theorem dX8_reason_8 : decode cX8_reason 8 = .ok (.ifCond .eq 7, 3) := by decide +kernel
theorem dX8_reason_11 : decode cX8_reason 11 = .ok (.iconst 0, 1) := by decide +kernel
theorem dX8_reason_12 : decode cX8_reason 12 = .ok (.goto 4, 3) := by decide +kernel
theorem dX8_reason_15 : decode cX8_reason 15 = .ok (.iconst 1, 1) := by decide +kernel
theorem dX8_reason_16 : decode cX8_reason 16 = .ok (.invokestatic 37, 3) := by decide +kernel
theorem dX8_reason_19 : decode cX8_reason 19 = .ok (.aload_n 0, 1) := by decide +kernel
theorem dX8_reason_20 : decode cX8_reason 20 = .ok (.getfield 10, 3) := by decide +kernel
theorem dX8_reason_23 : decode cX8_reason 23 = .ok (.iload_n 1, 1) := by decide +kernel
theorem dX8_reason_24 : decode cX8_reason 24 = .ok (.invokevirtual 126, 3) := by decide +kernel
theorem dX8_reason_27 : decode cX8_reason 27 = .ok (.ireturn, 1) := by decide +kernel
set_option maxRecDepth 20000 in
theorem ggX8_loadedIn_X7_isDough : GoodIn wsX8_loadedIn wsX7_isDough := goodIn_r _ [7, 8, 9, 202, 203, 204, 205, 206, 207, 208, 209, 210, 211, 212, 213, 214, 215, 216, 217, 218, 219, 220, 221, 222, 223, 224] (by decide +kernel) (by decide +kernel)
set_option maxRecDepth 20000 in
theorem gX8_loadedIn_X7_isDough : GoodIn wsX8_loadedIn (wsV RX8 111 RX7 yX7_isDough wsX7_isDough) := goodIn_app (goodIn_of _ (by decide +kernel)) ggX8_loadedIn_X7_isDough
set_option maxRecDepth 20000 in
theorem ggX8_loadedIn_X8_refuse : GoodIn wsX8_loadedIn wsX8_refuse := goodIn_ca (goodIn_ca (goodIn_ca (goodIn_r _ [13, 14, 15, 16, 17, 18, 19] (by decide +kernel) (by decide +kernel)) (goodIn_sub (fun _ h => List.mem_cons_of_mem _ (List.mem_append_left _ (List.mem_append_left _ (List.mem_append_right _ h)))) (by decide +kernel))) (goodIn_sub (fun _ h => List.mem_cons_of_mem _ (List.mem_append_left _ (List.mem_append_right _ h))) (by decide +kernel))) (goodIn_sub (fun _ h => List.mem_cons_of_mem _ (List.mem_append_right _ h)) (by decide +kernel))
set_option maxRecDepth 20000 in
theorem gX8_loadedIn_X8_refuse : GoodIn wsX8_loadedIn (va_wsS RX8 37 yX8_refuse wsX8_refuse) := goodIn_app (goodIn_of _ (by decide +kernel)) ggX8_loadedIn_X8_refuse
set_option maxRecDepth 20000 in
theorem ggX8_loadedIn_X7_isWaiting : GoodIn wsX8_loadedIn wsX7_isWaiting := goodIn_r _ [23, 8, 24, 25, 4, 5, 6, 7, 9, 26, 27, 28, 29, 30, 31, 202, 203, 204, 205, 206, 207, 208, 209, 210, 211, 212, 213, 214, 215, 216, 217, 218, 219, 220, 221, 222, 223, 224, 225] (by decide +kernel) (by decide +kernel)
set_option maxRecDepth 20000 in
theorem gX8_loadedIn_X7_isWaiting : GoodIn wsX8_loadedIn (wsV RX8 129 RX7 yX7_isWaiting wsX7_isWaiting) := goodIn_app (goodIn_of _ (by decide +kernel)) ggX8_loadedIn_X7_isWaiting
set_option maxRecDepth 20000 in
theorem ggX8_loadedIn_X7_copyFrom : GoodIn wsX8_loadedIn wsX7_copyFrom := goodIn_r _ [35, 36, 37, 8, 38, 39, 40, 41, 42, 43, 44, 45, 46, 47, 48, 49, 50, 51, 52, 53, 54, 55, 56, 57, 58, 59, 60, 61, 62, 29, 63, 31, 64, 65, 66, 67, 68, 69, 70, 71, 72, 73, 74, 75, 76, 77, 78, 79, 80, 81, 82, 83, 84, 85, 86, 87, 88, 89, 90, 91, 92, 93, 94, 95, 96, 97, 98, 99, 100, 101, 102, 103, 104, 105, 106, 107, 108, 109, 202, 203, 204, 205, 206, 207, 208, 209, 210, 211, 212, 213, 214, 215, 226, 227, 228, 229, 230, 231, 225, 232, 233, 234, 235, 236, 237, 238, 216, 217, 218, 219, 220, 221, 222, 223, 224, 239, 240, 241] (by decide +kernel) (by decide +kernel)
set_option maxRecDepth 20000 in
theorem gX8_loadedIn_X7_copyFrom : GoodIn wsX8_loadedIn (wsV RX8 132 RX7 yX7_copyFrom wsX7_copyFrom) := goodIn_app (goodIn_of _ (by decide +kernel)) ggX8_loadedIn_X7_copyFrom
set_option maxRecDepth 20000 in
theorem ggX8_loadedIn_X7_passTicks : GoodIn wsX8_loadedIn wsX7_passTicks := goodIn_r _ [113, 42, 114, 115, 116, 6, 117, 40, 39, 8, 118, 119, 36, 120, 121, 24, 48, 26, 27, 28, 29, 30, 31, 122, 123, 124, 125, 126, 127, 128, 129, 130, 131, 132, 133, 134, 135, 41, 136, 137, 138, 139, 140, 141, 38, 142, 143, 144, 145, 146, 103, 147, 105, 148, 149, 150, 151, 152, 153, 66, 154, 155, 156, 157, 158, 159, 160, 161, 162, 163, 106, 107, 164, 165, 166, 167, 168, 169, 170, 171, 37, 172, 173, 174, 175, 176, 177, 9, 178, 179, 180, 181, 182, 183, 184, 185, 186, 187, 188, 189, 47, 190, 191, 192, 193, 46, 202, 203, 204, 205, 206, 207, 208, 209, 210, 211, 212, 213, 214, 215, 216, 217, 218, 219, 220, 221, 222, 223, 224, 226, 227, 228, 229, 230, 231, 225, 239, 240, 241, 232, 233, 234, 235, 236, 237, 238] (by decide +kernel) (by decide +kernel)
set_option maxRecDepth 20000 in
theorem gX8_loadedIn_X7_passTicks : GoodIn wsX8_loadedIn (wsV RX8 91 RX7 yX7_passTicks wsX7_passTicks) := goodIn_app (goodIn_of _ (by decide +kernel)) ggX8_loadedIn_X7_passTicks
set_option maxRecDepth 20000 in
theorem ggX8_loadedIn_X7_wasLoaded : GoodIn wsX8_loadedIn wsX7_wasLoaded := goodIn_r _ [197, 8, 159, 25, 4, 5, 6, 7, 9, 26, 27, 28, 29, 30, 31, 202, 203, 204, 205, 206, 207, 208, 209, 210, 211, 212, 213, 214, 215, 216, 217, 218, 219, 220, 221, 222, 223, 224, 225] (by decide +kernel) (by decide +kernel)
set_option maxRecDepth 20000 in
theorem gX8_loadedIn_X7_wasLoaded : GoodIn wsX8_loadedIn (wsV RX8 135 RX7 yX7_wasLoaded wsX7_wasLoaded) := goodIn_app (goodIn_of _ (by decide +kernel)) ggX8_loadedIn_X7_wasLoaded
theorem dX8_loadedIn_0 : decode cX8_loadedIn 0 = .ok (.aload_n 0, 1) := by decide +kernel
theorem dX8_loadedIn_1 : decode cX8_loadedIn 1 = .ok (.getfield 10, 3) := by decide +kernel
theorem dX8_loadedIn_4 : decode cX8_loadedIn 4 = .ok (.iload_n 1, 1) := by decide +kernel
theorem dX8_loadedIn_5 : decode cX8_loadedIn 5 = .ok (.invokevirtual 111, 3) := by decide +kernel
theorem dX8_loadedIn_8 : decode cX8_loadedIn 8 = .ok (.ifCond .eq 7, 3) := by decide +kernel
theorem dX8_loadedIn_11 : decode cX8_loadedIn 11 = .ok (.iconst 0, 1) := by decide +kernel
theorem dX8_loadedIn_12 : decode cX8_loadedIn 12 = .ok (.goto 4, 3) := by decide +kernel
theorem dX8_loadedIn_15 : decode cX8_loadedIn 15 = .ok (.iconst 1, 1) := by decide +kernel
theorem dX8_loadedIn_16 : decode cX8_loadedIn 16 = .ok (.invokestatic 37, 3) := by decide +kernel
theorem dX8_loadedIn_19 : decode cX8_loadedIn 19 = .ok (.aload_n 0, 1) := by decide +kernel
theorem dX8_loadedIn_20 : decode cX8_loadedIn 20 = .ok (.getfield 10, 3) := by decide +kernel
theorem dX8_loadedIn_23 : decode cX8_loadedIn 23 = .ok (.iload_n 1, 1) := by decide +kernel
theorem dX8_loadedIn_24 : decode cX8_loadedIn 24 = .ok (.invokevirtual 129, 3) := by decide +kernel
theorem dX8_loadedIn_27 : decode cX8_loadedIn 27 = .ok (.ifCond .ne 5, 3) := by decide +kernel
theorem dX8_loadedIn_30 : decode cX8_loadedIn 30 = .ok (.iconst (-1), 1) := by decide +kernel
theorem dX8_loadedIn_31 : decode cX8_loadedIn 31 = .ok (.ireturn, 1) := by decide +kernel
theorem dX8_loadedIn_32 : decode cX8_loadedIn 32 = .ok (.aload_n 0, 1) := by decide +kernel
theorem dX8_loadedIn_33 : decode cX8_loadedIn 33 = .ok (.getfield 16, 3) := by decide +kernel
theorem dX8_loadedIn_36 : decode cX8_loadedIn 36 = .ok (.aload_n 0, 1) := by decide +kernel
theorem dX8_loadedIn_37 : decode cX8_loadedIn 37 = .ok (.getfield 10, 3) := by decide +kernel
theorem dX8_loadedIn_40 : decode cX8_loadedIn 40 = .ok (.invokevirtual 132, 3) := by decide +kernel
theorem dX8_loadedIn_43 : decode cX8_loadedIn 43 = .ok (.iconst 1, 1) := by decide +kernel
theorem dX8_loadedIn_44 : decode cX8_loadedIn 44 = .ok (.istore_n 2, 1) := by decide +kernel
theorem dX8_loadedIn_45 : decode cX8_loadedIn 45 = .ok (.iload_n 2, 1) := by decide +kernel
theorem dX8_loadedIn_46 : decode cX8_loadedIn 46 = .ok (.bipush 60, 2) := by decide +kernel
theorem dX8_loadedIn_48 : decode cX8_loadedIn 48 = .ok (.if_icmp .gt 31, 3) := by decide +kernel
theorem dX8_loadedIn_51 : decode cX8_loadedIn 51 = .ok (.aload_n 0, 1) := by decide +kernel
theorem dX8_loadedIn_52 : decode cX8_loadedIn 52 = .ok (.getfield 16, 3) := by decide +kernel
theorem dX8_loadedIn_55 : decode cX8_loadedIn 55 = .ok (.iconst 1, 1) := by decide +kernel
theorem dX8_loadedIn_56 : decode cX8_loadedIn 56 = .ok (.invokevirtual 91, 3) := by decide +kernel
theorem dX8_loadedIn_59 : decode cX8_loadedIn 59 = .ok (.pop, 1) := by decide +kernel
theorem dX8_loadedIn_60 : decode cX8_loadedIn 60 = .ok (.aload_n 0, 1) := by decide +kernel
theorem dX8_loadedIn_61 : decode cX8_loadedIn 61 = .ok (.getfield 16, 3) := by decide +kernel
theorem dX8_loadedIn_64 : decode cX8_loadedIn 64 = .ok (.iload_n 1, 1) := by decide +kernel
theorem dX8_loadedIn_65 : decode cX8_loadedIn 65 = .ok (.invokevirtual 135, 3) := by decide +kernel
theorem dX8_loadedIn_68 : decode cX8_loadedIn 68 = .ok (.ifCond .eq 5, 3) := by decide +kernel
theorem dX8_loadedIn_71 : decode cX8_loadedIn 71 = .ok (.iload_n 2, 1) := by decide +kernel
theorem dX8_loadedIn_72 : decode cX8_loadedIn 72 = .ok (.ireturn, 1) := by decide +kernel
theorem dX8_loadedIn_73 : decode cX8_loadedIn 73 = .ok (.iinc 2 1, 3) := by decide +kernel
theorem dX8_loadedIn_76 : decode cX8_loadedIn 76 = .ok (.goto (-31), 3) := by decide +kernel
theorem dX8_loadedIn_79 : decode cX8_loadedIn 79 = .ok (.iconst (-1), 1) := by decide +kernel
theorem dX8_loadedIn_80 : decode cX8_loadedIn 80 = .ok (.ireturn, 1) := by decide +kernel
set_option maxRecDepth 20000 in
theorem ggX8_neededLogs_X7_isDough : GoodIn wsX8_neededLogs wsX7_isDough := goodIn_r _ [6, 7, 8, 66, 67, 68, 69, 70, 71, 72, 73, 74, 75, 76, 77, 78, 79, 80, 81, 82, 83, 84, 85, 86, 87, 88] (by decide +kernel) (by decide +kernel)
set_option maxRecDepth 20000 in
theorem gX8_neededLogs_X7_isDough : GoodIn wsX8_neededLogs (wsV RX8 111 RX7 yX7_isDough wsX7_isDough) := goodIn_app (goodIn_of _ (by decide +kernel)) ggX8_neededLogs_X7_isDough
set_option maxRecDepth 20000 in
theorem ggX8_neededLogs_X8_refuse : GoodIn wsX8_neededLogs wsX8_refuse := goodIn_ca (goodIn_ca (goodIn_ca (goodIn_r _ [12, 13, 14, 15, 16, 17, 18] (by decide +kernel) (by decide +kernel)) (goodIn_sub (fun _ h => List.mem_cons_of_mem _ (List.mem_append_left _ (List.mem_append_left _ (List.mem_append_right _ h)))) (by decide +kernel))) (goodIn_sub (fun _ h => List.mem_cons_of_mem _ (List.mem_append_left _ (List.mem_append_right _ h))) (by decide +kernel))) (goodIn_sub (fun _ h => List.mem_cons_of_mem _ (List.mem_append_right _ h)) (by decide +kernel))
set_option maxRecDepth 20000 in
theorem gX8_neededLogs_X8_refuse : GoodIn wsX8_neededLogs (va_wsS RX8 37 yX8_refuse wsX8_refuse) := goodIn_app (goodIn_of _ (by decide +kernel)) ggX8_neededLogs_X8_refuse
set_option maxRecDepth 20000 in
theorem ggX8_neededLogs_X7_fewestLogsFor : GoodIn wsX8_neededLogs wsX7_fewestLogsFor := goodIn_r _ [22, 23, 24, 25, 26, 5, 27, 7, 28, 29, 3, 4, 6, 8, 30, 31, 32, 33, 34, 35, 36, 37, 38, 39, 40, 41, 42, 43, 44, 45, 46, 47, 48, 49, 50, 51, 52, 53, 54, 55, 56, 57, 58, 59, 60, 61, 66, 67, 68, 69, 70, 71, 72, 73, 74, 75, 76, 77, 78, 79, 80, 81, 82, 83, 84, 85, 86, 87, 88, 89, 90, 91, 92, 93, 94, 95, 96, 97, 98] (by decide +kernel) (by decide +kernel)
set_option maxRecDepth 20000 in
theorem gX8_neededLogs_X7_fewestLogsFor : GoodIn wsX8_neededLogs (wsV RX8 138 RX7 yX7_fewestLogsFor wsX7_fewestLogsFor) := goodIn_app (goodIn_of _ (by decide +kernel)) ggX8_neededLogs_X7_fewestLogsFor
theorem dX8_neededLogs_0 : decode cX8_neededLogs 0 = .ok (.aload_n 0, 1) := by decide +kernel
theorem dX8_neededLogs_1 : decode cX8_neededLogs 1 = .ok (.getfield 10, 3) := by decide +kernel
theorem dX8_neededLogs_4 : decode cX8_neededLogs 4 = .ok (.iload_n 1, 1) := by decide +kernel
theorem dX8_neededLogs_5 : decode cX8_neededLogs 5 = .ok (.invokevirtual 111, 3) := by decide +kernel
theorem dX8_neededLogs_8 : decode cX8_neededLogs 8 = .ok (.ifCond .eq 7, 3) := by decide +kernel
theorem dX8_neededLogs_11 : decode cX8_neededLogs 11 = .ok (.iconst 0, 1) := by decide +kernel
theorem dX8_neededLogs_12 : decode cX8_neededLogs 12 = .ok (.goto 4, 3) := by decide +kernel
theorem dX8_neededLogs_15 : decode cX8_neededLogs 15 = .ok (.iconst 1, 1) := by decide +kernel
theorem dX8_neededLogs_16 : decode cX8_neededLogs 16 = .ok (.invokestatic 37, 3) := by decide +kernel
theorem dX8_neededLogs_19 : decode cX8_neededLogs 19 = .ok (.aload_n 0, 1) := by decide +kernel
theorem dX8_neededLogs_20 : decode cX8_neededLogs 20 = .ok (.getfield 10, 3) := by decide +kernel
theorem dX8_neededLogs_23 : decode cX8_neededLogs 23 = .ok (.iload_n 1, 1) := by decide +kernel
theorem dX8_neededLogs_24 : decode cX8_neededLogs 24 = .ok (.invokevirtual 138, 3) := by decide +kernel
theorem dX8_neededLogs_27 : decode cX8_neededLogs 27 = .ok (.ireturn, 1) := by decide +kernel
set_option maxRecDepth 20000 in
theorem ggX8_heatIn_X8_refuse : GoodIn wsX8_heatIn wsX8_refuse := goodIn_ca (goodIn_ca (goodIn_ca (goodIn_r _ [4, 5, 6, 7, 8, 9, 10] (by decide +kernel) (by decide +kernel)) (goodIn_sub (fun _ h => List.mem_cons_of_mem _ (List.mem_append_left _ (List.mem_append_left _ (List.mem_append_right _ h)))) (by decide +kernel))) (goodIn_sub (fun _ h => List.mem_cons_of_mem _ (List.mem_append_left _ (List.mem_append_right _ h))) (by decide +kernel))) (goodIn_sub (fun _ h => List.mem_cons_of_mem _ (List.mem_append_right _ h)) (by decide +kernel))
set_option maxRecDepth 20000 in
theorem gX8_heatIn_X8_refuse : GoodIn wsX8_heatIn (va_wsS RX8 37 yX8_refuse wsX8_refuse) := goodIn_app (goodIn_of _ (by decide +kernel)) ggX8_heatIn_X8_refuse
set_option maxRecDepth 20000 in
theorem ggX8_heatIn_X8_heatAfter : GoodIn wsX8_heatIn wsX8_heatAfter := goodIn_r _ [14, 15, 16, 17, 18, 19, 20, 21, 22, 23, 24, 25, 26, 27, 28, 29, 30, 31, 32, 33, 34, 35, 36, 37, 38, 39, 40, 41, 42, 43, 44, 45, 46, 47, 48, 49, 50, 51, 52, 53, 54, 55, 56, 57, 58, 59, 60, 61, 62, 63, 64, 65, 66, 67, 68, 69, 70, 71, 72, 73, 74, 75, 76, 77, 78, 79, 80, 81, 82, 83, 84, 85, 86, 87, 88, 89, 90, 91, 92, 93, 94, 95, 96, 97, 98, 99, 100, 101, 102, 103, 104, 105, 106, 107, 108, 109, 110, 111, 112, 113, 114, 115, 116, 117, 118, 119, 120, 121, 122, 123, 124, 125, 126, 127, 128, 129, 130, 131, 132, 133, 134, 135, 136, 137, 138, 139, 140, 141, 142, 143, 144, 145, 146, 147, 148, 149, 150, 151, 152, 153, 154, 155, 156, 157, 158, 159, 160, 161, 162, 163, 164, 165, 166, 167, 168, 169, 170, 171, 172, 173, 174, 175, 176, 177, 178, 179, 180, 181, 182, 183, 184, 185, 186, 187, 188, 189, 190, 191, 192, 193, 194, 195, 196, 197, 198, 199, 200, 201, 202, 203, 204, 205, 206, 207, 208, 209, 210, 211, 212, 213, 214, 215, 216, 217, 218, 219, 220, 221, 222, 223, 224, 225, 226, 227, 228, 229, 230, 231, 232, 233] (by decide +kernel) (by decide +kernel)
set_option maxRecDepth 20000 in
theorem gX8_heatIn_X8_heatAfter : GoodIn wsX8_heatIn (wsV RX8 141 RX8 yX8_heatAfter wsX8_heatAfter) := goodIn_app (goodIn_of _ (by decide +kernel)) ggX8_heatIn_X8_heatAfter
theorem dX8_heatIn_0 : decode cX8_heatIn 0 = .ok (.iload_n 1, 1) := by decide +kernel
theorem dX8_heatIn_1 : decode cX8_heatIn 1 = .ok (.ifCond .lt 9, 3) := by decide +kernel
theorem dX8_heatIn_4 : decode cX8_heatIn 4 = .ok (.iload_n 1, 1) := by decide +kernel
theorem dX8_heatIn_5 : decode cX8_heatIn 5 = .ok (.bipush 100, 2) := by decide +kernel
theorem dX8_heatIn_7 : decode cX8_heatIn 7 = .ok (.if_icmp .le 7, 3) := by decide +kernel
theorem dX8_heatIn_10 : decode cX8_heatIn 10 = .ok (.iconst 2, 1) := by decide +kernel
theorem dX8_heatIn_11 : decode cX8_heatIn 11 = .ok (.goto 4, 3) := by decide +kernel
theorem dX8_heatIn_14 : decode cX8_heatIn 14 = .ok (.iconst 0, 1) := by decide +kernel
theorem dX8_heatIn_15 : decode cX8_heatIn 15 = .ok (.invokestatic 37, 3) := by decide +kernel
theorem dX8_heatIn_18 : decode cX8_heatIn 18 = .ok (.aload_n 0, 1) := by decide +kernel
theorem dX8_heatIn_19 : decode cX8_heatIn 19 = .ok (.iload_n 1, 1) := by decide +kernel
theorem dX8_heatIn_20 : decode cX8_heatIn 20 = .ok (.invokevirtual 141, 3) := by decide +kernel
theorem dX8_heatIn_23 : decode cX8_heatIn 23 = .ok (.ireturn, 1) := by decide +kernel
set_option maxRecDepth 20000 in
theorem ggX8_spoiledIn_X8_refuse : GoodIn wsX8_spoiledIn wsX8_refuse := goodIn_ca (goodIn_ca (goodIn_ca (goodIn_r _ [6, 7, 8, 9, 10, 11, 12] (by decide +kernel) (by decide +kernel)) (goodIn_sub (fun _ h => List.mem_cons_of_mem _ (List.mem_append_left _ (List.mem_append_left _ (List.mem_append_right _ h)))) (by decide +kernel))) (goodIn_sub (fun _ h => List.mem_cons_of_mem _ (List.mem_append_left _ (List.mem_append_right _ h))) (by decide +kernel))) (goodIn_sub (fun _ h => List.mem_cons_of_mem _ (List.mem_append_right _ h)) (by decide +kernel))
set_option maxRecDepth 20000 in
theorem gX8_spoiledIn_X8_refuse : GoodIn wsX8_spoiledIn (va_wsS RX8 37 yX8_refuse wsX8_refuse) := goodIn_app (goodIn_of _ (by decide +kernel)) ggX8_spoiledIn_X8_refuse
set_option maxRecDepth 20000 in
theorem ggX8_spoiledIn_X7_copyFrom : GoodIn wsX8_spoiledIn wsX7_copyFrom := goodIn_r _ [17, 18, 19, 20, 21, 22, 23, 24, 25, 26, 27, 28, 29, 30, 31, 32, 33, 34, 35, 36, 37, 38, 39, 40, 41, 42, 43, 44, 45, 46, 47, 48, 49, 50, 51, 52, 53, 54, 55, 56, 57, 58, 59, 60, 61, 62, 63, 64, 65, 66, 67, 68, 69, 70, 71, 72, 73, 74, 75, 76, 77, 78, 79, 80, 81, 82, 83, 84, 85, 86, 87, 88, 89, 90, 91, 92, 93, 94, 193, 194, 195, 196, 197, 198, 199, 200, 201, 202, 203, 204, 205, 206, 207, 208, 209, 210, 211, 212, 213, 214, 215, 216, 217, 218, 219, 220, 221, 222, 223, 224, 225, 226, 227, 228, 229, 230, 231, 232] (by decide +kernel) (by decide +kernel)
set_option maxRecDepth 20000 in
theorem gX8_spoiledIn_X7_copyFrom : GoodIn wsX8_spoiledIn (wsV RX8 132 RX7 yX7_copyFrom wsX7_copyFrom) := goodIn_app (goodIn_of _ (by decide +kernel)) ggX8_spoiledIn_X7_copyFrom
set_option maxRecDepth 20000 in
theorem ggX8_spoiledIn_X7_passTicks : GoodIn wsX8_spoiledIn wsX7_passTicks := goodIn_r _ [98, 25, 99, 100, 101, 16, 102, 23, 22, 20, 103, 104, 18, 105, 106, 107, 31, 108, 109, 110, 46, 111, 48, 112, 113, 114, 115, 116, 117, 118, 119, 120, 121, 122, 123, 124, 125, 24, 126, 127, 128, 129, 130, 131, 21, 132, 133, 134, 135, 136, 88, 137, 90, 138, 139, 140, 141, 142, 143, 51, 144, 145, 146, 147, 148, 149, 150, 151, 152, 153, 91, 92, 154, 155, 156, 157, 158, 159, 160, 161, 19, 162, 163, 164, 165, 166, 167, 168, 169, 170, 171, 172, 173, 174, 175, 176, 177, 178, 179, 180, 30, 181, 182, 183, 184, 29, 193, 194, 195, 196, 197, 198, 199, 200, 201, 202, 203, 204, 205, 206, 221, 222, 223, 224, 225, 226, 227, 228, 229, 207, 208, 209, 210, 211, 212, 213, 230, 231, 232, 214, 215, 216, 217, 218, 219, 220] (by decide +kernel) (by decide +kernel)
set_option maxRecDepth 20000 in
theorem gX8_spoiledIn_X7_passTicks : GoodIn wsX8_spoiledIn (wsV RX8 91 RX7 yX7_passTicks wsX7_passTicks) := goodIn_app (goodIn_of _ (by decide +kernel)) ggX8_spoiledIn_X7_passTicks
set_option maxRecDepth 20000 in
theorem ggX8_spoiledIn_X7_setOfSpoiled : GoodIn wsX8_spoiledIn wsX7_setOfSpoiled := goodIn_r _ [188, 20, 168, 107, 108, 109, 110, 46, 111, 48, 193, 194, 195, 196, 197, 198, 199, 200, 201, 202, 203, 204, 205, 206, 221, 222, 223, 224, 225, 226, 227, 228, 229, 213] (by decide +kernel) (by decide +kernel)
set_option maxRecDepth 20000 in
theorem gX8_spoiledIn_X7_setOfSpoiled : GoodIn wsX8_spoiledIn (wsV RX8 144 RX7 yX7_setOfSpoiled wsX7_setOfSpoiled) := goodIn_app (goodIn_of _ (by decide +kernel)) ggX8_spoiledIn_X7_setOfSpoiled
theorem dX8_spoiledIn_0 : decode cX8_spoiledIn 0 = .ok (.iload_n 1, 1) := by decide +kernel
theorem dX8_spoiledIn_1 : decode cX8_spoiledIn 1 = .ok (.ifCond .lt 9, 3) := by decide +kernel
theorem dX8_spoiledIn_4 : decode cX8_spoiledIn 4 = .ok (.iload_n 1, 1) := by decide +kernel
theorem dX8_spoiledIn_5 : decode cX8_spoiledIn 5 = .ok (.bipush 100, 2) := by decide +kernel
theorem dX8_spoiledIn_7 : decode cX8_spoiledIn 7 = .ok (.if_icmp .le 7, 3) := by decide +kernel
theorem dX8_spoiledIn_10 : decode cX8_spoiledIn 10 = .ok (.iconst 2, 1) := by decide +kernel
theorem dX8_spoiledIn_11 : decode cX8_spoiledIn 11 = .ok (.goto 4, 3) := by decide +kernel
theorem dX8_spoiledIn_14 : decode cX8_spoiledIn 14 = .ok (.iconst 0, 1) := by decide +kernel
theorem dX8_spoiledIn_15 : decode cX8_spoiledIn 15 = .ok (.invokestatic 37, 3) := by decide +kernel
theorem dX8_spoiledIn_18 : decode cX8_spoiledIn 18 = .ok (.aload_n 0, 1) := by decide +kernel
theorem dX8_spoiledIn_19 : decode cX8_spoiledIn 19 = .ok (.getfield 16, 3) := by decide +kernel
theorem dX8_spoiledIn_22 : decode cX8_spoiledIn 22 = .ok (.aload_n 0, 1) := by decide +kernel
theorem dX8_spoiledIn_23 : decode cX8_spoiledIn 23 = .ok (.getfield 10, 3) := by decide +kernel
theorem dX8_spoiledIn_26 : decode cX8_spoiledIn 26 = .ok (.invokevirtual 132, 3) := by decide +kernel
theorem dX8_spoiledIn_29 : decode cX8_spoiledIn 29 = .ok (.aload_n 0, 1) := by decide +kernel
theorem dX8_spoiledIn_30 : decode cX8_spoiledIn 30 = .ok (.getfield 16, 3) := by decide +kernel
theorem dX8_spoiledIn_33 : decode cX8_spoiledIn 33 = .ok (.iload_n 1, 1) := by decide +kernel
theorem dX8_spoiledIn_34 : decode cX8_spoiledIn 34 = .ok (.invokevirtual 91, 3) := by decide +kernel
theorem dX8_spoiledIn_37 : decode cX8_spoiledIn 37 = .ok (.pop, 1) := by decide +kernel
theorem dX8_spoiledIn_38 : decode cX8_spoiledIn 38 = .ok (.aload_n 0, 1) := by decide +kernel
theorem dX8_spoiledIn_39 : decode cX8_spoiledIn 39 = .ok (.getfield 16, 3) := by decide +kernel
theorem dX8_spoiledIn_42 : decode cX8_spoiledIn 42 = .ok (.invokevirtual 144, 3) := by decide +kernel
theorem dX8_spoiledIn_45 : decode cX8_spoiledIn 45 = .ok (.aload_n 0, 1) := by decide +kernel
theorem dX8_spoiledIn_46 : decode cX8_spoiledIn 46 = .ok (.getfield 10, 3) := by decide +kernel
theorem dX8_spoiledIn_49 : decode cX8_spoiledIn 49 = .ok (.invokevirtual 144, 3) := by decide +kernel
theorem dX8_spoiledIn_52 : decode cX8_spoiledIn 52 = .ok (.iconst (-1), 1) := by decide +kernel
theorem dX8_spoiledIn_53 : decode cX8_spoiledIn 53 = .ok (.ixor, 1) := by decide +kernel
theorem dX8_spoiledIn_54 : decode cX8_spoiledIn 54 = .ok (.iand, 1) := by decide +kernel
theorem dX8_spoiledIn_55 : decode cX8_spoiledIn 55 = .ok (.ireturn, 1) := by decide +kernel
set_option maxRecDepth 20000 in
theorem ggX8_owes_X7_isHouse : GoodIn wsX8_owes wsX7_isHouse := goodIn_r _ [6, 7, 8, 39, 40, 41, 42, 43, 44, 45, 46, 47, 48, 49, 50, 51, 52, 53, 54, 55, 56, 57, 58, 59] (by decide +kernel) (by decide +kernel)
set_option maxRecDepth 20000 in
theorem gX8_owes_X7_isHouse : GoodIn wsX8_owes (wsV RX8 105 RX7 yX7_isHouse wsX7_isHouse) := goodIn_app (goodIn_of _ (by decide +kernel)) ggX8_owes_X7_isHouse
set_option maxRecDepth 20000 in
theorem ggX8_owes_X8_refuse : GoodIn wsX8_owes wsX8_refuse := goodIn_ca (goodIn_ca (goodIn_ca (goodIn_r _ [12, 13, 14, 15, 16, 17, 18] (by decide +kernel) (by decide +kernel)) (goodIn_sub (fun _ h => List.mem_cons_of_mem _ (List.mem_append_left _ (List.mem_append_left _ (List.mem_append_right _ h)))) (by decide +kernel))) (goodIn_sub (fun _ h => List.mem_cons_of_mem _ (List.mem_append_left _ (List.mem_append_right _ h))) (by decide +kernel))) (goodIn_sub (fun _ h => List.mem_cons_of_mem _ (List.mem_append_right _ h)) (by decide +kernel))
set_option maxRecDepth 20000 in
theorem gX8_owes_X8_refuse : GoodIn wsX8_owes (va_wsS RX8 37 yX8_refuse wsX8_refuse) := goodIn_app (goodIn_of _ (by decide +kernel)) ggX8_owes_X8_refuse
set_option maxRecDepth 20000 in
theorem ggX8_owes_X7_owedBy : GoodIn wsX8_owes wsX7_owedBy := goodIn_r _ [22, 23, 7, 24, 8, 25, 26, 27, 5, 28, 29, 30, 31, 32, 33, 34, 39, 40, 41, 42, 43, 44, 45, 46, 47, 48, 49, 50, 51, 52, 53, 54, 55, 56, 57, 58, 59, 60] (by decide +kernel) (by decide +kernel)
set_option maxRecDepth 20000 in
theorem gX8_owes_X7_owedBy : GoodIn wsX8_owes (wsV RX8 147 RX7 yX7_owedBy wsX7_owedBy) := goodIn_app (goodIn_of _ (by decide +kernel)) ggX8_owes_X7_owedBy
theorem dX8_owes_0 : decode cX8_owes 0 = .ok (.aload_n 0, 1) := by decide +kernel
theorem dX8_owes_1 : decode cX8_owes 1 = .ok (.getfield 10, 3) := by decide +kernel
theorem dX8_owes_4 : decode cX8_owes 4 = .ok (.iload_n 1, 1) := by decide +kernel
theorem dX8_owes_5 : decode cX8_owes 5 = .ok (.invokevirtual 105, 3) := by decide +kernel
theorem dX8_owes_8 : decode cX8_owes 8 = .ok (.ifCond .eq 7, 3) := by decide +kernel
theorem dX8_owes_11 : decode cX8_owes 11 = .ok (.iconst 0, 1) := by decide +kernel
theorem dX8_owes_12 : decode cX8_owes 12 = .ok (.goto 4, 3) := by decide +kernel
theorem dX8_owes_15 : decode cX8_owes 15 = .ok (.iconst 1, 1) := by decide +kernel
theorem dX8_owes_16 : decode cX8_owes 16 = .ok (.invokestatic 37, 3) := by decide +kernel
theorem dX8_owes_19 : decode cX8_owes 19 = .ok (.aload_n 0, 1) := by decide +kernel
theorem dX8_owes_20 : decode cX8_owes 20 = .ok (.getfield 10, 3) := by decide +kernel
theorem dX8_owes_23 : decode cX8_owes 23 = .ok (.iload_n 1, 1) := by decide +kernel
theorem dX8_owes_24 : decode cX8_owes 24 = .ok (.invokevirtual 147, 3) := by decide +kernel
theorem dX8_owes_27 : decode cX8_owes 27 = .ok (.ireturn, 1) := by decide +kernel
set_option maxRecDepth 20000 in
theorem ggX8_undo_X2_size : GoodIn wsX8_undo wsX2_size := goodIn_r _ [7, 8, 115, 116, 117] (by decide +kernel) (by decide +kernel)
set_option maxRecDepth 20000 in
theorem gX8_undo_X2_size : GoodIn wsX8_undo (wsV RX8 172 RX2 yX2_size wsX2_size) := goodIn_app (goodIn_of _ (by decide +kernel)) ggX8_undo_X2_size
set_option maxRecDepth 20000 in
theorem ggX8_undo_X8_refuse : GoodIn wsX8_undo wsX8_refuse := goodIn_ca (goodIn_ca (goodIn_ca (goodIn_r _ [12, 13, 14, 15, 16, 17, 18] (by decide +kernel) (by decide +kernel)) (goodIn_sub (fun _ h => List.mem_cons_of_mem _ (List.mem_append_left _ (List.mem_append_left _ (List.mem_append_right _ h)))) (by decide +kernel))) (goodIn_sub (fun _ h => List.mem_cons_of_mem _ (List.mem_append_left _ (List.mem_append_right _ h))) (by decide +kernel))) (goodIn_sub (fun _ h => List.mem_cons_of_mem _ (List.mem_append_right _ h)) (by decide +kernel))
set_option maxRecDepth 20000 in
theorem gX8_undo_X8_refuse : GoodIn wsX8_undo (va_wsS RX8 37 yX8_refuse wsX8_refuse) := goodIn_app (goodIn_of _ (by decide +kernel)) ggX8_undo_X8_refuse
set_option maxRecDepth 20000 in
theorem ggX8_undo_X2_restoreTo : GoodIn wsX8_undo wsX2_restoreTo := goodIn_r _ [22, 8, 23, 24, 25, 6, 26, 27, 28, 29, 30, 31, 32, 33, 34, 35, 36, 37, 38, 39, 40, 41, 42, 43, 44, 45, 46, 47, 48, 49, 50, 51, 52, 53, 54, 55, 56, 57, 58, 59, 60, 61, 62, 63, 64, 65, 66, 67, 68, 69, 70, 71, 72, 73, 74, 75, 76, 77, 78, 79, 80, 81, 82, 83, 84, 85, 86, 87, 88, 89, 90, 91, 92, 93, 94, 95, 96, 97, 98, 99, 100, 101, 102, 103, 104, 105, 106, 107, 108, 109, 110, 115, 116, 117, 118, 119, 120, 121, 122, 123, 124, 125, 126, 127, 128, 129, 130, 131, 132, 133, 134, 135, 136, 137, 138, 139, 140, 141, 142, 143, 144, 145, 146, 147, 148, 149, 150, 151, 152, 153, 154, 155, 156, 157] (by decide +kernel) (by decide +kernel)
set_option maxRecDepth 20000 in
theorem gX8_undo_X2_restoreTo : GoodIn wsX8_undo (wsV RX8 175 RX2 yX2_restoreTo wsX2_restoreTo) := goodIn_app (goodIn_of _ (by decide +kernel)) ggX8_undo_X2_restoreTo
theorem dX8_undo_0 : decode cX8_undo 0 = .ok (.aload_n 0, 1) := by decide +kernel
theorem dX8_undo_1 : decode cX8_undo 1 = .ok (.getfield 22, 3) := by decide +kernel
theorem dX8_undo_4 : decode cX8_undo 4 = .ok (.invokevirtual 172, 3) := by decide +kernel
theorem dX8_undo_7 : decode cX8_undo 7 = .ok (.ifCond .ne 7, 3) := by decide +kernel
theorem dX8_undo_10 : decode cX8_undo 10 = .ok (.iconst 3, 1) := by decide +kernel
theorem dX8_undo_11 : decode cX8_undo 11 = .ok (.goto 4, 3) := by decide +kernel
theorem dX8_undo_14 : decode cX8_undo 14 = .ok (.iconst 0, 1) := by decide +kernel
theorem dX8_undo_15 : decode cX8_undo 15 = .ok (.invokestatic 37, 3) := by decide +kernel
theorem dX8_undo_18 : decode cX8_undo 18 = .ok (.aload_n 0, 1) := by decide +kernel
theorem dX8_undo_19 : decode cX8_undo 19 = .ok (.getfield 22, 3) := by decide +kernel
theorem dX8_undo_22 : decode cX8_undo 22 = .ok (.aload_n 0, 1) := by decide +kernel
theorem dX8_undo_23 : decode cX8_undo 23 = .ok (.getfield 10, 3) := by decide +kernel
theorem dX8_undo_26 : decode cX8_undo 26 = .ok (.invokevirtual 175, 3) := by decide +kernel
theorem dX8_undo_29 : decode cX8_undo 29 = .ok (.aload_n 0, 1) := by decide +kernel
theorem dX8_undo_30 : decode cX8_undo 30 = .ok (.getfield 22, 3) := by decide +kernel
theorem dX8_undo_33 : decode cX8_undo 33 = .ok (.invokevirtual 172, 3) := by decide +kernel
theorem dX8_undo_36 : decode cX8_undo 36 = .ok (.ireturn, 1) := by decide +kernel
set_option maxRecDepth 20000 in
theorem ggX8_digest_X2_size : GoodIn wsX8_digest wsX2_size := goodIn_r _ [7, 8, 297, 298, 299] (by decide +kernel) (by decide +kernel)
set_option maxRecDepth 20000 in
theorem gX8_digest_X2_size : GoodIn wsX8_digest (wsV RX8 172 RX2 yX2_size wsX2_size) := goodIn_app (goodIn_of _ (by decide +kernel)) ggX8_digest_X2_size
set_option maxRecDepth 20000 in
theorem ggX8_digest_X8_mixed : GoodIn wsX8_digest wsX8_mixed := goodIn_r _ [12, 13] (by decide +kernel) (by decide +kernel)
set_option maxRecDepth 20000 in
theorem gX8_digest_X8_mixed : GoodIn wsX8_digest (va_wsS RX8 180 yX8_mixed wsX8_mixed) := goodIn_app (goodIn_of _ (by decide +kernel)) ggX8_digest_X8_mixed
set_option maxRecDepth 20000 in
theorem ggX8_digest_X8_valueOfWhole : GoodIn wsX8_digest wsX8_valueOfWhole := goodIn_r _ [17, 18, 19, 20, 21, 22, 23, 24, 25, 26, 27, 28, 29, 30, 31, 32, 33, 34, 35, 36, 37, 38, 39, 40, 41, 42, 43, 44, 45, 46, 47, 48, 49, 50, 51, 52, 53, 54, 55, 56, 57, 58, 59, 60, 61, 62, 63, 64, 65, 66, 67, 68, 293, 294, 295, 296, 300, 301, 302, 303, 304, 305, 306, 307, 308, 309, 310, 311, 312, 313, 314, 315, 316, 317, 318, 319, 320, 321, 322, 323, 324, 325, 326, 327, 328, 329, 330, 331, 332, 333, 334, 335, 336, 337, 338, 339, 340, 341, 342, 343, 344, 345] (by decide +kernel) (by decide +kernel)
set_option maxRecDepth 20000 in
theorem gX8_digest_X8_valueOfWhole : GoodIn wsX8_digest (wsV RX8 120 RX8 yX8_valueOfWhole wsX8_valueOfWhole) := goodIn_app (goodIn_of _ (by decide +kernel)) ggX8_digest_X8_valueOfWhole
set_option maxRecDepth 20000 in
theorem ggX8_digest_X8_mixedKinds : GoodIn wsX8_digest wsX8_mixedKinds := goodIn_r _ [72, 19, 73, 74, 75, 76, 77, 29, 78, 31, 79, 80, 81, 82, 83, 68, 58, 59, 60, 61, 62, 9, 10, 11, 12, 13, 293, 294, 295, 296, 306, 307, 308, 309, 310, 311, 312, 313, 314, 315, 316, 317, 318, 319, 320, 321, 322, 323, 324, 325, 345] (by decide +kernel) (by decide +kernel)
set_option maxRecDepth 20000 in
theorem gX8_digest_X8_mixedKinds : GoodIn wsX8_digest (wsV RX8 184 RX8 yX8_mixedKinds wsX8_mixedKinds) := goodIn_app (goodIn_of _ (by decide +kernel)) ggX8_digest_X8_mixedKinds
set_option maxRecDepth 20000 in
theorem ggX8_digest_X8_mixedHouses : GoodIn wsX8_digest wsX8_mixedHouses := goodIn_r _ [87, 19, 88, 89, 90, 91, 92, 29, 93, 33, 94, 67, 95, 96, 97, 98, 68, 58, 59, 60, 61, 62, 99, 100, 101, 102, 35, 36, 103, 9, 10, 11, 12, 13, 104, 105, 106, 107, 41, 34, 63, 64, 65, 66, 293, 294, 295, 296, 306, 307, 308, 309, 310, 311, 312, 313, 314, 315, 316, 317, 318, 319, 326, 327, 328, 329, 330, 331, 332, 345, 333, 334, 335, 336, 337, 338, 339, 340, 341] (by decide +kernel) (by decide +kernel)
set_option maxRecDepth 20000 in
theorem gX8_digest_X8_mixedHouses : GoodIn wsX8_digest (wsV RX8 188 RX8 yX8_mixedHouses wsX8_mixedHouses) := goodIn_app (goodIn_of _ (by decide +kernel)) ggX8_digest_X8_mixedHouses
set_option maxRecDepth 20000 in
theorem ggX8_digest_X8_mixedDoughs : GoodIn wsX8_digest wsX8_mixedDoughs := goodIn_r _ [111, 19, 112, 113, 114, 115, 116, 29, 117, 35, 103, 118, 119, 120, 121, 122, 123, 124, 68, 58, 59, 60, 61, 62, 125, 126, 127, 128, 39, 129, 130, 131, 132, 133, 40, 134, 9, 10, 11, 12, 13, 135, 136, 137, 138, 37, 139, 140, 141, 142, 143, 144, 145, 146, 36, 147, 148, 149, 150, 31, 79, 80, 82, 151, 53, 54, 50, 55, 56, 57, 152, 153, 154, 155, 156, 157, 158, 293, 294, 295, 296, 306, 307, 308, 309, 310, 311, 312, 313, 314, 315, 316, 317, 318, 319, 333, 334, 335, 336, 337, 338, 339, 340, 341, 345, 342, 343, 344, 320, 321, 322, 323, 324, 325] (by decide +kernel) (by decide +kernel)
set_option maxRecDepth 20000 in
theorem gX8_digest_X8_mixedDoughs : GoodIn wsX8_digest (wsV RX8 191 RX8 yX8_mixedDoughs wsX8_mixedDoughs) := goodIn_app (goodIn_of _ (by decide +kernel)) ggX8_digest_X8_mixedDoughs
set_option maxRecDepth 20000 in
theorem ggX8_digest_X8_mixedPlaces : GoodIn wsX8_digest wsX8_mixedPlaces := goodIn_r _ [162, 19, 163, 164, 165, 166, 29, 167, 37, 40, 134, 168, 169, 152, 153, 154, 155, 156, 157, 158, 151, 53, 54, 50, 55, 56, 57, 58, 59, 60, 61, 62, 68, 9, 10, 11, 12, 13, 170, 171, 172, 173, 39, 129, 293, 294, 295, 296, 306, 307, 308, 309, 310, 311, 312, 313, 314, 315, 316, 317, 318, 319, 342, 343, 344, 345] (by decide +kernel) (by decide +kernel)
set_option maxRecDepth 20000 in
theorem gX8_digest_X8_mixedPlaces : GoodIn wsX8_digest (wsV RX8 194 RX8 yX8_mixedPlaces wsX8_mixedPlaces) := goodIn_app (goodIn_of _ (by decide +kernel)) ggX8_digest_X8_mixedPlaces
set_option maxRecDepth 20000 in
theorem ggX8_digest_X8_heatAfter : GoodIn wsX8_digest wsX8_heatAfter := goodIn_r _ [177, 178, 19, 179, 180, 181, 182, 29, 183, 31, 33, 35, 40, 129, 39, 37, 38, 41, 42, 43, 44, 45, 46, 184, 185, 186, 187, 188, 189, 190, 191, 192, 193, 194, 195, 196, 197, 60, 198, 62, 199, 200, 157, 201, 202, 203, 204, 205, 206, 207, 208, 209, 210, 211, 212, 213, 214, 215, 216, 217, 218, 219, 220, 221, 222, 223, 224, 225, 226, 227, 228, 229, 230, 231, 232, 233, 234, 235, 236, 50, 237, 56, 238, 239, 240, 241, 242, 243, 244, 245, 246, 247, 248, 249, 118, 120, 82, 83, 121, 68, 58, 59, 61, 250, 251, 252, 253, 254, 255, 256, 257, 258, 259, 260, 261, 262, 263, 119, 122, 147, 148, 149, 150, 79, 80, 151, 53, 54, 55, 57, 152, 153, 154, 155, 156, 158, 264, 265, 266, 267, 123, 268, 269, 270, 271, 272, 273, 274, 275, 276, 134, 168, 169, 67, 103, 277, 278, 279, 280, 36, 281, 282, 283, 284, 81, 285, 286, 287, 288, 124, 97, 98, 289, 290, 291, 292, 293, 294, 295, 296, 306, 307, 308, 309, 310, 311, 312, 313, 314, 315, 316, 317, 318, 319, 320, 321, 322, 323, 324, 325, 345, 326, 327, 328, 329, 330, 331, 332, 333, 334, 335, 336, 337, 338, 339, 340, 341, 342, 343, 344] (by decide +kernel) (by decide +kernel)
set_option maxRecDepth 20000 in
theorem gX8_digest_X8_heatAfter : GoodIn wsX8_digest (wsV RX8 141 RX8 yX8_heatAfter wsX8_heatAfter) := goodIn_app (goodIn_of _ (by decide +kernel)) ggX8_digest_X8_heatAfter
theorem dX8_digest_0 : decode cX8_digest 0 = .ok (.ldc2_w 178, 3) := by decide +kernel
theorem dX8_digest_3 : decode cX8_digest 3 = .ok (.aload_n 0, 1) := by decide +kernel
theorem dX8_digest_4 : decode cX8_digest 4 = .ok (.getfield 22, 3) := by decide +kernel
theorem dX8_digest_7 : decode cX8_digest 7 = .ok (.invokevirtual 172, 3) := by decide +kernel
theorem dX8_digest_10 : decode cX8_digest 10 = .ok (.invokestatic 180, 3) := by decide +kernel
theorem dX8_digest_13 : decode cX8_digest 13 = .ok (.lstore_n 1, 1) := by decide +kernel
theorem dX8_digest_14 : decode cX8_digest 14 = .ok (.iconst 0, 1) := by decide +kernel
theorem dX8_digest_15 : decode cX8_digest 15 = .ok (.istore_n 3, 1) := by decide +kernel
theorem dX8_digest_16 : decode cX8_digest 16 = .ok (.iload_n 3, 1) := by decide +kernel
theorem dX8_digest_17 : decode cX8_digest 17 = .ok (.bipush 15, 2) := by decide +kernel
theorem dX8_digest_19 : decode cX8_digest 19 = .ok (.if_icmp .ge 19, 3) := by decide +kernel
theorem dX8_digest_22 : decode cX8_digest 22 = .ok (.lload_n 1, 1) := by decide +kernel
theorem dX8_digest_23 : decode cX8_digest 23 = .ok (.aload_n 0, 1) := by decide +kernel
theorem dX8_digest_24 : decode cX8_digest 24 = .ok (.iload_n 3, 1) := by decide +kernel
theorem dX8_digest_25 : decode cX8_digest 25 = .ok (.invokevirtual 120, 3) := by decide +kernel
theorem dX8_digest_28 : decode cX8_digest 28 = .ok (.invokestatic 180, 3) := by decide +kernel
theorem dX8_digest_31 : decode cX8_digest 31 = .ok (.lstore_n 1, 1) := by decide +kernel
theorem dX8_digest_32 : decode cX8_digest 32 = .ok (.iinc 3 1, 3) := by decide +kernel
theorem dX8_digest_35 : decode cX8_digest 35 = .ok (.goto (-19), 3) := by decide +kernel
theorem dX8_digest_38 : decode cX8_digest 38 = .ok (.aload_n 0, 1) := by decide +kernel
theorem dX8_digest_39 : decode cX8_digest 39 = .ok (.lload_n 1, 1) := by decide +kernel
theorem dX8_digest_40 : decode cX8_digest 40 = .ok (.invokevirtual 184, 3) := by decide +kernel
theorem dX8_digest_43 : decode cX8_digest 43 = .ok (.lstore_n 1, 1) := by decide +kernel
theorem dX8_digest_44 : decode cX8_digest 44 = .ok (.aload_n 0, 1) := by decide +kernel
theorem dX8_digest_45 : decode cX8_digest 45 = .ok (.lload_n 1, 1) := by decide +kernel
theorem dX8_digest_46 : decode cX8_digest 46 = .ok (.invokevirtual 188, 3) := by decide +kernel
theorem dX8_digest_49 : decode cX8_digest 49 = .ok (.lstore_n 1, 1) := by decide +kernel
theorem dX8_digest_50 : decode cX8_digest 50 = .ok (.aload_n 0, 1) := by decide +kernel
theorem dX8_digest_51 : decode cX8_digest 51 = .ok (.lload_n 1, 1) := by decide +kernel
theorem dX8_digest_52 : decode cX8_digest 52 = .ok (.invokevirtual 191, 3) := by decide +kernel
theorem dX8_digest_55 : decode cX8_digest 55 = .ok (.lstore_n 1, 1) := by decide +kernel
theorem dX8_digest_56 : decode cX8_digest 56 = .ok (.aload_n 0, 1) := by decide +kernel
theorem dX8_digest_57 : decode cX8_digest 57 = .ok (.lload_n 1, 1) := by decide +kernel
theorem dX8_digest_58 : decode cX8_digest 58 = .ok (.invokevirtual 194, 3) := by decide +kernel
theorem dX8_digest_61 : decode cX8_digest 61 = .ok (.lstore_n 1, 1) := by decide +kernel
theorem dX8_digest_62 : decode cX8_digest 62 = .ok (.lload_n 1, 1) := by decide +kernel
theorem dX8_digest_63 : decode cX8_digest 63 = .ok (.aload_n 0, 1) := by decide +kernel
theorem dX8_digest_64 : decode cX8_digest 64 = .ok (.bipush 10, 2) := by decide +kernel
theorem dX8_digest_66 : decode cX8_digest 66 = .ok (.invokevirtual 141, 3) := by decide +kernel
theorem dX8_digest_69 : decode cX8_digest 69 = .ok (.invokestatic 180, 3) := by decide +kernel
theorem dX8_digest_72 : decode cX8_digest 72 = .ok (.lreturn, 1) := by decide +kernel
theorem dX8_refuse_0 : decode cX8_refuse 0 = .ok (.iload_n 0, 1) := by decide +kernel
theorem dX8_refuse_1 : decode cX8_refuse 1 = .ok (.tableswitch 57 1 3 #[27, 37, 47], 27) := by decide +kernel
theorem dX8_refuse_28 : decode cX8_refuse 28 = .ok (.new 197, 3) := by decide +kernel
theorem dX8_refuse_31 : decode cX8_refuse 31 = .ok (.dup, 1) := by decide +kernel
theorem dX8_refuse_32 : decode cX8_refuse 32 = .ok (.ldc 199, 2) := by decide +kernel
theorem dX8_refuse_34 : decode cX8_refuse 34 = .ok (.invokespecial 201, 3) := by decide +kernel
theorem dX8_refuse_37 : decode cX8_refuse 37 = .ok (.athrow, 1) := by decide +kernel
theorem dX8_refuse_38 : decode cX8_refuse 38 = .ok (.new 204, 3) := by decide +kernel
theorem dX8_refuse_41 : decode cX8_refuse 41 = .ok (.dup, 1) := by decide +kernel
theorem dX8_refuse_42 : decode cX8_refuse 42 = .ok (.ldc 206, 2) := by decide +kernel
theorem dX8_refuse_44 : decode cX8_refuse 44 = .ok (.invokespecial 208, 3) := by decide +kernel
theorem dX8_refuse_47 : decode cX8_refuse 47 = .ok (.athrow, 1) := by decide +kernel
theorem dX8_refuse_48 : decode cX8_refuse 48 = .ok (.new 209, 3) := by decide +kernel
theorem dX8_refuse_51 : decode cX8_refuse 51 = .ok (.dup, 1) := by decide +kernel
theorem dX8_refuse_52 : decode cX8_refuse 52 = .ok (.ldc 211, 2) := by decide +kernel
theorem dX8_refuse_54 : decode cX8_refuse 54 = .ok (.invokespecial 213, 3) := by decide +kernel
theorem dX8_refuse_57 : decode cX8_refuse 57 = .ok (.athrow, 1) := by decide +kernel
theorem dX8_refuse_58 : decode cX8_refuse 58 = .ok (.return_, 1) := by decide +kernel
theorem dX8_refusalOfValue_0 : decode cX8_refusalOfValue 0 = .ok (.iload_n 0, 1) := by decide +kernel
theorem dX8_refusalOfValue_1 : decode cX8_refusalOfValue 1 = .ok (.ifCond .ne 5, 3) := by decide +kernel
theorem dX8_refusalOfValue_4 : decode cX8_refusalOfValue 4 = .ok (.iconst 1, 1) := by decide +kernel
theorem dX8_refusalOfValue_5 : decode cX8_refusalOfValue 5 = .ok (.ireturn, 1) := by decide +kernel
theorem dX8_refusalOfValue_6 : decode cX8_refusalOfValue 6 = .ok (.iload_n 1, 1) := by decide +kernel
theorem dX8_refusalOfValue_7 : decode cX8_refusalOfValue 7 = .ok (.ifCond .lt 8, 3) := by decide +kernel
theorem dX8_refusalOfValue_10 : decode cX8_refusalOfValue 10 = .ok (.iload_n 1, 1) := by decide +kernel
theorem dX8_refusalOfValue_11 : decode cX8_refusalOfValue 11 = .ok (.iload_n 2, 1) := by decide +kernel
theorem dX8_refusalOfValue_12 : decode cX8_refusalOfValue 12 = .ok (.if_icmp .lt 7, 3) := by decide +kernel
theorem dX8_refusalOfValue_15 : decode cX8_refusalOfValue 15 = .ok (.iconst 2, 1) := by decide +kernel
theorem dX8_refusalOfValue_16 : decode cX8_refusalOfValue 16 = .ok (.goto 4, 3) := by decide +kernel
theorem dX8_refusalOfValue_19 : decode cX8_refusalOfValue 19 = .ok (.iconst 0, 1) := by decide +kernel
theorem dX8_refusalOfValue_20 : decode cX8_refusalOfValue 20 = .ok (.ireturn, 1) := by decide +kernel
set_option maxRecDepth 20000 in
theorem ggX8_valueOfWhole_X0_length : GoodIn wsX8_valueOfWhole wsX0_length := goodIn_r _ [7, 8, 56, 57, 58, 59, 60, 61] (by decide +kernel) (by decide +kernel)
set_option maxRecDepth 20000 in
theorem gX8_valueOfWhole_X0_length : GoodIn wsX8_valueOfWhole (wsV RX8 214 RX0 yX0_length wsX0_length) := goodIn_app (goodIn_of _ (by decide +kernel)) ggX8_valueOfWhole_X0_length
set_option maxRecDepth 20000 in
theorem ggX8_valueOfWhole_X7_valueOfWholeHouse : GoodIn wsX8_valueOfWhole wsX7_valueOfWholeHouse := goodIn_r _ [13, 14, 15, 16, 17, 18, 19, 20, 21, 22, 23, 24, 25, 26, 27, 28, 29, 30, 31, 32, 33, 34, 35, 36, 37, 38, 39, 40, 41, 42, 43, 44, 45, 46, 47, 48, 12, 49, 50, 51, 62, 63, 64, 65, 66, 67, 68, 69, 70, 71, 72, 73, 74, 75, 76, 77, 78, 79, 80, 81, 82, 83, 84, 85, 86, 87, 88, 89, 90, 91, 92, 93, 94, 95, 96, 97, 98, 99, 100, 101] (by decide +kernel) (by decide +kernel)
set_option maxRecDepth 20000 in
theorem gX8_valueOfWhole_X7_valueOfWholeHouse : GoodIn wsX8_valueOfWhole (wsV RX8 217 RX7 yX7_valueOfWholeHouse wsX7_valueOfWholeHouse) := goodIn_app (goodIn_of _ (by decide +kernel)) ggX8_valueOfWhole_X7_valueOfWholeHouse
theorem dX8_valueOfWhole_0 : decode cX8_valueOfWhole 0 = .ok (.iload_n 1, 1) := by decide +kernel
theorem dX8_valueOfWhole_1 : decode cX8_valueOfWhole 1 = .ok (.bipush 14, 2) := by decide +kernel
theorem dX8_valueOfWhole_3 : decode cX8_valueOfWhole 3 = .ok (.if_icmp .ne 13, 3) := by decide +kernel
theorem dX8_valueOfWhole_6 : decode cX8_valueOfWhole 6 = .ok (.aload_n 0, 1) := by decide +kernel
theorem dX8_valueOfWhole_7 : decode cX8_valueOfWhole 7 = .ok (.getfield 29, 3) := by decide +kernel
theorem dX8_valueOfWhole_10 : decode cX8_valueOfWhole 10 = .ok (.invokevirtual 214, 3) := by decide +kernel
theorem dX8_valueOfWhole_13 : decode cX8_valueOfWhole 13 = .ok (.goto 11, 3) := by decide +kernel
theorem dX8_valueOfWhole_16 : decode cX8_valueOfWhole 16 = .ok (.aload_n 0, 1) := by decide +kernel
theorem dX8_valueOfWhole_17 : decode cX8_valueOfWhole 17 = .ok (.getfield 10, 3) := by decide +kernel
theorem dX8_valueOfWhole_20 : decode cX8_valueOfWhole 20 = .ok (.iload_n 1, 1) := by decide +kernel
theorem dX8_valueOfWhole_21 : decode cX8_valueOfWhole 21 = .ok (.invokevirtual 217, 3) := by decide +kernel
theorem dX8_valueOfWhole_24 : decode cX8_valueOfWhole 24 = .ok (.ireturn, 1) := by decide +kernel
set_option maxRecDepth 20000 in
theorem ggX8_heatAfter_X7_copyFrom : GoodIn wsX8_heatAfter wsX7_copyFrom := goodIn_r _ [8, 9, 10, 11, 12, 13, 14, 15, 16, 17, 18, 19, 20, 21, 22, 23, 24, 25, 26, 27, 28, 29, 30, 31, 32, 33, 34, 35, 36, 37, 38, 39, 40, 41, 42, 43, 44, 45, 46, 47, 48, 49, 50, 51, 52, 53, 54, 55, 56, 57, 58, 59, 60, 61, 62, 63, 64, 65, 66, 67, 68, 69, 70, 71, 72, 73, 74, 75, 76, 77, 78, 79, 80, 81, 82, 83, 84, 85, 180, 181, 182, 183, 184, 185, 186, 187, 188, 189, 190, 191, 192, 193, 194, 195, 196, 197, 198, 199, 200, 201, 202, 203, 204, 205, 206, 207, 208, 209, 210, 211, 212, 213, 214, 215, 216, 217, 218, 219] (by decide +kernel) (by decide +kernel)
set_option maxRecDepth 20000 in
theorem gX8_heatAfter_X7_copyFrom : GoodIn wsX8_heatAfter (wsV RX8 132 RX7 yX7_copyFrom wsX7_copyFrom) := goodIn_app (goodIn_of _ (by decide +kernel)) ggX8_heatAfter_X7_copyFrom
set_option maxRecDepth 20000 in
theorem ggX8_heatAfter_X7_passTicks : GoodIn wsX8_heatAfter wsX7_passTicks := goodIn_r _ [89, 16, 90, 91, 92, 7, 93, 14, 13, 11, 94, 95, 9, 96, 97, 98, 22, 99, 100, 101, 37, 102, 39, 103, 104, 105, 106, 107, 108, 109, 110, 111, 112, 113, 114, 115, 116, 15, 117, 118, 119, 120, 121, 122, 12, 123, 124, 125, 126, 127, 79, 128, 81, 129, 130, 131, 132, 133, 134, 42, 135, 136, 137, 138, 139, 140, 141, 142, 143, 144, 82, 83, 145, 146, 147, 148, 149, 150, 151, 152, 10, 153, 154, 155, 156, 157, 158, 159, 160, 161, 162, 163, 164, 165, 166, 167, 168, 169, 170, 171, 21, 172, 173, 174, 175, 20, 180, 181, 182, 183, 184, 185, 186, 187, 188, 189, 190, 191, 192, 193, 208, 209, 210, 211, 212, 213, 214, 215, 216, 194, 195, 196, 197, 198, 199, 200, 217, 218, 219, 201, 202, 203, 204, 205, 206, 207] (by decide +kernel) (by decide +kernel)
set_option maxRecDepth 20000 in
theorem gX8_heatAfter_X7_passTicks : GoodIn wsX8_heatAfter (wsV RX8 91 RX7 yX7_passTicks wsX7_passTicks) := goodIn_app (goodIn_of _ (by decide +kernel)) ggX8_heatAfter_X7_passTicks
theorem dX8_heatAfter_0 : decode cX8_heatAfter 0 = .ok (.aload_n 0, 1) := by decide +kernel
theorem dX8_heatAfter_1 : decode cX8_heatAfter 1 = .ok (.getfield 16, 3) := by decide +kernel
theorem dX8_heatAfter_4 : decode cX8_heatAfter 4 = .ok (.aload_n 0, 1) := by decide +kernel
theorem dX8_heatAfter_5 : decode cX8_heatAfter 5 = .ok (.getfield 10, 3) := by decide +kernel
theorem dX8_heatAfter_8 : decode cX8_heatAfter 8 = .ok (.invokevirtual 132, 3) := by decide +kernel
theorem dX8_heatAfter_11 : decode cX8_heatAfter 11 = .ok (.aload_n 0, 1) := by decide +kernel
theorem dX8_heatAfter_12 : decode cX8_heatAfter 12 = .ok (.getfield 16, 3) := by decide +kernel
theorem dX8_heatAfter_15 : decode cX8_heatAfter 15 = .ok (.iload_n 1, 1) := by decide +kernel
theorem dX8_heatAfter_16 : decode cX8_heatAfter 16 = .ok (.invokevirtual 91, 3) := by decide +kernel
theorem dX8_heatAfter_19 : decode cX8_heatAfter 19 = .ok (.pop, 1) := by decide +kernel
theorem dX8_heatAfter_20 : decode cX8_heatAfter 20 = .ok (.aload_n 0, 1) := by decide +kernel
theorem dX8_heatAfter_21 : decode cX8_heatAfter 21 = .ok (.getfield 16, 3) := by decide +kernel
theorem dX8_heatAfter_24 : decode cX8_heatAfter 24 = .ok (.getfield 220, 3) := by decide +kernel
theorem dX8_heatAfter_27 : decode cX8_heatAfter 27 = .ok (.ireturn, 1) := by decide +kernel
theorem dX8_mixed_0 : decode cX8_mixed 0 = .ok (.ldc2_w 224, 3) := by decide +kernel
theorem dX8_mixed_3 : decode cX8_mixed 3 = .ok (.lload_n 0, 1) := by decide +kernel
theorem dX8_mixed_4 : decode cX8_mixed 4 = .ok (.lmul, 1) := by decide +kernel
theorem dX8_mixed_5 : decode cX8_mixed 5 = .ok (.iload_n 2, 1) := by decide +kernel
theorem dX8_mixed_6 : decode cX8_mixed 6 = .ok (.i2l, 1) := by decide +kernel
theorem dX8_mixed_7 : decode cX8_mixed 7 = .ok (.ladd, 1) := by decide +kernel
theorem dX8_mixed_8 : decode cX8_mixed 8 = .ok (.lreturn, 1) := by decide +kernel
set_option maxRecDepth 20000 in
theorem ggX8_mixedKinds_X7_valueOfKind : GoodIn wsX8_mixedKinds wsX7_valueOfKind := goodIn_r _ [8, 9, 10, 11, 12, 13, 14, 15, 16, 17, 18, 19, 20, 30, 31, 32, 33, 34, 35, 36, 37, 38, 39, 40, 41, 42, 43, 44, 45, 46, 47, 48, 49, 50] (by decide +kernel) (by decide +kernel)
set_option maxRecDepth 20000 in
theorem gX8_mixedKinds_X7_valueOfKind : GoodIn wsX8_mixedKinds (wsV RX8 102 RX7 yX7_valueOfKind wsX7_valueOfKind) := goodIn_app (goodIn_of _ (by decide +kernel)) ggX8_mixedKinds_X7_valueOfKind
set_option maxRecDepth 20000 in
theorem ggX8_mixedKinds_X8_mixed : GoodIn wsX8_mixedKinds wsX8_mixed := goodIn_r _ [24, 25] (by decide +kernel) (by decide +kernel)
set_option maxRecDepth 20000 in
theorem gX8_mixedKinds_X8_mixed : GoodIn wsX8_mixedKinds (va_wsS RX8 180 yX8_mixed wsX8_mixed) := goodIn_app (goodIn_of _ (by decide +kernel)) ggX8_mixedKinds_X8_mixed
theorem dX8_mixedKinds_0 : decode cX8_mixedKinds 0 = .ok (.lload_n 1, 1) := by decide +kernel
theorem dX8_mixedKinds_1 : decode cX8_mixedKinds 1 = .ok (.lstore_n 3, 1) := by decide +kernel
theorem dX8_mixedKinds_2 : decode cX8_mixedKinds 2 = .ok (.iconst 0, 1) := by decide +kernel
theorem dX8_mixedKinds_3 : decode cX8_mixedKinds 3 = .ok (.istore 5, 2) := by decide +kernel
theorem dX8_mixedKinds_5 : decode cX8_mixedKinds 5 = .ok (.iload 5, 2) := by decide +kernel
theorem dX8_mixedKinds_7 : decode cX8_mixedKinds 7 = .ok (.aload_n 0, 1) := by decide +kernel
theorem dX8_mixedKinds_8 : decode cX8_mixedKinds 8 = .ok (.getfield 10, 3) := by decide +kernel
theorem dX8_mixedKinds_11 : decode cX8_mixedKinds 11 = .ok (.getfield 226, 3) := by decide +kernel
theorem dX8_mixedKinds_14 : decode cX8_mixedKinds 14 = .ok (.getfield 230, 3) := by decide +kernel
theorem dX8_mixedKinds_17 : decode cX8_mixedKinds 17 = .ok (.if_icmp .ge 40, 3) := by decide +kernel
theorem dX8_mixedKinds_20 : decode cX8_mixedKinds 20 = .ok (.iconst 0, 1) := by decide +kernel
theorem dX8_mixedKinds_21 : decode cX8_mixedKinds 21 = .ok (.istore 6, 2) := by decide +kernel
theorem dX8_mixedKinds_23 : decode cX8_mixedKinds 23 = .ok (.iload 6, 2) := by decide +kernel
theorem dX8_mixedKinds_25 : decode cX8_mixedKinds 25 = .ok (.iconst 5, 1) := by decide +kernel
theorem dX8_mixedKinds_26 : decode cX8_mixedKinds 26 = .ok (.if_icmp .ge 25, 3) := by decide +kernel
theorem dX8_mixedKinds_29 : decode cX8_mixedKinds 29 = .ok (.lload_n 3, 1) := by decide +kernel
theorem dX8_mixedKinds_30 : decode cX8_mixedKinds 30 = .ok (.aload_n 0, 1) := by decide +kernel
theorem dX8_mixedKinds_31 : decode cX8_mixedKinds 31 = .ok (.getfield 10, 3) := by decide +kernel
theorem dX8_mixedKinds_34 : decode cX8_mixedKinds 34 = .ok (.iload 5, 2) := by decide +kernel
theorem dX8_mixedKinds_36 : decode cX8_mixedKinds 36 = .ok (.iload 6, 2) := by decide +kernel
theorem dX8_mixedKinds_38 : decode cX8_mixedKinds 38 = .ok (.invokevirtual 102, 3) := by decide +kernel
theorem dX8_mixedKinds_41 : decode cX8_mixedKinds 41 = .ok (.invokestatic 180, 3) := by decide +kernel
theorem dX8_mixedKinds_44 : decode cX8_mixedKinds 44 = .ok (.lstore_n 3, 1) := by decide +kernel
theorem dX8_mixedKinds_45 : decode cX8_mixedKinds 45 = .ok (.iinc 6 1, 3) := by decide +kernel
theorem dX8_mixedKinds_48 : decode cX8_mixedKinds 48 = .ok (.goto (-25), 3) := by decide +kernel
theorem dX8_mixedKinds_51 : decode cX8_mixedKinds 51 = .ok (.iinc 5 1, 3) := by decide +kernel
theorem dX8_mixedKinds_54 : decode cX8_mixedKinds 54 = .ok (.goto (-49), 3) := by decide +kernel
theorem dX8_mixedKinds_57 : decode cX8_mixedKinds 57 = .ok (.lload_n 3, 1) := by decide +kernel
theorem dX8_mixedKinds_58 : decode cX8_mixedKinds 58 = .ok (.lreturn, 1) := by decide +kernel
set_option maxRecDepth 20000 in
theorem ggX8_mixedHouses_X7_valueOfHouse : GoodIn wsX8_mixedHouses wsX7_valueOfHouse := goodIn_r _ [8, 9, 10, 11, 12, 13, 14, 15, 16, 17, 18, 19, 20, 21, 22, 23, 24, 7, 25, 26, 27, 28, 48, 49, 50, 51, 52, 53, 54, 55, 56, 57, 58, 59, 60, 61, 62, 63, 64, 65, 66, 67, 68, 69, 70, 71, 72, 73, 74, 75, 76, 77, 78] (by decide +kernel) (by decide +kernel)
set_option maxRecDepth 20000 in
theorem gX8_mixedHouses_X7_valueOfHouse : GoodIn wsX8_mixedHouses (wsV RX8 108 RX7 yX7_valueOfHouse wsX7_valueOfHouse) := goodIn_app (goodIn_of _ (by decide +kernel)) ggX8_mixedHouses_X7_valueOfHouse
set_option maxRecDepth 20000 in
theorem ggX8_mixedHouses_X8_mixed : GoodIn wsX8_mixedHouses wsX8_mixed := goodIn_r _ [32, 33] (by decide +kernel) (by decide +kernel)
set_option maxRecDepth 20000 in
theorem gX8_mixedHouses_X8_mixed : GoodIn wsX8_mixedHouses (va_wsS RX8 180 yX8_mixed wsX8_mixed) := goodIn_app (goodIn_of _ (by decide +kernel)) ggX8_mixedHouses_X8_mixed
set_option maxRecDepth 20000 in
theorem ggX8_mixedHouses_X7_owedBy : GoodIn wsX8_mixedHouses wsX7_owedBy := goodIn_r _ [37, 38, 9, 11, 39, 40, 41, 42, 7, 43, 16, 17, 18, 19, 20, 21, 48, 49, 50, 51, 52, 53, 54, 55, 56, 57, 58, 59, 60, 61, 62, 63, 64, 65, 66, 67, 68, 69] (by decide +kernel) (by decide +kernel)
set_option maxRecDepth 20000 in
theorem gX8_mixedHouses_X7_owedBy : GoodIn wsX8_mixedHouses (wsV RX8 147 RX7 yX7_owedBy wsX7_owedBy) := goodIn_app (goodIn_of _ (by decide +kernel)) ggX8_mixedHouses_X7_owedBy
theorem dX8_mixedHouses_0 : decode cX8_mixedHouses 0 = .ok (.lload_n 1, 1) := by decide +kernel
theorem dX8_mixedHouses_1 : decode cX8_mixedHouses 1 = .ok (.lstore_n 3, 1) := by decide +kernel
theorem dX8_mixedHouses_2 : decode cX8_mixedHouses 2 = .ok (.iconst 0, 1) := by decide +kernel
theorem dX8_mixedHouses_3 : decode cX8_mixedHouses 3 = .ok (.istore 5, 2) := by decide +kernel
theorem dX8_mixedHouses_5 : decode cX8_mixedHouses 5 = .ok (.iload 5, 2) := by decide +kernel
theorem dX8_mixedHouses_7 : decode cX8_mixedHouses 7 = .ok (.aload_n 0, 1) := by decide +kernel
theorem dX8_mixedHouses_8 : decode cX8_mixedHouses 8 = .ok (.getfield 10, 3) := by decide +kernel
theorem dX8_mixedHouses_11 : decode cX8_mixedHouses 11 = .ok (.getfield 235, 3) := by decide +kernel
theorem dX8_mixedHouses_14 : decode cX8_mixedHouses 14 = .ok (.getfield 239, 3) := by decide +kernel
theorem dX8_mixedHouses_17 : decode cX8_mixedHouses 17 = .ok (.if_icmp .ge 55, 3) := by decide +kernel
theorem dX8_mixedHouses_20 : decode cX8_mixedHouses 20 = .ok (.iconst 0, 1) := by decide +kernel
theorem dX8_mixedHouses_21 : decode cX8_mixedHouses 21 = .ok (.istore 6, 2) := by decide +kernel
theorem dX8_mixedHouses_23 : decode cX8_mixedHouses 23 = .ok (.iload 6, 2) := by decide +kernel
theorem dX8_mixedHouses_25 : decode cX8_mixedHouses 25 = .ok (.bipush 7, 2) := by decide +kernel
theorem dX8_mixedHouses_27 : decode cX8_mixedHouses 27 = .ok (.if_icmp .ge 25, 3) := by decide +kernel
theorem dX8_mixedHouses_30 : decode cX8_mixedHouses 30 = .ok (.lload_n 3, 1) := by decide +kernel
theorem dX8_mixedHouses_31 : decode cX8_mixedHouses 31 = .ok (.aload_n 0, 1) := by decide +kernel
theorem dX8_mixedHouses_32 : decode cX8_mixedHouses 32 = .ok (.getfield 10, 3) := by decide +kernel
theorem dX8_mixedHouses_35 : decode cX8_mixedHouses 35 = .ok (.iload 5, 2) := by decide +kernel
theorem dX8_mixedHouses_37 : decode cX8_mixedHouses 37 = .ok (.iload 6, 2) := by decide +kernel
theorem dX8_mixedHouses_39 : decode cX8_mixedHouses 39 = .ok (.invokevirtual 108, 3) := by decide +kernel
theorem dX8_mixedHouses_42 : decode cX8_mixedHouses 42 = .ok (.invokestatic 180, 3) := by decide +kernel
theorem dX8_mixedHouses_45 : decode cX8_mixedHouses 45 = .ok (.lstore_n 3, 1) := by decide +kernel
theorem dX8_mixedHouses_46 : decode cX8_mixedHouses 46 = .ok (.iinc 6 1, 3) := by decide +kernel
theorem dX8_mixedHouses_49 : decode cX8_mixedHouses 49 = .ok (.goto (-26), 3) := by decide +kernel
theorem dX8_mixedHouses_52 : decode cX8_mixedHouses 52 = .ok (.lload_n 3, 1) := by decide +kernel
theorem dX8_mixedHouses_53 : decode cX8_mixedHouses 53 = .ok (.aload_n 0, 1) := by decide +kernel
theorem dX8_mixedHouses_54 : decode cX8_mixedHouses 54 = .ok (.getfield 10, 3) := by decide +kernel
theorem dX8_mixedHouses_57 : decode cX8_mixedHouses 57 = .ok (.iload 5, 2) := by decide +kernel
theorem dX8_mixedHouses_59 : decode cX8_mixedHouses 59 = .ok (.invokevirtual 147, 3) := by decide +kernel
theorem dX8_mixedHouses_62 : decode cX8_mixedHouses 62 = .ok (.invokestatic 180, 3) := by decide +kernel
theorem dX8_mixedHouses_65 : decode cX8_mixedHouses 65 = .ok (.lstore_n 3, 1) := by decide +kernel
theorem dX8_mixedHouses_66 : decode cX8_mixedHouses 66 = .ok (.iinc 5 1, 3) := by decide +kernel
theorem dX8_mixedHouses_69 : decode cX8_mixedHouses 69 = .ok (.goto (-64), 3) := by decide +kernel
theorem dX8_mixedHouses_72 : decode cX8_mixedHouses 72 = .ok (.lload_n 3, 1) := by decide +kernel
theorem dX8_mixedHouses_73 : decode cX8_mixedHouses 73 = .ok (.lreturn, 1) := by decide +kernel
set_option maxRecDepth 20000 in
theorem ggX8_mixedDoughs_X7_valueOfDough : GoodIn wsX8_mixedDoughs wsX7_valueOfDough := goodIn_r _ [8, 9, 10, 11, 12, 13, 14, 15, 16, 17, 18, 19, 20, 21, 22, 23, 24, 25, 26, 7, 27, 28, 29, 30, 31, 32, 33, 34, 35, 81, 82, 83, 84, 85, 86, 87, 88, 89, 90, 91, 92, 93, 94, 95, 96, 97, 98, 99, 100, 101, 102, 103, 104, 105, 106, 107] (by decide +kernel) (by decide +kernel)
set_option maxRecDepth 20000 in
theorem gX8_mixedDoughs_X7_valueOfDough : GoodIn wsX8_mixedDoughs (wsV RX8 114 RX7 yX7_valueOfDough wsX7_valueOfDough) := goodIn_app (goodIn_of _ (by decide +kernel)) ggX8_mixedDoughs_X7_valueOfDough
set_option maxRecDepth 20000 in
theorem ggX8_mixedDoughs_X8_mixed : GoodIn wsX8_mixedDoughs wsX8_mixed := goodIn_r _ [39, 40] (by decide +kernel) (by decide +kernel)
set_option maxRecDepth 20000 in
theorem gX8_mixedDoughs_X8_mixed : GoodIn wsX8_mixedDoughs (va_wsS RX8 180 yX8_mixed wsX8_mixed) := goodIn_app (goodIn_of _ (by decide +kernel)) ggX8_mixedDoughs_X8_mixed
set_option maxRecDepth 20000 in
theorem ggX8_mixedDoughs_X7_reasonNow : GoodIn wsX8_mixedDoughs wsX7_reasonNow := goodIn_r _ [44, 45, 46, 47, 48, 7, 49, 9, 14, 50, 51, 52, 53, 54, 18, 19, 20, 21, 22, 23, 55, 56, 57, 58, 11, 34, 59, 60, 61, 12, 13, 62, 63, 64, 65, 66, 67, 68, 69, 70, 71, 72, 73, 74, 75, 76, 81, 82, 83, 84, 85, 86, 87, 88, 89, 90, 91, 92, 93, 94, 95, 96, 97, 98, 99, 100, 101, 102, 103, 104, 108, 109, 110, 111, 112, 113, 105, 106, 107] (by decide +kernel) (by decide +kernel)
set_option maxRecDepth 20000 in
theorem gX8_mixedDoughs_X7_reasonNow : GoodIn wsX8_mixedDoughs (wsV RX8 126 RX7 yX7_reasonNow wsX7_reasonNow) := goodIn_app (goodIn_of _ (by decide +kernel)) ggX8_mixedDoughs_X7_reasonNow
theorem dX8_mixedDoughs_0 : decode cX8_mixedDoughs 0 = .ok (.lload_n 1, 1) := by decide +kernel
theorem dX8_mixedDoughs_1 : decode cX8_mixedDoughs 1 = .ok (.lstore_n 3, 1) := by decide +kernel
theorem dX8_mixedDoughs_2 : decode cX8_mixedDoughs 2 = .ok (.iconst 0, 1) := by decide +kernel
theorem dX8_mixedDoughs_3 : decode cX8_mixedDoughs 3 = .ok (.istore 5, 2) := by decide +kernel
theorem dX8_mixedDoughs_5 : decode cX8_mixedDoughs 5 = .ok (.iload 5, 2) := by decide +kernel
theorem dX8_mixedDoughs_7 : decode cX8_mixedDoughs 7 = .ok (.aload_n 0, 1) := by decide +kernel
theorem dX8_mixedDoughs_8 : decode cX8_mixedDoughs 8 = .ok (.getfield 10, 3) := by decide +kernel
theorem dX8_mixedDoughs_11 : decode cX8_mixedDoughs 11 = .ok (.getfield 242, 3) := by decide +kernel
theorem dX8_mixedDoughs_14 : decode cX8_mixedDoughs 14 = .ok (.getfield 246, 3) := by decide +kernel
theorem dX8_mixedDoughs_17 : decode cX8_mixedDoughs 17 = .ok (.if_icmp .ge 55, 3) := by decide +kernel
theorem dX8_mixedDoughs_20 : decode cX8_mixedDoughs 20 = .ok (.iconst 0, 1) := by decide +kernel
theorem dX8_mixedDoughs_21 : decode cX8_mixedDoughs 21 = .ok (.istore 6, 2) := by decide +kernel
theorem dX8_mixedDoughs_23 : decode cX8_mixedDoughs 23 = .ok (.iload 6, 2) := by decide +kernel
theorem dX8_mixedDoughs_25 : decode cX8_mixedDoughs 25 = .ok (.bipush 10, 2) := by decide +kernel
theorem dX8_mixedDoughs_27 : decode cX8_mixedDoughs 27 = .ok (.if_icmp .ge 25, 3) := by decide +kernel
theorem dX8_mixedDoughs_30 : decode cX8_mixedDoughs 30 = .ok (.lload_n 3, 1) := by decide +kernel
theorem dX8_mixedDoughs_31 : decode cX8_mixedDoughs 31 = .ok (.aload_n 0, 1) := by decide +kernel
theorem dX8_mixedDoughs_32 : decode cX8_mixedDoughs 32 = .ok (.getfield 10, 3) := by decide +kernel
theorem dX8_mixedDoughs_35 : decode cX8_mixedDoughs 35 = .ok (.iload 5, 2) := by decide +kernel
theorem dX8_mixedDoughs_37 : decode cX8_mixedDoughs 37 = .ok (.iload 6, 2) := by decide +kernel
theorem dX8_mixedDoughs_39 : decode cX8_mixedDoughs 39 = .ok (.invokevirtual 114, 3) := by decide +kernel
theorem dX8_mixedDoughs_42 : decode cX8_mixedDoughs 42 = .ok (.invokestatic 180, 3) := by decide +kernel
theorem dX8_mixedDoughs_45 : decode cX8_mixedDoughs 45 = .ok (.lstore_n 3, 1) := by decide +kernel
theorem dX8_mixedDoughs_46 : decode cX8_mixedDoughs 46 = .ok (.iinc 6 1, 3) := by decide +kernel
theorem dX8_mixedDoughs_49 : decode cX8_mixedDoughs 49 = .ok (.goto (-26), 3) := by decide +kernel
theorem dX8_mixedDoughs_52 : decode cX8_mixedDoughs 52 = .ok (.lload_n 3, 1) := by decide +kernel
theorem dX8_mixedDoughs_53 : decode cX8_mixedDoughs 53 = .ok (.aload_n 0, 1) := by decide +kernel
theorem dX8_mixedDoughs_54 : decode cX8_mixedDoughs 54 = .ok (.getfield 10, 3) := by decide +kernel
theorem dX8_mixedDoughs_57 : decode cX8_mixedDoughs 57 = .ok (.iload 5, 2) := by decide +kernel
theorem dX8_mixedDoughs_59 : decode cX8_mixedDoughs 59 = .ok (.invokevirtual 126, 3) := by decide +kernel
theorem dX8_mixedDoughs_62 : decode cX8_mixedDoughs 62 = .ok (.invokestatic 180, 3) := by decide +kernel
theorem dX8_mixedDoughs_65 : decode cX8_mixedDoughs 65 = .ok (.lstore_n 3, 1) := by decide +kernel
theorem dX8_mixedDoughs_66 : decode cX8_mixedDoughs 66 = .ok (.iinc 5 1, 3) := by decide +kernel
theorem dX8_mixedDoughs_69 : decode cX8_mixedDoughs 69 = .ok (.goto (-64), 3) := by decide +kernel
theorem dX8_mixedDoughs_72 : decode cX8_mixedDoughs 72 = .ok (.lload_n 3, 1) := by decide +kernel
theorem dX8_mixedDoughs_73 : decode cX8_mixedDoughs 73 = .ok (.lreturn, 1) := by decide +kernel
set_option maxRecDepth 20000 in
theorem ggX8_mixedPlaces_X7_valueOfPlace : GoodIn wsX8_mixedPlaces wsX7_valueOfPlace := goodIn_r _ [7, 8, 9, 10, 11, 12, 13, 14, 6, 15, 16, 17, 18, 19, 20, 21, 22, 23, 24, 25, 26, 27, 28, 29, 30, 31, 32, 48, 49, 50, 51, 52, 53, 54, 55, 56, 57, 58, 59, 60, 61, 62, 63, 64, 65] (by decide +kernel) (by decide +kernel)
set_option maxRecDepth 20000 in
theorem gX8_mixedPlaces_X7_valueOfPlace : GoodIn wsX8_mixedPlaces (wsV RX8 117 RX7 yX7_valueOfPlace wsX7_valueOfPlace) := goodIn_app (goodIn_of _ (by decide +kernel)) ggX8_mixedPlaces_X7_valueOfPlace
set_option maxRecDepth 20000 in
theorem ggX8_mixedPlaces_X8_mixed : GoodIn wsX8_mixedPlaces wsX8_mixed := goodIn_r _ [36, 37] (by decide +kernel) (by decide +kernel)
set_option maxRecDepth 20000 in
theorem gX8_mixedPlaces_X8_mixed : GoodIn wsX8_mixedPlaces (va_wsS RX8 180 yX8_mixed wsX8_mixed) := goodIn_app (goodIn_of _ (by decide +kernel)) ggX8_mixedPlaces_X8_mixed
set_option maxRecDepth 20000 in
theorem ggX8_mixedPlaces_X7_doughInLine : GoodIn wsX8_mixedPlaces wsX7_doughInLine := goodIn_r _ [41, 42, 43, 32, 27, 28, 29, 30, 31, 48, 49, 50, 51, 52, 53, 54, 55, 56, 57, 58, 59, 60, 61, 65] (by decide +kernel) (by decide +kernel)
set_option maxRecDepth 20000 in
theorem gX8_mixedPlaces_X7_doughInLine : GoodIn wsX8_mixedPlaces (wsV RX8 123 RX7 yX7_doughInLine wsX7_doughInLine) := goodIn_app (goodIn_of _ (by decide +kernel)) ggX8_mixedPlaces_X7_doughInLine
theorem dX8_mixedPlaces_0 : decode cX8_mixedPlaces 0 = .ok (.lload_n 1, 1) := by decide +kernel
theorem dX8_mixedPlaces_1 : decode cX8_mixedPlaces 1 = .ok (.lstore_n 3, 1) := by decide +kernel
theorem dX8_mixedPlaces_2 : decode cX8_mixedPlaces 2 = .ok (.iconst 0, 1) := by decide +kernel
theorem dX8_mixedPlaces_3 : decode cX8_mixedPlaces 3 = .ok (.istore 5, 2) := by decide +kernel
theorem dX8_mixedPlaces_5 : decode cX8_mixedPlaces 5 = .ok (.iload 5, 2) := by decide +kernel
theorem dX8_mixedPlaces_7 : decode cX8_mixedPlaces 7 = .ok (.bipush 12, 2) := by decide +kernel
theorem dX8_mixedPlaces_9 : decode cX8_mixedPlaces 9 = .ok (.if_icmp .ge 40, 3) := by decide +kernel
theorem dX8_mixedPlaces_12 : decode cX8_mixedPlaces 12 = .ok (.iconst 0, 1) := by decide +kernel
theorem dX8_mixedPlaces_13 : decode cX8_mixedPlaces 13 = .ok (.istore 6, 2) := by decide +kernel
theorem dX8_mixedPlaces_15 : decode cX8_mixedPlaces 15 = .ok (.iload 6, 2) := by decide +kernel
theorem dX8_mixedPlaces_17 : decode cX8_mixedPlaces 17 = .ok (.iconst 4, 1) := by decide +kernel
theorem dX8_mixedPlaces_18 : decode cX8_mixedPlaces 18 = .ok (.if_icmp .ge 25, 3) := by decide +kernel
theorem dX8_mixedPlaces_21 : decode cX8_mixedPlaces 21 = .ok (.lload_n 3, 1) := by decide +kernel
theorem dX8_mixedPlaces_22 : decode cX8_mixedPlaces 22 = .ok (.aload_n 0, 1) := by decide +kernel
theorem dX8_mixedPlaces_23 : decode cX8_mixedPlaces 23 = .ok (.getfield 10, 3) := by decide +kernel
theorem dX8_mixedPlaces_26 : decode cX8_mixedPlaces 26 = .ok (.iload 5, 2) := by decide +kernel
theorem dX8_mixedPlaces_28 : decode cX8_mixedPlaces 28 = .ok (.iload 6, 2) := by decide +kernel
theorem dX8_mixedPlaces_30 : decode cX8_mixedPlaces 30 = .ok (.invokevirtual 117, 3) := by decide +kernel
theorem dX8_mixedPlaces_33 : decode cX8_mixedPlaces 33 = .ok (.invokestatic 180, 3) := by decide +kernel
theorem dX8_mixedPlaces_36 : decode cX8_mixedPlaces 36 = .ok (.lstore_n 3, 1) := by decide +kernel
theorem dX8_mixedPlaces_37 : decode cX8_mixedPlaces 37 = .ok (.iinc 6 1, 3) := by decide +kernel
theorem dX8_mixedPlaces_40 : decode cX8_mixedPlaces 40 = .ok (.goto (-25), 3) := by decide +kernel
theorem dX8_mixedPlaces_43 : decode cX8_mixedPlaces 43 = .ok (.iinc 5 1, 3) := by decide +kernel
theorem dX8_mixedPlaces_46 : decode cX8_mixedPlaces 46 = .ok (.goto (-41), 3) := by decide +kernel
theorem dX8_mixedPlaces_49 : decode cX8_mixedPlaces 49 = .ok (.iconst 0, 1) := by decide +kernel
theorem dX8_mixedPlaces_50 : decode cX8_mixedPlaces 50 = .ok (.istore 5, 2) := by decide +kernel
theorem dX8_mixedPlaces_52 : decode cX8_mixedPlaces 52 = .ok (.iload 5, 2) := by decide +kernel
theorem dX8_mixedPlaces_54 : decode cX8_mixedPlaces 54 = .ok (.aload_n 0, 1) := by decide +kernel
theorem dX8_mixedPlaces_55 : decode cX8_mixedPlaces 55 = .ok (.getfield 10, 3) := by decide +kernel
theorem dX8_mixedPlaces_58 : decode cX8_mixedPlaces 58 = .ok (.getfield 249, 3) := by decide +kernel
theorem dX8_mixedPlaces_61 : decode cX8_mixedPlaces 61 = .ok (.if_icmp .ge 23, 3) := by decide +kernel
theorem dX8_mixedPlaces_64 : decode cX8_mixedPlaces 64 = .ok (.lload_n 3, 1) := by decide +kernel
theorem dX8_mixedPlaces_65 : decode cX8_mixedPlaces 65 = .ok (.aload_n 0, 1) := by decide +kernel
theorem dX8_mixedPlaces_66 : decode cX8_mixedPlaces 66 = .ok (.getfield 10, 3) := by decide +kernel
theorem dX8_mixedPlaces_69 : decode cX8_mixedPlaces 69 = .ok (.iload 5, 2) := by decide +kernel
theorem dX8_mixedPlaces_71 : decode cX8_mixedPlaces 71 = .ok (.invokevirtual 123, 3) := by decide +kernel
theorem dX8_mixedPlaces_74 : decode cX8_mixedPlaces 74 = .ok (.invokestatic 180, 3) := by decide +kernel
theorem dX8_mixedPlaces_77 : decode cX8_mixedPlaces 77 = .ok (.lstore_n 3, 1) := by decide +kernel
theorem dX8_mixedPlaces_78 : decode cX8_mixedPlaces 78 = .ok (.iinc 5 1, 3) := by decide +kernel
theorem dX8_mixedPlaces_81 : decode cX8_mixedPlaces 81 = .ok (.goto (-29), 3) := by decide +kernel
theorem dX8_mixedPlaces_84 : decode cX8_mixedPlaces 84 = .ok (.lload_n 3, 1) := by decide +kernel
theorem dX8_mixedPlaces_85 : decode cX8_mixedPlaces 85 = .ok (.lreturn, 1) := by decide +kernel
theorem dJ9_max_7cf53_0 : decode cJ9_max_7cf53 0 = .ok (.iload_n 0, 1) := by decide +kernel
theorem dJ9_max_7cf53_1 : decode cJ9_max_7cf53 1 = .ok (.iload_n 1, 1) := by decide +kernel
theorem dJ9_max_7cf53_2 : decode cJ9_max_7cf53 2 = .ok (.if_icmp .lt 7, 3) := by decide +kernel
theorem dJ9_max_7cf53_5 : decode cJ9_max_7cf53 5 = .ok (.iload_n 0, 1) := by decide +kernel
theorem dJ9_max_7cf53_6 : decode cJ9_max_7cf53 6 = .ok (.goto 4, 3) := by decide +kernel
theorem dJ9_max_7cf53_9 : decode cJ9_max_7cf53 9 = .ok (.iload_n 1, 1) := by decide +kernel
theorem dJ9_max_7cf53_10 : decode cJ9_max_7cf53 10 = .ok (.ireturn, 1) := by decide +kernel
theorem dJ9_min_7cf53_0 : decode cJ9_min_7cf53 0 = .ok (.iload_n 0, 1) := by decide +kernel
theorem dJ9_min_7cf53_1 : decode cJ9_min_7cf53 1 = .ok (.iload_n 1, 1) := by decide +kernel
theorem dJ9_min_7cf53_2 : decode cJ9_min_7cf53 2 = .ok (.if_icmp .gt 7, 3) := by decide +kernel
theorem dJ9_min_7cf53_5 : decode cJ9_min_7cf53 5 = .ok (.iload_n 0, 1) := by decide +kernel
theorem dJ9_min_7cf53_6 : decode cJ9_min_7cf53 6 = .ok (.goto 4, 3) := by decide +kernel
theorem dJ9_min_7cf53_9 : decode cJ9_min_7cf53 9 = .ok (.iload_n 1, 1) := by decide +kernel
theorem dJ9_min_7cf53_10 : decode cJ9_min_7cf53 10 = .ok (.ireturn, 1) := by decide +kernel
theorem dL_cell_0 : decode cL_cell 0 = .ok (.iload_n 1, 1) := by decide +kernel
theorem dL_cell_1 : decode cL_cell 1 = .ok (.aload_n 0, 1) := by decide +kernel
theorem dL_cell_2 : decode cL_cell 2 = .ok (.arraylength, 1) := by decide +kernel
theorem dL_cell_3 : decode cL_cell 3 = .ok (.if_icmp .ge 9, 3) := by decide +kernel
theorem dL_cell_6 : decode cL_cell 6 = .ok (.aload_n 0, 1) := by decide +kernel
theorem dL_cell_7 : decode cL_cell 7 = .ok (.iload_n 1, 1) := by decide +kernel
theorem dL_cell_8 : decode cL_cell 8 = .ok (.iaload, 1) := by decide +kernel
theorem dL_cell_9 : decode cL_cell 9 = .ok (.goto 15, 3) := by decide +kernel
theorem dL_cell_12 : decode cL_cell 12 = .ok (.sipush 7919, 3) := by decide +kernel
theorem dL_cell_15 : decode cL_cell 15 = .ok (.iload_n 1, 1) := by decide +kernel
theorem dL_cell_16 : decode cL_cell 16 = .ok (.iconst 3, 1) := by decide +kernel
theorem dL_cell_17 : decode cL_cell 17 = .ok (.iadd, 1) := by decide +kernel
theorem dL_cell_18 : decode cL_cell 18 = .ok (.imul, 1) := by decide +kernel
theorem dL_cell_19 : decode cL_cell 19 = .ok (.iload_n 1, 1) := by decide +kernel
theorem dL_cell_20 : decode cL_cell 20 = .ok (.bipush 11, 2) := by decide +kernel
theorem dL_cell_22 : decode cL_cell 22 = .ok (.iadd, 1) := by decide +kernel
theorem dL_cell_23 : decode cL_cell 23 = .ok (.imul, 1) := by decide +kernel
theorem dL_cell_24 : decode cL_cell 24 = .ok (.ireturn, 1) := by decide +kernel
theorem dL_low_0 : decode cL_low 0 = .ok (.iload_n 0, 1) := by decide +kernel
theorem dL_low_1 : decode cL_low 1 = .ok (.ldc 7, 2) := by decide +kernel
theorem dL_low_3 : decode cL_low 3 = .ok (.iand, 1) := by decide +kernel
theorem dL_low_4 : decode cL_low 4 = .ok (.iload_n 1, 1) := by decide +kernel
theorem dL_low_5 : decode cL_low 5 = .ok (.irem, 1) := by decide +kernel
theorem dL_low_6 : decode cL_low 6 = .ok (.ireturn, 1) := by decide +kernel
theorem dL_many_0 : decode cL_many 0 = .ok (.iconst 0, 1) := by decide +kernel
theorem dL_many_1 : decode cL_many 1 = .ok (.istore_n 1, 1) := by decide +kernel
theorem dL_many_2 : decode cL_many 2 = .ok (.iconst 0, 1) := by decide +kernel
theorem dL_many_3 : decode cL_many 3 = .ok (.istore_n 2, 1) := by decide +kernel
theorem dL_many_4 : decode cL_many 4 = .ok (.iload_n 2, 1) := by decide +kernel
theorem dL_many_5 : decode cL_many 5 = .ok (.bipush 31, 2) := by decide +kernel
theorem dL_many_7 : decode cL_many 7 = .ok (.if_icmp .ge 17, 3) := by decide +kernel
theorem dL_many_10 : decode cL_many 10 = .ok (.iload_n 1, 1) := by decide +kernel
theorem dL_many_11 : decode cL_many 11 = .ok (.iload_n 0, 1) := by decide +kernel
theorem dL_many_12 : decode cL_many 12 = .ok (.iload_n 2, 1) := by decide +kernel
theorem dL_many_13 : decode cL_many 13 = .ok (.ishr, 1) := by decide +kernel
theorem dL_many_14 : decode cL_many 14 = .ok (.iconst 1, 1) := by decide +kernel
theorem dL_many_15 : decode cL_many 15 = .ok (.iand, 1) := by decide +kernel
theorem dL_many_16 : decode cL_many 16 = .ok (.iadd, 1) := by decide +kernel
theorem dL_many_17 : decode cL_many 17 = .ok (.istore_n 1, 1) := by decide +kernel
theorem dL_many_18 : decode cL_many 18 = .ok (.iinc 2 1, 3) := by decide +kernel
theorem dL_many_21 : decode cL_many 21 = .ok (.goto (-17), 3) := by decide +kernel
theorem dL_many_24 : decode cL_many 24 = .ok (.iload_n 1, 1) := by decide +kernel
theorem dL_many_25 : decode cL_many 25 = .ok (.ireturn, 1) := by decide +kernel
theorem dL_act_0 : decode cL_act 0 = .ok (.aload_n 0, 1) := by decide +kernel
theorem dL_act_1 : decode cL_act 1 = .ok (.iconst 1, 1) := by decide +kernel
theorem dL_act_2 : decode cL_act 2 = .ok (.invokevirtual 8, 3) := by decide +kernel
theorem dL_act_5 : decode cL_act 5 = .ok (.istore_n 2, 1) := by decide +kernel
theorem dL_act_6 : decode cL_act 6 = .ok (.aload_n 0, 1) := by decide +kernel
theorem dL_act_7 : decode cL_act 7 = .ok (.iconst 0, 1) := by decide +kernel
theorem dL_act_8 : decode cL_act 8 = .ok (.invokevirtual 8, 3) := by decide +kernel
theorem dL_act_11 : decode cL_act 11 = .ok (.istore_n 3, 1) := by decide +kernel
theorem dL_act_12 : decode cL_act 12 = .ok (.iload_n 1, 1) := by decide +kernel
theorem dL_act_13 : decode cL_act 13 = .ok (.iconst 4, 1) := by decide +kernel
theorem dL_act_14 : decode cL_act 14 = .ok (.ishr, 1) := by decide +kernel
theorem dL_act_15 : decode cL_act 15 = .ok (.iload_n 2, 1) := by decide +kernel
theorem dL_act_16 : decode cL_act 16 = .ok (.invokestatic 14, 3) := by decide +kernel
theorem dL_act_19 : decode cL_act 19 = .ok (.istore 4, 2) := by decide +kernel
theorem dL_act_21 : decode cL_act 21 = .ok (.iconst 1, 1) := by decide +kernel
theorem dL_act_22 : decode cL_act 22 = .ok (.iload_n 1, 1) := by decide +kernel
theorem dL_act_23 : decode cL_act 23 = .ok (.bipush 8, 2) := by decide +kernel
theorem dL_act_25 : decode cL_act 25 = .ok (.ishr, 1) := by decide +kernel
theorem dL_act_26 : decode cL_act 26 = .ok (.bipush 14, 2) := by decide +kernel
theorem dL_act_28 : decode cL_act 28 = .ok (.invokestatic 14, 3) := by decide +kernel
theorem dL_act_31 : decode cL_act 31 = .ok (.iadd, 1) := by decide +kernel
theorem dL_act_32 : decode cL_act 32 = .ok (.istore 5, 2) := by decide +kernel
theorem dL_act_34 : decode cL_act 34 = .ok (.aload_n 0, 1) := by decide +kernel
theorem dL_act_35 : decode cL_act 35 = .ok (.iconst 5, 1) := by decide +kernel
theorem dL_act_36 : decode cL_act 36 = .ok (.invokevirtual 8, 3) := by decide +kernel
theorem dL_act_39 : decode cL_act 39 = .ok (.istore 6, 2) := by decide +kernel
theorem dL_act_41 : decode cL_act 41 = .ok (.iload_n 1, 1) := by decide +kernel
theorem dL_act_42 : decode cL_act 42 = .ok (.bipush 15, 2) := by decide +kernel
theorem dL_act_44 : decode cL_act 44 = .ok (.iand, 1) := by decide +kernel
theorem dL_act_45 : decode cL_act 45 = .ok (.tableswitch 315 0 12 #[67, 137, 152, 152, 152, 152, 191, 198, 234, 263, 263, 263, 308], 67) := by decide +kernel
theorem dL_act_112 : decode cL_act 112 = .ok (.iload_n 3, 1) := by decide +kernel
theorem dL_act_113 : decode cL_act 113 = .ok (.iconst 5, 1) := by decide +kernel
theorem dL_act_114 : decode cL_act 114 = .ok (.if_icmp .ne 5, 3) := by decide +kernel
theorem dL_act_117 : decode cL_act 117 = .ok (.iconst 0, 1) := by decide +kernel
theorem dL_act_118 : decode cL_act 118 = .ok (.ireturn, 1) := by decide +kernel
theorem dL_act_119 : decode cL_act 119 = .ok (.aload_n 0, 1) := by decide +kernel
theorem dL_act_120 : decode cL_act 120 = .ok (.bipush 50, 2) := by decide +kernel
theorem dL_act_122 : decode cL_act 122 = .ok (.iload_n 1, 1) := by decide +kernel
theorem dL_act_123 : decode cL_act 123 = .ok (.iconst 4, 1) := by decide +kernel
theorem dL_act_124 : decode cL_act 124 = .ok (.ishr, 1) := by decide +kernel
theorem dL_act_125 : decode cL_act 125 = .ok (.sipush 200, 3) := by decide +kernel
theorem dL_act_128 : decode cL_act 128 = .ok (.invokestatic 14, 3) := by decide +kernel
theorem dL_act_131 : decode cL_act 131 = .ok (.iadd, 1) := by decide +kernel
theorem dL_act_132 : decode cL_act 132 = .ok (.sipush 250, 3) := by decide +kernel
theorem dL_act_135 : decode cL_act 135 = .ok (.iload_n 1, 1) := by decide +kernel
theorem dL_act_136 : decode cL_act 136 = .ok (.bipush 12, 2) := by decide +kernel
theorem dL_act_138 : decode cL_act 138 = .ok (.ishr, 1) := by decide +kernel
theorem dL_act_139 : decode cL_act 139 = .ok (.sipush 150, 3) := by decide +kernel
theorem dL_act_142 : decode cL_act 142 = .ok (.invokestatic 14, 3) := by decide +kernel
theorem dL_act_145 : decode cL_act 145 = .ok (.iadd, 1) := by decide +kernel
theorem dL_act_146 : decode cL_act 146 = .ok (.iconst 1, 1) := by decide +kernel
theorem dL_act_147 : decode cL_act 147 = .ok (.iload_n 1, 1) := by decide +kernel
theorem dL_act_148 : decode cL_act 148 = .ok (.bipush 20, 2) := by decide +kernel
theorem dL_act_150 : decode cL_act 150 = .ok (.ishr, 1) := by decide +kernel
theorem dL_act_151 : decode cL_act 151 = .ok (.bipush 6, 2) := by decide +kernel
theorem dL_act_153 : decode cL_act 153 = .ok (.invokestatic 14, 3) := by decide +kernel
theorem dL_act_156 : decode cL_act 156 = .ok (.iadd, 1) := by decide +kernel
theorem dL_act_157 : decode cL_act 157 = .ok (.iload_n 1, 1) := by decide +kernel
theorem dL_act_158 : decode cL_act 158 = .ok (.bipush 16, 2) := by decide +kernel
theorem dL_act_160 : decode cL_act 160 = .ok (.ishr, 1) := by decide +kernel
theorem dL_act_161 : decode cL_act 161 = .ok (.iconst 4, 1) := by decide +kernel
theorem dL_act_162 : decode cL_act 162 = .ok (.invokestatic 14, 3) := by decide +kernel
theorem dL_act_165 : decode cL_act 165 = .ok (.iconst 1, 1) := by decide +kernel
theorem dL_act_166 : decode cL_act 166 = .ok (.iload_n 1, 1) := by decide +kernel
theorem dL_act_167 : decode cL_act 167 = .ok (.bipush 23, 2) := by decide +kernel
theorem dL_act_169 : decode cL_act 169 = .ok (.ishr, 1) := by decide +kernel
theorem dL_act_170 : decode cL_act 170 = .ok (.bipush 20, 2) := by decide +kernel
theorem dL_act_172 : decode cL_act 172 = .ok (.invokestatic 14, 3) := by decide +kernel
theorem dL_act_175 : decode cL_act 175 = .ok (.iadd, 1) := by decide +kernel
theorem dL_act_176 : decode cL_act 176 = .ok (.invokevirtual 20, 3) := by decide +kernel
theorem dL_act_179 : decode cL_act 179 = .ok (.pop, 1) := by decide +kernel
theorem dL_act_180 : decode cL_act 180 = .ok (.iconst 1, 1) := by decide +kernel
theorem dL_act_181 : decode cL_act 181 = .ok (.ireturn, 1) := by decide +kernel
theorem dL_act_182 : decode cL_act 182 = .ok (.iload_n 2, 1) := by decide +kernel
theorem dL_act_183 : decode cL_act 183 = .ok (.bipush 8, 2) := by decide +kernel
theorem dL_act_185 : decode cL_act 185 = .ok (.if_icmp .ne 5, 3) := by decide +kernel
theorem dL_act_188 : decode cL_act 188 = .ok (.iconst 0, 1) := by decide +kernel
theorem dL_act_189 : decode cL_act 189 = .ok (.ireturn, 1) := by decide +kernel
theorem dL_act_190 : decode cL_act 190 = .ok (.aload_n 0, 1) := by decide +kernel
theorem dL_act_191 : decode cL_act 191 = .ok (.invokevirtual 24, 3) := by decide +kernel
theorem dL_act_194 : decode cL_act 194 = .ok (.pop, 1) := by decide +kernel
theorem dL_act_195 : decode cL_act 195 = .ok (.iconst 1, 1) := by decide +kernel
theorem dL_act_196 : decode cL_act 196 = .ok (.ireturn, 1) := by decide +kernel
theorem dL_act_197 : decode cL_act 197 = .ok (.aload_n 0, 1) := by decide +kernel
theorem dL_act_198 : decode cL_act 198 = .ok (.iconst 2, 1) := by decide +kernel
theorem dL_act_199 : decode cL_act 199 = .ok (.invokevirtual 8, 3) := by decide +kernel
theorem dL_act_202 : decode cL_act 202 = .ok (.bipush 16, 2) := by decide +kernel
theorem dL_act_204 : decode cL_act 204 = .ok (.if_icmp .ne 5, 3) := by decide +kernel
theorem dL_act_207 : decode cL_act 207 = .ok (.iconst 0, 1) := by decide +kernel
theorem dL_act_208 : decode cL_act 208 = .ok (.ireturn, 1) := by decide +kernel
theorem dL_act_209 : decode cL_act 209 = .ok (.aload_n 0, 1) := by decide +kernel
theorem dL_act_210 : decode cL_act 210 = .ok (.iload 4, 2) := by decide +kernel
theorem dL_act_212 : decode cL_act 212 = .ok (.iload_n 1, 1) := by decide +kernel
theorem dL_act_213 : decode cL_act 213 = .ok (.bipush 8, 2) := by decide +kernel
theorem dL_act_215 : decode cL_act 215 = .ok (.ishr, 1) := by decide +kernel
theorem dL_act_216 : decode cL_act 216 = .ok (.iload_n 3, 1) := by decide +kernel
theorem dL_act_217 : decode cL_act 217 = .ok (.invokestatic 14, 3) := by decide +kernel
theorem dL_act_220 : decode cL_act 220 = .ok (.iconst 1, 1) := by decide +kernel
theorem dL_act_221 : decode cL_act 221 = .ok (.iload_n 1, 1) := by decide +kernel
theorem dL_act_222 : decode cL_act 222 = .ok (.bipush 12, 2) := by decide +kernel
theorem dL_act_224 : decode cL_act 224 = .ok (.ishr, 1) := by decide +kernel
theorem dL_act_225 : decode cL_act 225 = .ok (.iconst 4, 1) := by decide +kernel
theorem dL_act_226 : decode cL_act 226 = .ok (.invokestatic 14, 3) := by decide +kernel
theorem dL_act_229 : decode cL_act 229 = .ok (.iadd, 1) := by decide +kernel
theorem dL_act_230 : decode cL_act 230 = .ok (.invokevirtual 28, 3) := by decide +kernel
theorem dL_act_233 : decode cL_act 233 = .ok (.pop, 1) := by decide +kernel
theorem dL_act_234 : decode cL_act 234 = .ok (.iconst 1, 1) := by decide +kernel
theorem dL_act_235 : decode cL_act 235 = .ok (.ireturn, 1) := by decide +kernel
theorem dL_act_236 : decode cL_act 236 = .ok (.aload_n 0, 1) := by decide +kernel
theorem dL_act_237 : decode cL_act 237 = .ok (.invokevirtual 32, 3) := by decide +kernel
theorem dL_act_240 : decode cL_act 240 = .ok (.pop, 1) := by decide +kernel
theorem dL_act_241 : decode cL_act 241 = .ok (.iconst 1, 1) := by decide +kernel
theorem dL_act_242 : decode cL_act 242 = .ok (.ireturn, 1) := by decide +kernel
theorem dL_act_243 : decode cL_act 243 = .ok (.iload 6, 2) := by decide +kernel
theorem dL_act_245 : decode cL_act 245 = .ok (.iconst 2, 1) := by decide +kernel
theorem dL_act_246 : decode cL_act 246 = .ok (.if_icmp .ge 5, 3) := by decide +kernel
theorem dL_act_249 : decode cL_act 249 = .ok (.iconst 0, 1) := by decide +kernel
theorem dL_act_250 : decode cL_act 250 = .ok (.ireturn, 1) := by decide +kernel
theorem dL_act_251 : decode cL_act 251 = .ok (.aload_n 0, 1) := by decide +kernel
theorem dL_act_252 : decode cL_act 252 = .ok (.aload_n 0, 1) := by decide +kernel
theorem dL_act_253 : decode cL_act 253 = .ok (.iconst 0, 1) := by decide +kernel
theorem dL_act_254 : decode cL_act 254 = .ok (.invokevirtual 35, 3) := by decide +kernel
theorem dL_act_257 : decode cL_act 257 = .ok (.aload_n 0, 1) := by decide +kernel
theorem dL_act_258 : decode cL_act 258 = .ok (.iconst 1, 1) := by decide +kernel
theorem dL_act_259 : decode cL_act 259 = .ok (.iload_n 1, 1) := by decide +kernel
theorem dL_act_260 : decode cL_act 260 = .ok (.iconst 4, 1) := by decide +kernel
theorem dL_act_261 : decode cL_act 261 = .ok (.ishr, 1) := by decide +kernel
theorem dL_act_262 : decode cL_act 262 = .ok (.iload 6, 2) := by decide +kernel
theorem dL_act_264 : decode cL_act 264 = .ok (.iconst 1, 1) := by decide +kernel
theorem dL_act_265 : decode cL_act 265 = .ok (.isub, 1) := by decide +kernel
theorem dL_act_266 : decode cL_act 266 = .ok (.invokestatic 14, 3) := by decide +kernel
theorem dL_act_269 : decode cL_act 269 = .ok (.iadd, 1) := by decide +kernel
theorem dL_act_270 : decode cL_act 270 = .ok (.invokevirtual 35, 3) := by decide +kernel
theorem dL_act_273 : decode cL_act 273 = .ok (.invokevirtual 38, 3) := by decide +kernel
theorem dL_act_276 : decode cL_act 276 = .ok (.pop, 1) := by decide +kernel
theorem dL_act_277 : decode cL_act 277 = .ok (.iconst 1, 1) := by decide +kernel
theorem dL_act_278 : decode cL_act 278 = .ok (.ireturn, 1) := by decide +kernel
theorem dL_act_279 : decode cL_act 279 = .ok (.aload_n 0, 1) := by decide +kernel
theorem dL_act_280 : decode cL_act 280 = .ok (.iload 4, 2) := by decide +kernel
theorem dL_act_282 : decode cL_act 282 = .ok (.iconst 0, 1) := by decide +kernel
theorem dL_act_283 : decode cL_act 283 = .ok (.invokevirtual 41, 3) := by decide +kernel
theorem dL_act_286 : decode cL_act 286 = .ok (.iload 5, 2) := by decide +kernel
theorem dL_act_288 : decode cL_act 288 = .ok (.iadd, 1) := by decide +kernel
theorem dL_act_289 : decode cL_act 289 = .ok (.sipush 999, 3) := by decide +kernel
theorem dL_act_292 : decode cL_act 292 = .ok (.if_icmp .le 5, 3) := by decide +kernel
theorem dL_act_295 : decode cL_act 295 = .ok (.iconst 0, 1) := by decide +kernel
theorem dL_act_296 : decode cL_act 296 = .ok (.ireturn, 1) := by decide +kernel
theorem dL_act_297 : decode cL_act 297 = .ok (.aload_n 0, 1) := by decide +kernel
theorem dL_act_298 : decode cL_act 298 = .ok (.iload 4, 2) := by decide +kernel
theorem dL_act_300 : decode cL_act 300 = .ok (.iload 5, 2) := by decide +kernel
theorem dL_act_302 : decode cL_act 302 = .ok (.invokevirtual 44, 3) := by decide +kernel
theorem dL_act_305 : decode cL_act 305 = .ok (.pop, 1) := by decide +kernel
theorem dL_act_306 : decode cL_act 306 = .ok (.iconst 1, 1) := by decide +kernel
theorem dL_act_307 : decode cL_act 307 = .ok (.ireturn, 1) := by decide +kernel
theorem dL_act_308 : decode cL_act 308 = .ok (.aload_n 0, 1) := by decide +kernel
theorem dL_act_309 : decode cL_act 309 = .ok (.iload 4, 2) := by decide +kernel
theorem dL_act_311 : decode cL_act 311 = .ok (.iconst 0, 1) := by decide +kernel
theorem dL_act_312 : decode cL_act 312 = .ok (.invokevirtual 41, 3) := by decide +kernel
theorem dL_act_315 : decode cL_act 315 = .ok (.iload 5, 2) := by decide +kernel
theorem dL_act_317 : decode cL_act 317 = .ok (.isub, 1) := by decide +kernel
theorem dL_act_318 : decode cL_act 318 = .ok (.bipush (-20), 2) := by decide +kernel
theorem dL_act_320 : decode cL_act 320 = .ok (.if_icmp .lt 20, 3) := by decide +kernel
theorem dL_act_323 : decode cL_act 323 = .ok (.aload_n 0, 1) := by decide +kernel
theorem dL_act_324 : decode cL_act 324 = .ok (.iconst 3, 1) := by decide +kernel
theorem dL_act_325 : decode cL_act 325 = .ok (.invokevirtual 8, 3) := by decide +kernel
theorem dL_act_328 : decode cL_act 328 = .ok (.bipush 25, 2) := by decide +kernel
theorem dL_act_330 : decode cL_act 330 = .ok (.iload 5, 2) := by decide +kernel
theorem dL_act_332 : decode cL_act 332 = .ok (.imul, 1) := by decide +kernel
theorem dL_act_333 : decode cL_act 333 = .ok (.iadd, 1) := by decide +kernel
theorem dL_act_334 : decode cL_act 334 = .ok (.sipush 400, 3) := by decide +kernel
theorem dL_act_337 : decode cL_act 337 = .ok (.if_icmp .le 5, 3) := by decide +kernel
theorem dL_act_340 : decode cL_act 340 = .ok (.iconst 0, 1) := by decide +kernel
theorem dL_act_341 : decode cL_act 341 = .ok (.ireturn, 1) := by decide +kernel
theorem dL_act_342 : decode cL_act 342 = .ok (.aload_n 0, 1) := by decide +kernel
theorem dL_act_343 : decode cL_act 343 = .ok (.iload 4, 2) := by decide +kernel
theorem dL_act_345 : decode cL_act 345 = .ok (.iload 5, 2) := by decide +kernel
theorem dL_act_347 : decode cL_act 347 = .ok (.invokevirtual 47, 3) := by decide +kernel
theorem dL_act_350 : decode cL_act 350 = .ok (.pop, 1) := by decide +kernel
theorem dL_act_351 : decode cL_act 351 = .ok (.iconst 1, 1) := by decide +kernel
theorem dL_act_352 : decode cL_act 352 = .ok (.ireturn, 1) := by decide +kernel
theorem dL_act_353 : decode cL_act 353 = .ok (.aload_n 0, 1) := by decide +kernel
theorem dL_act_354 : decode cL_act 354 = .ok (.invokevirtual 50, 3) := by decide +kernel
theorem dL_act_357 : decode cL_act 357 = .ok (.pop, 1) := by decide +kernel
theorem dL_act_358 : decode cL_act 358 = .ok (.iconst 1, 1) := by decide +kernel
theorem dL_act_359 : decode cL_act 359 = .ok (.ireturn, 1) := by decide +kernel
theorem dL_act_360 : decode cL_act 360 = .ok (.aload_n 0, 1) := by decide +kernel
theorem dL_act_361 : decode cL_act 361 = .ok (.iconst 1, 1) := by decide +kernel
theorem dL_act_362 : decode cL_act 362 = .ok (.iload_n 1, 1) := by decide +kernel
theorem dL_act_363 : decode cL_act 363 = .ok (.iconst 4, 1) := by decide +kernel
theorem dL_act_364 : decode cL_act 364 = .ok (.ishr, 1) := by decide +kernel
theorem dL_act_365 : decode cL_act 365 = .ok (.bipush 9, 2) := by decide +kernel
theorem dL_act_367 : decode cL_act 367 = .ok (.invokestatic 14, 3) := by decide +kernel
theorem dL_act_370 : decode cL_act 370 = .ok (.iadd, 1) := by decide +kernel
theorem dL_act_371 : decode cL_act 371 = .ok (.invokevirtual 53, 3) := by decide +kernel
theorem dL_act_374 : decode cL_act 374 = .ok (.pop, 1) := by decide +kernel
theorem dL_act_375 : decode cL_act 375 = .ok (.iconst 1, 1) := by decide +kernel
theorem dL_act_376 : decode cL_act 376 = .ok (.ireturn, 1) := by decide +kernel
theorem dL_addsUp_0 : decode cL_addsUp 0 = .ok (.iconst 0, 1) := by decide +kernel
theorem dL_addsUp_1 : decode cL_addsUp 1 = .ok (.istore_n 2, 1) := by decide +kernel
theorem dL_addsUp_2 : decode cL_addsUp 2 = .ok (.iconst 0, 1) := by decide +kernel
theorem dL_addsUp_3 : decode cL_addsUp 3 = .ok (.istore_n 3, 1) := by decide +kernel
theorem dL_addsUp_4 : decode cL_addsUp 4 = .ok (.iconst 0, 1) := by decide +kernel
theorem dL_addsUp_5 : decode cL_addsUp 5 = .ok (.istore 4, 2) := by decide +kernel
theorem dL_addsUp_7 : decode cL_addsUp 7 = .ok (.iconst 0, 1) := by decide +kernel
theorem dL_addsUp_8 : decode cL_addsUp 8 = .ok (.istore 5, 2) := by decide +kernel
theorem dL_addsUp_10 : decode cL_addsUp 10 = .ok (.iconst 0, 1) := by decide +kernel
theorem dL_addsUp_11 : decode cL_addsUp 11 = .ok (.istore 6, 2) := by decide +kernel
theorem dL_addsUp_13 : decode cL_addsUp 13 = .ok (.iconst 0, 1) := by decide +kernel
theorem dL_addsUp_14 : decode cL_addsUp 14 = .ok (.istore 7, 2) := by decide +kernel
theorem dL_addsUp_16 : decode cL_addsUp 16 = .ok (.iconst 0, 1) := by decide +kernel
theorem dL_addsUp_17 : decode cL_addsUp 17 = .ok (.istore 8, 2) := by decide +kernel
theorem dL_addsUp_19 : decode cL_addsUp 19 = .ok (.iconst 0, 1) := by decide +kernel
theorem dL_addsUp_20 : decode cL_addsUp 20 = .ok (.istore 9, 2) := by decide +kernel
theorem dL_addsUp_22 : decode cL_addsUp 22 = .ok (.iload 9, 2) := by decide +kernel
theorem dL_addsUp_24 : decode cL_addsUp 24 = .ok (.aload_n 0, 1) := by decide +kernel
theorem dL_addsUp_25 : decode cL_addsUp 25 = .ok (.iconst 1, 1) := by decide +kernel
theorem dL_addsUp_26 : decode cL_addsUp 26 = .ok (.invokevirtual 8, 3) := by decide +kernel
theorem dL_addsUp_29 : decode cL_addsUp 29 = .ok (.if_icmp .ge 141, 3) := by decide +kernel
theorem dL_addsUp_32 : decode cL_addsUp 32 = .ok (.iload_n 2, 1) := by decide +kernel
theorem dL_addsUp_33 : decode cL_addsUp 33 = .ok (.aload_n 0, 1) := by decide +kernel
theorem dL_addsUp_34 : decode cL_addsUp 34 = .ok (.iload 9, 2) := by decide +kernel
theorem dL_addsUp_36 : decode cL_addsUp 36 = .ok (.iconst 0, 1) := by decide +kernel
theorem dL_addsUp_37 : decode cL_addsUp 37 = .ok (.invokevirtual 41, 3) := by decide +kernel
theorem dL_addsUp_40 : decode cL_addsUp 40 = .ok (.iadd, 1) := by decide +kernel
theorem dL_addsUp_41 : decode cL_addsUp 41 = .ok (.istore_n 2, 1) := by decide +kernel
theorem dL_addsUp_42 : decode cL_addsUp 42 = .ok (.iload 4, 2) := by decide +kernel
theorem dL_addsUp_44 : decode cL_addsUp 44 = .ok (.aload_n 0, 1) := by decide +kernel
theorem dL_addsUp_45 : decode cL_addsUp 45 = .ok (.iload 9, 2) := by decide +kernel
theorem dL_addsUp_47 : decode cL_addsUp 47 = .ok (.iconst 1, 1) := by decide +kernel
theorem dL_addsUp_48 : decode cL_addsUp 48 = .ok (.invokevirtual 41, 3) := by decide +kernel
theorem dL_addsUp_51 : decode cL_addsUp 51 = .ok (.iadd, 1) := by decide +kernel
theorem dL_addsUp_52 : decode cL_addsUp 52 = .ok (.istore 4, 2) := by decide +kernel
theorem dL_addsUp_54 : decode cL_addsUp 54 = .ok (.iload_n 3, 1) := by decide +kernel
theorem dL_addsUp_55 : decode cL_addsUp 55 = .ok (.aload_n 0, 1) := by decide +kernel
theorem dL_addsUp_56 : decode cL_addsUp 56 = .ok (.iload 9, 2) := by decide +kernel
theorem dL_addsUp_58 : decode cL_addsUp 58 = .ok (.iconst 2, 1) := by decide +kernel
theorem dL_addsUp_59 : decode cL_addsUp 59 = .ok (.invokevirtual 41, 3) := by decide +kernel
theorem dL_addsUp_62 : decode cL_addsUp 62 = .ok (.iadd, 1) := by decide +kernel
theorem dL_addsUp_63 : decode cL_addsUp 63 = .ok (.istore_n 3, 1) := by decide +kernel
theorem dL_addsUp_64 : decode cL_addsUp 64 = .ok (.iload 6, 2) := by decide +kernel
theorem dL_addsUp_66 : decode cL_addsUp 66 = .ok (.aload_n 0, 1) := by decide +kernel
theorem dL_addsUp_67 : decode cL_addsUp 67 = .ok (.iload 9, 2) := by decide +kernel
theorem dL_addsUp_69 : decode cL_addsUp 69 = .ok (.iconst 3, 1) := by decide +kernel
theorem dL_addsUp_70 : decode cL_addsUp 70 = .ok (.invokevirtual 41, 3) := by decide +kernel
theorem dL_addsUp_73 : decode cL_addsUp 73 = .ok (.iadd, 1) := by decide +kernel
theorem dL_addsUp_74 : decode cL_addsUp 74 = .ok (.istore 6, 2) := by decide +kernel
theorem dL_addsUp_76 : decode cL_addsUp 76 = .ok (.iload 7, 2) := by decide +kernel
theorem dL_addsUp_78 : decode cL_addsUp 78 = .ok (.aload_n 0, 1) := by decide +kernel
theorem dL_addsUp_79 : decode cL_addsUp 79 = .ok (.iload 9, 2) := by decide +kernel
theorem dL_addsUp_81 : decode cL_addsUp 81 = .ok (.iconst 4, 1) := by decide +kernel
theorem dL_addsUp_82 : decode cL_addsUp 82 = .ok (.invokevirtual 41, 3) := by decide +kernel
theorem dL_addsUp_85 : decode cL_addsUp 85 = .ok (.iadd, 1) := by decide +kernel
theorem dL_addsUp_86 : decode cL_addsUp 86 = .ok (.istore 7, 2) := by decide +kernel
theorem dL_addsUp_88 : decode cL_addsUp 88 = .ok (.iload 8, 2) := by decide +kernel
theorem dL_addsUp_90 : decode cL_addsUp 90 = .ok (.aload_n 0, 1) := by decide +kernel
theorem dL_addsUp_91 : decode cL_addsUp 91 = .ok (.iload 9, 2) := by decide +kernel
theorem dL_addsUp_93 : decode cL_addsUp 93 = .ok (.iconst 5, 1) := by decide +kernel
theorem dL_addsUp_94 : decode cL_addsUp 94 = .ok (.invokevirtual 41, 3) := by decide +kernel
theorem dL_addsUp_97 : decode cL_addsUp 97 = .ok (.iadd, 1) := by decide +kernel
theorem dL_addsUp_98 : decode cL_addsUp 98 = .ok (.istore 8, 2) := by decide +kernel
theorem dL_addsUp_100 : decode cL_addsUp 100 = .ok (.iload 5, 2) := by decide +kernel
theorem dL_addsUp_102 : decode cL_addsUp 102 = .ok (.aload_n 0, 1) := by decide +kernel
theorem dL_addsUp_103 : decode cL_addsUp 103 = .ok (.iload 9, 2) := by decide +kernel
theorem dL_addsUp_105 : decode cL_addsUp 105 = .ok (.invokevirtual 56, 3) := by decide +kernel
theorem dL_addsUp_108 : decode cL_addsUp 108 = .ok (.iadd, 1) := by decide +kernel
theorem dL_addsUp_109 : decode cL_addsUp 109 = .ok (.istore 5, 2) := by decide +kernel
theorem dL_addsUp_111 : decode cL_addsUp 111 = .ok (.aload_n 0, 1) := by decide +kernel
theorem dL_addsUp_112 : decode cL_addsUp 112 = .ok (.iload 9, 2) := by decide +kernel
theorem dL_addsUp_114 : decode cL_addsUp 114 = .ok (.bipush 6, 2) := by decide +kernel
theorem dL_addsUp_116 : decode cL_addsUp 116 = .ok (.invokevirtual 41, 3) := by decide +kernel
theorem dL_addsUp_119 : decode cL_addsUp 119 = .ok (.aload_n 0, 1) := by decide +kernel
theorem dL_addsUp_120 : decode cL_addsUp 120 = .ok (.iload 9, 2) := by decide +kernel
theorem dL_addsUp_122 : decode cL_addsUp 122 = .ok (.iconst 5, 1) := by decide +kernel
theorem dL_addsUp_123 : decode cL_addsUp 123 = .ok (.invokevirtual 41, 3) := by decide +kernel
theorem dL_addsUp_126 : decode cL_addsUp 126 = .ok (.if_icmp .gt 36, 3) := by decide +kernel
theorem dL_addsUp_129 : decode cL_addsUp 129 = .ok (.aload_n 0, 1) := by decide +kernel
theorem dL_addsUp_130 : decode cL_addsUp 130 = .ok (.iload 9, 2) := by decide +kernel
theorem dL_addsUp_132 : decode cL_addsUp 132 = .ok (.invokevirtual 56, 3) := by decide +kernel
theorem dL_addsUp_135 : decode cL_addsUp 135 = .ok (.ifCond .le 29, 3) := by decide +kernel
theorem dL_addsUp_138 : decode cL_addsUp 138 = .ok (.aload_n 0, 1) := by decide +kernel
theorem dL_addsUp_139 : decode cL_addsUp 139 = .ok (.iload 9, 2) := by decide +kernel
theorem dL_addsUp_141 : decode cL_addsUp 141 = .ok (.iconst 1, 1) := by decide +kernel
theorem dL_addsUp_142 : decode cL_addsUp 142 = .ok (.invokevirtual 41, 3) := by decide +kernel
theorem dL_addsUp_145 : decode cL_addsUp 145 = .ok (.ifCond .ne 19, 3) := by decide +kernel
theorem dL_addsUp_148 : decode cL_addsUp 148 = .ok (.aload_n 0, 1) := by decide +kernel
theorem dL_addsUp_149 : decode cL_addsUp 149 = .ok (.bipush 7, 2) := by decide +kernel
theorem dL_addsUp_151 : decode cL_addsUp 151 = .ok (.invokevirtual 8, 3) := by decide +kernel
