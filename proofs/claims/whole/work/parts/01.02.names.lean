set_option maxRecDepth 20000 in
theorem ggX0_init_X6_init : GoodIn wsX0_init wsX6_init := goodIn_r _ [12, 13, 2, 3, 14, 15, 16] (by decide +kernel) (by decide +kernel)
set_option maxRecDepth 20000 in
theorem gX0_init_X6_init : GoodIn wsX0_init (wsX6_init) := ggX0_init_X6_init
theorem dX0_init_0 : decode cX0_init 0 = .ok (.aload_n 0, 1) := by decide +kernel
theorem dX0_init_1 : decode cX0_init 1 = .ok (.invokespecial 3, 3) := by decide +kernel
theorem dX0_init_4 : decode cX0_init 4 = .ok (.aload_n 0, 1) := by decide +kernel
theorem dX0_init_5 : decode cX0_init 5 = .ok (.new 9, 3) := by decide +kernel
theorem dX0_init_8 : decode cX0_init 8 = .ok (.dup, 1) := by decide +kernel
theorem dX0_init_9 : decode cX0_init 9 = .ok (.sipush 150, 3) := by decide +kernel
theorem dX0_init_12 : decode cX0_init 12 = .ok (.invokespecial 11, 3) := by decide +kernel
theorem dX0_init_15 : decode cX0_init 15 = .ok (.putfield 14, 3) := by decide +kernel
theorem dX0_init_18 : decode cX0_init 18 = .ok (.aload_n 0, 1) := by decide +kernel
theorem dX0_init_19 : decode cX0_init 19 = .ok (.new 9, 3) := by decide +kernel
theorem dX0_init_22 : decode cX0_init 22 = .ok (.dup, 1) := by decide +kernel
theorem dX0_init_23 : decode cX0_init 23 = .ok (.iconst 5, 1) := by decide +kernel
theorem dX0_init_24 : decode cX0_init 24 = .ok (.invokespecial 11, 3) := by decide +kernel
theorem dX0_init_27 : decode cX0_init 27 = .ok (.putfield 20, 3) := by decide +kernel
theorem dX0_init_30 : decode cX0_init 30 = .ok (.aload_n 0, 1) := by decide +kernel
theorem dX0_init_31 : decode cX0_init 31 = .ok (.iconst (-1), 1) := by decide +kernel
theorem dX0_init_32 : decode cX0_init 32 = .ok (.putfield 23, 3) := by decide +kernel
theorem dX0_init_35 : decode cX0_init 35 = .ok (.return_, 1) := by decide +kernel
theorem dX0_length_0 : decode cX0_length 0 = .ok (.aload_n 0, 1) := by decide +kernel
theorem dX0_length_1 : decode cX0_length 1 = .ok (.getfield 27, 3) := by decide +kernel
theorem dX0_length_4 : decode cX0_length 4 = .ok (.ireturn, 1) := by decide +kernel
theorem dX0_refusalOfByte_0 : decode cX0_refusalOfByte 0 = .ok (.iload_n 1, 1) := by decide +kernel
theorem dX0_refusalOfByte_1 : decode cX0_refusalOfByte 1 = .ok (.ifCond .lt 9, 3) := by decide +kernel
theorem dX0_refusalOfByte_4 : decode cX0_refusalOfByte 4 = .ok (.iload_n 1, 1) := by decide +kernel
theorem dX0_refusalOfByte_5 : decode cX0_refusalOfByte 5 = .ok (.bipush 127, 2) := by decide +kernel
theorem dX0_refusalOfByte_7 : decode cX0_refusalOfByte 7 = .ok (.if_icmp .le 5, 3) := by decide +kernel
theorem dX0_refusalOfByte_10 : decode cX0_refusalOfByte 10 = .ok (.iconst 2, 1) := by decide +kernel
theorem dX0_refusalOfByte_11 : decode cX0_refusalOfByte 11 = .ok (.ireturn, 1) := by decide +kernel
theorem dX0_refusalOfByte_12 : decode cX0_refusalOfByte 12 = .ok (.aload_n 0, 1) := by decide +kernel
theorem dX0_refusalOfByte_13 : decode cX0_refusalOfByte 13 = .ok (.getfield 27, 3) := by decide +kernel
theorem dX0_refusalOfByte_16 : decode cX0_refusalOfByte 16 = .ok (.sipush 150, 3) := by decide +kernel
theorem dX0_refusalOfByte_19 : decode cX0_refusalOfByte 19 = .ok (.if_icmp .lt 7, 3) := by decide +kernel
theorem dX0_refusalOfByte_22 : decode cX0_refusalOfByte 22 = .ok (.iconst 3, 1) := by decide +kernel
theorem dX0_refusalOfByte_23 : decode cX0_refusalOfByte 23 = .ok (.goto 4, 3) := by decide +kernel
theorem dX0_refusalOfByte_26 : decode cX0_refusalOfByte 26 = .ok (.iconst 0, 1) := by decide +kernel
theorem dX0_refusalOfByte_27 : decode cX0_refusalOfByte 27 = .ok (.ireturn, 1) := by decide +kernel
set_option maxRecDepth 20000 in
theorem ggX0_append_X6_put : GoodIn wsX0_append wsX6_put := goodIn_r _ [7, 8, 15] (by decide +kernel) (by decide +kernel)
set_option maxRecDepth 20000 in
theorem gX0_append_X6_put : GoodIn wsX0_append (wsV RX0 30 RX6 yX6_put wsX6_put) := goodIn_app (goodIn_of _ (by decide +kernel)) ggX0_append_X6_put
theorem dX0_append_0 : decode cX0_append 0 = .ok (.aload_n 0, 1) := by decide +kernel
theorem dX0_append_1 : decode cX0_append 1 = .ok (.getfield 14, 3) := by decide +kernel
theorem dX0_append_4 : decode cX0_append 4 = .ok (.aload_n 0, 1) := by decide +kernel
theorem dX0_append_5 : decode cX0_append 5 = .ok (.getfield 27, 3) := by decide +kernel
theorem dX0_append_8 : decode cX0_append 8 = .ok (.iload_n 1, 1) := by decide +kernel
theorem dX0_append_9 : decode cX0_append 9 = .ok (.invokevirtual 30, 3) := by decide +kernel
theorem dX0_append_12 : decode cX0_append 12 = .ok (.aload_n 0, 1) := by decide +kernel
theorem dX0_append_13 : decode cX0_append 13 = .ok (.dup, 1) := by decide +kernel
theorem dX0_append_14 : decode cX0_append 14 = .ok (.getfield 27, 3) := by decide +kernel
theorem dX0_append_17 : decode cX0_append 17 = .ok (.iconst 1, 1) := by decide +kernel
theorem dX0_append_18 : decode cX0_append 18 = .ok (.iadd, 1) := by decide +kernel
theorem dX0_append_19 : decode cX0_append 19 = .ok (.putfield 27, 3) := by decide +kernel
theorem dX0_append_22 : decode cX0_append 22 = .ok (.aload_n 0, 1) := by decide +kernel
theorem dX0_append_23 : decode cX0_append 23 = .ok (.getfield 27, 3) := by decide +kernel
theorem dX0_append_26 : decode cX0_append 26 = .ok (.ireturn, 1) := by decide +kernel
theorem dX0_empty_0 : decode cX0_empty 0 = .ok (.aload_n 0, 1) := by decide +kernel
theorem dX0_empty_1 : decode cX0_empty 1 = .ok (.getfield 27, 3) := by decide +kernel
theorem dX0_empty_4 : decode cX0_empty 4 = .ok (.istore_n 1, 1) := by decide +kernel
theorem dX0_empty_5 : decode cX0_empty 5 = .ok (.aload_n 0, 1) := by decide +kernel
theorem dX0_empty_6 : decode cX0_empty 6 = .ok (.iconst 0, 1) := by decide +kernel
theorem dX0_empty_7 : decode cX0_empty 7 = .ok (.putfield 27, 3) := by decide +kernel
theorem dX0_empty_10 : decode cX0_empty 10 = .ok (.iload_n 1, 1) := by decide +kernel
theorem dX0_empty_11 : decode cX0_empty 11 = .ok (.ireturn, 1) := by decide +kernel
theorem dX0_word_0 : decode cX0_word 0 = .ok (.aload_n 0, 1) := by decide +kernel
theorem dX0_word_1 : decode cX0_word 1 = .ok (.getfield 34, 3) := by decide +kernel
theorem dX0_word_4 : decode cX0_word 4 = .ok (.ireturn, 1) := by decide +kernel
set_option maxRecDepth 20000 in
theorem ggX0_number_X6_at : GoodIn wsX0_number wsX6_at := goodIn_r _ [6, 7, 14] (by decide +kernel) (by decide +kernel)
set_option maxRecDepth 20000 in
theorem gX0_number_X6_at : GoodIn wsX0_number (wsV RX0 37 RX6 yX6_at wsX6_at) := goodIn_app (goodIn_of _ (by decide +kernel)) ggX0_number_X6_at
theorem dX0_number_0 : decode cX0_number 0 = .ok (.aload_n 0, 1) := by decide +kernel
theorem dX0_number_1 : decode cX0_number 1 = .ok (.getfield 20, 3) := by decide +kernel
theorem dX0_number_4 : decode cX0_number 4 = .ok (.iload_n 1, 1) := by decide +kernel
theorem dX0_number_5 : decode cX0_number 5 = .ok (.invokevirtual 37, 3) := by decide +kernel
theorem dX0_number_8 : decode cX0_number 8 = .ok (.ireturn, 1) := by decide +kernel
theorem dX0_rewind_0 : decode cX0_rewind 0 = .ok (.aload_n 0, 1) := by decide +kernel
theorem dX0_rewind_1 : decode cX0_rewind 1 = .ok (.iconst 0, 1) := by decide +kernel
theorem dX0_rewind_2 : decode cX0_rewind 2 = .ok (.putfield 41, 3) := by decide +kernel
theorem dX0_rewind_5 : decode cX0_rewind 5 = .ok (.aload_n 0, 1) := by decide +kernel
theorem dX0_rewind_6 : decode cX0_rewind 6 = .ok (.iconst (-1), 1) := by decide +kernel
theorem dX0_rewind_7 : decode cX0_rewind 7 = .ok (.putfield 23, 3) := by decide +kernel
theorem dX0_rewind_10 : decode cX0_rewind 10 = .ok (.return_, 1) := by decide +kernel
set_option maxRecDepth 20000 in
theorem ggX0_findFault_X0_rewind : GoodIn wsX0_findFault wsX0_rewind := goodIn_r _ [6, 7, 1, 115, 116, 117, 118, 119, 120] (by decide +kernel) (by decide +kernel)
set_option maxRecDepth 20000 in
theorem gX0_findFault_X0_rewind : GoodIn wsX0_findFault (wsV RX0 44 RX0 yX0_rewind wsX0_rewind) := goodIn_app (goodIn_of _ (by decide +kernel)) ggX0_findFault_X0_rewind
set_option maxRecDepth 20000 in
theorem ggX0_findFault_X0_readNext : GoodIn wsX0_findFault wsX0_readNext := goodIn_r _ [11, 7, 12, 13, 14, 15, 16, 5, 17, 18, 19, 20, 21, 22, 23, 24, 25, 26, 27, 28, 29, 30, 31, 32, 33, 34, 35, 36, 37, 38, 39, 40, 41, 42, 43, 44, 45, 46, 47, 48, 49, 50, 51, 52, 53, 54, 55, 56, 57, 58, 59, 60, 61, 62, 63, 64, 65, 66, 67, 68, 69, 70, 71, 72, 73, 74, 75, 76, 77, 78, 79, 80, 81, 82, 83, 84, 85, 86, 87, 88, 89, 90, 91, 92, 93, 94, 95, 96, 97, 98, 99, 1, 100, 101, 102, 103, 104, 105, 106, 107, 108, 109, 110, 111, 112, 113, 114, 115, 116, 117, 118, 119, 120, 121] (by decide +kernel) (by decide +kernel)
set_option maxRecDepth 20000 in
theorem gX0_findFault_X0_readNext : GoodIn wsX0_findFault (wsV RX0 47 RX0 yX0_readNext wsX0_readNext) := goodIn_app (goodIn_of _ (by decide +kernel)) ggX0_findFault_X0_readNext
theorem dX0_findFault_0 : decode cX0_findFault 0 = .ok (.aload_n 0, 1) := by decide +kernel
theorem dX0_findFault_1 : decode cX0_findFault 1 = .ok (.invokevirtual 44, 3) := by decide +kernel
theorem dX0_findFault_4 : decode cX0_findFault 4 = .ok (.iconst 0, 1) := by decide +kernel
theorem dX0_findFault_5 : decode cX0_findFault 5 = .ok (.istore_n 1, 1) := by decide +kernel
theorem dX0_findFault_6 : decode cX0_findFault 6 = .ok (.iload_n 1, 1) := by decide +kernel
theorem dX0_findFault_7 : decode cX0_findFault 7 = .ok (.sipush 150, 3) := by decide +kernel
theorem dX0_findFault_10 : decode cX0_findFault 10 = .ok (.if_icmp .ge 21, 3) := by decide +kernel
theorem dX0_findFault_13 : decode cX0_findFault 13 = .ok (.aload_n 0, 1) := by decide +kernel
theorem dX0_findFault_14 : decode cX0_findFault 14 = .ok (.invokevirtual 47, 3) := by decide +kernel
theorem dX0_findFault_17 : decode cX0_findFault 17 = .ok (.ifCond .ne 8, 3) := by decide +kernel
theorem dX0_findFault_20 : decode cX0_findFault 20 = .ok (.aload_n 0, 1) := by decide +kernel
theorem dX0_findFault_21 : decode cX0_findFault 21 = .ok (.getfield 23, 3) := by decide +kernel
theorem dX0_findFault_24 : decode cX0_findFault 24 = .ok (.ireturn, 1) := by decide +kernel
theorem dX0_findFault_25 : decode cX0_findFault 25 = .ok (.iinc 1 1, 3) := by decide +kernel
theorem dX0_findFault_28 : decode cX0_findFault 28 = .ok (.goto (-22), 3) := by decide +kernel
theorem dX0_findFault_31 : decode cX0_findFault 31 = .ok (.aload_n 0, 1) := by decide +kernel
theorem dX0_findFault_32 : decode cX0_findFault 32 = .ok (.getfield 23, 3) := by decide +kernel
theorem dX0_findFault_35 : decode cX0_findFault 35 = .ok (.ireturn, 1) := by decide +kernel
set_option maxRecDepth 20000 in
theorem ggX0_readNext_X0_skipSpaces : GoodIn wsX0_readNext wsX0_skipSpaces := goodIn_r _ [8, 1, 2, 9, 10, 11, 7, 12, 13, 14, 15, 16, 17, 18, 19, 107, 108, 109, 110, 111, 112, 113] (by decide +kernel) (by decide +kernel)
set_option maxRecDepth 20000 in
theorem gX0_readNext_X0_skipSpaces : GoodIn wsX0_readNext (wsV RX0 51 RX0 yX0_skipSpaces wsX0_skipSpaces) := goodIn_app (goodIn_of _ (by decide +kernel)) ggX0_readNext_X0_skipSpaces
set_option maxRecDepth 20000 in
theorem ggX0_readNext_X0_readWord : GoodIn wsX0_readNext wsX0_readWord := goodIn_r _ [23, 1, 2, 3, 9, 10, 11, 7, 12, 13, 14, 15, 16, 17, 18, 19, 24, 25, 26, 27, 28, 29, 30, 31, 32, 33, 34, 35, 36, 37, 38, 39, 40, 41, 42, 43, 44, 45, 46, 47, 48, 49, 50, 51, 52, 53, 54, 55, 56, 57, 58, 59, 60, 61, 62, 63, 64, 65, 66, 67, 68, 69, 70, 71, 72, 73, 74, 75, 76, 77, 78, 79, 80, 81, 82, 83, 84, 85, 86, 87, 88, 89, 90, 91, 107, 108, 109, 110, 111, 112, 113] (by decide +kernel) (by decide +kernel)
set_option maxRecDepth 20000 in
theorem gX0_readNext_X0_readWord : GoodIn wsX0_readNext (wsV RX0 54 RX0 yX0_readWord wsX0_readWord) := goodIn_app (goodIn_of _ (by decide +kernel)) ggX0_readNext_X0_readWord
set_option maxRecDepth 20000 in
theorem ggX0_readNext_X0_numbersOf : GoodIn wsX0_readNext wsX0_numbersOf := goodIn_r _ [94] (by decide +kernel) (by decide +kernel)
set_option maxRecDepth 20000 in
theorem gX0_readNext_X0_numbersOf : GoodIn wsX0_readNext (va_wsS RX0 57 yX0_numbersOf wsX0_numbersOf) := goodIn_app (goodIn_of _ (by decide +kernel)) ggX0_readNext_X0_numbersOf
set_option maxRecDepth 20000 in
theorem ggX0_readNext_X0_readNumber : GoodIn wsX0_readNext wsX0_readNumber := goodIn_r _ [98, 1, 99, 9, 10, 11, 7, 12, 2, 13, 14, 15, 16, 17, 18, 19, 87, 88, 89, 90, 91, 4, 5, 6, 8, 100, 101, 102, 103, 104, 105, 106, 107, 108, 109, 110, 111, 112, 113] (by decide +kernel) (by decide +kernel)
set_option maxRecDepth 20000 in
theorem gX0_readNext_X0_readNumber : GoodIn wsX0_readNext (wsV RX0 60 RX0 yX0_readNumber wsX0_readNumber) := goodIn_app (goodIn_of _ (by decide +kernel)) ggX0_readNext_X0_readNumber
set_option maxRecDepth 20000 in
theorem ggX0_readNext_X0_byteAtCursor : GoodIn wsX0_readNext wsX0_byteAtCursor := goodIn_r _ [12, 1, 2, 13, 14, 15, 16, 17, 18, 19, 107, 108, 109, 110, 111, 112, 113] (by decide +kernel) (by decide +kernel)
set_option maxRecDepth 20000 in
theorem gX0_readNext_X0_byteAtCursor : GoodIn wsX0_readNext (wsV RX0 64 RX0 yX0_byteAtCursor wsX0_byteAtCursor) := goodIn_app (goodIn_of _ (by decide +kernel)) ggX0_readNext_X0_byteAtCursor
set_option maxRecDepth 20000 in
theorem ggX0_readNext_X0_failAt : GoodIn wsX0_readNext wsX0_failAt := goodIn_r _ [90, 91, 107, 108, 109, 110, 111, 112] (by decide +kernel) (by decide +kernel)
set_option maxRecDepth 20000 in
theorem gX0_readNext_X0_failAt : GoodIn wsX0_readNext (wsV RX0 68 RX0 yX0_failAt wsX0_failAt) := goodIn_app (goodIn_of _ (by decide +kernel)) ggX0_readNext_X0_failAt
theorem dX0_readNext_0 : decode cX0_readNext 0 = .ok (.aload_n 0, 1) := by decide +kernel
theorem dX0_readNext_1 : decode cX0_readNext 1 = .ok (.invokevirtual 51, 3) := by decide +kernel
theorem dX0_readNext_4 : decode cX0_readNext 4 = .ok (.aload_n 0, 1) := by decide +kernel
theorem dX0_readNext_5 : decode cX0_readNext 5 = .ok (.getfield 41, 3) := by decide +kernel
theorem dX0_readNext_8 : decode cX0_readNext 8 = .ok (.aload_n 0, 1) := by decide +kernel
theorem dX0_readNext_9 : decode cX0_readNext 9 = .ok (.getfield 27, 3) := by decide +kernel
theorem dX0_readNext_12 : decode cX0_readNext 12 = .ok (.if_icmp .ge 10, 3) := by decide +kernel
theorem dX0_readNext_15 : decode cX0_readNext 15 = .ok (.aload_n 0, 1) := by decide +kernel
theorem dX0_readNext_16 : decode cX0_readNext 16 = .ok (.invokevirtual 54, 3) := by decide +kernel
theorem dX0_readNext_19 : decode cX0_readNext 19 = .ok (.ifCond .ne 5, 3) := by decide +kernel
theorem dX0_readNext_22 : decode cX0_readNext 22 = .ok (.iconst 0, 1) := by decide +kernel
theorem dX0_readNext_23 : decode cX0_readNext 23 = .ok (.ireturn, 1) := by decide +kernel
theorem dX0_readNext_24 : decode cX0_readNext 24 = .ok (.aload_n 0, 1) := by decide +kernel
theorem dX0_readNext_25 : decode cX0_readNext 25 = .ok (.getfield 34, 3) := by decide +kernel
theorem dX0_readNext_28 : decode cX0_readNext 28 = .ok (.invokestatic 57, 3) := by decide +kernel
theorem dX0_readNext_31 : decode cX0_readNext 31 = .ok (.istore_n 1, 1) := by decide +kernel
theorem dX0_readNext_32 : decode cX0_readNext 32 = .ok (.iconst 0, 1) := by decide +kernel
theorem dX0_readNext_33 : decode cX0_readNext 33 = .ok (.istore_n 2, 1) := by decide +kernel
theorem dX0_readNext_34 : decode cX0_readNext 34 = .ok (.iload_n 2, 1) := by decide +kernel
theorem dX0_readNext_35 : decode cX0_readNext 35 = .ok (.iload_n 1, 1) := by decide +kernel
theorem dX0_readNext_36 : decode cX0_readNext 36 = .ok (.if_icmp .ge 19, 3) := by decide +kernel
theorem dX0_readNext_39 : decode cX0_readNext 39 = .ok (.aload_n 0, 1) := by decide +kernel
theorem dX0_readNext_40 : decode cX0_readNext 40 = .ok (.iload_n 2, 1) := by decide +kernel
theorem dX0_readNext_41 : decode cX0_readNext 41 = .ok (.invokevirtual 60, 3) := by decide +kernel
theorem dX0_readNext_44 : decode cX0_readNext 44 = .ok (.ifCond .ne 5, 3) := by decide +kernel
theorem dX0_readNext_47 : decode cX0_readNext 47 = .ok (.iconst 0, 1) := by decide +kernel
theorem dX0_readNext_48 : decode cX0_readNext 48 = .ok (.ireturn, 1) := by decide +kernel
theorem dX0_readNext_49 : decode cX0_readNext 49 = .ok (.iinc 2 1, 3) := by decide +kernel
theorem dX0_readNext_52 : decode cX0_readNext 52 = .ok (.goto (-18), 3) := by decide +kernel
theorem dX0_readNext_55 : decode cX0_readNext 55 = .ok (.aload_n 0, 1) := by decide +kernel
theorem dX0_readNext_56 : decode cX0_readNext 56 = .ok (.invokevirtual 51, 3) := by decide +kernel
theorem dX0_readNext_59 : decode cX0_readNext 59 = .ok (.aload_n 0, 1) := by decide +kernel
theorem dX0_readNext_60 : decode cX0_readNext 60 = .ok (.invokevirtual 64, 3) := by decide +kernel
theorem dX0_readNext_63 : decode cX0_readNext 63 = .ok (.bipush 59, 2) := by decide +kernel
theorem dX0_readNext_65 : decode cX0_readNext 65 = .ok (.if_icmp .eq 12, 3) := by decide +kernel
theorem dX0_readNext_68 : decode cX0_readNext 68 = .ok (.aload_n 0, 1) := by decide +kernel
theorem dX0_readNext_69 : decode cX0_readNext 69 = .ok (.aload_n 0, 1) := by decide +kernel
theorem dX0_readNext_70 : decode cX0_readNext 70 = .ok (.getfield 41, 3) := by decide +kernel
theorem dX0_readNext_73 : decode cX0_readNext 73 = .ok (.invokevirtual 68, 3) := by decide +kernel
theorem dX0_readNext_76 : decode cX0_readNext 76 = .ok (.ireturn, 1) := by decide +kernel
theorem dX0_readNext_77 : decode cX0_readNext 77 = .ok (.aload_n 0, 1) := by decide +kernel
theorem dX0_readNext_78 : decode cX0_readNext 78 = .ok (.dup, 1) := by decide +kernel
theorem dX0_readNext_79 : decode cX0_readNext 79 = .ok (.getfield 41, 3) := by decide +kernel
theorem dX0_readNext_82 : decode cX0_readNext 82 = .ok (.iconst 1, 1) := by decide +kernel
theorem dX0_readNext_83 : decode cX0_readNext 83 = .ok (.iadd, 1) := by decide +kernel
theorem dX0_readNext_84 : decode cX0_readNext 84 = .ok (.putfield 41, 3) := by decide +kernel
theorem dX0_readNext_87 : decode cX0_readNext 87 = .ok (.iconst 1, 1) := by decide +kernel
theorem dX0_readNext_88 : decode cX0_readNext 88 = .ok (.ireturn, 1) := by decide +kernel
set_option maxRecDepth 20000 in
theorem ggX0_readWord_X0_byteAtCursor : GoodIn wsX0_readWord wsX0_byteAtCursor := goodIn_r _ [8, 1, 2, 9, 10, 11, 12, 13, 14, 15, 84, 85, 86, 87, 88, 89, 90] (by decide +kernel) (by decide +kernel)
set_option maxRecDepth 20000 in
theorem gX0_readWord_X0_byteAtCursor : GoodIn wsX0_readWord (wsV RX0 64 RX0 yX0_byteAtCursor wsX0_byteAtCursor) := goodIn_app (goodIn_of _ (by decide +kernel)) ggX0_readWord_X0_byteAtCursor
set_option maxRecDepth 20000 in
theorem ggX0_readWord_X0_isLetter : GoodIn wsX0_readWord wsX0_isLetter := goodIn_r _ [18] (by decide +kernel) (by decide +kernel)
set_option maxRecDepth 20000 in
theorem gX0_readWord_X0_isLetter : GoodIn wsX0_readWord (va_wsS RX0 71 yX0_isLetter wsX0_isLetter) := goodIn_app (goodIn_of _ (by decide +kernel)) ggX0_readWord_X0_isLetter
set_option maxRecDepth 20000 in
theorem ggX0_readWord_X0_wordBetween : GoodIn wsX0_readWord wsX0_wordBetween := goodIn_r _ [22, 23, 24, 7, 25, 26, 27, 28, 29, 9, 30, 31, 32, 33, 34, 35, 36, 37, 38, 39, 40, 41, 10, 11, 12, 13, 14, 15, 42, 43, 44, 45, 46, 47, 48, 49, 50, 51, 52, 53, 54, 55, 56, 57, 58, 59, 60, 61, 62, 63, 64, 65, 66, 67, 68, 69, 70, 71, 72, 73, 74, 75, 76, 77, 78, 84, 85, 86, 87, 88, 89, 90] (by decide +kernel) (by decide +kernel)
set_option maxRecDepth 20000 in
theorem gX0_readWord_X0_wordBetween : GoodIn wsX0_readWord (wsV RX0 74 RX0 yX0_wordBetween wsX0_wordBetween) := goodIn_app (goodIn_of _ (by decide +kernel)) ggX0_readWord_X0_wordBetween
set_option maxRecDepth 20000 in
theorem ggX0_readWord_X0_failAt : GoodIn wsX0_readWord wsX0_failAt := goodIn_r _ [82, 83, 84, 85, 86, 87, 88, 89] (by decide +kernel) (by decide +kernel)
set_option maxRecDepth 20000 in
theorem gX0_readWord_X0_failAt : GoodIn wsX0_readWord (wsV RX0 68 RX0 yX0_failAt wsX0_failAt) := goodIn_app (goodIn_of _ (by decide +kernel)) ggX0_readWord_X0_failAt
theorem dX0_readWord_0 : decode cX0_readWord 0 = .ok (.aload_n 0, 1) := by decide +kernel
theorem dX0_readWord_1 : decode cX0_readWord 1 = .ok (.getfield 41, 3) := by decide +kernel
theorem dX0_readWord_4 : decode cX0_readWord 4 = .ok (.istore_n 1, 1) := by decide +kernel
theorem dX0_readWord_5 : decode cX0_readWord 5 = .ok (.aload_n 0, 1) := by decide +kernel
theorem dX0_readWord_6 : decode cX0_readWord 6 = .ok (.getfield 41, 3) := by decide +kernel
theorem dX0_readWord_9 : decode cX0_readWord 9 = .ok (.aload_n 0, 1) := by decide +kernel
theorem dX0_readWord_10 : decode cX0_readWord 10 = .ok (.getfield 27, 3) := by decide +kernel
theorem dX0_readWord_13 : decode cX0_readWord 13 = .ok (.if_icmp .ge 26, 3) := by decide +kernel
theorem dX0_readWord_16 : decode cX0_readWord 16 = .ok (.aload_n 0, 1) := by decide +kernel
theorem dX0_readWord_17 : decode cX0_readWord 17 = .ok (.invokevirtual 64, 3) := by decide +kernel
theorem dX0_readWord_20 : decode cX0_readWord 20 = .ok (.invokestatic 71, 3) := by decide +kernel
theorem dX0_readWord_23 : decode cX0_readWord 23 = .ok (.ifCond .eq 16, 3) := by decide +kernel
theorem dX0_readWord_26 : decode cX0_readWord 26 = .ok (.aload_n 0, 1) := by decide +kernel
theorem dX0_readWord_27 : decode cX0_readWord 27 = .ok (.dup, 1) := by decide +kernel
theorem dX0_readWord_28 : decode cX0_readWord 28 = .ok (.getfield 41, 3) := by decide +kernel
theorem dX0_readWord_31 : decode cX0_readWord 31 = .ok (.iconst 1, 1) := by decide +kernel
theorem dX0_readWord_32 : decode cX0_readWord 32 = .ok (.iadd, 1) := by decide +kernel
theorem dX0_readWord_33 : decode cX0_readWord 33 = .ok (.putfield 41, 3) := by decide +kernel
theorem dX0_readWord_36 : decode cX0_readWord 36 = .ok (.goto (-31), 3) := by decide +kernel
theorem dX0_readWord_39 : decode cX0_readWord 39 = .ok (.aload_n 0, 1) := by decide +kernel
theorem dX0_readWord_40 : decode cX0_readWord 40 = .ok (.aload_n 0, 1) := by decide +kernel
theorem dX0_readWord_41 : decode cX0_readWord 41 = .ok (.iload_n 1, 1) := by decide +kernel
theorem dX0_readWord_42 : decode cX0_readWord 42 = .ok (.aload_n 0, 1) := by decide +kernel
theorem dX0_readWord_43 : decode cX0_readWord 43 = .ok (.getfield 41, 3) := by decide +kernel
theorem dX0_readWord_46 : decode cX0_readWord 46 = .ok (.invokevirtual 74, 3) := by decide +kernel
theorem dX0_readWord_49 : decode cX0_readWord 49 = .ok (.putfield 34, 3) := by decide +kernel
theorem dX0_readWord_52 : decode cX0_readWord 52 = .ok (.aload_n 0, 1) := by decide +kernel
theorem dX0_readWord_53 : decode cX0_readWord 53 = .ok (.getfield 34, 3) := by decide +kernel
theorem dX0_readWord_56 : decode cX0_readWord 56 = .ok (.iconst (-1), 1) := by decide +kernel
theorem dX0_readWord_57 : decode cX0_readWord 57 = .ok (.if_icmp .ne 11, 3) := by decide +kernel
theorem dX0_readWord_60 : decode cX0_readWord 60 = .ok (.aload_n 0, 1) := by decide +kernel
theorem dX0_readWord_61 : decode cX0_readWord 61 = .ok (.iload_n 1, 1) := by decide +kernel
theorem dX0_readWord_62 : decode cX0_readWord 62 = .ok (.invokevirtual 68, 3) := by decide +kernel
theorem dX0_readWord_65 : decode cX0_readWord 65 = .ok (.ifCond .eq 7, 3) := by decide +kernel
theorem dX0_readWord_68 : decode cX0_readWord 68 = .ok (.iconst 1, 1) := by decide +kernel
theorem dX0_readWord_69 : decode cX0_readWord 69 = .ok (.goto 4, 3) := by decide +kernel
theorem dX0_readWord_72 : decode cX0_readWord 72 = .ok (.iconst 0, 1) := by decide +kernel
theorem dX0_readWord_73 : decode cX0_readWord 73 = .ok (.ireturn, 1) := by decide +kernel
set_option maxRecDepth 20000 in
theorem ggX0_readNumber_X0_byteAtCursor : GoodIn wsX0_readNumber wsX0_byteAtCursor := goodIn_r _ [7, 1, 8, 9, 10, 11, 12, 13, 14, 15, 32, 33, 34, 35, 36, 37, 38] (by decide +kernel) (by decide +kernel)
set_option maxRecDepth 20000 in
theorem gX0_readNumber_X0_byteAtCursor : GoodIn wsX0_readNumber (wsV RX0 64 RX0 yX0_byteAtCursor wsX0_byteAtCursor) := goodIn_app (goodIn_of _ (by decide +kernel)) ggX0_readNumber_X0_byteAtCursor
set_option maxRecDepth 20000 in
theorem ggX0_readNumber_X0_failAt : GoodIn wsX0_readNumber wsX0_failAt := goodIn_r _ [19, 20, 32, 33, 34, 35, 36, 37] (by decide +kernel) (by decide +kernel)
set_option maxRecDepth 20000 in
theorem gX0_readNumber_X0_failAt : GoodIn wsX0_readNumber (wsV RX0 68 RX0 yX0_failAt wsX0_failAt) := goodIn_app (goodIn_of _ (by decide +kernel)) ggX0_readNumber_X0_failAt
set_option maxRecDepth 20000 in
theorem ggX0_readNumber_X0_skipSpaces : GoodIn wsX0_readNumber wsX0_skipSpaces := goodIn_r _ [24, 1, 8, 3, 4, 5, 6, 7, 9, 10, 11, 12, 13, 14, 15, 32, 33, 34, 35, 36, 37, 38] (by decide +kernel) (by decide +kernel)
set_option maxRecDepth 20000 in
theorem gX0_readNumber_X0_skipSpaces : GoodIn wsX0_readNumber (wsV RX0 51 RX0 yX0_skipSpaces wsX0_skipSpaces) := goodIn_app (goodIn_of _ (by decide +kernel)) ggX0_readNumber_X0_skipSpaces
set_option maxRecDepth 20000 in
theorem ggX0_readNumber_X0_isDigit : GoodIn wsX0_readNumber wsX0_isDigit := goodIn_r _ [27] (by decide +kernel) (by decide +kernel)
set_option maxRecDepth 20000 in
theorem gX0_readNumber_X0_isDigit : GoodIn wsX0_readNumber (va_wsS RX0 78 yX0_isDigit wsX0_isDigit) := goodIn_app (goodIn_of _ (by decide +kernel)) ggX0_readNumber_X0_isDigit
set_option maxRecDepth 20000 in
theorem ggX0_readNumber_X6_put : GoodIn wsX0_readNumber wsX6_put := goodIn_r _ [31, 15, 38] (by decide +kernel) (by decide +kernel)
set_option maxRecDepth 20000 in
theorem gX0_readNumber_X6_put : GoodIn wsX0_readNumber (wsV RX0 30 RX6 yX6_put wsX6_put) := goodIn_app (goodIn_of _ (by decide +kernel)) ggX0_readNumber_X6_put
theorem dX0_readNumber_0 : decode cX0_readNumber 0 = .ok (.aload_n 0, 1) := by decide +kernel
theorem dX0_readNumber_1 : decode cX0_readNumber 1 = .ok (.invokevirtual 64, 3) := by decide +kernel
theorem dX0_readNumber_4 : decode cX0_readNumber 4 = .ok (.bipush 32, 2) := by decide +kernel
theorem dX0_readNumber_6 : decode cX0_readNumber 6 = .ok (.if_icmp .eq 12, 3) := by decide +kernel
theorem dX0_readNumber_9 : decode cX0_readNumber 9 = .ok (.aload_n 0, 1) := by decide +kernel
theorem dX0_readNumber_10 : decode cX0_readNumber 10 = .ok (.aload_n 0, 1) := by decide +kernel
theorem dX0_readNumber_11 : decode cX0_readNumber 11 = .ok (.getfield 41, 3) := by decide +kernel
theorem dX0_readNumber_14 : decode cX0_readNumber 14 = .ok (.invokevirtual 68, 3) := by decide +kernel
theorem dX0_readNumber_17 : decode cX0_readNumber 17 = .ok (.ireturn, 1) := by decide +kernel
theorem dX0_readNumber_18 : decode cX0_readNumber 18 = .ok (.aload_n 0, 1) := by decide +kernel
theorem dX0_readNumber_19 : decode cX0_readNumber 19 = .ok (.invokevirtual 51, 3) := by decide +kernel
theorem dX0_readNumber_22 : decode cX0_readNumber 22 = .ok (.iconst 0, 1) := by decide +kernel
theorem dX0_readNumber_23 : decode cX0_readNumber 23 = .ok (.istore_n 2, 1) := by decide +kernel
theorem dX0_readNumber_24 : decode cX0_readNumber 24 = .ok (.iconst 0, 1) := by decide +kernel
theorem dX0_readNumber_25 : decode cX0_readNumber 25 = .ok (.istore_n 3, 1) := by decide +kernel
theorem dX0_readNumber_26 : decode cX0_readNumber 26 = .ok (.iload_n 2, 1) := by decide +kernel
theorem dX0_readNumber_27 : decode cX0_readNumber 27 = .ok (.iconst 3, 1) := by decide +kernel
theorem dX0_readNumber_28 : decode cX0_readNumber 28 = .ok (.if_icmp .ge 42, 3) := by decide +kernel
theorem dX0_readNumber_31 : decode cX0_readNumber 31 = .ok (.aload_n 0, 1) := by decide +kernel
theorem dX0_readNumber_32 : decode cX0_readNumber 32 = .ok (.invokevirtual 64, 3) := by decide +kernel
theorem dX0_readNumber_35 : decode cX0_readNumber 35 = .ok (.invokestatic 78, 3) := by decide +kernel
theorem dX0_readNumber_38 : decode cX0_readNumber 38 = .ok (.ifCond .eq 32, 3) := by decide +kernel
theorem dX0_readNumber_41 : decode cX0_readNumber 41 = .ok (.bipush 10, 2) := by decide +kernel
theorem dX0_readNumber_43 : decode cX0_readNumber 43 = .ok (.iload_n 3, 1) := by decide +kernel
theorem dX0_readNumber_44 : decode cX0_readNumber 44 = .ok (.imul, 1) := by decide +kernel
theorem dX0_readNumber_45 : decode cX0_readNumber 45 = .ok (.aload_n 0, 1) := by decide +kernel
theorem dX0_readNumber_46 : decode cX0_readNumber 46 = .ok (.invokevirtual 64, 3) := by decide +kernel
theorem dX0_readNumber_49 : decode cX0_readNumber 49 = .ok (.bipush 48, 2) := by decide +kernel
theorem dX0_readNumber_51 : decode cX0_readNumber 51 = .ok (.isub, 1) := by decide +kernel
theorem dX0_readNumber_52 : decode cX0_readNumber 52 = .ok (.iadd, 1) := by decide +kernel
theorem dX0_readNumber_53 : decode cX0_readNumber 53 = .ok (.istore_n 3, 1) := by decide +kernel
theorem dX0_readNumber_54 : decode cX0_readNumber 54 = .ok (.iinc 2 1, 3) := by decide +kernel
theorem dX0_readNumber_57 : decode cX0_readNumber 57 = .ok (.aload_n 0, 1) := by decide +kernel
theorem dX0_readNumber_58 : decode cX0_readNumber 58 = .ok (.dup, 1) := by decide +kernel
theorem dX0_readNumber_59 : decode cX0_readNumber 59 = .ok (.getfield 41, 3) := by decide +kernel
theorem dX0_readNumber_62 : decode cX0_readNumber 62 = .ok (.iconst 1, 1) := by decide +kernel
theorem dX0_readNumber_63 : decode cX0_readNumber 63 = .ok (.iadd, 1) := by decide +kernel
theorem dX0_readNumber_64 : decode cX0_readNumber 64 = .ok (.putfield 41, 3) := by decide +kernel
theorem dX0_readNumber_67 : decode cX0_readNumber 67 = .ok (.goto (-41), 3) := by decide +kernel
theorem dX0_readNumber_70 : decode cX0_readNumber 70 = .ok (.aload_n 0, 1) := by decide +kernel
theorem dX0_readNumber_71 : decode cX0_readNumber 71 = .ok (.getfield 20, 3) := by decide +kernel
theorem dX0_readNumber_74 : decode cX0_readNumber 74 = .ok (.iload_n 1, 1) := by decide +kernel
theorem dX0_readNumber_75 : decode cX0_readNumber 75 = .ok (.iload_n 3, 1) := by decide +kernel
theorem dX0_readNumber_76 : decode cX0_readNumber 76 = .ok (.invokevirtual 30, 3) := by decide +kernel
theorem dX0_readNumber_79 : decode cX0_readNumber 79 = .ok (.iload_n 2, 1) := by decide +kernel
theorem dX0_readNumber_80 : decode cX0_readNumber 80 = .ok (.ifCond .gt 14, 3) := by decide +kernel
theorem dX0_readNumber_83 : decode cX0_readNumber 83 = .ok (.aload_n 0, 1) := by decide +kernel
theorem dX0_readNumber_84 : decode cX0_readNumber 84 = .ok (.aload_n 0, 1) := by decide +kernel
theorem dX0_readNumber_85 : decode cX0_readNumber 85 = .ok (.getfield 41, 3) := by decide +kernel
theorem dX0_readNumber_88 : decode cX0_readNumber 88 = .ok (.invokevirtual 68, 3) := by decide +kernel
theorem dX0_readNumber_91 : decode cX0_readNumber 91 = .ok (.ifCond .eq 7, 3) := by decide +kernel
theorem dX0_readNumber_94 : decode cX0_readNumber 94 = .ok (.iconst 1, 1) := by decide +kernel
theorem dX0_readNumber_95 : decode cX0_readNumber 95 = .ok (.goto 4, 3) := by decide +kernel
theorem dX0_readNumber_98 : decode cX0_readNumber 98 = .ok (.iconst 0, 1) := by decide +kernel
theorem dX0_readNumber_99 : decode cX0_readNumber 99 = .ok (.ireturn, 1) := by decide +kernel
theorem dX0_failAt_0 : decode cX0_failAt 0 = .ok (.aload_n 0, 1) := by decide +kernel
theorem dX0_failAt_1 : decode cX0_failAt 1 = .ok (.iload_n 1, 1) := by decide +kernel
theorem dX0_failAt_2 : decode cX0_failAt 2 = .ok (.putfield 23, 3) := by decide +kernel
theorem dX0_failAt_5 : decode cX0_failAt 5 = .ok (.iconst 0, 1) := by decide +kernel
theorem dX0_failAt_6 : decode cX0_failAt 6 = .ok (.ireturn, 1) := by decide +kernel
set_option maxRecDepth 20000 in
theorem ggX0_skipSpaces_X0_byteAtCursor : GoodIn wsX0_skipSpaces wsX0_byteAtCursor := goodIn_r _ [7, 1, 2, 8, 9, 10, 11, 12, 13, 14, 15, 16, 17, 18, 19, 20, 21] (by decide +kernel) (by decide +kernel)
set_option maxRecDepth 20000 in
theorem gX0_skipSpaces_X0_byteAtCursor : GoodIn wsX0_skipSpaces (wsV RX0 64 RX0 yX0_byteAtCursor wsX0_byteAtCursor) := goodIn_app (goodIn_of _ (by decide +kernel)) ggX0_skipSpaces_X0_byteAtCursor
theorem dX0_skipSpaces_0 : decode cX0_skipSpaces 0 = .ok (.aload_n 0, 1) := by decide +kernel
theorem dX0_skipSpaces_1 : decode cX0_skipSpaces 1 = .ok (.getfield 41, 3) := by decide +kernel
theorem dX0_skipSpaces_4 : decode cX0_skipSpaces 4 = .ok (.aload_n 0, 1) := by decide +kernel
theorem dX0_skipSpaces_5 : decode cX0_skipSpaces 5 = .ok (.getfield 27, 3) := by decide +kernel
theorem dX0_skipSpaces_8 : decode cX0_skipSpaces 8 = .ok (.if_icmp .ge 25, 3) := by decide +kernel
theorem dX0_skipSpaces_11 : decode cX0_skipSpaces 11 = .ok (.aload_n 0, 1) := by decide +kernel
theorem dX0_skipSpaces_12 : decode cX0_skipSpaces 12 = .ok (.invokevirtual 64, 3) := by decide +kernel
theorem dX0_skipSpaces_15 : decode cX0_skipSpaces 15 = .ok (.bipush 32, 2) := by decide +kernel
theorem dX0_skipSpaces_17 : decode cX0_skipSpaces 17 = .ok (.if_icmp .ne 16, 3) := by decide +kernel
theorem dX0_skipSpaces_20 : decode cX0_skipSpaces 20 = .ok (.aload_n 0, 1) := by decide +kernel
theorem dX0_skipSpaces_21 : decode cX0_skipSpaces 21 = .ok (.dup, 1) := by decide +kernel
theorem dX0_skipSpaces_22 : decode cX0_skipSpaces 22 = .ok (.getfield 41, 3) := by decide +kernel
theorem dX0_skipSpaces_25 : decode cX0_skipSpaces 25 = .ok (.iconst 1, 1) := by decide +kernel
theorem dX0_skipSpaces_26 : decode cX0_skipSpaces 26 = .ok (.iadd, 1) := by decide +kernel
theorem dX0_skipSpaces_27 : decode cX0_skipSpaces 27 = .ok (.putfield 41, 3) := by decide +kernel
theorem dX0_skipSpaces_30 : decode cX0_skipSpaces 30 = .ok (.goto (-30), 3) := by decide +kernel
theorem dX0_skipSpaces_33 : decode cX0_skipSpaces 33 = .ok (.return_, 1) := by decide +kernel
set_option maxRecDepth 20000 in
theorem ggX0_byteAtCursor_X6_at : GoodIn wsX0_byteAtCursor wsX6_at := goodIn_r _ [8, 9, 16] (by decide +kernel) (by decide +kernel)
set_option maxRecDepth 20000 in
theorem gX0_byteAtCursor_X6_at : GoodIn wsX0_byteAtCursor (wsV RX0 37 RX6 yX6_at wsX6_at) := goodIn_app (goodIn_of _ (by decide +kernel)) ggX0_byteAtCursor_X6_at
theorem dX0_byteAtCursor_0 : decode cX0_byteAtCursor 0 = .ok (.aload_n 0, 1) := by decide +kernel
theorem dX0_byteAtCursor_1 : decode cX0_byteAtCursor 1 = .ok (.getfield 41, 3) := by decide +kernel
theorem dX0_byteAtCursor_4 : decode cX0_byteAtCursor 4 = .ok (.aload_n 0, 1) := by decide +kernel
theorem dX0_byteAtCursor_5 : decode cX0_byteAtCursor 5 = .ok (.getfield 27, 3) := by decide +kernel
theorem dX0_byteAtCursor_8 : decode cX0_byteAtCursor 8 = .ok (.if_icmp .ge 17, 3) := by decide +kernel
theorem dX0_byteAtCursor_11 : decode cX0_byteAtCursor 11 = .ok (.aload_n 0, 1) := by decide +kernel
theorem dX0_byteAtCursor_12 : decode cX0_byteAtCursor 12 = .ok (.getfield 14, 3) := by decide +kernel
theorem dX0_byteAtCursor_15 : decode cX0_byteAtCursor 15 = .ok (.aload_n 0, 1) := by decide +kernel
theorem dX0_byteAtCursor_16 : decode cX0_byteAtCursor 16 = .ok (.getfield 41, 3) := by decide +kernel
theorem dX0_byteAtCursor_19 : decode cX0_byteAtCursor 19 = .ok (.invokevirtual 37, 3) := by decide +kernel
theorem dX0_byteAtCursor_22 : decode cX0_byteAtCursor 22 = .ok (.goto 4, 3) := by decide +kernel
theorem dX0_byteAtCursor_25 : decode cX0_byteAtCursor 25 = .ok (.iconst (-1), 1) := by decide +kernel
theorem dX0_byteAtCursor_26 : decode cX0_byteAtCursor 26 = .ok (.ireturn, 1) := by decide +kernel
theorem dX0_isLetter_0 : decode cX0_isLetter 0 = .ok (.iload_n 0, 1) := by decide +kernel
theorem dX0_isLetter_1 : decode cX0_isLetter 1 = .ok (.bipush 97, 2) := by decide +kernel
theorem dX0_isLetter_3 : decode cX0_isLetter 3 = .ok (.if_icmp .lt 13, 3) := by decide +kernel
theorem dX0_isLetter_6 : decode cX0_isLetter 6 = .ok (.iload_n 0, 1) := by decide +kernel
theorem dX0_isLetter_7 : decode cX0_isLetter 7 = .ok (.bipush 122, 2) := by decide +kernel
theorem dX0_isLetter_9 : decode cX0_isLetter 9 = .ok (.if_icmp .gt 7, 3) := by decide +kernel
theorem dX0_isLetter_12 : decode cX0_isLetter 12 = .ok (.iconst 1, 1) := by decide +kernel
theorem dX0_isLetter_13 : decode cX0_isLetter 13 = .ok (.goto 4, 3) := by decide +kernel
theorem dX0_isLetter_16 : decode cX0_isLetter 16 = .ok (.iconst 0, 1) := by decide +kernel
theorem dX0_isLetter_17 : decode cX0_isLetter 17 = .ok (.ireturn, 1) := by decide +kernel
theorem dX0_isDigit_0 : decode cX0_isDigit 0 = .ok (.iload_n 0, 1) := by decide +kernel
theorem dX0_isDigit_1 : decode cX0_isDigit 1 = .ok (.bipush 48, 2) := by decide +kernel
theorem dX0_isDigit_3 : decode cX0_isDigit 3 = .ok (.if_icmp .lt 13, 3) := by decide +kernel
theorem dX0_isDigit_6 : decode cX0_isDigit 6 = .ok (.iload_n 0, 1) := by decide +kernel
theorem dX0_isDigit_7 : decode cX0_isDigit 7 = .ok (.bipush 57, 2) := by decide +kernel
theorem dX0_isDigit_9 : decode cX0_isDigit 9 = .ok (.if_icmp .gt 7, 3) := by decide +kernel
theorem dX0_isDigit_12 : decode cX0_isDigit 12 = .ok (.iconst 1, 1) := by decide +kernel
theorem dX0_isDigit_13 : decode cX0_isDigit 13 = .ok (.goto 4, 3) := by decide +kernel
theorem dX0_isDigit_16 : decode cX0_isDigit 16 = .ok (.iconst 0, 1) := by decide +kernel
theorem dX0_isDigit_17 : decode cX0_isDigit 17 = .ok (.ireturn, 1) := by decide +kernel
set_option maxRecDepth 20000 in
theorem ggX0_wordBetween_X0_nameOf : GoodIn wsX0_wordBetween wsX0_nameOf := goodIn_r _ [4] (by decide +kernel) (by decide +kernel)
set_option maxRecDepth 20000 in
theorem gX0_wordBetween_X0_nameOf : GoodIn wsX0_wordBetween (va_wsS RX0 81 yX0_nameOf wsX0_nameOf) := goodIn_app (goodIn_of _ (by decide +kernel)) ggX0_wordBetween_X0_nameOf
set_option maxRecDepth 20000 in
theorem ggX0_wordBetween_X0_stands : GoodIn wsX0_wordBetween wsX0_stands := goodIn_r _ [8, 9, 10, 11, 12, 13, 14, 15, 16, 17, 18, 19, 20, 21, 22, 23, 24, 25, 26, 27, 28, 29, 30, 31, 32, 33, 34, 35, 36, 37, 38, 39, 40, 41, 42, 43, 44, 45, 46, 47, 48, 49, 50, 51, 52, 53, 54, 55, 56, 57, 58, 59, 60, 61, 62, 63, 64, 65, 66, 67, 68, 69, 70, 71] (by decide +kernel) (by decide +kernel)
set_option maxRecDepth 20000 in
theorem gX0_wordBetween_X0_stands : GoodIn wsX0_wordBetween (wsV RX0 85 RX0 yX0_stands wsX0_stands) := goodIn_app (goodIn_of _ (by decide +kernel)) ggX0_wordBetween_X0_stands
theorem dX0_wordBetween_0 : decode cX0_wordBetween 0 = .ok (.iconst 0, 1) := by decide +kernel
theorem dX0_wordBetween_1 : decode cX0_wordBetween 1 = .ok (.istore_n 3, 1) := by decide +kernel
theorem dX0_wordBetween_2 : decode cX0_wordBetween 2 = .ok (.iload_n 3, 1) := by decide +kernel
theorem dX0_wordBetween_3 : decode cX0_wordBetween 3 = .ok (.bipush 8, 2) := by decide +kernel
theorem dX0_wordBetween_5 : decode cX0_wordBetween 5 = .ok (.if_icmp .ge 24, 3) := by decide +kernel
theorem dX0_wordBetween_8 : decode cX0_wordBetween 8 = .ok (.aload_n 0, 1) := by decide +kernel
theorem dX0_wordBetween_9 : decode cX0_wordBetween 9 = .ok (.iload_n 3, 1) := by decide +kernel
theorem dX0_wordBetween_10 : decode cX0_wordBetween 10 = .ok (.invokestatic 81, 3) := by decide +kernel
theorem dX0_wordBetween_13 : decode cX0_wordBetween 13 = .ok (.iload_n 1, 1) := by decide +kernel
theorem dX0_wordBetween_14 : decode cX0_wordBetween 14 = .ok (.iload_n 2, 1) := by decide +kernel
theorem dX0_wordBetween_15 : decode cX0_wordBetween 15 = .ok (.invokevirtual 85, 3) := by decide +kernel
theorem dX0_wordBetween_18 : decode cX0_wordBetween 18 = .ok (.ifCond .eq 5, 3) := by decide +kernel
theorem dX0_wordBetween_21 : decode cX0_wordBetween 21 = .ok (.iload_n 3, 1) := by decide +kernel
theorem dX0_wordBetween_22 : decode cX0_wordBetween 22 = .ok (.ireturn, 1) := by decide +kernel
theorem dX0_wordBetween_23 : decode cX0_wordBetween 23 = .ok (.iinc 3 1, 3) := by decide +kernel
theorem dX0_wordBetween_26 : decode cX0_wordBetween 26 = .ok (.goto (-24), 3) := by decide +kernel
theorem dX0_wordBetween_29 : decode cX0_wordBetween 29 = .ok (.iconst (-1), 1) := by decide +kernel
theorem dX0_wordBetween_30 : decode cX0_wordBetween 30 = .ok (.ireturn, 1) := by decide +kernel
set_option maxRecDepth 20000 in
theorem ggX0_stands_J0_length_8abf5 : GoodIn wsX0_stands wsJ0_length_8abf5 := goodIn_r _ [6, 7, 8, 9, 10, 5, 11, 12, 13] (by decide +kernel) (by decide +kernel)
set_option maxRecDepth 20000 in
theorem gX0_stands_J0_length_8abf5 : GoodIn wsX0_stands (wsV RX0 89 RJ0 yJ0_length_8abf5 wsJ0_length_8abf5) := goodIn_app (goodIn_of _ (by decide +kernel)) ggX0_stands_J0_length_8abf5
set_option maxRecDepth 20000 in
theorem ggX0_stands_X6_at : GoodIn wsX0_stands wsX6_at := goodIn_r _ [18, 19, 63] (by decide +kernel) (by decide +kernel)
set_option maxRecDepth 20000 in
theorem gX0_stands_X6_at : GoodIn wsX0_stands (wsV RX0 37 RX6 yX6_at wsX6_at) := goodIn_app (goodIn_of _ (by decide +kernel)) ggX0_stands_X6_at
set_option maxRecDepth 20000 in
theorem ggX0_stands_J0_charAt_5068e : GoodIn wsX0_stands wsJ0_charAt_5068e := goodIn_r _ [23, 7, 24, 25, 26, 5, 27, 12, 13, 28, 29, 30, 31, 32, 33, 34, 35, 36, 37, 38, 39, 40, 41, 42, 43, 44, 45, 46, 47, 48, 49, 50, 51, 52, 53, 54, 55, 56] (by decide +kernel) (by decide +kernel)
set_option maxRecDepth 20000 in
theorem gX0_stands_J0_charAt_5068e : GoodIn wsX0_stands (wsV RX0 93 RJ0 yJ0_charAt_5068e wsJ0_charAt_5068e) := goodIn_app (goodIn_of _ (by decide +kernel)) ggX0_stands_J0_charAt_5068e
theorem dX0_stands_0 : decode cX0_stands 0 = .ok (.aload_n 1, 1) := by decide +kernel
theorem dX0_stands_1 : decode cX0_stands 1 = .ok (.invokevirtual 89, 3) := by decide +kernel
theorem dX0_stands_4 : decode cX0_stands 4 = .ok (.iload_n 3, 1) := by decide +kernel
theorem dX0_stands_5 : decode cX0_stands 5 = .ok (.iload_n 2, 1) := by decide +kernel
theorem dX0_stands_6 : decode cX0_stands 6 = .ok (.isub, 1) := by decide +kernel
theorem dX0_stands_7 : decode cX0_stands 7 = .ok (.if_icmp .eq 5, 3) := by decide +kernel
theorem dX0_stands_10 : decode cX0_stands 10 = .ok (.iconst 0, 1) := by decide +kernel
theorem dX0_stands_11 : decode cX0_stands 11 = .ok (.ireturn, 1) := by decide +kernel
theorem dX0_stands_12 : decode cX0_stands 12 = .ok (.iconst 0, 1) := by decide +kernel
theorem dX0_stands_13 : decode cX0_stands 13 = .ok (.istore 4, 2) := by decide +kernel
theorem dX0_stands_15 : decode cX0_stands 15 = .ok (.iload 4, 2) := by decide +kernel
theorem dX0_stands_17 : decode cX0_stands 17 = .ok (.aload_n 1, 1) := by decide +kernel
theorem dX0_stands_18 : decode cX0_stands 18 = .ok (.invokevirtual 89, 3) := by decide +kernel
theorem dX0_stands_21 : decode cX0_stands 21 = .ok (.if_icmp .ge 31, 3) := by decide +kernel
theorem dX0_stands_24 : decode cX0_stands 24 = .ok (.aload_n 0, 1) := by decide +kernel
theorem dX0_stands_25 : decode cX0_stands 25 = .ok (.getfield 14, 3) := by decide +kernel
theorem dX0_stands_28 : decode cX0_stands 28 = .ok (.iload_n 2, 1) := by decide +kernel
theorem dX0_stands_29 : decode cX0_stands 29 = .ok (.iload 4, 2) := by decide +kernel
theorem dX0_stands_31 : decode cX0_stands 31 = .ok (.iadd, 1) := by decide +kernel
theorem dX0_stands_32 : decode cX0_stands 32 = .ok (.invokevirtual 37, 3) := by decide +kernel
theorem dX0_stands_35 : decode cX0_stands 35 = .ok (.aload_n 1, 1) := by decide +kernel
theorem dX0_stands_36 : decode cX0_stands 36 = .ok (.iload 4, 2) := by decide +kernel
theorem dX0_stands_38 : decode cX0_stands 38 = .ok (.invokevirtual 93, 3) := by decide +kernel
theorem dX0_stands_41 : decode cX0_stands 41 = .ok (.if_icmp .eq 5, 3) := by decide +kernel
theorem dX0_stands_44 : decode cX0_stands 44 = .ok (.iconst 0, 1) := by decide +kernel
theorem dX0_stands_45 : decode cX0_stands 45 = .ok (.ireturn, 1) := by decide +kernel
theorem dX0_stands_46 : decode cX0_stands 46 = .ok (.iinc 4 1, 3) := by decide +kernel
theorem dX0_stands_49 : decode cX0_stands 49 = .ok (.goto (-34), 3) := by decide +kernel
theorem dX0_stands_52 : decode cX0_stands 52 = .ok (.iconst 1, 1) := by decide +kernel
theorem dX0_stands_53 : decode cX0_stands 53 = .ok (.ireturn, 1) := by decide +kernel
theorem dX0_nameOf_0 : decode cX0_nameOf 0 = .ok (.iload_n 0, 1) := by decide +kernel
theorem dX0_nameOf_1 : decode cX0_nameOf 1 = .ok (.tableswitch 64 0 6 #[43, 46, 49, 52, 55, 58, 61], 43) := by decide +kernel
theorem dX0_nameOf_44 : decode cX0_nameOf 44 = .ok (.ldc 97, 2) := by decide +kernel
theorem dX0_nameOf_46 : decode cX0_nameOf 46 = .ok (.areturn, 1) := by decide +kernel
theorem dX0_nameOf_47 : decode cX0_nameOf 47 = .ok (.ldc 99, 2) := by decide +kernel
theorem dX0_nameOf_49 : decode cX0_nameOf 49 = .ok (.areturn, 1) := by decide +kernel
theorem dX0_nameOf_50 : decode cX0_nameOf 50 = .ok (.ldc 101, 2) := by decide +kernel
theorem dX0_nameOf_52 : decode cX0_nameOf 52 = .ok (.areturn, 1) := by decide +kernel
theorem dX0_nameOf_53 : decode cX0_nameOf 53 = .ok (.ldc 103, 2) := by decide +kernel
theorem dX0_nameOf_55 : decode cX0_nameOf 55 = .ok (.areturn, 1) := by decide +kernel
theorem dX0_nameOf_56 : decode cX0_nameOf 56 = .ok (.ldc 105, 2) := by decide +kernel
theorem dX0_nameOf_58 : decode cX0_nameOf 58 = .ok (.areturn, 1) := by decide +kernel
theorem dX0_nameOf_59 : decode cX0_nameOf 59 = .ok (.ldc 107, 2) := by decide +kernel
theorem dX0_nameOf_61 : decode cX0_nameOf 61 = .ok (.areturn, 1) := by decide +kernel
theorem dX0_nameOf_62 : decode cX0_nameOf 62 = .ok (.ldc 109, 2) := by decide +kernel
theorem dX0_nameOf_64 : decode cX0_nameOf 64 = .ok (.areturn, 1) := by decide +kernel
theorem dX0_nameOf_65 : decode cX0_nameOf 65 = .ok (.ldc 111, 2) := by decide +kernel
theorem dX0_nameOf_67 : decode cX0_nameOf 67 = .ok (.areturn, 1) := by decide +kernel
theorem dX0_numbersOf_0 : decode cX0_numbersOf 0 = .ok (.iload_n 0, 1) := by decide +kernel
theorem dX0_numbersOf_1 : decode cX0_numbersOf 1 = .ok (.tableswitch 51 0 6 #[43, 51, 45, 47, 47, 49, 47], 43) := by decide +kernel
theorem dX0_numbersOf_44 : decode cX0_numbersOf 44 = .ok (.iconst 5, 1) := by decide +kernel
theorem dX0_numbersOf_45 : decode cX0_numbersOf 45 = .ok (.ireturn, 1) := by decide +kernel
theorem dX0_numbersOf_46 : decode cX0_numbersOf 46 = .ok (.iconst 3, 1) := by decide +kernel
theorem dX0_numbersOf_47 : decode cX0_numbersOf 47 = .ok (.ireturn, 1) := by decide +kernel
theorem dX0_numbersOf_48 : decode cX0_numbersOf 48 = .ok (.iconst 2, 1) := by decide +kernel
theorem dX0_numbersOf_49 : decode cX0_numbersOf 49 = .ok (.ireturn, 1) := by decide +kernel
theorem dX0_numbersOf_50 : decode cX0_numbersOf 50 = .ok (.iconst 1, 1) := by decide +kernel
theorem dX0_numbersOf_51 : decode cX0_numbersOf 51 = .ok (.ireturn, 1) := by decide +kernel
theorem dX0_numbersOf_52 : decode cX0_numbersOf 52 = .ok (.iconst 0, 1) := by decide +kernel
theorem dX0_numbersOf_53 : decode cX0_numbersOf 53 = .ok (.ireturn, 1) := by decide +kernel
set_option maxRecDepth 20000 in
theorem ggX1_init_X6_init : GoodIn wsX1_init wsX6_init := goodIn_r _ [17, 18, 2, 3, 19, 20, 21] (by decide +kernel) (by decide +kernel)
set_option maxRecDepth 20000 in
theorem gX1_init_X6_init : GoodIn wsX1_init (wsX6_init) := ggX1_init_X6_init
theorem dX1_init_0 : decode cX1_init 0 = .ok (.aload_n 0, 1) := by decide +kernel
theorem dX1_init_1 : decode cX1_init 1 = .ok (.invokespecial 3, 3) := by decide +kernel
theorem dX1_init_4 : decode cX1_init 4 = .ok (.aload_n 0, 1) := by decide +kernel
theorem dX1_init_5 : decode cX1_init 5 = .ok (.new 9, 3) := by decide +kernel
theorem dX1_init_8 : decode cX1_init 8 = .ok (.dup, 1) := by decide +kernel
theorem dX1_init_9 : decode cX1_init 9 = .ok (.bipush 16, 2) := by decide +kernel
theorem dX1_init_11 : decode cX1_init 11 = .ok (.invokespecial 11, 3) := by decide +kernel
theorem dX1_init_14 : decode cX1_init 14 = .ok (.putfield 14, 3) := by decide +kernel
theorem dX1_init_17 : decode cX1_init 17 = .ok (.aload_n 0, 1) := by decide +kernel
theorem dX1_init_18 : decode cX1_init 18 = .ok (.new 9, 3) := by decide +kernel
theorem dX1_init_21 : decode cX1_init 21 = .ok (.dup, 1) := by decide +kernel
theorem dX1_init_22 : decode cX1_init 22 = .ok (.bipush 16, 2) := by decide +kernel
theorem dX1_init_24 : decode cX1_init 24 = .ok (.invokespecial 11, 3) := by decide +kernel
theorem dX1_init_27 : decode cX1_init 27 = .ok (.putfield 20, 3) := by decide +kernel
theorem dX1_init_30 : decode cX1_init 30 = .ok (.aload_n 0, 1) := by decide +kernel
theorem dX1_init_31 : decode cX1_init 31 = .ok (.new 9, 3) := by decide +kernel
theorem dX1_init_34 : decode cX1_init 34 = .ok (.dup, 1) := by decide +kernel
theorem dX1_init_35 : decode cX1_init 35 = .ok (.bipush 16, 2) := by decide +kernel
theorem dX1_init_37 : decode cX1_init 37 = .ok (.invokespecial 11, 3) := by decide +kernel
theorem dX1_init_40 : decode cX1_init 40 = .ok (.putfield 23, 3) := by decide +kernel
theorem dX1_init_43 : decode cX1_init 43 = .ok (.aload_n 0, 1) := by decide +kernel
theorem dX1_init_44 : decode cX1_init 44 = .ok (.new 9, 3) := by decide +kernel
theorem dX1_init_47 : decode cX1_init 47 = .ok (.dup, 1) := by decide +kernel
theorem dX1_init_48 : decode cX1_init 48 = .ok (.bipush 16, 2) := by decide +kernel
theorem dX1_init_50 : decode cX1_init 50 = .ok (.invokespecial 11, 3) := by decide +kernel
theorem dX1_init_53 : decode cX1_init 53 = .ok (.putfield 26, 3) := by decide +kernel
theorem dX1_init_56 : decode cX1_init 56 = .ok (.aload_n 0, 1) := by decide +kernel
theorem dX1_init_57 : decode cX1_init 57 = .ok (.new 9, 3) := by decide +kernel
theorem dX1_init_60 : decode cX1_init 60 = .ok (.dup, 1) := by decide +kernel
theorem dX1_init_61 : decode cX1_init 61 = .ok (.bipush 16, 2) := by decide +kernel
theorem dX1_init_63 : decode cX1_init 63 = .ok (.invokespecial 11, 3) := by decide +kernel
theorem dX1_init_66 : decode cX1_init 66 = .ok (.putfield 29, 3) := by decide +kernel
theorem dX1_init_69 : decode cX1_init 69 = .ok (.aload_n 0, 1) := by decide +kernel
theorem dX1_init_70 : decode cX1_init 70 = .ok (.new 9, 3) := by decide +kernel
theorem dX1_init_73 : decode cX1_init 73 = .ok (.dup, 1) := by decide +kernel
theorem dX1_init_74 : decode cX1_init 74 = .ok (.bipush 16, 2) := by decide +kernel
theorem dX1_init_76 : decode cX1_init 76 = .ok (.invokespecial 11, 3) := by decide +kernel
theorem dX1_init_79 : decode cX1_init 79 = .ok (.putfield 32, 3) := by decide +kernel
theorem dX1_init_82 : decode cX1_init 82 = .ok (.aload_n 0, 1) := by decide +kernel
theorem dX1_init_83 : decode cX1_init 83 = .ok (.new 9, 3) := by decide +kernel
theorem dX1_init_86 : decode cX1_init 86 = .ok (.dup, 1) := by decide +kernel
theorem dX1_init_87 : decode cX1_init 87 = .ok (.bipush 16, 2) := by decide +kernel
theorem dX1_init_89 : decode cX1_init 89 = .ok (.invokespecial 11, 3) := by decide +kernel
theorem dX1_init_92 : decode cX1_init 92 = .ok (.putfield 35, 3) := by decide +kernel
theorem dX1_init_95 : decode cX1_init 95 = .ok (.aload_n 0, 1) := by decide +kernel
theorem dX1_init_96 : decode cX1_init 96 = .ok (.new 9, 3) := by decide +kernel
theorem dX1_init_99 : decode cX1_init 99 = .ok (.dup, 1) := by decide +kernel
theorem dX1_init_100 : decode cX1_init 100 = .ok (.bipush 16, 2) := by decide +kernel
theorem dX1_init_102 : decode cX1_init 102 = .ok (.invokespecial 11, 3) := by decide +kernel
theorem dX1_init_105 : decode cX1_init 105 = .ok (.putfield 38, 3) := by decide +kernel
theorem dX1_init_108 : decode cX1_init 108 = .ok (.return_, 1) := by decide +kernel
set_option maxRecDepth 20000 in
theorem ggX1_copyFrom_X6_copyFrom : GoodIn wsX1_copyFrom wsX6_copyFrom := goodIn_r _ [14, 15, 16, 17, 18, 19, 20, 21, 22, 23, 33] (by decide +kernel) (by decide +kernel)
set_option maxRecDepth 20000 in
theorem gX1_copyFrom_X6_copyFrom : GoodIn wsX1_copyFrom (wsV RX1 45 RX6 yX6_copyFrom wsX6_copyFrom) := goodIn_app (goodIn_of _ (by decide +kernel)) ggX1_copyFrom_X6_copyFrom
theorem dX1_copyFrom_0 : decode cX1_copyFrom 0 = .ok (.aload_n 1, 1) := by decide +kernel
theorem dX1_copyFrom_1 : decode cX1_copyFrom 1 = .ok (.ifnull 99, 3) := by decide +kernel
theorem dX1_copyFrom_4 : decode cX1_copyFrom 4 = .ok (.aload_n 0, 1) := by decide +kernel
theorem dX1_copyFrom_5 : decode cX1_copyFrom 5 = .ok (.aload_n 1, 1) := by decide +kernel
theorem dX1_copyFrom_6 : decode cX1_copyFrom 6 = .ok (.getfield 41, 3) := by decide +kernel
theorem dX1_copyFrom_9 : decode cX1_copyFrom 9 = .ok (.putfield 41, 3) := by decide +kernel
theorem dX1_copyFrom_12 : decode cX1_copyFrom 12 = .ok (.aload_n 0, 1) := by decide +kernel
theorem dX1_copyFrom_13 : decode cX1_copyFrom 13 = .ok (.getfield 14, 3) := by decide +kernel
theorem dX1_copyFrom_16 : decode cX1_copyFrom 16 = .ok (.aload_n 1, 1) := by decide +kernel
theorem dX1_copyFrom_17 : decode cX1_copyFrom 17 = .ok (.getfield 14, 3) := by decide +kernel
theorem dX1_copyFrom_20 : decode cX1_copyFrom 20 = .ok (.invokevirtual 45, 3) := by decide +kernel
theorem dX1_copyFrom_23 : decode cX1_copyFrom 23 = .ok (.aload_n 0, 1) := by decide +kernel
theorem dX1_copyFrom_24 : decode cX1_copyFrom 24 = .ok (.getfield 20, 3) := by decide +kernel
theorem dX1_copyFrom_27 : decode cX1_copyFrom 27 = .ok (.aload_n 1, 1) := by decide +kernel
theorem dX1_copyFrom_28 : decode cX1_copyFrom 28 = .ok (.getfield 20, 3) := by decide +kernel
theorem dX1_copyFrom_31 : decode cX1_copyFrom 31 = .ok (.invokevirtual 45, 3) := by decide +kernel
theorem dX1_copyFrom_34 : decode cX1_copyFrom 34 = .ok (.aload_n 0, 1) := by decide +kernel
theorem dX1_copyFrom_35 : decode cX1_copyFrom 35 = .ok (.getfield 23, 3) := by decide +kernel
theorem dX1_copyFrom_38 : decode cX1_copyFrom 38 = .ok (.aload_n 1, 1) := by decide +kernel
theorem dX1_copyFrom_39 : decode cX1_copyFrom 39 = .ok (.getfield 23, 3) := by decide +kernel
theorem dX1_copyFrom_42 : decode cX1_copyFrom 42 = .ok (.invokevirtual 45, 3) := by decide +kernel
theorem dX1_copyFrom_45 : decode cX1_copyFrom 45 = .ok (.aload_n 0, 1) := by decide +kernel
theorem dX1_copyFrom_46 : decode cX1_copyFrom 46 = .ok (.getfield 26, 3) := by decide +kernel
theorem dX1_copyFrom_49 : decode cX1_copyFrom 49 = .ok (.aload_n 1, 1) := by decide +kernel
theorem dX1_copyFrom_50 : decode cX1_copyFrom 50 = .ok (.getfield 26, 3) := by decide +kernel
theorem dX1_copyFrom_53 : decode cX1_copyFrom 53 = .ok (.invokevirtual 45, 3) := by decide +kernel
theorem dX1_copyFrom_56 : decode cX1_copyFrom 56 = .ok (.aload_n 0, 1) := by decide +kernel
theorem dX1_copyFrom_57 : decode cX1_copyFrom 57 = .ok (.getfield 29, 3) := by decide +kernel
theorem dX1_copyFrom_60 : decode cX1_copyFrom 60 = .ok (.aload_n 1, 1) := by decide +kernel
theorem dX1_copyFrom_61 : decode cX1_copyFrom 61 = .ok (.getfield 29, 3) := by decide +kernel
theorem dX1_copyFrom_64 : decode cX1_copyFrom 64 = .ok (.invokevirtual 45, 3) := by decide +kernel
theorem dX1_copyFrom_67 : decode cX1_copyFrom 67 = .ok (.aload_n 0, 1) := by decide +kernel
theorem dX1_copyFrom_68 : decode cX1_copyFrom 68 = .ok (.getfield 32, 3) := by decide +kernel
theorem dX1_copyFrom_71 : decode cX1_copyFrom 71 = .ok (.aload_n 1, 1) := by decide +kernel
theorem dX1_copyFrom_72 : decode cX1_copyFrom 72 = .ok (.getfield 32, 3) := by decide +kernel
theorem dX1_copyFrom_75 : decode cX1_copyFrom 75 = .ok (.invokevirtual 45, 3) := by decide +kernel
theorem dX1_copyFrom_78 : decode cX1_copyFrom 78 = .ok (.aload_n 0, 1) := by decide +kernel
theorem dX1_copyFrom_79 : decode cX1_copyFrom 79 = .ok (.getfield 35, 3) := by decide +kernel
theorem dX1_copyFrom_82 : decode cX1_copyFrom 82 = .ok (.aload_n 1, 1) := by decide +kernel
theorem dX1_copyFrom_83 : decode cX1_copyFrom 83 = .ok (.getfield 35, 3) := by decide +kernel
theorem dX1_copyFrom_86 : decode cX1_copyFrom 86 = .ok (.invokevirtual 45, 3) := by decide +kernel
theorem dX1_copyFrom_89 : decode cX1_copyFrom 89 = .ok (.aload_n 0, 1) := by decide +kernel
theorem dX1_copyFrom_90 : decode cX1_copyFrom 90 = .ok (.getfield 38, 3) := by decide +kernel
theorem dX1_copyFrom_93 : decode cX1_copyFrom 93 = .ok (.aload_n 1, 1) := by decide +kernel
theorem dX1_copyFrom_94 : decode cX1_copyFrom 94 = .ok (.getfield 38, 3) := by decide +kernel
theorem dX1_copyFrom_97 : decode cX1_copyFrom 97 = .ok (.invokevirtual 45, 3) := by decide +kernel
theorem dX1_copyFrom_100 : decode cX1_copyFrom 100 = .ok (.return_, 1) := by decide +kernel
set_option maxRecDepth 20000 in
theorem ggX1_move_X6_at : GoodIn wsX1_move wsX6_at := goodIn_r _ [13, 14, 28] (by decide +kernel) (by decide +kernel)
set_option maxRecDepth 20000 in
theorem gX1_move_X6_at : GoodIn wsX1_move (wsV RX1 49 RX6 yX6_at wsX6_at) := goodIn_app (goodIn_of _ (by decide +kernel)) ggX1_move_X6_at
set_option maxRecDepth 20000 in
theorem ggX1_move_X6_put : GoodIn wsX1_move wsX6_put := goodIn_r _ [18, 14, 28] (by decide +kernel) (by decide +kernel)
set_option maxRecDepth 20000 in
theorem gX1_move_X6_put : GoodIn wsX1_move (wsV RX1 53 RX6 yX6_put wsX6_put) := goodIn_app (goodIn_of _ (by decide +kernel)) ggX1_move_X6_put
theorem dX1_move_0 : decode cX1_move 0 = .ok (.aload_n 0, 1) := by decide +kernel
theorem dX1_move_1 : decode cX1_move 1 = .ok (.getfield 14, 3) := by decide +kernel
theorem dX1_move_4 : decode cX1_move 4 = .ok (.iload_n 2, 1) := by decide +kernel
theorem dX1_move_5 : decode cX1_move 5 = .ok (.aload_n 0, 1) := by decide +kernel
theorem dX1_move_6 : decode cX1_move 6 = .ok (.getfield 14, 3) := by decide +kernel
theorem dX1_move_9 : decode cX1_move 9 = .ok (.iload_n 1, 1) := by decide +kernel
theorem dX1_move_10 : decode cX1_move 10 = .ok (.invokevirtual 49, 3) := by decide +kernel
theorem dX1_move_13 : decode cX1_move 13 = .ok (.invokevirtual 53, 3) := by decide +kernel
theorem dX1_move_16 : decode cX1_move 16 = .ok (.aload_n 0, 1) := by decide +kernel
theorem dX1_move_17 : decode cX1_move 17 = .ok (.getfield 20, 3) := by decide +kernel
theorem dX1_move_20 : decode cX1_move 20 = .ok (.iload_n 2, 1) := by decide +kernel
theorem dX1_move_21 : decode cX1_move 21 = .ok (.aload_n 0, 1) := by decide +kernel
theorem dX1_move_22 : decode cX1_move 22 = .ok (.getfield 20, 3) := by decide +kernel
theorem dX1_move_25 : decode cX1_move 25 = .ok (.iload_n 1, 1) := by decide +kernel
theorem dX1_move_26 : decode cX1_move 26 = .ok (.invokevirtual 49, 3) := by decide +kernel
theorem dX1_move_29 : decode cX1_move 29 = .ok (.invokevirtual 53, 3) := by decide +kernel
theorem dX1_move_32 : decode cX1_move 32 = .ok (.aload_n 0, 1) := by decide +kernel
theorem dX1_move_33 : decode cX1_move 33 = .ok (.getfield 23, 3) := by decide +kernel
theorem dX1_move_36 : decode cX1_move 36 = .ok (.iload_n 2, 1) := by decide +kernel
theorem dX1_move_37 : decode cX1_move 37 = .ok (.aload_n 0, 1) := by decide +kernel
theorem dX1_move_38 : decode cX1_move 38 = .ok (.getfield 23, 3) := by decide +kernel
theorem dX1_move_41 : decode cX1_move 41 = .ok (.iload_n 1, 1) := by decide +kernel
theorem dX1_move_42 : decode cX1_move 42 = .ok (.invokevirtual 49, 3) := by decide +kernel
theorem dX1_move_45 : decode cX1_move 45 = .ok (.invokevirtual 53, 3) := by decide +kernel
theorem dX1_move_48 : decode cX1_move 48 = .ok (.aload_n 0, 1) := by decide +kernel
theorem dX1_move_49 : decode cX1_move 49 = .ok (.getfield 26, 3) := by decide +kernel
theorem dX1_move_52 : decode cX1_move 52 = .ok (.iload_n 2, 1) := by decide +kernel
theorem dX1_move_53 : decode cX1_move 53 = .ok (.aload_n 0, 1) := by decide +kernel
theorem dX1_move_54 : decode cX1_move 54 = .ok (.getfield 26, 3) := by decide +kernel
theorem dX1_move_57 : decode cX1_move 57 = .ok (.iload_n 1, 1) := by decide +kernel
theorem dX1_move_58 : decode cX1_move 58 = .ok (.invokevirtual 49, 3) := by decide +kernel
theorem dX1_move_61 : decode cX1_move 61 = .ok (.invokevirtual 53, 3) := by decide +kernel
theorem dX1_move_64 : decode cX1_move 64 = .ok (.aload_n 0, 1) := by decide +kernel
theorem dX1_move_65 : decode cX1_move 65 = .ok (.getfield 29, 3) := by decide +kernel
theorem dX1_move_68 : decode cX1_move 68 = .ok (.iload_n 2, 1) := by decide +kernel
theorem dX1_move_69 : decode cX1_move 69 = .ok (.aload_n 0, 1) := by decide +kernel
theorem dX1_move_70 : decode cX1_move 70 = .ok (.getfield 29, 3) := by decide +kernel
theorem dX1_move_73 : decode cX1_move 73 = .ok (.iload_n 1, 1) := by decide +kernel
theorem dX1_move_74 : decode cX1_move 74 = .ok (.invokevirtual 49, 3) := by decide +kernel
theorem dX1_move_77 : decode cX1_move 77 = .ok (.invokevirtual 53, 3) := by decide +kernel
theorem dX1_move_80 : decode cX1_move 80 = .ok (.aload_n 0, 1) := by decide +kernel
theorem dX1_move_81 : decode cX1_move 81 = .ok (.getfield 32, 3) := by decide +kernel
theorem dX1_move_84 : decode cX1_move 84 = .ok (.iload_n 2, 1) := by decide +kernel
theorem dX1_move_85 : decode cX1_move 85 = .ok (.aload_n 0, 1) := by decide +kernel
theorem dX1_move_86 : decode cX1_move 86 = .ok (.getfield 32, 3) := by decide +kernel
theorem dX1_move_89 : decode cX1_move 89 = .ok (.iload_n 1, 1) := by decide +kernel
theorem dX1_move_90 : decode cX1_move 90 = .ok (.invokevirtual 49, 3) := by decide +kernel
theorem dX1_move_93 : decode cX1_move 93 = .ok (.invokevirtual 53, 3) := by decide +kernel
theorem dX1_move_96 : decode cX1_move 96 = .ok (.aload_n 0, 1) := by decide +kernel
theorem dX1_move_97 : decode cX1_move 97 = .ok (.getfield 35, 3) := by decide +kernel
theorem dX1_move_100 : decode cX1_move 100 = .ok (.iload_n 2, 1) := by decide +kernel
theorem dX1_move_101 : decode cX1_move 101 = .ok (.aload_n 0, 1) := by decide +kernel
theorem dX1_move_102 : decode cX1_move 102 = .ok (.getfield 35, 3) := by decide +kernel
theorem dX1_move_105 : decode cX1_move 105 = .ok (.iload_n 1, 1) := by decide +kernel
theorem dX1_move_106 : decode cX1_move 106 = .ok (.invokevirtual 49, 3) := by decide +kernel
theorem dX1_move_109 : decode cX1_move 109 = .ok (.invokevirtual 53, 3) := by decide +kernel
theorem dX1_move_112 : decode cX1_move 112 = .ok (.aload_n 0, 1) := by decide +kernel
theorem dX1_move_113 : decode cX1_move 113 = .ok (.getfield 38, 3) := by decide +kernel
theorem dX1_move_116 : decode cX1_move 116 = .ok (.iload_n 2, 1) := by decide +kernel
theorem dX1_move_117 : decode cX1_move 117 = .ok (.aload_n 0, 1) := by decide +kernel
theorem dX1_move_118 : decode cX1_move 118 = .ok (.getfield 38, 3) := by decide +kernel
theorem dX1_move_121 : decode cX1_move 121 = .ok (.iload_n 1, 1) := by decide +kernel
theorem dX1_move_122 : decode cX1_move 122 = .ok (.invokevirtual 49, 3) := by decide +kernel
theorem dX1_move_125 : decode cX1_move 125 = .ok (.invokevirtual 53, 3) := by decide +kernel
theorem dX1_move_128 : decode cX1_move 128 = .ok (.return_, 1) := by decide +kernel
set_option maxRecDepth 20000 in
theorem ggX2_init_X7_init : GoodIn wsX2_init wsX7_init := goodIn_r _ [9, 10, 2, 3, 11, 12, 13, 14, 15, 16, 17, 18, 19, 20, 21, 22, 23, 24, 25, 26, 27, 28, 29, 30, 31, 32, 33, 34, 35, 36, 37, 38, 39, 40, 41, 42, 43, 44, 45, 46, 47, 48, 49, 50, 51, 52, 53, 54, 55, 56, 57, 58, 59, 60, 61, 62, 63, 64, 65, 66, 67, 68, 69, 70, 71, 72, 73, 74, 75, 76, 77, 78, 79, 80, 81, 82, 83, 101, 102, 103, 104, 105, 106, 87, 88, 89, 90, 91, 92, 93, 94, 95, 96, 97, 98, 99, 100, 107, 108, 109, 110, 111, 112, 113, 114, 115, 116, 117, 118, 119, 120, 121, 122, 123, 124, 125, 126] (by decide +kernel) (by decide +kernel)
set_option maxRecDepth 20000 in
theorem gX2_init_X7_init_n17 : GoodIn wsX2_init (wsX7_init) := ggX2_init_X7_init
theorem dX2_init_0 : decode cX2_init 0 = .ok (.aload_n 0, 1) := by decide +kernel
theorem dX2_init_1 : decode cX2_init 1 = .ok (.invokespecial 3, 3) := by decide +kernel
theorem dX2_init_4 : decode cX2_init 4 = .ok (.aload_n 0, 1) := by decide +kernel
theorem dX2_init_5 : decode cX2_init 5 = .ok (.iconst 4, 1) := by decide +kernel
theorem dX2_init_6 : decode cX2_init 6 = .ok (.anewarray 9, 3) := by decide +kernel
theorem dX2_init_9 : decode cX2_init 9 = .ok (.putfield 11, 3) := by decide +kernel
theorem dX2_init_12 : decode cX2_init 12 = .ok (.iconst 0, 1) := by decide +kernel
theorem dX2_init_13 : decode cX2_init 13 = .ok (.istore_n 1, 1) := by decide +kernel
theorem dX2_init_14 : decode cX2_init 14 = .ok (.iload_n 1, 1) := by decide +kernel
theorem dX2_init_15 : decode cX2_init 15 = .ok (.aload_n 0, 1) := by decide +kernel
theorem dX2_init_16 : decode cX2_init 16 = .ok (.getfield 11, 3) := by decide +kernel
theorem dX2_init_19 : decode cX2_init 19 = .ok (.arraylength, 1) := by decide +kernel
theorem dX2_init_20 : decode cX2_init 20 = .ok (.if_icmp .ge 22, 3) := by decide +kernel
theorem dX2_init_23 : decode cX2_init 23 = .ok (.aload_n 0, 1) := by decide +kernel
theorem dX2_init_24 : decode cX2_init 24 = .ok (.getfield 11, 3) := by decide +kernel
theorem dX2_init_27 : decode cX2_init 27 = .ok (.iload_n 1, 1) := by decide +kernel
theorem dX2_init_28 : decode cX2_init 28 = .ok (.new 9, 3) := by decide +kernel
theorem dX2_init_31 : decode cX2_init 31 = .ok (.dup, 1) := by decide +kernel
theorem dX2_init_32 : decode cX2_init 32 = .ok (.invokespecial 17, 3) := by decide +kernel
theorem dX2_init_35 : decode cX2_init 35 = .ok (.aastore, 1) := by decide +kernel
theorem dX2_init_36 : decode cX2_init 36 = .ok (.iinc 1 1, 3) := by decide +kernel
theorem dX2_init_39 : decode cX2_init 39 = .ok (.goto (-25), 3) := by decide +kernel
theorem dX2_init_42 : decode cX2_init 42 = .ok (.return_, 1) := by decide +kernel
theorem dX2_size_0 : decode cX2_size 0 = .ok (.aload_n 0, 1) := by decide +kernel
theorem dX2_size_1 : decode cX2_size 1 = .ok (.getfield 18, 3) := by decide +kernel
theorem dX2_size_4 : decode cX2_size 4 = .ok (.ireturn, 1) := by decide +kernel
set_option maxRecDepth 20000 in
theorem ggX2_save_X2_slotAt : GoodIn wsX2_save wsX2_slotAt := goodIn_r _ [7, 2, 8, 91, 92, 93] (by decide +kernel) (by decide +kernel)
set_option maxRecDepth 20000 in
theorem gX2_save_X2_slotAt : GoodIn wsX2_save (wsV RX2 22 RX2 yX2_slotAt wsX2_slotAt) := goodIn_app (goodIn_of _ (by decide +kernel)) ggX2_save_X2_slotAt
set_option maxRecDepth 20000 in
theorem ggX2_save_X7_copyFrom : GoodIn wsX2_save wsX7_copyFrom := goodIn_r _ [13, 14, 15, 16, 17, 18, 19, 20, 21, 22, 23, 24, 25, 26, 27, 28, 29, 30, 31, 32, 33, 34, 35, 36, 37, 38, 39, 40, 41, 42, 43, 44, 45, 46, 47, 48, 49, 50, 51, 52, 53, 54, 55, 56, 57, 58, 59, 60, 61, 62, 63, 64, 65, 66, 67, 68, 69, 70, 71, 72, 73, 74, 75, 76, 77, 78, 79, 80, 81, 82, 83, 84, 85, 86, 87, 88, 89, 90, 94, 95, 96, 97, 98, 99, 100, 101, 102, 103, 104, 105, 106, 107, 108, 109, 110, 111, 112, 113, 114, 115, 116, 117, 118, 119, 120, 121, 122, 123, 124, 125, 126, 127, 128, 129, 130, 131, 132, 133] (by decide +kernel) (by decide +kernel)
set_option maxRecDepth 20000 in
theorem gX2_save_X7_copyFrom : GoodIn wsX2_save (wsV RX2 26 RX7 yX7_copyFrom wsX7_copyFrom) := goodIn_app (goodIn_of _ (by decide +kernel)) ggX2_save_X7_copyFrom
theorem dX2_save_0 : decode cX2_save 0 = .ok (.aload_n 0, 1) := by decide +kernel
theorem dX2_save_1 : decode cX2_save 1 = .ok (.aload_n 0, 1) := by decide +kernel
theorem dX2_save_2 : decode cX2_save 2 = .ok (.getfield 18, 3) := by decide +kernel
theorem dX2_save_5 : decode cX2_save 5 = .ok (.invokevirtual 22, 3) := by decide +kernel
theorem dX2_save_8 : decode cX2_save 8 = .ok (.astore_n 2, 1) := by decide +kernel
theorem dX2_save_9 : decode cX2_save 9 = .ok (.aload_n 2, 1) := by decide +kernel
theorem dX2_save_10 : decode cX2_save 10 = .ok (.ifnull 8, 3) := by decide +kernel
theorem dX2_save_13 : decode cX2_save 13 = .ok (.aload_n 2, 1) := by decide +kernel
theorem dX2_save_14 : decode cX2_save 14 = .ok (.aload_n 1, 1) := by decide +kernel
theorem dX2_save_15 : decode cX2_save 15 = .ok (.invokevirtual 26, 3) := by decide +kernel
theorem dX2_save_18 : decode cX2_save 18 = .ok (.aload_n 0, 1) := by decide +kernel
theorem dX2_save_19 : decode cX2_save 19 = .ok (.getfield 18, 3) := by decide +kernel
theorem dX2_save_22 : decode cX2_save 22 = .ok (.iconst 4, 1) := by decide +kernel
theorem dX2_save_23 : decode cX2_save 23 = .ok (.if_icmp .ge 16, 3) := by decide +kernel
theorem dX2_save_26 : decode cX2_save 26 = .ok (.aload_n 0, 1) := by decide +kernel
theorem dX2_save_27 : decode cX2_save 27 = .ok (.dup, 1) := by decide +kernel
theorem dX2_save_28 : decode cX2_save 28 = .ok (.getfield 18, 3) := by decide +kernel
theorem dX2_save_31 : decode cX2_save 31 = .ok (.iconst 1, 1) := by decide +kernel
theorem dX2_save_32 : decode cX2_save 32 = .ok (.iadd, 1) := by decide +kernel
theorem dX2_save_33 : decode cX2_save 33 = .ok (.putfield 18, 3) := by decide +kernel
theorem dX2_save_36 : decode cX2_save 36 = .ok (.goto 15, 3) := by decide +kernel
theorem dX2_save_39 : decode cX2_save 39 = .ok (.aload_n 0, 1) := by decide +kernel
theorem dX2_save_40 : decode cX2_save 40 = .ok (.aload_n 0, 1) := by decide +kernel
theorem dX2_save_41 : decode cX2_save 41 = .ok (.getfield 30, 3) := by decide +kernel
theorem dX2_save_44 : decode cX2_save 44 = .ok (.iconst 1, 1) := by decide +kernel
theorem dX2_save_45 : decode cX2_save 45 = .ok (.iadd, 1) := by decide +kernel
theorem dX2_save_46 : decode cX2_save 46 = .ok (.iconst 4, 1) := by decide +kernel
theorem dX2_save_47 : decode cX2_save 47 = .ok (.irem, 1) := by decide +kernel
theorem dX2_save_48 : decode cX2_save 48 = .ok (.putfield 30, 3) := by decide +kernel
theorem dX2_save_51 : decode cX2_save 51 = .ok (.return_, 1) := by decide +kernel
set_option maxRecDepth 20000 in
theorem ggX2_restoreTo_X2_slotAt : GoodIn wsX2_restoreTo wsX2_slotAt := goodIn_r _ [6, 7, 8, 91, 92, 93] (by decide +kernel) (by decide +kernel)
set_option maxRecDepth 20000 in
theorem gX2_restoreTo_X2_slotAt : GoodIn wsX2_restoreTo (wsV RX2 22 RX2 yX2_slotAt wsX2_slotAt) := goodIn_app (goodIn_of _ (by decide +kernel)) ggX2_restoreTo_X2_slotAt
set_option maxRecDepth 20000 in
theorem ggX2_restoreTo_X7_copyFrom : GoodIn wsX2_restoreTo wsX7_copyFrom := goodIn_r _ [13, 14, 15, 16, 17, 18, 19, 20, 21, 22, 23, 24, 25, 26, 27, 28, 29, 30, 31, 32, 33, 34, 35, 36, 37, 38, 39, 40, 41, 42, 43, 44, 45, 46, 47, 48, 49, 50, 51, 52, 53, 54, 55, 56, 57, 58, 59, 60, 61, 62, 63, 64, 65, 66, 67, 68, 69, 70, 71, 72, 73, 74, 75, 76, 77, 78, 79, 80, 81, 82, 83, 84, 85, 86, 87, 88, 89, 90, 94, 95, 96, 97, 98, 99, 100, 101, 102, 103, 104, 105, 106, 107, 108, 109, 110, 111, 112, 113, 114, 115, 116, 117, 118, 119, 120, 121, 122, 123, 124, 125, 126, 127, 128, 129, 130, 131, 132, 133] (by decide +kernel) (by decide +kernel)
set_option maxRecDepth 20000 in
theorem gX2_restoreTo_X7_copyFrom : GoodIn wsX2_restoreTo (wsV RX2 26 RX7 yX7_copyFrom wsX7_copyFrom) := goodIn_app (goodIn_of _ (by decide +kernel)) ggX2_restoreTo_X7_copyFrom
theorem dX2_restoreTo_0 : decode cX2_restoreTo 0 = .ok (.aload_n 0, 1) := by decide +kernel
theorem dX2_restoreTo_1 : decode cX2_restoreTo 1 = .ok (.getfield 18, 3) := by decide +kernel
theorem dX2_restoreTo_4 : decode cX2_restoreTo 4 = .ok (.ifCond .le 29, 3) := by decide +kernel
theorem dX2_restoreTo_7 : decode cX2_restoreTo 7 = .ok (.aload_n 1, 1) := by decide +kernel
theorem dX2_restoreTo_8 : decode cX2_restoreTo 8 = .ok (.ifnull 25, 3) := by decide +kernel
theorem dX2_restoreTo_11 : decode cX2_restoreTo 11 = .ok (.aload_n 0, 1) := by decide +kernel
theorem dX2_restoreTo_12 : decode cX2_restoreTo 12 = .ok (.dup, 1) := by decide +kernel
theorem dX2_restoreTo_13 : decode cX2_restoreTo 13 = .ok (.getfield 18, 3) := by decide +kernel
theorem dX2_restoreTo_16 : decode cX2_restoreTo 16 = .ok (.iconst 1, 1) := by decide +kernel
theorem dX2_restoreTo_17 : decode cX2_restoreTo 17 = .ok (.isub, 1) := by decide +kernel
theorem dX2_restoreTo_18 : decode cX2_restoreTo 18 = .ok (.putfield 18, 3) := by decide +kernel
theorem dX2_restoreTo_21 : decode cX2_restoreTo 21 = .ok (.aload_n 1, 1) := by decide +kernel
theorem dX2_restoreTo_22 : decode cX2_restoreTo 22 = .ok (.aload_n 0, 1) := by decide +kernel
theorem dX2_restoreTo_23 : decode cX2_restoreTo 23 = .ok (.aload_n 0, 1) := by decide +kernel
theorem dX2_restoreTo_24 : decode cX2_restoreTo 24 = .ok (.getfield 18, 3) := by decide +kernel
theorem dX2_restoreTo_27 : decode cX2_restoreTo 27 = .ok (.invokevirtual 22, 3) := by decide +kernel
theorem dX2_restoreTo_30 : decode cX2_restoreTo 30 = .ok (.invokevirtual 26, 3) := by decide +kernel
theorem dX2_restoreTo_33 : decode cX2_restoreTo 33 = .ok (.return_, 1) := by decide +kernel
theorem dX2_slotAt_0 : decode cX2_slotAt 0 = .ok (.aload_n 0, 1) := by decide +kernel
theorem dX2_slotAt_1 : decode cX2_slotAt 1 = .ok (.getfield 30, 3) := by decide +kernel
theorem dX2_slotAt_4 : decode cX2_slotAt 4 = .ok (.iload_n 1, 1) := by decide +kernel
theorem dX2_slotAt_5 : decode cX2_slotAt 5 = .ok (.iadd, 1) := by decide +kernel
theorem dX2_slotAt_6 : decode cX2_slotAt 6 = .ok (.iconst 4, 1) := by decide +kernel
theorem dX2_slotAt_7 : decode cX2_slotAt 7 = .ok (.irem, 1) := by decide +kernel
theorem dX2_slotAt_8 : decode cX2_slotAt 8 = .ok (.istore_n 2, 1) := by decide +kernel
theorem dX2_slotAt_9 : decode cX2_slotAt 9 = .ok (.iload_n 2, 1) := by decide +kernel
theorem dX2_slotAt_10 : decode cX2_slotAt 10 = .ok (.ifCond .lt 21, 3) := by decide +kernel
theorem dX2_slotAt_13 : decode cX2_slotAt 13 = .ok (.iload_n 2, 1) := by decide +kernel
theorem dX2_slotAt_14 : decode cX2_slotAt 14 = .ok (.aload_n 0, 1) := by decide +kernel
theorem dX2_slotAt_15 : decode cX2_slotAt 15 = .ok (.getfield 11, 3) := by decide +kernel
theorem dX2_slotAt_18 : decode cX2_slotAt 18 = .ok (.arraylength, 1) := by decide +kernel
theorem dX2_slotAt_19 : decode cX2_slotAt 19 = .ok (.if_icmp .ge 12, 3) := by decide +kernel
theorem dX2_slotAt_22 : decode cX2_slotAt 22 = .ok (.aload_n 0, 1) := by decide +kernel
theorem dX2_slotAt_23 : decode cX2_slotAt 23 = .ok (.getfield 11, 3) := by decide +kernel
theorem dX2_slotAt_26 : decode cX2_slotAt 26 = .ok (.iload_n 2, 1) := by decide +kernel
theorem dX2_slotAt_27 : decode cX2_slotAt 27 = .ok (.aaload, 1) := by decide +kernel
theorem dX2_slotAt_28 : decode cX2_slotAt 28 = .ok (.goto 4, 3) := by decide +kernel
theorem dX2_slotAt_31 : decode cX2_slotAt 31 = .ok (.aconst_null, 1) := by decide +kernel
theorem dX2_slotAt_32 : decode cX2_slotAt 32 = .ok (.areturn, 1) := by decide +kernel
set_option maxRecDepth 20000 in
theorem ggX3_init_X6_init : GoodIn wsX3_init wsX6_init := goodIn_r _ [15, 16, 2, 3, 17, 18, 19] (by decide +kernel) (by decide +kernel)
set_option maxRecDepth 20000 in
theorem gX3_init_X6_init : GoodIn wsX3_init (wsX6_init) := ggX3_init_X6_init
theorem dX3_init_0 : decode cX3_init 0 = .ok (.aload_n 0, 1) := by decide +kernel
theorem dX3_init_1 : decode cX3_init 1 = .ok (.invokespecial 3, 3) := by decide +kernel
theorem dX3_init_4 : decode cX3_init 4 = .ok (.aload_n 0, 1) := by decide +kernel
theorem dX3_init_5 : decode cX3_init 5 = .ok (.new 9, 3) := by decide +kernel
theorem dX3_init_8 : decode cX3_init 8 = .ok (.dup, 1) := by decide +kernel
theorem dX3_init_9 : decode cX3_init 9 = .ok (.bipush 8, 2) := by decide +kernel
theorem dX3_init_11 : decode cX3_init 11 = .ok (.invokespecial 11, 3) := by decide +kernel
theorem dX3_init_14 : decode cX3_init 14 = .ok (.putfield 14, 3) := by decide +kernel
theorem dX3_init_17 : decode cX3_init 17 = .ok (.aload_n 0, 1) := by decide +kernel
theorem dX3_init_18 : decode cX3_init 18 = .ok (.new 9, 3) := by decide +kernel
theorem dX3_init_21 : decode cX3_init 21 = .ok (.dup, 1) := by decide +kernel
theorem dX3_init_22 : decode cX3_init 22 = .ok (.bipush 8, 2) := by decide +kernel
theorem dX3_init_24 : decode cX3_init 24 = .ok (.invokespecial 11, 3) := by decide +kernel
theorem dX3_init_27 : decode cX3_init 27 = .ok (.putfield 20, 3) := by decide +kernel
theorem dX3_init_30 : decode cX3_init 30 = .ok (.aload_n 0, 1) := by decide +kernel
theorem dX3_init_31 : decode cX3_init 31 = .ok (.new 9, 3) := by decide +kernel
theorem dX3_init_34 : decode cX3_init 34 = .ok (.dup, 1) := by decide +kernel
theorem dX3_init_35 : decode cX3_init 35 = .ok (.bipush 8, 2) := by decide +kernel
theorem dX3_init_37 : decode cX3_init 37 = .ok (.invokespecial 11, 3) := by decide +kernel
theorem dX3_init_40 : decode cX3_init 40 = .ok (.putfield 23, 3) := by decide +kernel
theorem dX3_init_43 : decode cX3_init 43 = .ok (.aload_n 0, 1) := by decide +kernel
theorem dX3_init_44 : decode cX3_init 44 = .ok (.new 9, 3) := by decide +kernel
theorem dX3_init_47 : decode cX3_init 47 = .ok (.dup, 1) := by decide +kernel
theorem dX3_init_48 : decode cX3_init 48 = .ok (.bipush 8, 2) := by decide +kernel
theorem dX3_init_50 : decode cX3_init 50 = .ok (.invokespecial 11, 3) := by decide +kernel
theorem dX3_init_53 : decode cX3_init 53 = .ok (.putfield 26, 3) := by decide +kernel
theorem dX3_init_56 : decode cX3_init 56 = .ok (.aload_n 0, 1) := by decide +kernel
theorem dX3_init_57 : decode cX3_init 57 = .ok (.new 9, 3) := by decide +kernel
theorem dX3_init_60 : decode cX3_init 60 = .ok (.dup, 1) := by decide +kernel
theorem dX3_init_61 : decode cX3_init 61 = .ok (.bipush 8, 2) := by decide +kernel
theorem dX3_init_63 : decode cX3_init 63 = .ok (.invokespecial 11, 3) := by decide +kernel
theorem dX3_init_66 : decode cX3_init 66 = .ok (.putfield 29, 3) := by decide +kernel
theorem dX3_init_69 : decode cX3_init 69 = .ok (.aload_n 0, 1) := by decide +kernel
theorem dX3_init_70 : decode cX3_init 70 = .ok (.new 9, 3) := by decide +kernel
theorem dX3_init_73 : decode cX3_init 73 = .ok (.dup, 1) := by decide +kernel
theorem dX3_init_74 : decode cX3_init 74 = .ok (.bipush 8, 2) := by decide +kernel
theorem dX3_init_76 : decode cX3_init 76 = .ok (.invokespecial 11, 3) := by decide +kernel
theorem dX3_init_79 : decode cX3_init 79 = .ok (.putfield 32, 3) := by decide +kernel
theorem dX3_init_82 : decode cX3_init 82 = .ok (.return_, 1) := by decide +kernel
set_option maxRecDepth 20000 in
theorem ggX3_copyFrom_X6_copyFrom : GoodIn wsX3_copyFrom wsX6_copyFrom := goodIn_r _ [12, 13, 14, 15, 16, 17, 18, 19, 20, 21, 29] (by decide +kernel) (by decide +kernel)
set_option maxRecDepth 20000 in
theorem gX3_copyFrom_X6_copyFrom : GoodIn wsX3_copyFrom (wsV RX3 39 RX6 yX6_copyFrom wsX6_copyFrom) := goodIn_app (goodIn_of _ (by decide +kernel)) ggX3_copyFrom_X6_copyFrom
theorem dX3_copyFrom_0 : decode cX3_copyFrom 0 = .ok (.aload_n 1, 1) := by decide +kernel
theorem dX3_copyFrom_1 : decode cX3_copyFrom 1 = .ok (.ifnull 77, 3) := by decide +kernel
theorem dX3_copyFrom_4 : decode cX3_copyFrom 4 = .ok (.aload_n 0, 1) := by decide +kernel
theorem dX3_copyFrom_5 : decode cX3_copyFrom 5 = .ok (.aload_n 1, 1) := by decide +kernel
theorem dX3_copyFrom_6 : decode cX3_copyFrom 6 = .ok (.getfield 35, 3) := by decide +kernel
theorem dX3_copyFrom_9 : decode cX3_copyFrom 9 = .ok (.putfield 35, 3) := by decide +kernel
theorem dX3_copyFrom_12 : decode cX3_copyFrom 12 = .ok (.aload_n 0, 1) := by decide +kernel
theorem dX3_copyFrom_13 : decode cX3_copyFrom 13 = .ok (.getfield 14, 3) := by decide +kernel
theorem dX3_copyFrom_16 : decode cX3_copyFrom 16 = .ok (.aload_n 1, 1) := by decide +kernel
theorem dX3_copyFrom_17 : decode cX3_copyFrom 17 = .ok (.getfield 14, 3) := by decide +kernel
theorem dX3_copyFrom_20 : decode cX3_copyFrom 20 = .ok (.invokevirtual 39, 3) := by decide +kernel
theorem dX3_copyFrom_23 : decode cX3_copyFrom 23 = .ok (.aload_n 0, 1) := by decide +kernel
theorem dX3_copyFrom_24 : decode cX3_copyFrom 24 = .ok (.getfield 20, 3) := by decide +kernel
theorem dX3_copyFrom_27 : decode cX3_copyFrom 27 = .ok (.aload_n 1, 1) := by decide +kernel
theorem dX3_copyFrom_28 : decode cX3_copyFrom 28 = .ok (.getfield 20, 3) := by decide +kernel
theorem dX3_copyFrom_31 : decode cX3_copyFrom 31 = .ok (.invokevirtual 39, 3) := by decide +kernel
theorem dX3_copyFrom_34 : decode cX3_copyFrom 34 = .ok (.aload_n 0, 1) := by decide +kernel
theorem dX3_copyFrom_35 : decode cX3_copyFrom 35 = .ok (.getfield 23, 3) := by decide +kernel
theorem dX3_copyFrom_38 : decode cX3_copyFrom 38 = .ok (.aload_n 1, 1) := by decide +kernel
theorem dX3_copyFrom_39 : decode cX3_copyFrom 39 = .ok (.getfield 23, 3) := by decide +kernel
theorem dX3_copyFrom_42 : decode cX3_copyFrom 42 = .ok (.invokevirtual 39, 3) := by decide +kernel
theorem dX3_copyFrom_45 : decode cX3_copyFrom 45 = .ok (.aload_n 0, 1) := by decide +kernel
theorem dX3_copyFrom_46 : decode cX3_copyFrom 46 = .ok (.getfield 26, 3) := by decide +kernel
theorem dX3_copyFrom_49 : decode cX3_copyFrom 49 = .ok (.aload_n 1, 1) := by decide +kernel
theorem dX3_copyFrom_50 : decode cX3_copyFrom 50 = .ok (.getfield 26, 3) := by decide +kernel
theorem dX3_copyFrom_53 : decode cX3_copyFrom 53 = .ok (.invokevirtual 39, 3) := by decide +kernel
theorem dX3_copyFrom_56 : decode cX3_copyFrom 56 = .ok (.aload_n 0, 1) := by decide +kernel
theorem dX3_copyFrom_57 : decode cX3_copyFrom 57 = .ok (.getfield 29, 3) := by decide +kernel
theorem dX3_copyFrom_60 : decode cX3_copyFrom 60 = .ok (.aload_n 1, 1) := by decide +kernel
theorem dX3_copyFrom_61 : decode cX3_copyFrom 61 = .ok (.getfield 29, 3) := by decide +kernel
theorem dX3_copyFrom_64 : decode cX3_copyFrom 64 = .ok (.invokevirtual 39, 3) := by decide +kernel
theorem dX3_copyFrom_67 : decode cX3_copyFrom 67 = .ok (.aload_n 0, 1) := by decide +kernel
theorem dX3_copyFrom_68 : decode cX3_copyFrom 68 = .ok (.getfield 32, 3) := by decide +kernel
theorem dX3_copyFrom_71 : decode cX3_copyFrom 71 = .ok (.aload_n 1, 1) := by decide +kernel
theorem dX3_copyFrom_72 : decode cX3_copyFrom 72 = .ok (.getfield 32, 3) := by decide +kernel
theorem dX3_copyFrom_75 : decode cX3_copyFrom 75 = .ok (.invokevirtual 39, 3) := by decide +kernel
theorem dX3_copyFrom_78 : decode cX3_copyFrom 78 = .ok (.return_, 1) := by decide +kernel
set_option maxRecDepth 20000 in
theorem ggX4_init_X6_init : GoodIn wsX4_init wsX6_init := goodIn_r _ [14, 15, 2, 3, 16, 17, 18] (by decide +kernel) (by decide +kernel)
set_option maxRecDepth 20000 in
theorem gX4_init_X6_init : GoodIn wsX4_init (wsX6_init) := ggX4_init_X6_init
theorem dX4_init_0 : decode cX4_init 0 = .ok (.aload_n 0, 1) := by decide +kernel
theorem dX4_init_1 : decode cX4_init 1 = .ok (.invokespecial 3, 3) := by decide +kernel
theorem dX4_init_4 : decode cX4_init 4 = .ok (.aload_n 0, 1) := by decide +kernel
theorem dX4_init_5 : decode cX4_init 5 = .ok (.new 9, 3) := by decide +kernel
theorem dX4_init_8 : decode cX4_init 8 = .ok (.dup, 1) := by decide +kernel
theorem dX4_init_9 : decode cX4_init 9 = .ok (.iconst 5, 1) := by decide +kernel
theorem dX4_init_10 : decode cX4_init 10 = .ok (.invokespecial 11, 3) := by decide +kernel
theorem dX4_init_13 : decode cX4_init 13 = .ok (.putfield 14, 3) := by decide +kernel
theorem dX4_init_16 : decode cX4_init 16 = .ok (.aload_n 0, 1) := by decide +kernel
theorem dX4_init_17 : decode cX4_init 17 = .ok (.new 9, 3) := by decide +kernel
theorem dX4_init_20 : decode cX4_init 20 = .ok (.dup, 1) := by decide +kernel
theorem dX4_init_21 : decode cX4_init 21 = .ok (.iconst 5, 1) := by decide +kernel
theorem dX4_init_22 : decode cX4_init 22 = .ok (.invokespecial 11, 3) := by decide +kernel
theorem dX4_init_25 : decode cX4_init 25 = .ok (.putfield 20, 3) := by decide +kernel
theorem dX4_init_28 : decode cX4_init 28 = .ok (.aload_n 0, 1) := by decide +kernel
theorem dX4_init_29 : decode cX4_init 29 = .ok (.new 9, 3) := by decide +kernel
theorem dX4_init_32 : decode cX4_init 32 = .ok (.dup, 1) := by decide +kernel
theorem dX4_init_33 : decode cX4_init 33 = .ok (.iconst 5, 1) := by decide +kernel
theorem dX4_init_34 : decode cX4_init 34 = .ok (.invokespecial 11, 3) := by decide +kernel
theorem dX4_init_37 : decode cX4_init 37 = .ok (.putfield 23, 3) := by decide +kernel
theorem dX4_init_40 : decode cX4_init 40 = .ok (.aload_n 0, 1) := by decide +kernel
theorem dX4_init_41 : decode cX4_init 41 = .ok (.new 9, 3) := by decide +kernel
theorem dX4_init_44 : decode cX4_init 44 = .ok (.dup, 1) := by decide +kernel
theorem dX4_init_45 : decode cX4_init 45 = .ok (.iconst 5, 1) := by decide +kernel
theorem dX4_init_46 : decode cX4_init 46 = .ok (.invokespecial 11, 3) := by decide +kernel
theorem dX4_init_49 : decode cX4_init 49 = .ok (.putfield 26, 3) := by decide +kernel
theorem dX4_init_52 : decode cX4_init 52 = .ok (.aload_n 0, 1) := by decide +kernel
theorem dX4_init_53 : decode cX4_init 53 = .ok (.new 9, 3) := by decide +kernel
theorem dX4_init_56 : decode cX4_init 56 = .ok (.dup, 1) := by decide +kernel
theorem dX4_init_57 : decode cX4_init 57 = .ok (.iconst 5, 1) := by decide +kernel
theorem dX4_init_58 : decode cX4_init 58 = .ok (.invokespecial 11, 3) := by decide +kernel
theorem dX4_init_61 : decode cX4_init 61 = .ok (.putfield 29, 3) := by decide +kernel
theorem dX4_init_64 : decode cX4_init 64 = .ok (.return_, 1) := by decide +kernel
set_option maxRecDepth 20000 in
theorem ggX4_copyFrom_X6_copyFrom : GoodIn wsX4_copyFrom wsX6_copyFrom := goodIn_r _ [11, 12, 13, 14, 15, 16, 17, 18, 19, 20, 27] (by decide +kernel) (by decide +kernel)
set_option maxRecDepth 20000 in
theorem gX4_copyFrom_X6_copyFrom : GoodIn wsX4_copyFrom (wsV RX4 36 RX6 yX6_copyFrom wsX6_copyFrom) := goodIn_app (goodIn_of _ (by decide +kernel)) ggX4_copyFrom_X6_copyFrom
theorem dX4_copyFrom_0 : decode cX4_copyFrom 0 = .ok (.aload_n 1, 1) := by decide +kernel
theorem dX4_copyFrom_1 : decode cX4_copyFrom 1 = .ok (.ifnull 66, 3) := by decide +kernel
theorem dX4_copyFrom_4 : decode cX4_copyFrom 4 = .ok (.aload_n 0, 1) := by decide +kernel
theorem dX4_copyFrom_5 : decode cX4_copyFrom 5 = .ok (.aload_n 1, 1) := by decide +kernel
theorem dX4_copyFrom_6 : decode cX4_copyFrom 6 = .ok (.getfield 32, 3) := by decide +kernel
theorem dX4_copyFrom_9 : decode cX4_copyFrom 9 = .ok (.putfield 32, 3) := by decide +kernel
theorem dX4_copyFrom_12 : decode cX4_copyFrom 12 = .ok (.aload_n 0, 1) := by decide +kernel
theorem dX4_copyFrom_13 : decode cX4_copyFrom 13 = .ok (.getfield 14, 3) := by decide +kernel
theorem dX4_copyFrom_16 : decode cX4_copyFrom 16 = .ok (.aload_n 1, 1) := by decide +kernel
theorem dX4_copyFrom_17 : decode cX4_copyFrom 17 = .ok (.getfield 14, 3) := by decide +kernel
theorem dX4_copyFrom_20 : decode cX4_copyFrom 20 = .ok (.invokevirtual 36, 3) := by decide +kernel
theorem dX4_copyFrom_23 : decode cX4_copyFrom 23 = .ok (.aload_n 0, 1) := by decide +kernel
theorem dX4_copyFrom_24 : decode cX4_copyFrom 24 = .ok (.getfield 20, 3) := by decide +kernel
theorem dX4_copyFrom_27 : decode cX4_copyFrom 27 = .ok (.aload_n 1, 1) := by decide +kernel
theorem dX4_copyFrom_28 : decode cX4_copyFrom 28 = .ok (.getfield 20, 3) := by decide +kernel
theorem dX4_copyFrom_31 : decode cX4_copyFrom 31 = .ok (.invokevirtual 36, 3) := by decide +kernel
theorem dX4_copyFrom_34 : decode cX4_copyFrom 34 = .ok (.aload_n 0, 1) := by decide +kernel
theorem dX4_copyFrom_35 : decode cX4_copyFrom 35 = .ok (.getfield 23, 3) := by decide +kernel
theorem dX4_copyFrom_38 : decode cX4_copyFrom 38 = .ok (.aload_n 1, 1) := by decide +kernel
theorem dX4_copyFrom_39 : decode cX4_copyFrom 39 = .ok (.getfield 23, 3) := by decide +kernel
theorem dX4_copyFrom_42 : decode cX4_copyFrom 42 = .ok (.invokevirtual 36, 3) := by decide +kernel
theorem dX4_copyFrom_45 : decode cX4_copyFrom 45 = .ok (.aload_n 0, 1) := by decide +kernel
theorem dX4_copyFrom_46 : decode cX4_copyFrom 46 = .ok (.getfield 26, 3) := by decide +kernel
theorem dX4_copyFrom_49 : decode cX4_copyFrom 49 = .ok (.aload_n 1, 1) := by decide +kernel
theorem dX4_copyFrom_50 : decode cX4_copyFrom 50 = .ok (.getfield 26, 3) := by decide +kernel
theorem dX4_copyFrom_53 : decode cX4_copyFrom 53 = .ok (.invokevirtual 36, 3) := by decide +kernel
theorem dX4_copyFrom_56 : decode cX4_copyFrom 56 = .ok (.aload_n 0, 1) := by decide +kernel
theorem dX4_copyFrom_57 : decode cX4_copyFrom 57 = .ok (.getfield 29, 3) := by decide +kernel
theorem dX4_copyFrom_60 : decode cX4_copyFrom 60 = .ok (.aload_n 1, 1) := by decide +kernel
theorem dX4_copyFrom_61 : decode cX4_copyFrom 61 = .ok (.getfield 29, 3) := by decide +kernel
theorem dX4_copyFrom_64 : decode cX4_copyFrom 64 = .ok (.invokevirtual 36, 3) := by decide +kernel
theorem dX4_copyFrom_67 : decode cX4_copyFrom 67 = .ok (.return_, 1) := by decide +kernel
set_option maxRecDepth 20000 in
theorem ggX5_init_X6_init : GoodIn wsX5_init wsX6_init := goodIn_r _ [12, 13, 2, 3, 14, 15, 20] (by decide +kernel) (by decide +kernel)
set_option maxRecDepth 20000 in
theorem gX5_init_X6_init : GoodIn wsX5_init (wsX6_init) := ggX5_init_X6_init
set_option maxRecDepth 20000 in
theorem ggX5_init_X6_fill : GoodIn wsX5_init wsX6_fill := goodIn_r _ [19, 15, 20] (by decide +kernel) (by decide +kernel)
set_option maxRecDepth 20000 in
theorem gX5_init_X6_fill : GoodIn wsX5_init (wsV RX5 26 RX6 yX6_fill wsX6_fill) := goodIn_app (goodIn_of _ (by decide +kernel)) ggX5_init_X6_fill
theorem dX5_init_0 : decode cX5_init 0 = .ok (.aload_n 0, 1) := by decide +kernel
theorem dX5_init_1 : decode cX5_init 1 = .ok (.invokespecial 3, 3) := by decide +kernel
theorem dX5_init_4 : decode cX5_init 4 = .ok (.aload_n 0, 1) := by decide +kernel
theorem dX5_init_5 : decode cX5_init 5 = .ok (.new 9, 3) := by decide +kernel
theorem dX5_init_8 : decode cX5_init 8 = .ok (.dup, 1) := by decide +kernel
theorem dX5_init_9 : decode cX5_init 9 = .ok (.bipush 12, 2) := by decide +kernel
theorem dX5_init_11 : decode cX5_init 11 = .ok (.invokespecial 11, 3) := by decide +kernel
theorem dX5_init_14 : decode cX5_init 14 = .ok (.putfield 14, 3) := by decide +kernel
theorem dX5_init_17 : decode cX5_init 17 = .ok (.aload_n 0, 1) := by decide +kernel
theorem dX5_init_18 : decode cX5_init 18 = .ok (.new 9, 3) := by decide +kernel
theorem dX5_init_21 : decode cX5_init 21 = .ok (.dup, 1) := by decide +kernel
theorem dX5_init_22 : decode cX5_init 22 = .ok (.bipush 12, 2) := by decide +kernel
theorem dX5_init_24 : decode cX5_init 24 = .ok (.invokespecial 11, 3) := by decide +kernel
theorem dX5_init_27 : decode cX5_init 27 = .ok (.putfield 20, 3) := by decide +kernel
theorem dX5_init_30 : decode cX5_init 30 = .ok (.aload_n 0, 1) := by decide +kernel
theorem dX5_init_31 : decode cX5_init 31 = .ok (.new 9, 3) := by decide +kernel
theorem dX5_init_34 : decode cX5_init 34 = .ok (.dup, 1) := by decide +kernel
theorem dX5_init_35 : decode cX5_init 35 = .ok (.bipush 12, 2) := by decide +kernel
theorem dX5_init_37 : decode cX5_init 37 = .ok (.invokespecial 11, 3) := by decide +kernel
theorem dX5_init_40 : decode cX5_init 40 = .ok (.putfield 23, 3) := by decide +kernel
theorem dX5_init_43 : decode cX5_init 43 = .ok (.aload_n 0, 1) := by decide +kernel
theorem dX5_init_44 : decode cX5_init 44 = .ok (.getfield 14, 3) := by decide +kernel
theorem dX5_init_47 : decode cX5_init 47 = .ok (.iconst (-1), 1) := by decide +kernel
theorem dX5_init_48 : decode cX5_init 48 = .ok (.invokevirtual 26, 3) := by decide +kernel
theorem dX5_init_51 : decode cX5_init 51 = .ok (.return_, 1) := by decide +kernel
set_option maxRecDepth 20000 in
theorem ggX5_copyFrom_X6_copyFrom : GoodIn wsX5_copyFrom wsX6_copyFrom := goodIn_r _ [8, 9, 10, 11, 12, 13, 14, 15, 16, 17, 21] (by decide +kernel) (by decide +kernel)
set_option maxRecDepth 20000 in
theorem gX5_copyFrom_X6_copyFrom : GoodIn wsX5_copyFrom (wsV RX5 29 RX6 yX6_copyFrom wsX6_copyFrom) := goodIn_app (goodIn_of _ (by decide +kernel)) ggX5_copyFrom_X6_copyFrom
theorem dX5_copyFrom_0 : decode cX5_copyFrom 0 = .ok (.aload_n 1, 1) := by decide +kernel
theorem dX5_copyFrom_1 : decode cX5_copyFrom 1 = .ok (.ifnull 36, 3) := by decide +kernel
theorem dX5_copyFrom_4 : decode cX5_copyFrom 4 = .ok (.aload_n 0, 1) := by decide +kernel
theorem dX5_copyFrom_5 : decode cX5_copyFrom 5 = .ok (.getfield 14, 3) := by decide +kernel
theorem dX5_copyFrom_8 : decode cX5_copyFrom 8 = .ok (.aload_n 1, 1) := by decide +kernel
theorem dX5_copyFrom_9 : decode cX5_copyFrom 9 = .ok (.getfield 14, 3) := by decide +kernel
theorem dX5_copyFrom_12 : decode cX5_copyFrom 12 = .ok (.invokevirtual 29, 3) := by decide +kernel
theorem dX5_copyFrom_15 : decode cX5_copyFrom 15 = .ok (.aload_n 0, 1) := by decide +kernel
theorem dX5_copyFrom_16 : decode cX5_copyFrom 16 = .ok (.getfield 20, 3) := by decide +kernel
theorem dX5_copyFrom_19 : decode cX5_copyFrom 19 = .ok (.aload_n 1, 1) := by decide +kernel
theorem dX5_copyFrom_20 : decode cX5_copyFrom 20 = .ok (.getfield 20, 3) := by decide +kernel
theorem dX5_copyFrom_23 : decode cX5_copyFrom 23 = .ok (.invokevirtual 29, 3) := by decide +kernel
theorem dX5_copyFrom_26 : decode cX5_copyFrom 26 = .ok (.aload_n 0, 1) := by decide +kernel
theorem dX5_copyFrom_27 : decode cX5_copyFrom 27 = .ok (.getfield 23, 3) := by decide +kernel
theorem dX5_copyFrom_30 : decode cX5_copyFrom 30 = .ok (.aload_n 1, 1) := by decide +kernel
theorem dX5_copyFrom_31 : decode cX5_copyFrom 31 = .ok (.getfield 23, 3) := by decide +kernel
theorem dX5_copyFrom_34 : decode cX5_copyFrom 34 = .ok (.invokevirtual 29, 3) := by decide +kernel
theorem dX5_copyFrom_37 : decode cX5_copyFrom 37 = .ok (.return_, 1) := by decide +kernel
set_option maxRecDepth 20000 in
theorem ggX5_isFree_X6_at : GoodIn wsX5_isFree wsX6_at := goodIn_r _ [6, 7, 11] (by decide +kernel) (by decide +kernel)
set_option maxRecDepth 20000 in
theorem gX5_isFree_X6_at : GoodIn wsX5_isFree (wsV RX5 33 RX6 yX6_at wsX6_at) := goodIn_app (goodIn_of _ (by decide +kernel)) ggX5_isFree_X6_at
theorem dX5_isFree_0 : decode cX5_isFree 0 = .ok (.aload_n 0, 1) := by decide +kernel
theorem dX5_isFree_1 : decode cX5_isFree 1 = .ok (.getfield 14, 3) := by decide +kernel
theorem dX5_isFree_4 : decode cX5_isFree 4 = .ok (.iload_n 1, 1) := by decide +kernel
theorem dX5_isFree_5 : decode cX5_isFree 5 = .ok (.invokevirtual 33, 3) := by decide +kernel
theorem dX5_isFree_8 : decode cX5_isFree 8 = .ok (.iconst (-1), 1) := by decide +kernel
theorem dX5_isFree_9 : decode cX5_isFree 9 = .ok (.if_icmp .ne 7, 3) := by decide +kernel
theorem dX5_isFree_12 : decode cX5_isFree 12 = .ok (.iconst 1, 1) := by decide +kernel
theorem dX5_isFree_13 : decode cX5_isFree 13 = .ok (.goto 4, 3) := by decide +kernel
theorem dX5_isFree_16 : decode cX5_isFree 16 = .ok (.iconst 0, 1) := by decide +kernel
theorem dX5_isFree_17 : decode cX5_isFree 17 = .ok (.ireturn, 1) := by decide +kernel
set_option maxRecDepth 20000 in
theorem ggX5_countFree_X5_isFree : GoodIn wsX5_countFree wsX5_isFree := goodIn_r _ [5, 6, 7, 8, 9, 10, 11, 12, 13, 14, 15, 16] (by decide +kernel) (by decide +kernel)
set_option maxRecDepth 20000 in
theorem gX5_countFree_X5_isFree : GoodIn wsX5_countFree (wsV RX5 37 RX5 yX5_isFree wsX5_isFree) := goodIn_app (goodIn_of _ (by decide +kernel)) ggX5_countFree_X5_isFree
theorem dX5_countFree_0 : decode cX5_countFree 0 = .ok (.iconst 0, 1) := by decide +kernel
theorem dX5_countFree_1 : decode cX5_countFree 1 = .ok (.istore_n 1, 1) := by decide +kernel
theorem dX5_countFree_2 : decode cX5_countFree 2 = .ok (.iconst 0, 1) := by decide +kernel
theorem dX5_countFree_3 : decode cX5_countFree 3 = .ok (.istore_n 2, 1) := by decide +kernel
theorem dX5_countFree_4 : decode cX5_countFree 4 = .ok (.iload_n 2, 1) := by decide +kernel
theorem dX5_countFree_5 : decode cX5_countFree 5 = .ok (.bipush 12, 2) := by decide +kernel
theorem dX5_countFree_7 : decode cX5_countFree 7 = .ok (.if_icmp .ge 20, 3) := by decide +kernel
theorem dX5_countFree_10 : decode cX5_countFree 10 = .ok (.aload_n 0, 1) := by decide +kernel
theorem dX5_countFree_11 : decode cX5_countFree 11 = .ok (.iload_n 2, 1) := by decide +kernel
theorem dX5_countFree_12 : decode cX5_countFree 12 = .ok (.invokevirtual 37, 3) := by decide +kernel
theorem dX5_countFree_15 : decode cX5_countFree 15 = .ok (.ifCond .eq 6, 3) := by decide +kernel
theorem dX5_countFree_18 : decode cX5_countFree 18 = .ok (.iinc 1 1, 3) := by decide +kernel
theorem dX5_countFree_21 : decode cX5_countFree 21 = .ok (.iinc 2 1, 3) := by decide +kernel
theorem dX5_countFree_24 : decode cX5_countFree 24 = .ok (.goto (-20), 3) := by decide +kernel
theorem dX5_countFree_27 : decode cX5_countFree 27 = .ok (.iload_n 1, 1) := by decide +kernel
theorem dX5_countFree_28 : decode cX5_countFree 28 = .ok (.ireturn, 1) := by decide +kernel
set_option maxRecDepth 20000 in
theorem ggX5_putLoaf_X6_put : GoodIn wsX5_putLoaf wsX6_put := goodIn_r _ [8, 9, 13] (by decide +kernel) (by decide +kernel)
set_option maxRecDepth 20000 in
theorem gX5_putLoaf_X6_put : GoodIn wsX5_putLoaf (wsV RX5 41 RX6 yX6_put wsX6_put) := goodIn_app (goodIn_of _ (by decide +kernel)) ggX5_putLoaf_X6_put
theorem dX5_putLoaf_0 : decode cX5_putLoaf 0 = .ok (.aload_n 0, 1) := by decide +kernel
theorem dX5_putLoaf_1 : decode cX5_putLoaf 1 = .ok (.getfield 14, 3) := by decide +kernel
theorem dX5_putLoaf_4 : decode cX5_putLoaf 4 = .ok (.iload_n 1, 1) := by decide +kernel
theorem dX5_putLoaf_5 : decode cX5_putLoaf 5 = .ok (.iload_n 2, 1) := by decide +kernel
theorem dX5_putLoaf_6 : decode cX5_putLoaf 6 = .ok (.invokevirtual 41, 3) := by decide +kernel
theorem dX5_putLoaf_9 : decode cX5_putLoaf 9 = .ok (.aload_n 0, 1) := by decide +kernel
theorem dX5_putLoaf_10 : decode cX5_putLoaf 10 = .ok (.getfield 20, 3) := by decide +kernel
theorem dX5_putLoaf_13 : decode cX5_putLoaf 13 = .ok (.iload_n 1, 1) := by decide +kernel
theorem dX5_putLoaf_14 : decode cX5_putLoaf 14 = .ok (.iconst 0, 1) := by decide +kernel
theorem dX5_putLoaf_15 : decode cX5_putLoaf 15 = .ok (.invokevirtual 41, 3) := by decide +kernel
theorem dX5_putLoaf_18 : decode cX5_putLoaf 18 = .ok (.aload_n 0, 1) := by decide +kernel
theorem dX5_putLoaf_19 : decode cX5_putLoaf 19 = .ok (.getfield 23, 3) := by decide +kernel
theorem dX5_putLoaf_22 : decode cX5_putLoaf 22 = .ok (.iload_n 1, 1) := by decide +kernel
theorem dX5_putLoaf_23 : decode cX5_putLoaf 23 = .ok (.iconst 0, 1) := by decide +kernel
theorem dX5_putLoaf_24 : decode cX5_putLoaf 24 = .ok (.invokevirtual 41, 3) := by decide +kernel
theorem dX5_putLoaf_27 : decode cX5_putLoaf 27 = .ok (.return_, 1) := by decide +kernel
theorem dX6_init_0 : decode cX6_init 0 = .ok (.aload_n 0, 1) := by decide +kernel
theorem dX6_init_1 : decode cX6_init 1 = .ok (.invokespecial 1, 3) := by decide +kernel
theorem dX6_init_4 : decode cX6_init 4 = .ok (.aload_n 0, 1) := by decide +kernel
theorem dX6_init_5 : decode cX6_init 5 = .ok (.iload_n 1, 1) := by decide +kernel
theorem dX6_init_6 : decode cX6_init 6 = .ok (.ifCond .le 7, 3) := by decide +kernel
theorem dX6_init_9 : decode cX6_init 9 = .ok (.iload_n 1, 1) := by decide +kernel
theorem dX6_init_10 : decode cX6_init 10 = .ok (.goto 4, 3) := by decide +kernel
theorem dX6_init_13 : decode cX6_init 13 = .ok (.iconst 0, 1) := by decide +kernel
theorem dX6_init_14 : decode cX6_init 14 = .ok (.newarray .int, 2) := by decide +kernel
theorem dX6_init_16 : decode cX6_init 16 = .ok (.putfield 7, 3) := by decide +kernel
theorem dX6_init_19 : decode cX6_init 19 = .ok (.return_, 1) := by decide +kernel
theorem dX6_at_0 : decode cX6_at 0 = .ok (.iload_n 1, 1) := by decide +kernel
theorem dX6_at_1 : decode cX6_at 1 = .ok (.ifCond .lt 21, 3) := by decide +kernel
theorem dX6_at_4 : decode cX6_at 4 = .ok (.iload_n 1, 1) := by decide +kernel
theorem dX6_at_5 : decode cX6_at 5 = .ok (.aload_n 0, 1) := by decide +kernel
theorem dX6_at_6 : decode cX6_at 6 = .ok (.getfield 7, 3) := by decide +kernel
theorem dX6_at_9 : decode cX6_at 9 = .ok (.arraylength, 1) := by decide +kernel
theorem dX6_at_10 : decode cX6_at 10 = .ok (.if_icmp .ge 12, 3) := by decide +kernel
theorem dX6_at_13 : decode cX6_at 13 = .ok (.aload_n 0, 1) := by decide +kernel
theorem dX6_at_14 : decode cX6_at 14 = .ok (.getfield 7, 3) := by decide +kernel
theorem dX6_at_17 : decode cX6_at 17 = .ok (.iload_n 1, 1) := by decide +kernel
theorem dX6_at_18 : decode cX6_at 18 = .ok (.iaload, 1) := by decide +kernel
theorem dX6_at_19 : decode cX6_at 19 = .ok (.goto 4, 3) := by decide +kernel
theorem dX6_at_22 : decode cX6_at 22 = .ok (.iconst 0, 1) := by decide +kernel
theorem dX6_at_23 : decode cX6_at 23 = .ok (.ireturn, 1) := by decide +kernel
theorem dX6_put_0 : decode cX6_put 0 = .ok (.iload_n 1, 1) := by decide +kernel
theorem dX6_put_1 : decode cX6_put 1 = .ok (.ifCond .lt 19, 3) := by decide +kernel
theorem dX6_put_4 : decode cX6_put 4 = .ok (.iload_n 1, 1) := by decide +kernel
theorem dX6_put_5 : decode cX6_put 5 = .ok (.aload_n 0, 1) := by decide +kernel
theorem dX6_put_6 : decode cX6_put 6 = .ok (.getfield 7, 3) := by decide +kernel
theorem dX6_put_9 : decode cX6_put 9 = .ok (.arraylength, 1) := by decide +kernel
theorem dX6_put_10 : decode cX6_put 10 = .ok (.if_icmp .ge 10, 3) := by decide +kernel
theorem dX6_put_13 : decode cX6_put 13 = .ok (.aload_n 0, 1) := by decide +kernel
theorem dX6_put_14 : decode cX6_put 14 = .ok (.getfield 7, 3) := by decide +kernel
theorem dX6_put_17 : decode cX6_put 17 = .ok (.iload_n 1, 1) := by decide +kernel
theorem dX6_put_18 : decode cX6_put 18 = .ok (.iload_n 2, 1) := by decide +kernel
theorem dX6_put_19 : decode cX6_put 19 = .ok (.iastore, 1) := by decide +kernel
theorem dX6_put_20 : decode cX6_put 20 = .ok (.return_, 1) := by decide +kernel
set_option maxRecDepth 20000 in
theorem ggX6_increase_X6_at : GoodIn wsX6_increase wsX6_at := goodIn_r _ [5, 6, 11] (by decide +kernel) (by decide +kernel)
set_option maxRecDepth 20000 in
theorem gX6_increase_X6_at : GoodIn wsX6_increase (wsV RX6 13 RX6 yX6_at wsX6_at) := goodIn_app (goodIn_of _ (by decide +kernel)) ggX6_increase_X6_at
set_option maxRecDepth 20000 in
theorem ggX6_increase_X6_put : GoodIn wsX6_increase wsX6_put := goodIn_r _ [10, 6, 11] (by decide +kernel) (by decide +kernel)
set_option maxRecDepth 20000 in
theorem gX6_increase_X6_put : GoodIn wsX6_increase (wsV RX6 17 RX6 yX6_put wsX6_put) := goodIn_app (goodIn_of _ (by decide +kernel)) ggX6_increase_X6_put
theorem dX6_increase_0 : decode cX6_increase 0 = .ok (.aload_n 0, 1) := by decide +kernel
theorem dX6_increase_1 : decode cX6_increase 1 = .ok (.iload_n 1, 1) := by decide +kernel
theorem dX6_increase_2 : decode cX6_increase 2 = .ok (.aload_n 0, 1) := by decide +kernel
theorem dX6_increase_3 : decode cX6_increase 3 = .ok (.iload_n 1, 1) := by decide +kernel
theorem dX6_increase_4 : decode cX6_increase 4 = .ok (.invokevirtual 13, 3) := by decide +kernel
theorem dX6_increase_7 : decode cX6_increase 7 = .ok (.iload_n 2, 1) := by decide +kernel
theorem dX6_increase_8 : decode cX6_increase 8 = .ok (.iadd, 1) := by decide +kernel
theorem dX6_increase_9 : decode cX6_increase 9 = .ok (.invokevirtual 17, 3) := by decide +kernel
theorem dX6_increase_12 : decode cX6_increase 12 = .ok (.return_, 1) := by decide +kernel
theorem dX6_fill_0 : decode cX6_fill 0 = .ok (.iconst 0, 1) := by decide +kernel
theorem dX6_fill_1 : decode cX6_fill 1 = .ok (.istore_n 2, 1) := by decide +kernel
theorem dX6_fill_2 : decode cX6_fill 2 = .ok (.iload_n 2, 1) := by decide +kernel
theorem dX6_fill_3 : decode cX6_fill 3 = .ok (.aload_n 0, 1) := by decide +kernel
theorem dX6_fill_4 : decode cX6_fill 4 = .ok (.getfield 7, 3) := by decide +kernel
theorem dX6_fill_7 : decode cX6_fill 7 = .ok (.arraylength, 1) := by decide +kernel
theorem dX6_fill_8 : decode cX6_fill 8 = .ok (.if_icmp .ge 16, 3) := by decide +kernel
theorem dX6_fill_11 : decode cX6_fill 11 = .ok (.aload_n 0, 1) := by decide +kernel
theorem dX6_fill_12 : decode cX6_fill 12 = .ok (.getfield 7, 3) := by decide +kernel
theorem dX6_fill_15 : decode cX6_fill 15 = .ok (.iload_n 2, 1) := by decide +kernel
theorem dX6_fill_16 : decode cX6_fill 16 = .ok (.iload_n 1, 1) := by decide +kernel
theorem dX6_fill_17 : decode cX6_fill 17 = .ok (.iastore, 1) := by decide +kernel
theorem dX6_fill_18 : decode cX6_fill 18 = .ok (.iinc 2 1, 3) := by decide +kernel
theorem dX6_fill_21 : decode cX6_fill 21 = .ok (.goto (-19), 3) := by decide +kernel
theorem dX6_fill_24 : decode cX6_fill 24 = .ok (.return_, 1) := by decide +kernel
theorem dX6_copyFrom_0 : decode cX6_copyFrom 0 = .ok (.aload_n 1, 1) := by decide +kernel
theorem dX6_copyFrom_1 : decode cX6_copyFrom 1 = .ok (.ifnull 29, 3) := by decide +kernel
theorem dX6_copyFrom_4 : decode cX6_copyFrom 4 = .ok (.aload_n 1, 1) := by decide +kernel
theorem dX6_copyFrom_5 : decode cX6_copyFrom 5 = .ok (.getfield 7, 3) := by decide +kernel
theorem dX6_copyFrom_8 : decode cX6_copyFrom 8 = .ok (.iconst 0, 1) := by decide +kernel
theorem dX6_copyFrom_9 : decode cX6_copyFrom 9 = .ok (.aload_n 0, 1) := by decide +kernel
theorem dX6_copyFrom_10 : decode cX6_copyFrom 10 = .ok (.getfield 7, 3) := by decide +kernel
theorem dX6_copyFrom_13 : decode cX6_copyFrom 13 = .ok (.iconst 0, 1) := by decide +kernel
theorem dX6_copyFrom_14 : decode cX6_copyFrom 14 = .ok (.aload_n 1, 1) := by decide +kernel
theorem dX6_copyFrom_15 : decode cX6_copyFrom 15 = .ok (.getfield 7, 3) := by decide +kernel
theorem dX6_copyFrom_18 : decode cX6_copyFrom 18 = .ok (.arraylength, 1) := by decide +kernel
theorem dX6_copyFrom_19 : decode cX6_copyFrom 19 = .ok (.aload_n 0, 1) := by decide +kernel
theorem dX6_copyFrom_20 : decode cX6_copyFrom 20 = .ok (.getfield 7, 3) := by decide +kernel
theorem dX6_copyFrom_23 : decode cX6_copyFrom 23 = .ok (.arraylength, 1) := by decide +kernel
theorem dX6_copyFrom_24 : decode cX6_copyFrom 24 = .ok (.invokestatic 21, 3) := by decide +kernel
theorem dX6_copyFrom_27 : decode cX6_copyFrom 27 = .ok (.invokestatic 27, 3) := by decide +kernel
theorem dX6_copyFrom_30 : decode cX6_copyFrom 30 = .ok (.return_, 1) := by decide +kernel
set_option maxRecDepth 20000 in
theorem ggX7_init_X4_init : GoodIn wsX7_init wsX4_init := goodIn_r _ [25, 26, 2, 3, 27, 21, 22, 28, 29, 30, 31, 32, 33, 34, 35, 36, 37, 38, 116, 77, 78, 79, 80, 81, 82] (by decide +kernel) (by decide +kernel)
set_option maxRecDepth 20000 in
theorem gX7_init_X4_init_n11 : GoodIn wsX7_init (wsX4_init) := ggX7_init_X4_init
set_option maxRecDepth 20000 in
theorem ggX7_init_X3_init : GoodIn wsX7_init wsX3_init := goodIn_r _ [40, 41, 2, 3, 42, 21, 22, 43, 44, 45, 46, 47, 48, 49, 34, 35, 36, 37, 38, 116, 97, 98, 99, 100, 101, 102, 103] (by decide +kernel) (by decide +kernel)
set_option maxRecDepth 20000 in
theorem gX7_init_X3_init_n20 : GoodIn wsX7_init (wsX3_init) := ggX7_init_X3_init
set_option maxRecDepth 20000 in
theorem ggX7_init_X1_init : GoodIn wsX7_init wsX1_init := goodIn_r _ [51, 52, 2, 3, 53, 21, 22, 54, 55, 56, 57, 58, 59, 60, 61, 62, 34, 35, 36, 37, 38, 116, 104, 105, 106, 107, 108, 109, 110, 111, 112] (by decide +kernel) (by decide +kernel)
set_option maxRecDepth 20000 in
theorem gX7_init_X1_init_n27 : GoodIn wsX7_init (wsX1_init) := ggX7_init_X1_init
set_option maxRecDepth 20000 in
theorem ggX7_init_X5_init : GoodIn wsX7_init wsX5_init := goodIn_r _ [65, 66, 2, 3, 67, 21, 22, 68, 69, 70, 71, 34, 35, 36, 37, 38, 72, 73, 74, 75, 116, 113, 114, 115] (by decide +kernel) (by decide +kernel)
set_option maxRecDepth 20000 in
theorem gX7_init_X5_init : GoodIn wsX7_init (wsX5_init) := ggX7_init_X5_init
set_option maxRecDepth 20000 in
theorem ggX7_init_X6_init : GoodIn wsX7_init wsX6_init := goodIn_r _ [35, 36, 2, 3, 37, 38, 116] (by decide +kernel) (by decide +kernel)
set_option maxRecDepth 20000 in
theorem gX7_init_X6_init : GoodIn wsX7_init (wsX6_init) := ggX7_init_X6_init
theorem dX7_init_0 : decode cX7_init 0 = .ok (.aload_n 0, 1) := by decide +kernel
theorem dX7_init_1 : decode cX7_init 1 = .ok (.invokespecial 3, 3) := by decide +kernel
theorem dX7_init_4 : decode cX7_init 4 = .ok (.aload_n 0, 1) := by decide +kernel
theorem dX7_init_5 : decode cX7_init 5 = .ok (.new 9, 3) := by decide +kernel
theorem dX7_init_8 : decode cX7_init 8 = .ok (.dup, 1) := by decide +kernel
theorem dX7_init_9 : decode cX7_init 9 = .ok (.invokespecial 11, 3) := by decide +kernel
theorem dX7_init_12 : decode cX7_init 12 = .ok (.putfield 12, 3) := by decide +kernel
theorem dX7_init_15 : decode cX7_init 15 = .ok (.aload_n 0, 1) := by decide +kernel
theorem dX7_init_16 : decode cX7_init 16 = .ok (.new 18, 3) := by decide +kernel
theorem dX7_init_19 : decode cX7_init 19 = .ok (.dup, 1) := by decide +kernel
theorem dX7_init_20 : decode cX7_init 20 = .ok (.invokespecial 20, 3) := by decide +kernel
theorem dX7_init_23 : decode cX7_init 23 = .ok (.putfield 21, 3) := by decide +kernel
theorem dX7_init_26 : decode cX7_init 26 = .ok (.aload_n 0, 1) := by decide +kernel
theorem dX7_init_27 : decode cX7_init 27 = .ok (.new 25, 3) := by decide +kernel
theorem dX7_init_30 : decode cX7_init 30 = .ok (.dup, 1) := by decide +kernel
theorem dX7_init_31 : decode cX7_init 31 = .ok (.invokespecial 27, 3) := by decide +kernel
theorem dX7_init_34 : decode cX7_init 34 = .ok (.putfield 28, 3) := by decide +kernel
theorem dX7_init_37 : decode cX7_init 37 = .ok (.aload_n 0, 1) := by decide +kernel
theorem dX7_init_38 : decode cX7_init 38 = .ok (.new 32, 3) := by decide +kernel
theorem dX7_init_41 : decode cX7_init 41 = .ok (.dup, 1) := by decide +kernel
theorem dX7_init_42 : decode cX7_init 42 = .ok (.invokespecial 34, 3) := by decide +kernel
theorem dX7_init_45 : decode cX7_init 45 = .ok (.putfield 35, 3) := by decide +kernel
theorem dX7_init_48 : decode cX7_init 48 = .ok (.aload_n 0, 1) := by decide +kernel
theorem dX7_init_49 : decode cX7_init 49 = .ok (.new 39, 3) := by decide +kernel
theorem dX7_init_52 : decode cX7_init 52 = .ok (.dup, 1) := by decide +kernel
theorem dX7_init_53 : decode cX7_init 53 = .ok (.bipush 16, 2) := by decide +kernel
theorem dX7_init_55 : decode cX7_init 55 = .ok (.invokespecial 41, 3) := by decide +kernel
theorem dX7_init_58 : decode cX7_init 58 = .ok (.putfield 44, 3) := by decide +kernel
theorem dX7_init_61 : decode cX7_init 61 = .ok (.return_, 1) := by decide +kernel
set_option maxRecDepth 20000 in
theorem ggX7_copyFrom_X4_copyFrom : GoodIn wsX7_copyFrom wsX4_copyFrom := goodIn_r _ [19, 20, 21, 22, 23, 24, 25, 26, 27, 28, 29, 30, 31, 32, 33, 34, 35, 36, 37, 38, 39, 92, 93, 94, 95, 96, 97, 98] (by decide +kernel) (by decide +kernel)
set_option maxRecDepth 20000 in
theorem gX7_copyFrom_X4_copyFrom : GoodIn wsX7_copyFrom (wsV RX7 48 RX4 yX4_copyFrom wsX4_copyFrom) := goodIn_app (goodIn_of _ (by decide +kernel)) ggX7_copyFrom_X4_copyFrom
set_option maxRecDepth 20000 in
theorem ggX7_copyFrom_X3_copyFrom : GoodIn wsX7_copyFrom wsX3_copyFrom := goodIn_r _ [44, 45, 46, 47, 48, 49, 50, 51, 52, 27, 28, 29, 30, 31, 32, 33, 34, 35, 36, 37, 38, 39, 99, 100, 101, 102, 103, 104, 105, 98] (by decide +kernel) (by decide +kernel)
set_option maxRecDepth 20000 in
theorem gX7_copyFrom_X3_copyFrom : GoodIn wsX7_copyFrom (wsV RX7 52 RX3 yX3_copyFrom wsX3_copyFrom) := goodIn_app (goodIn_of _ (by decide +kernel)) ggX7_copyFrom_X3_copyFrom
set_option maxRecDepth 20000 in
theorem ggX7_copyFrom_X1_copyFrom : GoodIn wsX7_copyFrom wsX1_copyFrom := goodIn_r _ [57, 58, 59, 60, 61, 62, 63, 64, 65, 66, 67, 27, 28, 29, 30, 31, 32, 33, 34, 35, 36, 37, 38, 39, 106, 107, 108, 109, 110, 111, 112, 113, 114, 98] (by decide +kernel) (by decide +kernel)
set_option maxRecDepth 20000 in
theorem gX7_copyFrom_X1_copyFrom : GoodIn wsX7_copyFrom (wsV RX7 55 RX1 yX1_copyFrom wsX1_copyFrom) := goodIn_app (goodIn_of _ (by decide +kernel)) ggX7_copyFrom_X1_copyFrom
set_option maxRecDepth 20000 in
theorem ggX7_copyFrom_X5_copyFrom : GoodIn wsX7_copyFrom wsX5_copyFrom := goodIn_r _ [72, 73, 74, 75, 76, 27, 28, 29, 30, 31, 32, 33, 34, 35, 36, 37, 38, 39, 115, 116, 117, 98] (by decide +kernel) (by decide +kernel)
set_option maxRecDepth 20000 in
theorem gX7_copyFrom_X5_copyFrom : GoodIn wsX7_copyFrom (wsV RX7 58 RX5 yX5_copyFrom wsX5_copyFrom) := goodIn_app (goodIn_of _ (by decide +kernel)) ggX7_copyFrom_X5_copyFrom
set_option maxRecDepth 20000 in
theorem ggX7_copyFrom_X6_copyFrom : GoodIn wsX7_copyFrom wsX6_copyFrom := goodIn_r _ [30, 31, 32, 33, 34, 35, 36, 37, 38, 39, 98] (by decide +kernel) (by decide +kernel)
set_option maxRecDepth 20000 in
theorem gX7_copyFrom_X6_copyFrom : GoodIn wsX7_copyFrom (wsV RX7 61 RX6 yX6_copyFrom wsX6_copyFrom) := goodIn_app (goodIn_of _ (by decide +kernel)) ggX7_copyFrom_X6_copyFrom
theorem dX7_copyFrom_0 : decode cX7_copyFrom 0 = .ok (.aload_n 1, 1) := by decide +kernel
theorem dX7_copyFrom_1 : decode cX7_copyFrom 1 = .ok (.ifnull 130, 3) := by decide +kernel
theorem dX7_copyFrom_4 : decode cX7_copyFrom 4 = .ok (.aload_n 0, 1) := by decide +kernel
theorem dX7_copyFrom_5 : decode cX7_copyFrom 5 = .ok (.getfield 12, 3) := by decide +kernel
theorem dX7_copyFrom_8 : decode cX7_copyFrom 8 = .ok (.aload_n 1, 1) := by decide +kernel
theorem dX7_copyFrom_9 : decode cX7_copyFrom 9 = .ok (.getfield 12, 3) := by decide +kernel
theorem dX7_copyFrom_12 : decode cX7_copyFrom 12 = .ok (.invokevirtual 48, 3) := by decide +kernel
theorem dX7_copyFrom_15 : decode cX7_copyFrom 15 = .ok (.aload_n 0, 1) := by decide +kernel
theorem dX7_copyFrom_16 : decode cX7_copyFrom 16 = .ok (.getfield 21, 3) := by decide +kernel
theorem dX7_copyFrom_19 : decode cX7_copyFrom 19 = .ok (.aload_n 1, 1) := by decide +kernel
theorem dX7_copyFrom_20 : decode cX7_copyFrom 20 = .ok (.getfield 21, 3) := by decide +kernel
theorem dX7_copyFrom_23 : decode cX7_copyFrom 23 = .ok (.invokevirtual 52, 3) := by decide +kernel
theorem dX7_copyFrom_26 : decode cX7_copyFrom 26 = .ok (.aload_n 0, 1) := by decide +kernel
theorem dX7_copyFrom_27 : decode cX7_copyFrom 27 = .ok (.getfield 28, 3) := by decide +kernel
theorem dX7_copyFrom_30 : decode cX7_copyFrom 30 = .ok (.aload_n 1, 1) := by decide +kernel
theorem dX7_copyFrom_31 : decode cX7_copyFrom 31 = .ok (.getfield 28, 3) := by decide +kernel
theorem dX7_copyFrom_34 : decode cX7_copyFrom 34 = .ok (.invokevirtual 55, 3) := by decide +kernel
theorem dX7_copyFrom_37 : decode cX7_copyFrom 37 = .ok (.aload_n 0, 1) := by decide +kernel
theorem dX7_copyFrom_38 : decode cX7_copyFrom 38 = .ok (.getfield 35, 3) := by decide +kernel
theorem dX7_copyFrom_41 : decode cX7_copyFrom 41 = .ok (.aload_n 1, 1) := by decide +kernel
theorem dX7_copyFrom_42 : decode cX7_copyFrom 42 = .ok (.getfield 35, 3) := by decide +kernel
theorem dX7_copyFrom_45 : decode cX7_copyFrom 45 = .ok (.invokevirtual 58, 3) := by decide +kernel
theorem dX7_copyFrom_48 : decode cX7_copyFrom 48 = .ok (.aload_n 0, 1) := by decide +kernel
theorem dX7_copyFrom_49 : decode cX7_copyFrom 49 = .ok (.getfield 44, 3) := by decide +kernel
theorem dX7_copyFrom_52 : decode cX7_copyFrom 52 = .ok (.aload_n 1, 1) := by decide +kernel
theorem dX7_copyFrom_53 : decode cX7_copyFrom 53 = .ok (.getfield 44, 3) := by decide +kernel
theorem dX7_copyFrom_56 : decode cX7_copyFrom 56 = .ok (.invokevirtual 61, 3) := by decide +kernel
theorem dX7_copyFrom_59 : decode cX7_copyFrom 59 = .ok (.aload_n 0, 1) := by decide +kernel
theorem dX7_copyFrom_60 : decode cX7_copyFrom 60 = .ok (.aload_n 1, 1) := by decide +kernel
theorem dX7_copyFrom_61 : decode cX7_copyFrom 61 = .ok (.getfield 64, 3) := by decide +kernel
theorem dX7_copyFrom_64 : decode cX7_copyFrom 64 = .ok (.putfield 64, 3) := by decide +kernel
theorem dX7_copyFrom_67 : decode cX7_copyFrom 67 = .ok (.aload_n 0, 1) := by decide +kernel
theorem dX7_copyFrom_68 : decode cX7_copyFrom 68 = .ok (.aload_n 1, 1) := by decide +kernel
theorem dX7_copyFrom_69 : decode cX7_copyFrom 69 = .ok (.getfield 68, 3) := by decide +kernel
theorem dX7_copyFrom_72 : decode cX7_copyFrom 72 = .ok (.putfield 68, 3) := by decide +kernel
theorem dX7_copyFrom_75 : decode cX7_copyFrom 75 = .ok (.aload_n 0, 1) := by decide +kernel
theorem dX7_copyFrom_76 : decode cX7_copyFrom 76 = .ok (.aload_n 1, 1) := by decide +kernel
theorem dX7_copyFrom_77 : decode cX7_copyFrom 77 = .ok (.getfield 71, 3) := by decide +kernel
theorem dX7_copyFrom_80 : decode cX7_copyFrom 80 = .ok (.putfield 71, 3) := by decide +kernel
theorem dX7_copyFrom_83 : decode cX7_copyFrom 83 = .ok (.aload_n 0, 1) := by decide +kernel
theorem dX7_copyFrom_84 : decode cX7_copyFrom 84 = .ok (.aload_n 1, 1) := by decide +kernel
theorem dX7_copyFrom_85 : decode cX7_copyFrom 85 = .ok (.getfield 74, 3) := by decide +kernel
theorem dX7_copyFrom_88 : decode cX7_copyFrom 88 = .ok (.putfield 74, 3) := by decide +kernel
theorem dX7_copyFrom_91 : decode cX7_copyFrom 91 = .ok (.aload_n 0, 1) := by decide +kernel
theorem dX7_copyFrom_92 : decode cX7_copyFrom 92 = .ok (.aload_n 1, 1) := by decide +kernel
theorem dX7_copyFrom_93 : decode cX7_copyFrom 93 = .ok (.getfield 77, 3) := by decide +kernel
theorem dX7_copyFrom_96 : decode cX7_copyFrom 96 = .ok (.putfield 77, 3) := by decide +kernel
theorem dX7_copyFrom_99 : decode cX7_copyFrom 99 = .ok (.aload_n 0, 1) := by decide +kernel
theorem dX7_copyFrom_100 : decode cX7_copyFrom 100 = .ok (.aload_n 1, 1) := by decide +kernel
theorem dX7_copyFrom_101 : decode cX7_copyFrom 101 = .ok (.getfield 80, 3) := by decide +kernel
theorem dX7_copyFrom_104 : decode cX7_copyFrom 104 = .ok (.putfield 80, 3) := by decide +kernel
theorem dX7_copyFrom_107 : decode cX7_copyFrom 107 = .ok (.aload_n 0, 1) := by decide +kernel
theorem dX7_copyFrom_108 : decode cX7_copyFrom 108 = .ok (.aload_n 1, 1) := by decide +kernel
theorem dX7_copyFrom_109 : decode cX7_copyFrom 109 = .ok (.getfield 83, 3) := by decide +kernel
theorem dX7_copyFrom_112 : decode cX7_copyFrom 112 = .ok (.putfield 83, 3) := by decide +kernel
theorem dX7_copyFrom_115 : decode cX7_copyFrom 115 = .ok (.aload_n 0, 1) := by decide +kernel
theorem dX7_copyFrom_116 : decode cX7_copyFrom 116 = .ok (.aload_n 1, 1) := by decide +kernel
theorem dX7_copyFrom_117 : decode cX7_copyFrom 117 = .ok (.getfield 86, 3) := by decide +kernel
theorem dX7_copyFrom_120 : decode cX7_copyFrom 120 = .ok (.putfield 86, 3) := by decide +kernel
theorem dX7_copyFrom_123 : decode cX7_copyFrom 123 = .ok (.aload_n 0, 1) := by decide +kernel
theorem dX7_copyFrom_124 : decode cX7_copyFrom 124 = .ok (.aload_n 1, 1) := by decide +kernel
theorem dX7_copyFrom_125 : decode cX7_copyFrom 125 = .ok (.getfield 89, 3) := by decide +kernel
theorem dX7_copyFrom_128 : decode cX7_copyFrom 128 = .ok (.putfield 89, 3) := by decide +kernel
theorem dX7_copyFrom_131 : decode cX7_copyFrom 131 = .ok (.return_, 1) := by decide +kernel
theorem dX7_isKind_0 : decode cX7_isKind 0 = .ok (.iload_n 1, 1) := by decide +kernel
theorem dX7_isKind_1 : decode cX7_isKind 1 = .ok (.ifCond .lt 18, 3) := by decide +kernel
theorem dX7_isKind_4 : decode cX7_isKind 4 = .ok (.iload_n 1, 1) := by decide +kernel
theorem dX7_isKind_5 : decode cX7_isKind 5 = .ok (.aload_n 0, 1) := by decide +kernel
theorem dX7_isKind_6 : decode cX7_isKind 6 = .ok (.getfield 12, 3) := by decide +kernel
theorem dX7_isKind_9 : decode cX7_isKind 9 = .ok (.getfield 92, 3) := by decide +kernel
theorem dX7_isKind_12 : decode cX7_isKind 12 = .ok (.if_icmp .ge 7, 3) := by decide +kernel
theorem dX7_isKind_15 : decode cX7_isKind 15 = .ok (.iconst 1, 1) := by decide +kernel
theorem dX7_isKind_16 : decode cX7_isKind 16 = .ok (.goto 4, 3) := by decide +kernel
theorem dX7_isKind_19 : decode cX7_isKind 19 = .ok (.iconst 0, 1) := by decide +kernel
theorem dX7_isKind_20 : decode cX7_isKind 20 = .ok (.ireturn, 1) := by decide +kernel
theorem dX7_isHouse_0 : decode cX7_isHouse 0 = .ok (.iload_n 1, 1) := by decide +kernel
theorem dX7_isHouse_1 : decode cX7_isHouse 1 = .ok (.ifCond .lt 18, 3) := by decide +kernel
theorem dX7_isHouse_4 : decode cX7_isHouse 4 = .ok (.iload_n 1, 1) := by decide +kernel
theorem dX7_isHouse_5 : decode cX7_isHouse 5 = .ok (.aload_n 0, 1) := by decide +kernel
theorem dX7_isHouse_6 : decode cX7_isHouse 6 = .ok (.getfield 21, 3) := by decide +kernel
theorem dX7_isHouse_9 : decode cX7_isHouse 9 = .ok (.getfield 95, 3) := by decide +kernel
theorem dX7_isHouse_12 : decode cX7_isHouse 12 = .ok (.if_icmp .ge 7, 3) := by decide +kernel
theorem dX7_isHouse_15 : decode cX7_isHouse 15 = .ok (.iconst 1, 1) := by decide +kernel
theorem dX7_isHouse_16 : decode cX7_isHouse 16 = .ok (.goto 4, 3) := by decide +kernel
theorem dX7_isHouse_19 : decode cX7_isHouse 19 = .ok (.iconst 0, 1) := by decide +kernel
theorem dX7_isHouse_20 : decode cX7_isHouse 20 = .ok (.ireturn, 1) := by decide +kernel
theorem dX7_isDough_0 : decode cX7_isDough 0 = .ok (.iload_n 1, 1) := by decide +kernel
theorem dX7_isDough_1 : decode cX7_isDough 1 = .ok (.ifCond .lt 18, 3) := by decide +kernel
theorem dX7_isDough_4 : decode cX7_isDough 4 = .ok (.iload_n 1, 1) := by decide +kernel
theorem dX7_isDough_5 : decode cX7_isDough 5 = .ok (.aload_n 0, 1) := by decide +kernel
theorem dX7_isDough_6 : decode cX7_isDough 6 = .ok (.getfield 28, 3) := by decide +kernel
theorem dX7_isDough_9 : decode cX7_isDough 9 = .ok (.getfield 96, 3) := by decide +kernel
theorem dX7_isDough_12 : decode cX7_isDough 12 = .ok (.if_icmp .ge 7, 3) := by decide +kernel
theorem dX7_isDough_15 : decode cX7_isDough 15 = .ok (.iconst 1, 1) := by decide +kernel
theorem dX7_isDough_16 : decode cX7_isDough 16 = .ok (.goto 4, 3) := by decide +kernel
theorem dX7_isDough_19 : decode cX7_isDough 19 = .ok (.iconst 0, 1) := by decide +kernel
theorem dX7_isDough_20 : decode cX7_isDough 20 = .ok (.ireturn, 1) := by decide +kernel
set_option maxRecDepth 20000 in
theorem ggX7_isWaiting_X7_isDough : GoodIn wsX7_isWaiting wsX7_isDough := goodIn_r _ [7, 1, 8, 15, 16, 17, 18, 19, 20, 21, 22, 23, 24, 25, 26, 27, 28, 29, 30, 31, 32, 33, 34, 35, 36, 37] (by decide +kernel) (by decide +kernel)
set_option maxRecDepth 20000 in
theorem gX7_isWaiting_X7_isDough : GoodIn wsX7_isWaiting (wsV RX7 97 RX7 yX7_isDough wsX7_isDough) := goodIn_app (goodIn_of _ (by decide +kernel)) ggX7_isWaiting_X7_isDough
set_option maxRecDepth 20000 in
theorem ggX7_isWaiting_X6_at : GoodIn wsX7_isWaiting wsX6_at := goodIn_r _ [13, 14, 38] (by decide +kernel) (by decide +kernel)
set_option maxRecDepth 20000 in
theorem gX7_isWaiting_X6_at : GoodIn wsX7_isWaiting (wsV RX7 104 RX6 yX6_at wsX6_at) := goodIn_app (goodIn_of _ (by decide +kernel)) ggX7_isWaiting_X6_at
theorem dX7_isWaiting_0 : decode cX7_isWaiting 0 = .ok (.aload_n 0, 1) := by decide +kernel
theorem dX7_isWaiting_1 : decode cX7_isWaiting 1 = .ok (.iload_n 1, 1) := by decide +kernel
theorem dX7_isWaiting_2 : decode cX7_isWaiting 2 = .ok (.invokevirtual 97, 3) := by decide +kernel
theorem dX7_isWaiting_5 : decode cX7_isWaiting 5 = .ok (.ifCond .eq 21, 3) := by decide +kernel
theorem dX7_isWaiting_8 : decode cX7_isWaiting 8 = .ok (.aload_n 0, 1) := by decide +kernel
