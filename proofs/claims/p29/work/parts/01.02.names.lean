theorem dX1_copyFrom_71 : decode cX1_copyFrom 71 = .ok (.aload_n 1, 1) := by decide +kernel
theorem dX1_copyFrom_72 : decode cX1_copyFrom 72 = .ok (.getfield 32, 3) := by decide +kernel
theorem dX1_copyFrom_75 : decode cX1_copyFrom 75 = .ok (.invokevirtual 45, 3) := by decide +kernel
theorem dX1_copyFrom_78 : decode cX1_copyFrom 78 = .ok (.aload_n 0, 1) := by decide +kernel
theorem dX1_copyFrom_79 : decode cX1_copyFrom 79 = .ok (.getfield 35, 3) := by decide +kernel
theorem dX1_copyFrom_82 : decode cX1_copyFrom 82 = .ok (.aload_n 1, 1) := by decide +kernel
theorem dX1_copyFrom_83 : decode cX1_copyFrom 83 = .ok (.getfield 35, 3) := by decide +kernel
theorem dX1_copyFrom_86 : decode cX1_copyFrom 86 = .ok (.invokevirtual 45, 3) := by decide +kernel
theorem dX1_copyFrom_89 : decode cX1_copyFrom 89 = .ok (.aload_n 0, 1) := by decide +kernel
theorem dX1_copyFrom_90 : decode cX1_copyFrom 90 = .ok (.getfield 38, 3) := by decide +kernel
theorem dX1_copyFrom_93 : decode cX1_copyFrom 93 = .ok (.aload_n 1, 1) := by decide +kernel
theorem dX1_copyFrom_94 : decode cX1_copyFrom 94 = .ok (.getfield 38, 3) := by decide +kernel
theorem dX1_copyFrom_97 : decode cX1_copyFrom 97 = .ok (.invokevirtual 45, 3) := by decide +kernel
theorem dX1_copyFrom_100 : decode cX1_copyFrom 100 = .ok (.return_, 1) := by decide +kernel
set_option maxRecDepth 20000 in
theorem ggX1_move_X6_at : GoodIn wsX1_move wsX6_at := goodIn_r _ [13, 14, 28] (by decide +kernel) (by decide +kernel)
set_option maxRecDepth 20000 in
theorem gX1_move_X6_at : GoodIn wsX1_move (wsV RX1 49 RX6 yX6_at wsX6_at) := goodIn_app (goodIn_of _ (by decide +kernel)) ggX1_move_X6_at
set_option maxRecDepth 20000 in
theorem ggX1_move_X6_put : GoodIn wsX1_move wsX6_put := goodIn_r _ [18, 14, 28] (by decide +kernel) (by decide +kernel)
set_option maxRecDepth 20000 in
theorem gX1_move_X6_put : GoodIn wsX1_move (wsV RX1 53 RX6 yX6_put wsX6_put) := goodIn_app (goodIn_of _ (by decide +kernel)) ggX1_move_X6_put
theorem dX1_move_0 : decode cX1_move 0 = .ok (.aload_n 0, 1) := by decide +kernel
theorem dX1_move_1 : decode cX1_move 1 = .ok (.getfield 14, 3) := by decide +kernel
theorem dX1_move_4 : decode cX1_move 4 = .ok (.iload_n 2, 1) := by decide +kernel
theorem dX1_move_5 : decode cX1_move 5 = .ok (.aload_n 0, 1) := by decide +kernel
theorem dX1_move_6 : decode cX1_move 6 = .ok (.getfield 14, 3) := by decide +kernel
theorem dX1_move_9 : decode cX1_move 9 = .ok (.iload_n 1, 1) := by decide +kernel
theorem dX1_move_10 : decode cX1_move 10 = .ok (.invokevirtual 49, 3) := by decide +kernel
theorem dX1_move_13 : decode cX1_move 13 = .ok (.invokevirtual 53, 3) := by decide +kernel
theorem dX1_move_16 : decode cX1_move 16 = .ok (.aload_n 0, 1) := by decide +kernel
theorem dX1_move_17 : decode cX1_move 17 = .ok (.getfield 20, 3) := by decide +kernel
theorem dX1_move_20 : decode cX1_move 20 = .ok (.iload_n 2, 1) := by decide +kernel
theorem dX1_move_21 : decode cX1_move 21 = .ok (.aload_n 0, 1) := by decide +kernel
theorem dX1_move_22 : decode cX1_move 22 = .ok (.getfield 20, 3) := by decide +kernel
theorem dX1_move_25 : decode cX1_move 25 = .ok (.iload_n 1, 1) := by decide +kernel
theorem dX1_move_26 : decode cX1_move 26 = .ok (.invokevirtual 49, 3) := by decide +kernel
theorem dX1_move_29 : decode cX1_move 29 = .ok (.invokevirtual 53, 3) := by decide +kernel
theorem dX1_move_32 : decode cX1_move 32 = .ok (.aload_n 0, 1) := by decide +kernel
theorem dX1_move_33 : decode cX1_move 33 = .ok (.getfield 23, 3) := by decide +kernel
theorem dX1_move_36 : decode cX1_move 36 = .ok (.iload_n 2, 1) := by decide +kernel
theorem dX1_move_37 : decode cX1_move 37 = .ok (.aload_n 0, 1) := by decide +kernel
theorem dX1_move_38 : decode cX1_move 38 = .ok (.getfield 23, 3) := by decide +kernel
theorem dX1_move_41 : decode cX1_move 41 = .ok (.iload_n 1, 1) := by decide +kernel
theorem dX1_move_42 : decode cX1_move 42 = .ok (.invokevirtual 49, 3) := by decide +kernel
theorem dX1_move_45 : decode cX1_move 45 = .ok (.invokevirtual 53, 3) := by decide +kernel
theorem dX1_move_48 : decode cX1_move 48 = .ok (.aload_n 0, 1) := by decide +kernel
theorem dX1_move_49 : decode cX1_move 49 = .ok (.getfield 26, 3) := by decide +kernel
theorem dX1_move_52 : decode cX1_move 52 = .ok (.iload_n 2, 1) := by decide +kernel
theorem dX1_move_53 : decode cX1_move 53 = .ok (.aload_n 0, 1) := by decide +kernel
theorem dX1_move_54 : decode cX1_move 54 = .ok (.getfield 26, 3) := by decide +kernel
theorem dX1_move_57 : decode cX1_move 57 = .ok (.iload_n 1, 1) := by decide +kernel
theorem dX1_move_58 : decode cX1_move 58 = .ok (.invokevirtual 49, 3) := by decide +kernel
theorem dX1_move_61 : decode cX1_move 61 = .ok (.invokevirtual 53, 3) := by decide +kernel
theorem dX1_move_64 : decode cX1_move 64 = .ok (.aload_n 0, 1) := by decide +kernel
theorem dX1_move_65 : decode cX1_move 65 = .ok (.getfield 29, 3) := by decide +kernel
theorem dX1_move_68 : decode cX1_move 68 = .ok (.iload_n 2, 1) := by decide +kernel
theorem dX1_move_69 : decode cX1_move 69 = .ok (.aload_n 0, 1) := by decide +kernel
theorem dX1_move_70 : decode cX1_move 70 = .ok (.getfield 29, 3) := by decide +kernel
theorem dX1_move_73 : decode cX1_move 73 = .ok (.iload_n 1, 1) := by decide +kernel
theorem dX1_move_74 : decode cX1_move 74 = .ok (.invokevirtual 49, 3) := by decide +kernel
theorem dX1_move_77 : decode cX1_move 77 = .ok (.invokevirtual 53, 3) := by decide +kernel
theorem dX1_move_80 : decode cX1_move 80 = .ok (.aload_n 0, 1) := by decide +kernel
theorem dX1_move_81 : decode cX1_move 81 = .ok (.getfield 32, 3) := by decide +kernel
theorem dX1_move_84 : decode cX1_move 84 = .ok (.iload_n 2, 1) := by decide +kernel
theorem dX1_move_85 : decode cX1_move 85 = .ok (.aload_n 0, 1) := by decide +kernel
theorem dX1_move_86 : decode cX1_move 86 = .ok (.getfield 32, 3) := by decide +kernel
theorem dX1_move_89 : decode cX1_move 89 = .ok (.iload_n 1, 1) := by decide +kernel
theorem dX1_move_90 : decode cX1_move 90 = .ok (.invokevirtual 49, 3) := by decide +kernel
theorem dX1_move_93 : decode cX1_move 93 = .ok (.invokevirtual 53, 3) := by decide +kernel
theorem dX1_move_96 : decode cX1_move 96 = .ok (.aload_n 0, 1) := by decide +kernel
theorem dX1_move_97 : decode cX1_move 97 = .ok (.getfield 35, 3) := by decide +kernel
theorem dX1_move_100 : decode cX1_move 100 = .ok (.iload_n 2, 1) := by decide +kernel
theorem dX1_move_101 : decode cX1_move 101 = .ok (.aload_n 0, 1) := by decide +kernel
theorem dX1_move_102 : decode cX1_move 102 = .ok (.getfield 35, 3) := by decide +kernel
theorem dX1_move_105 : decode cX1_move 105 = .ok (.iload_n 1, 1) := by decide +kernel
theorem dX1_move_106 : decode cX1_move 106 = .ok (.invokevirtual 49, 3) := by decide +kernel
theorem dX1_move_109 : decode cX1_move 109 = .ok (.invokevirtual 53, 3) := by decide +kernel
theorem dX1_move_112 : decode cX1_move 112 = .ok (.aload_n 0, 1) := by decide +kernel
theorem dX1_move_113 : decode cX1_move 113 = .ok (.getfield 38, 3) := by decide +kernel
theorem dX1_move_116 : decode cX1_move 116 = .ok (.iload_n 2, 1) := by decide +kernel
theorem dX1_move_117 : decode cX1_move 117 = .ok (.aload_n 0, 1) := by decide +kernel
theorem dX1_move_118 : decode cX1_move 118 = .ok (.getfield 38, 3) := by decide +kernel
theorem dX1_move_121 : decode cX1_move 121 = .ok (.iload_n 1, 1) := by decide +kernel
theorem dX1_move_122 : decode cX1_move 122 = .ok (.invokevirtual 49, 3) := by decide +kernel
theorem dX1_move_125 : decode cX1_move 125 = .ok (.invokevirtual 53, 3) := by decide +kernel
theorem dX1_move_128 : decode cX1_move 128 = .ok (.return_, 1) := by decide +kernel
set_option maxRecDepth 20000 in
theorem ggX2_init_X7_init : GoodIn wsX2_init wsX7_init := goodIn_r _ [9, 10, 2, 3, 11, 12, 13, 14, 15, 16, 17, 18, 19, 20, 21, 22, 23, 24, 25, 26, 27, 28, 29, 30, 31, 32, 33, 34, 35, 36, 37, 38, 39, 40, 41, 42, 43, 44, 45, 46, 47, 48, 49, 50, 51, 52, 53, 54, 55, 56, 57, 58, 59, 60, 61, 62, 63, 64, 65, 66, 67, 68, 69, 70, 71, 72, 73, 74, 75, 76, 77, 78, 79, 80, 81, 82, 83, 101, 102, 103, 104, 105, 106, 87, 88, 89, 90, 91, 92, 93, 94, 95, 96, 97, 98, 99, 100, 107, 108, 109, 110, 111, 112, 113, 114, 115, 116, 117, 118, 119, 120, 121, 122, 123, 124, 125, 126] (by decide +kernel) (by decide +kernel)
set_option maxRecDepth 20000 in
theorem gX2_init_X7_init_n17 : GoodIn wsX2_init (wsX7_init) := ggX2_init_X7_init
theorem dX2_init_0 : decode cX2_init 0 = .ok (.aload_n 0, 1) := by decide +kernel
theorem dX2_init_1 : decode cX2_init 1 = .ok (.invokespecial 3, 3) := by decide +kernel
theorem dX2_init_4 : decode cX2_init 4 = .ok (.aload_n 0, 1) := by decide +kernel
theorem dX2_init_5 : decode cX2_init 5 = .ok (.iconst 4, 1) := by decide +kernel
theorem dX2_init_6 : decode cX2_init 6 = .ok (.anewarray 9, 3) := by decide +kernel
theorem dX2_init_9 : decode cX2_init 9 = .ok (.putfield 11, 3) := by decide +kernel
theorem dX2_init_12 : decode cX2_init 12 = .ok (.iconst 0, 1) := by decide +kernel
theorem dX2_init_13 : decode cX2_init 13 = .ok (.istore_n 1, 1) := by decide +kernel
theorem dX2_init_14 : decode cX2_init 14 = .ok (.iload_n 1, 1) := by decide +kernel
theorem dX2_init_15 : decode cX2_init 15 = .ok (.aload_n 0, 1) := by decide +kernel
theorem dX2_init_16 : decode cX2_init 16 = .ok (.getfield 11, 3) := by decide +kernel
theorem dX2_init_19 : decode cX2_init 19 = .ok (.arraylength, 1) := by decide +kernel
theorem dX2_init_20 : decode cX2_init 20 = .ok (.if_icmp .ge 22, 3) := by decide +kernel
theorem dX2_init_23 : decode cX2_init 23 = .ok (.aload_n 0, 1) := by decide +kernel
theorem dX2_init_24 : decode cX2_init 24 = .ok (.getfield 11, 3) := by decide +kernel
theorem dX2_init_27 : decode cX2_init 27 = .ok (.iload_n 1, 1) := by decide +kernel
theorem dX2_init_28 : decode cX2_init 28 = .ok (.new 9, 3) := by decide +kernel
theorem dX2_init_31 : decode cX2_init 31 = .ok (.dup, 1) := by decide +kernel
theorem dX2_init_32 : decode cX2_init 32 = .ok (.invokespecial 17, 3) := by decide +kernel
theorem dX2_init_35 : decode cX2_init 35 = .ok (.aastore, 1) := by decide +kernel
theorem dX2_init_36 : decode cX2_init 36 = .ok (.iinc 1 1, 3) := by decide +kernel
theorem dX2_init_39 : decode cX2_init 39 = .ok (.goto (-25), 3) := by decide +kernel
theorem dX2_init_42 : decode cX2_init 42 = .ok (.return_, 1) := by decide +kernel
theorem dX2_size_0 : decode cX2_size 0 = .ok (.aload_n 0, 1) := by decide +kernel
theorem dX2_size_1 : decode cX2_size 1 = .ok (.getfield 18, 3) := by decide +kernel
theorem dX2_size_4 : decode cX2_size 4 = .ok (.ireturn, 1) := by decide +kernel
set_option maxRecDepth 20000 in
theorem ggX2_save_X2_slotAt : GoodIn wsX2_save wsX2_slotAt := goodIn_r _ [7, 2, 8, 91, 92, 93] (by decide +kernel) (by decide +kernel)
set_option maxRecDepth 20000 in
theorem gX2_save_X2_slotAt : GoodIn wsX2_save (wsV RX2 22 RX2 yX2_slotAt wsX2_slotAt) := goodIn_app (goodIn_of _ (by decide +kernel)) ggX2_save_X2_slotAt
set_option maxRecDepth 20000 in
theorem ggX2_save_X7_copyFrom : GoodIn wsX2_save wsX7_copyFrom := goodIn_r _ [13, 14, 15, 16, 17, 18, 19, 20, 21, 22, 23, 24, 25, 26, 27, 28, 29, 30, 31, 32, 33, 34, 35, 36, 37, 38, 39, 40, 41, 42, 43, 44, 45, 46, 47, 48, 49, 50, 51, 52, 53, 54, 55, 56, 57, 58, 59, 60, 61, 62, 63, 64, 65, 66, 67, 68, 69, 70, 71, 72, 73, 74, 75, 76, 77, 78, 79, 80, 81, 82, 83, 84, 85, 86, 87, 88, 89, 90, 94, 95, 96, 97, 98, 99, 100, 101, 102, 103, 104, 105, 106, 107, 108, 109, 110, 111, 112, 113, 114, 115, 116, 117, 118, 119, 120, 121, 122, 123, 124, 125, 126, 127, 128, 129, 130, 131, 132, 133] (by decide +kernel) (by decide +kernel)
set_option maxRecDepth 20000 in
theorem gX2_save_X7_copyFrom : GoodIn wsX2_save (wsV RX2 26 RX7 yX7_copyFrom wsX7_copyFrom) := goodIn_app (goodIn_of _ (by decide +kernel)) ggX2_save_X7_copyFrom
theorem dX2_save_0 : decode cX2_save 0 = .ok (.aload_n 0, 1) := by decide +kernel
theorem dX2_save_1 : decode cX2_save 1 = .ok (.aload_n 0, 1) := by decide +kernel
theorem dX2_save_2 : decode cX2_save 2 = .ok (.getfield 18, 3) := by decide +kernel
theorem dX2_save_5 : decode cX2_save 5 = .ok (.invokevirtual 22, 3) := by decide +kernel
theorem dX2_save_8 : decode cX2_save 8 = .ok (.astore_n 2, 1) := by decide +kernel
theorem dX2_save_9 : decode cX2_save 9 = .ok (.aload_n 2, 1) := by decide +kernel
theorem dX2_save_10 : decode cX2_save 10 = .ok (.ifnull 8, 3) := by decide +kernel
theorem dX2_save_13 : decode cX2_save 13 = .ok (.aload_n 2, 1) := by decide +kernel
theorem dX2_save_14 : decode cX2_save 14 = .ok (.aload_n 1, 1) := by decide +kernel
theorem dX2_save_15 : decode cX2_save 15 = .ok (.invokevirtual 26, 3) := by decide +kernel
theorem dX2_save_18 : decode cX2_save 18 = .ok (.aload_n 0, 1) := by decide +kernel
theorem dX2_save_19 : decode cX2_save 19 = .ok (.getfield 18, 3) := by decide +kernel
theorem dX2_save_22 : decode cX2_save 22 = .ok (.iconst 4, 1) := by decide +kernel
theorem dX2_save_23 : decode cX2_save 23 = .ok (.if_icmp .ge 16, 3) := by decide +kernel
theorem dX2_save_26 : decode cX2_save 26 = .ok (.aload_n 0, 1) := by decide +kernel
theorem dX2_save_27 : decode cX2_save 27 = .ok (.dup, 1) := by decide +kernel
theorem dX2_save_28 : decode cX2_save 28 = .ok (.getfield 18, 3) := by decide +kernel
theorem dX2_save_31 : decode cX2_save 31 = .ok (.iconst 1, 1) := by decide +kernel
theorem dX2_save_32 : decode cX2_save 32 = .ok (.iadd, 1) := by decide +kernel
theorem dX2_save_33 : decode cX2_save 33 = .ok (.putfield 18, 3) := by decide +kernel
theorem dX2_save_36 : decode cX2_save 36 = .ok (.goto 15, 3) := by decide +kernel
theorem dX2_save_39 : decode cX2_save 39 = .ok (.aload_n 0, 1) := by decide +kernel
theorem dX2_save_40 : decode cX2_save 40 = .ok (.aload_n 0, 1) := by decide +kernel
theorem dX2_save_41 : decode cX2_save 41 = .ok (.getfield 30, 3) := by decide +kernel
theorem dX2_save_44 : decode cX2_save 44 = .ok (.iconst 1, 1) := by decide +kernel
theorem dX2_save_45 : decode cX2_save 45 = .ok (.iadd, 1) := by decide +kernel
theorem dX2_save_46 : decode cX2_save 46 = .ok (.iconst 4, 1) := by decide +kernel
theorem dX2_save_47 : decode cX2_save 47 = .ok (.irem, 1) := by decide +kernel
theorem dX2_save_48 : decode cX2_save 48 = .ok (.putfield 30, 3) := by decide +kernel
theorem dX2_save_51 : decode cX2_save 51 = .ok (.return_, 1) := by decide +kernel
set_option maxRecDepth 20000 in
theorem ggX2_restoreTo_X2_slotAt : GoodIn wsX2_restoreTo wsX2_slotAt := goodIn_r _ [6, 7, 8, 91, 92, 93] (by decide +kernel) (by decide +kernel)
set_option maxRecDepth 20000 in
theorem gX2_restoreTo_X2_slotAt : GoodIn wsX2_restoreTo (wsV RX2 22 RX2 yX2_slotAt wsX2_slotAt) := goodIn_app (goodIn_of _ (by decide +kernel)) ggX2_restoreTo_X2_slotAt
set_option maxRecDepth 20000 in
theorem ggX2_restoreTo_X7_copyFrom : GoodIn wsX2_restoreTo wsX7_copyFrom := goodIn_r _ [13, 14, 15, 16, 17, 18, 19, 20, 21, 22, 23, 24, 25, 26, 27, 28, 29, 30, 31, 32, 33, 34, 35, 36, 37, 38, 39, 40, 41, 42, 43, 44, 45, 46, 47, 48, 49, 50, 51, 52, 53, 54, 55, 56, 57, 58, 59, 60, 61, 62, 63, 64, 65, 66, 67, 68, 69, 70, 71, 72, 73, 74, 75, 76, 77, 78, 79, 80, 81, 82, 83, 84, 85, 86, 87, 88, 89, 90, 94, 95, 96, 97, 98, 99, 100, 101, 102, 103, 104, 105, 106, 107, 108, 109, 110, 111, 112, 113, 114, 115, 116, 117, 118, 119, 120, 121, 122, 123, 124, 125, 126, 127, 128, 129, 130, 131, 132, 133] (by decide +kernel) (by decide +kernel)
set_option maxRecDepth 20000 in
theorem gX2_restoreTo_X7_copyFrom : GoodIn wsX2_restoreTo (wsV RX2 26 RX7 yX7_copyFrom wsX7_copyFrom) := goodIn_app (goodIn_of _ (by decide +kernel)) ggX2_restoreTo_X7_copyFrom
theorem dX2_restoreTo_0 : decode cX2_restoreTo 0 = .ok (.aload_n 0, 1) := by decide +kernel
theorem dX2_restoreTo_1 : decode cX2_restoreTo 1 = .ok (.getfield 18, 3) := by decide +kernel
theorem dX2_restoreTo_4 : decode cX2_restoreTo 4 = .ok (.ifCond .le 29, 3) := by decide +kernel
theorem dX2_restoreTo_7 : decode cX2_restoreTo 7 = .ok (.aload_n 1, 1) := by decide +kernel
theorem dX2_restoreTo_8 : decode cX2_restoreTo 8 = .ok (.ifnull 25, 3) := by decide +kernel
theorem dX2_restoreTo_11 : decode cX2_restoreTo 11 = .ok (.aload_n 0, 1) := by decide +kernel
theorem dX2_restoreTo_12 : decode cX2_restoreTo 12 = .ok (.dup, 1) := by decide +kernel
theorem dX2_restoreTo_13 : decode cX2_restoreTo 13 = .ok (.getfield 18, 3) := by decide +kernel
theorem dX2_restoreTo_16 : decode cX2_restoreTo 16 = .ok (.iconst 1, 1) := by decide +kernel
theorem dX2_restoreTo_17 : decode cX2_restoreTo 17 = .ok (.isub, 1) := by decide +kernel
theorem dX2_restoreTo_18 : decode cX2_restoreTo 18 = .ok (.putfield 18, 3) := by decide +kernel
theorem dX2_restoreTo_21 : decode cX2_restoreTo 21 = .ok (.aload_n 1, 1) := by decide +kernel
theorem dX2_restoreTo_22 : decode cX2_restoreTo 22 = .ok (.aload_n 0, 1) := by decide +kernel
theorem dX2_restoreTo_23 : decode cX2_restoreTo 23 = .ok (.aload_n 0, 1) := by decide +kernel
theorem dX2_restoreTo_24 : decode cX2_restoreTo 24 = .ok (.getfield 18, 3) := by decide +kernel
theorem dX2_restoreTo_27 : decode cX2_restoreTo 27 = .ok (.invokevirtual 22, 3) := by decide +kernel
theorem dX2_restoreTo_30 : decode cX2_restoreTo 30 = .ok (.invokevirtual 26, 3) := by decide +kernel
theorem dX2_restoreTo_33 : decode cX2_restoreTo 33 = .ok (.return_, 1) := by decide +kernel
theorem dX2_slotAt_0 : decode cX2_slotAt 0 = .ok (.aload_n 0, 1) := by decide +kernel
theorem dX2_slotAt_1 : decode cX2_slotAt 1 = .ok (.getfield 30, 3) := by decide +kernel
theorem dX2_slotAt_4 : decode cX2_slotAt 4 = .ok (.iload_n 1, 1) := by decide +kernel
theorem dX2_slotAt_5 : decode cX2_slotAt 5 = .ok (.iadd, 1) := by decide +kernel
theorem dX2_slotAt_6 : decode cX2_slotAt 6 = .ok (.iconst 4, 1) := by decide +kernel
theorem dX2_slotAt_7 : decode cX2_slotAt 7 = .ok (.irem, 1) := by decide +kernel
theorem dX2_slotAt_8 : decode cX2_slotAt 8 = .ok (.istore_n 2, 1) := by decide +kernel
theorem dX2_slotAt_9 : decode cX2_slotAt 9 = .ok (.iload_n 2, 1) := by decide +kernel
theorem dX2_slotAt_10 : decode cX2_slotAt 10 = .ok (.ifCond .lt 21, 3) := by decide +kernel
theorem dX2_slotAt_13 : decode cX2_slotAt 13 = .ok (.iload_n 2, 1) := by decide +kernel
theorem dX2_slotAt_14 : decode cX2_slotAt 14 = .ok (.aload_n 0, 1) := by decide +kernel
theorem dX2_slotAt_15 : decode cX2_slotAt 15 = .ok (.getfield 11, 3) := by decide +kernel
theorem dX2_slotAt_18 : decode cX2_slotAt 18 = .ok (.arraylength, 1) := by decide +kernel
theorem dX2_slotAt_19 : decode cX2_slotAt 19 = .ok (.if_icmp .ge 12, 3) := by decide +kernel
theorem dX2_slotAt_22 : decode cX2_slotAt 22 = .ok (.aload_n 0, 1) := by decide +kernel
theorem dX2_slotAt_23 : decode cX2_slotAt 23 = .ok (.getfield 11, 3) := by decide +kernel
theorem dX2_slotAt_26 : decode cX2_slotAt 26 = .ok (.iload_n 2, 1) := by decide +kernel
theorem dX2_slotAt_27 : decode cX2_slotAt 27 = .ok (.aaload, 1) := by decide +kernel
theorem dX2_slotAt_28 : decode cX2_slotAt 28 = .ok (.goto 4, 3) := by decide +kernel
theorem dX2_slotAt_31 : decode cX2_slotAt 31 = .ok (.aconst_null, 1) := by decide +kernel
theorem dX2_slotAt_32 : decode cX2_slotAt 32 = .ok (.areturn, 1) := by decide +kernel
set_option maxRecDepth 20000 in
theorem ggX3_init_X6_init : GoodIn wsX3_init wsX6_init := goodIn_r _ [15, 16, 2, 3, 17, 18, 19] (by decide +kernel) (by decide +kernel)
set_option maxRecDepth 20000 in
theorem gX3_init_X6_init : GoodIn wsX3_init (wsX6_init) := ggX3_init_X6_init
theorem dX3_init_0 : decode cX3_init 0 = .ok (.aload_n 0, 1) := by decide +kernel
theorem dX3_init_1 : decode cX3_init 1 = .ok (.invokespecial 3, 3) := by decide +kernel
theorem dX3_init_4 : decode cX3_init 4 = .ok (.aload_n 0, 1) := by decide +kernel
theorem dX3_init_5 : decode cX3_init 5 = .ok (.new 9, 3) := by decide +kernel
theorem dX3_init_8 : decode cX3_init 8 = .ok (.dup, 1) := by decide +kernel
theorem dX3_init_9 : decode cX3_init 9 = .ok (.bipush 8, 2) := by decide +kernel
theorem dX3_init_11 : decode cX3_init 11 = .ok (.invokespecial 11, 3) := by decide +kernel
theorem dX3_init_14 : decode cX3_init 14 = .ok (.putfield 14, 3) := by decide +kernel
theorem dX3_init_17 : decode cX3_init 17 = .ok (.aload_n 0, 1) := by decide +kernel
theorem dX3_init_18 : decode cX3_init 18 = .ok (.new 9, 3) := by decide +kernel
theorem dX3_init_21 : decode cX3_init 21 = .ok (.dup, 1) := by decide +kernel
theorem dX3_init_22 : decode cX3_init 22 = .ok (.bipush 8, 2) := by decide +kernel
theorem dX3_init_24 : decode cX3_init 24 = .ok (.invokespecial 11, 3) := by decide +kernel
theorem dX3_init_27 : decode cX3_init 27 = .ok (.putfield 20, 3) := by decide +kernel
theorem dX3_init_30 : decode cX3_init 30 = .ok (.aload_n 0, 1) := by decide +kernel
theorem dX3_init_31 : decode cX3_init 31 = .ok (.new 9, 3) := by decide +kernel
theorem dX3_init_34 : decode cX3_init 34 = .ok (.dup, 1) := by decide +kernel
theorem dX3_init_35 : decode cX3_init 35 = .ok (.bipush 8, 2) := by decide +kernel
theorem dX3_init_37 : decode cX3_init 37 = .ok (.invokespecial 11, 3) := by decide +kernel
theorem dX3_init_40 : decode cX3_init 40 = .ok (.putfield 23, 3) := by decide +kernel
theorem dX3_init_43 : decode cX3_init 43 = .ok (.aload_n 0, 1) := by decide +kernel
theorem dX3_init_44 : decode cX3_init 44 = .ok (.new 9, 3) := by decide +kernel
theorem dX3_init_47 : decode cX3_init 47 = .ok (.dup, 1) := by decide +kernel
theorem dX3_init_48 : decode cX3_init 48 = .ok (.bipush 8, 2) := by decide +kernel
theorem dX3_init_50 : decode cX3_init 50 = .ok (.invokespecial 11, 3) := by decide +kernel
theorem dX3_init_53 : decode cX3_init 53 = .ok (.putfield 26, 3) := by decide +kernel
theorem dX3_init_56 : decode cX3_init 56 = .ok (.aload_n 0, 1) := by decide +kernel
theorem dX3_init_57 : decode cX3_init 57 = .ok (.new 9, 3) := by decide +kernel
theorem dX3_init_60 : decode cX3_init 60 = .ok (.dup, 1) := by decide +kernel
theorem dX3_init_61 : decode cX3_init 61 = .ok (.bipush 8, 2) := by decide +kernel
theorem dX3_init_63 : decode cX3_init 63 = .ok (.invokespecial 11, 3) := by decide +kernel
theorem dX3_init_66 : decode cX3_init 66 = .ok (.putfield 29, 3) := by decide +kernel
theorem dX3_init_69 : decode cX3_init 69 = .ok (.aload_n 0, 1) := by decide +kernel
theorem dX3_init_70 : decode cX3_init 70 = .ok (.new 9, 3) := by decide +kernel
theorem dX3_init_73 : decode cX3_init 73 = .ok (.dup, 1) := by decide +kernel
theorem dX3_init_74 : decode cX3_init 74 = .ok (.bipush 8, 2) := by decide +kernel
theorem dX3_init_76 : decode cX3_init 76 = .ok (.invokespecial 11, 3) := by decide +kernel
theorem dX3_init_79 : decode cX3_init 79 = .ok (.putfield 32, 3) := by decide +kernel
theorem dX3_init_82 : decode cX3_init 82 = .ok (.return_, 1) := by decide +kernel
set_option maxRecDepth 20000 in
theorem ggX3_copyFrom_X6_copyFrom : GoodIn wsX3_copyFrom wsX6_copyFrom := goodIn_r _ [12, 13, 14, 15, 16, 17, 18, 19, 20, 21, 29] (by decide +kernel) (by decide +kernel)
set_option maxRecDepth 20000 in
theorem gX3_copyFrom_X6_copyFrom : GoodIn wsX3_copyFrom (wsV RX3 39 RX6 yX6_copyFrom wsX6_copyFrom) := goodIn_app (goodIn_of _ (by decide +kernel)) ggX3_copyFrom_X6_copyFrom
theorem dX3_copyFrom_0 : decode cX3_copyFrom 0 = .ok (.aload_n 1, 1) := by decide +kernel
theorem dX3_copyFrom_1 : decode cX3_copyFrom 1 = .ok (.ifnull 77, 3) := by decide +kernel
theorem dX3_copyFrom_4 : decode cX3_copyFrom 4 = .ok (.aload_n 0, 1) := by decide +kernel
theorem dX3_copyFrom_5 : decode cX3_copyFrom 5 = .ok (.aload_n 1, 1) := by decide +kernel
theorem dX3_copyFrom_6 : decode cX3_copyFrom 6 = .ok (.getfield 35, 3) := by decide +kernel
theorem dX3_copyFrom_9 : decode cX3_copyFrom 9 = .ok (.putfield 35, 3) := by decide +kernel
theorem dX3_copyFrom_12 : decode cX3_copyFrom 12 = .ok (.aload_n 0, 1) := by decide +kernel
theorem dX3_copyFrom_13 : decode cX3_copyFrom 13 = .ok (.getfield 14, 3) := by decide +kernel
theorem dX3_copyFrom_16 : decode cX3_copyFrom 16 = .ok (.aload_n 1, 1) := by decide +kernel
theorem dX3_copyFrom_17 : decode cX3_copyFrom 17 = .ok (.getfield 14, 3) := by decide +kernel
theorem dX3_copyFrom_20 : decode cX3_copyFrom 20 = .ok (.invokevirtual 39, 3) := by decide +kernel
theorem dX3_copyFrom_23 : decode cX3_copyFrom 23 = .ok (.aload_n 0, 1) := by decide +kernel
theorem dX3_copyFrom_24 : decode cX3_copyFrom 24 = .ok (.getfield 20, 3) := by decide +kernel
theorem dX3_copyFrom_27 : decode cX3_copyFrom 27 = .ok (.aload_n 1, 1) := by decide +kernel
theorem dX3_copyFrom_28 : decode cX3_copyFrom 28 = .ok (.getfield 20, 3) := by decide +kernel
theorem dX3_copyFrom_31 : decode cX3_copyFrom 31 = .ok (.invokevirtual 39, 3) := by decide +kernel
theorem dX3_copyFrom_34 : decode cX3_copyFrom 34 = .ok (.aload_n 0, 1) := by decide +kernel
theorem dX3_copyFrom_35 : decode cX3_copyFrom 35 = .ok (.getfield 23, 3) := by decide +kernel
theorem dX3_copyFrom_38 : decode cX3_copyFrom 38 = .ok (.aload_n 1, 1) := by decide +kernel
theorem dX3_copyFrom_39 : decode cX3_copyFrom 39 = .ok (.getfield 23, 3) := by decide +kernel
theorem dX3_copyFrom_42 : decode cX3_copyFrom 42 = .ok (.invokevirtual 39, 3) := by decide +kernel
theorem dX3_copyFrom_45 : decode cX3_copyFrom 45 = .ok (.aload_n 0, 1) := by decide +kernel
theorem dX3_copyFrom_46 : decode cX3_copyFrom 46 = .ok (.getfield 26, 3) := by decide +kernel
theorem dX3_copyFrom_49 : decode cX3_copyFrom 49 = .ok (.aload_n 1, 1) := by decide +kernel
theorem dX3_copyFrom_50 : decode cX3_copyFrom 50 = .ok (.getfield 26, 3) := by decide +kernel
theorem dX3_copyFrom_53 : decode cX3_copyFrom 53 = .ok (.invokevirtual 39, 3) := by decide +kernel
theorem dX3_copyFrom_56 : decode cX3_copyFrom 56 = .ok (.aload_n 0, 1) := by decide +kernel
theorem dX3_copyFrom_57 : decode cX3_copyFrom 57 = .ok (.getfield 29, 3) := by decide +kernel
theorem dX3_copyFrom_60 : decode cX3_copyFrom 60 = .ok (.aload_n 1, 1) := by decide +kernel
theorem dX3_copyFrom_61 : decode cX3_copyFrom 61 = .ok (.getfield 29, 3) := by decide +kernel
theorem dX3_copyFrom_64 : decode cX3_copyFrom 64 = .ok (.invokevirtual 39, 3) := by decide +kernel
theorem dX3_copyFrom_67 : decode cX3_copyFrom 67 = .ok (.aload_n 0, 1) := by decide +kernel
theorem dX3_copyFrom_68 : decode cX3_copyFrom 68 = .ok (.getfield 32, 3) := by decide +kernel
theorem dX3_copyFrom_71 : decode cX3_copyFrom 71 = .ok (.aload_n 1, 1) := by decide +kernel
theorem dX3_copyFrom_72 : decode cX3_copyFrom 72 = .ok (.getfield 32, 3) := by decide +kernel
theorem dX3_copyFrom_75 : decode cX3_copyFrom 75 = .ok (.invokevirtual 39, 3) := by decide +kernel
theorem dX3_copyFrom_78 : decode cX3_copyFrom 78 = .ok (.return_, 1) := by decide +kernel
set_option maxRecDepth 20000 in
theorem ggX4_init_X6_init : GoodIn wsX4_init wsX6_init := goodIn_r _ [14, 15, 2, 3, 16, 17, 18] (by decide +kernel) (by decide +kernel)
set_option maxRecDepth 20000 in
theorem gX4_init_X6_init : GoodIn wsX4_init (wsX6_init) := ggX4_init_X6_init
theorem dX4_init_0 : decode cX4_init 0 = .ok (.aload_n 0, 1) := by decide +kernel
theorem dX4_init_1 : decode cX4_init 1 = .ok (.invokespecial 3, 3) := by decide +kernel
theorem dX4_init_4 : decode cX4_init 4 = .ok (.aload_n 0, 1) := by decide +kernel
theorem dX4_init_5 : decode cX4_init 5 = .ok (.new 9, 3) := by decide +kernel
theorem dX4_init_8 : decode cX4_init 8 = .ok (.dup, 1) := by decide +kernel
theorem dX4_init_9 : decode cX4_init 9 = .ok (.iconst 5, 1) := by decide +kernel
theorem dX4_init_10 : decode cX4_init 10 = .ok (.invokespecial 11, 3) := by decide +kernel
theorem dX4_init_13 : decode cX4_init 13 = .ok (.putfield 14, 3) := by decide +kernel
theorem dX4_init_16 : decode cX4_init 16 = .ok (.aload_n 0, 1) := by decide +kernel
theorem dX4_init_17 : decode cX4_init 17 = .ok (.new 9, 3) := by decide +kernel
theorem dX4_init_20 : decode cX4_init 20 = .ok (.dup, 1) := by decide +kernel
theorem dX4_init_21 : decode cX4_init 21 = .ok (.iconst 5, 1) := by decide +kernel
theorem dX4_init_22 : decode cX4_init 22 = .ok (.invokespecial 11, 3) := by decide +kernel
theorem dX4_init_25 : decode cX4_init 25 = .ok (.putfield 20, 3) := by decide +kernel
theorem dX4_init_28 : decode cX4_init 28 = .ok (.aload_n 0, 1) := by decide +kernel
theorem dX4_init_29 : decode cX4_init 29 = .ok (.new 9, 3) := by decide +kernel
theorem dX4_init_32 : decode cX4_init 32 = .ok (.dup, 1) := by decide +kernel
theorem dX4_init_33 : decode cX4_init 33 = .ok (.iconst 5, 1) := by decide +kernel
theorem dX4_init_34 : decode cX4_init 34 = .ok (.invokespecial 11, 3) := by decide +kernel
theorem dX4_init_37 : decode cX4_init 37 = .ok (.putfield 23, 3) := by decide +kernel
theorem dX4_init_40 : decode cX4_init 40 = .ok (.aload_n 0, 1) := by decide +kernel
theorem dX4_init_41 : decode cX4_init 41 = .ok (.new 9, 3) := by decide +kernel
theorem dX4_init_44 : decode cX4_init 44 = .ok (.dup, 1) := by decide +kernel
theorem dX4_init_45 : decode cX4_init 45 = .ok (.iconst 5, 1) := by decide +kernel
theorem dX4_init_46 : decode cX4_init 46 = .ok (.invokespecial 11, 3) := by decide +kernel
theorem dX4_init_49 : decode cX4_init 49 = .ok (.putfield 26, 3) := by decide +kernel
theorem dX4_init_52 : decode cX4_init 52 = .ok (.aload_n 0, 1) := by decide +kernel
theorem dX4_init_53 : decode cX4_init 53 = .ok (.new 9, 3) := by decide +kernel
theorem dX4_init_56 : decode cX4_init 56 = .ok (.dup, 1) := by decide +kernel
theorem dX4_init_57 : decode cX4_init 57 = .ok (.iconst 5, 1) := by decide +kernel
theorem dX4_init_58 : decode cX4_init 58 = .ok (.invokespecial 11, 3) := by decide +kernel
theorem dX4_init_61 : decode cX4_init 61 = .ok (.putfield 29, 3) := by decide +kernel
theorem dX4_init_64 : decode cX4_init 64 = .ok (.return_, 1) := by decide +kernel
set_option maxRecDepth 20000 in
theorem ggX4_copyFrom_X6_copyFrom : GoodIn wsX4_copyFrom wsX6_copyFrom := goodIn_r _ [11, 12, 13, 14, 15, 16, 17, 18, 19, 20, 27] (by decide +kernel) (by decide +kernel)
set_option maxRecDepth 20000 in
theorem gX4_copyFrom_X6_copyFrom : GoodIn wsX4_copyFrom (wsV RX4 36 RX6 yX6_copyFrom wsX6_copyFrom) := goodIn_app (goodIn_of _ (by decide +kernel)) ggX4_copyFrom_X6_copyFrom
theorem dX4_copyFrom_0 : decode cX4_copyFrom 0 = .ok (.aload_n 1, 1) := by decide +kernel
theorem dX4_copyFrom_1 : decode cX4_copyFrom 1 = .ok (.ifnull 66, 3) := by decide +kernel
theorem dX4_copyFrom_4 : decode cX4_copyFrom 4 = .ok (.aload_n 0, 1) := by decide +kernel
theorem dX4_copyFrom_5 : decode cX4_copyFrom 5 = .ok (.aload_n 1, 1) := by decide +kernel
theorem dX4_copyFrom_6 : decode cX4_copyFrom 6 = .ok (.getfield 32, 3) := by decide +kernel
theorem dX4_copyFrom_9 : decode cX4_copyFrom 9 = .ok (.putfield 32, 3) := by decide +kernel
theorem dX4_copyFrom_12 : decode cX4_copyFrom 12 = .ok (.aload_n 0, 1) := by decide +kernel
theorem dX4_copyFrom_13 : decode cX4_copyFrom 13 = .ok (.getfield 14, 3) := by decide +kernel
theorem dX4_copyFrom_16 : decode cX4_copyFrom 16 = .ok (.aload_n 1, 1) := by decide +kernel
theorem dX4_copyFrom_17 : decode cX4_copyFrom 17 = .ok (.getfield 14, 3) := by decide +kernel
theorem dX4_copyFrom_20 : decode cX4_copyFrom 20 = .ok (.invokevirtual 36, 3) := by decide +kernel
theorem dX4_copyFrom_23 : decode cX4_copyFrom 23 = .ok (.aload_n 0, 1) := by decide +kernel
theorem dX4_copyFrom_24 : decode cX4_copyFrom 24 = .ok (.getfield 20, 3) := by decide +kernel
theorem dX4_copyFrom_27 : decode cX4_copyFrom 27 = .ok (.aload_n 1, 1) := by decide +kernel
theorem dX4_copyFrom_28 : decode cX4_copyFrom 28 = .ok (.getfield 20, 3) := by decide +kernel
theorem dX4_copyFrom_31 : decode cX4_copyFrom 31 = .ok (.invokevirtual 36, 3) := by decide +kernel
theorem dX4_copyFrom_34 : decode cX4_copyFrom 34 = .ok (.aload_n 0, 1) := by decide +kernel
theorem dX4_copyFrom_35 : decode cX4_copyFrom 35 = .ok (.getfield 23, 3) := by decide +kernel
theorem dX4_copyFrom_38 : decode cX4_copyFrom 38 = .ok (.aload_n 1, 1) := by decide +kernel
theorem dX4_copyFrom_39 : decode cX4_copyFrom 39 = .ok (.getfield 23, 3) := by decide +kernel
theorem dX4_copyFrom_42 : decode cX4_copyFrom 42 = .ok (.invokevirtual 36, 3) := by decide +kernel
theorem dX4_copyFrom_45 : decode cX4_copyFrom 45 = .ok (.aload_n 0, 1) := by decide +kernel
theorem dX4_copyFrom_46 : decode cX4_copyFrom 46 = .ok (.getfield 26, 3) := by decide +kernel
theorem dX4_copyFrom_49 : decode cX4_copyFrom 49 = .ok (.aload_n 1, 1) := by decide +kernel
theorem dX4_copyFrom_50 : decode cX4_copyFrom 50 = .ok (.getfield 26, 3) := by decide +kernel
theorem dX4_copyFrom_53 : decode cX4_copyFrom 53 = .ok (.invokevirtual 36, 3) := by decide +kernel
theorem dX4_copyFrom_56 : decode cX4_copyFrom 56 = .ok (.aload_n 0, 1) := by decide +kernel
theorem dX4_copyFrom_57 : decode cX4_copyFrom 57 = .ok (.getfield 29, 3) := by decide +kernel
theorem dX4_copyFrom_60 : decode cX4_copyFrom 60 = .ok (.aload_n 1, 1) := by decide +kernel
theorem dX4_copyFrom_61 : decode cX4_copyFrom 61 = .ok (.getfield 29, 3) := by decide +kernel
theorem dX4_copyFrom_64 : decode cX4_copyFrom 64 = .ok (.invokevirtual 36, 3) := by decide +kernel
theorem dX4_copyFrom_67 : decode cX4_copyFrom 67 = .ok (.return_, 1) := by decide +kernel
set_option maxRecDepth 20000 in
theorem ggX5_init_X6_init : GoodIn wsX5_init wsX6_init := goodIn_r _ [12, 13, 2, 3, 14, 15, 20] (by decide +kernel) (by decide +kernel)
set_option maxRecDepth 20000 in
theorem gX5_init_X6_init : GoodIn wsX5_init (wsX6_init) := ggX5_init_X6_init
set_option maxRecDepth 20000 in
theorem ggX5_init_X6_fill : GoodIn wsX5_init wsX6_fill := goodIn_r _ [19, 15, 20] (by decide +kernel) (by decide +kernel)
set_option maxRecDepth 20000 in
theorem gX5_init_X6_fill : GoodIn wsX5_init (wsV RX5 26 RX6 yX6_fill wsX6_fill) := goodIn_app (goodIn_of _ (by decide +kernel)) ggX5_init_X6_fill
theorem dX5_init_0 : decode cX5_init 0 = .ok (.aload_n 0, 1) := by decide +kernel
theorem dX5_init_1 : decode cX5_init 1 = .ok (.invokespecial 3, 3) := by decide +kernel
theorem dX5_init_4 : decode cX5_init 4 = .ok (.aload_n 0, 1) := by decide +kernel
theorem dX5_init_5 : decode cX5_init 5 = .ok (.new 9, 3) := by decide +kernel
theorem dX5_init_8 : decode cX5_init 8 = .ok (.dup, 1) := by decide +kernel
theorem dX5_init_9 : decode cX5_init 9 = .ok (.bipush 12, 2) := by decide +kernel
theorem dX5_init_11 : decode cX5_init 11 = .ok (.invokespecial 11, 3) := by decide +kernel
theorem dX5_init_14 : decode cX5_init 14 = .ok (.putfield 14, 3) := by decide +kernel
theorem dX5_init_17 : decode cX5_init 17 = .ok (.aload_n 0, 1) := by decide +kernel
theorem dX5_init_18 : decode cX5_init 18 = .ok (.new 9, 3) := by decide +kernel
theorem dX5_init_21 : decode cX5_init 21 = .ok (.dup, 1) := by decide +kernel
theorem dX5_init_22 : decode cX5_init 22 = .ok (.bipush 12, 2) := by decide +kernel
theorem dX5_init_24 : decode cX5_init 24 = .ok (.invokespecial 11, 3) := by decide +kernel
theorem dX5_init_27 : decode cX5_init 27 = .ok (.putfield 20, 3) := by decide +kernel
theorem dX5_init_30 : decode cX5_init 30 = .ok (.aload_n 0, 1) := by decide +kernel
theorem dX5_init_31 : decode cX5_init 31 = .ok (.new 9, 3) := by decide +kernel
theorem dX5_init_34 : decode cX5_init 34 = .ok (.dup, 1) := by decide +kernel
theorem dX5_init_35 : decode cX5_init 35 = .ok (.bipush 12, 2) := by decide +kernel
theorem dX5_init_37 : decode cX5_init 37 = .ok (.invokespecial 11, 3) := by decide +kernel
theorem dX5_init_40 : decode cX5_init 40 = .ok (.putfield 23, 3) := by decide +kernel
theorem dX5_init_43 : decode cX5_init 43 = .ok (.aload_n 0, 1) := by decide +kernel
theorem dX5_init_44 : decode cX5_init 44 = .ok (.getfield 14, 3) := by decide +kernel
theorem dX5_init_47 : decode cX5_init 47 = .ok (.iconst (-1), 1) := by decide +kernel
theorem dX5_init_48 : decode cX5_init 48 = .ok (.invokevirtual 26, 3) := by decide +kernel
theorem dX5_init_51 : decode cX5_init 51 = .ok (.return_, 1) := by decide +kernel
set_option maxRecDepth 20000 in
theorem ggX5_copyFrom_X6_copyFrom : GoodIn wsX5_copyFrom wsX6_copyFrom := goodIn_r _ [8, 9, 10, 11, 12, 13, 14, 15, 16, 17, 21] (by decide +kernel) (by decide +kernel)
set_option maxRecDepth 20000 in
theorem gX5_copyFrom_X6_copyFrom : GoodIn wsX5_copyFrom (wsV RX5 29 RX6 yX6_copyFrom wsX6_copyFrom) := goodIn_app (goodIn_of _ (by decide +kernel)) ggX5_copyFrom_X6_copyFrom
theorem dX5_copyFrom_0 : decode cX5_copyFrom 0 = .ok (.aload_n 1, 1) := by decide +kernel
theorem dX5_copyFrom_1 : decode cX5_copyFrom 1 = .ok (.ifnull 36, 3) := by decide +kernel
theorem dX5_copyFrom_4 : decode cX5_copyFrom 4 = .ok (.aload_n 0, 1) := by decide +kernel
theorem dX5_copyFrom_5 : decode cX5_copyFrom 5 = .ok (.getfield 14, 3) := by decide +kernel
theorem dX5_copyFrom_8 : decode cX5_copyFrom 8 = .ok (.aload_n 1, 1) := by decide +kernel
theorem dX5_copyFrom_9 : decode cX5_copyFrom 9 = .ok (.getfield 14, 3) := by decide +kernel
theorem dX5_copyFrom_12 : decode cX5_copyFrom 12 = .ok (.invokevirtual 29, 3) := by decide +kernel
theorem dX5_copyFrom_15 : decode cX5_copyFrom 15 = .ok (.aload_n 0, 1) := by decide +kernel
theorem dX5_copyFrom_16 : decode cX5_copyFrom 16 = .ok (.getfield 20, 3) := by decide +kernel
theorem dX5_copyFrom_19 : decode cX5_copyFrom 19 = .ok (.aload_n 1, 1) := by decide +kernel
theorem dX5_copyFrom_20 : decode cX5_copyFrom 20 = .ok (.getfield 20, 3) := by decide +kernel
theorem dX5_copyFrom_23 : decode cX5_copyFrom 23 = .ok (.invokevirtual 29, 3) := by decide +kernel
theorem dX5_copyFrom_26 : decode cX5_copyFrom 26 = .ok (.aload_n 0, 1) := by decide +kernel
theorem dX5_copyFrom_27 : decode cX5_copyFrom 27 = .ok (.getfield 23, 3) := by decide +kernel
theorem dX5_copyFrom_30 : decode cX5_copyFrom 30 = .ok (.aload_n 1, 1) := by decide +kernel
theorem dX5_copyFrom_31 : decode cX5_copyFrom 31 = .ok (.getfield 23, 3) := by decide +kernel
theorem dX5_copyFrom_34 : decode cX5_copyFrom 34 = .ok (.invokevirtual 29, 3) := by decide +kernel
theorem dX5_copyFrom_37 : decode cX5_copyFrom 37 = .ok (.return_, 1) := by decide +kernel
set_option maxRecDepth 20000 in
theorem ggX5_isFree_X6_at : GoodIn wsX5_isFree wsX6_at := goodIn_r _ [6, 7, 11] (by decide +kernel) (by decide +kernel)
set_option maxRecDepth 20000 in
theorem gX5_isFree_X6_at : GoodIn wsX5_isFree (wsV RX5 33 RX6 yX6_at wsX6_at) := goodIn_app (goodIn_of _ (by decide +kernel)) ggX5_isFree_X6_at
theorem dX5_isFree_0 : decode cX5_isFree 0 = .ok (.aload_n 0, 1) := by decide +kernel
theorem dX5_isFree_1 : decode cX5_isFree 1 = .ok (.getfield 14, 3) := by decide +kernel
theorem dX5_isFree_4 : decode cX5_isFree 4 = .ok (.iload_n 1, 1) := by decide +kernel
theorem dX5_isFree_5 : decode cX5_isFree 5 = .ok (.invokevirtual 33, 3) := by decide +kernel
theorem dX5_isFree_8 : decode cX5_isFree 8 = .ok (.iconst (-1), 1) := by decide +kernel
theorem dX5_isFree_9 : decode cX5_isFree 9 = .ok (.if_icmp .ne 7, 3) := by decide +kernel
theorem dX5_isFree_12 : decode cX5_isFree 12 = .ok (.iconst 1, 1) := by decide +kernel
theorem dX5_isFree_13 : decode cX5_isFree 13 = .ok (.goto 4, 3) := by decide +kernel
theorem dX5_isFree_16 : decode cX5_isFree 16 = .ok (.iconst 0, 1) := by decide +kernel
theorem dX5_isFree_17 : decode cX5_isFree 17 = .ok (.ireturn, 1) := by decide +kernel
set_option maxRecDepth 20000 in
theorem ggX5_countFree_X5_isFree : GoodIn wsX5_countFree wsX5_isFree := goodIn_r _ [5, 6, 7, 8, 9, 10, 11, 12, 13, 14, 15, 16] (by decide +kernel) (by decide +kernel)
set_option maxRecDepth 20000 in
theorem gX5_countFree_X5_isFree : GoodIn wsX5_countFree (wsV RX5 37 RX5 yX5_isFree wsX5_isFree) := goodIn_app (goodIn_of _ (by decide +kernel)) ggX5_countFree_X5_isFree
theorem dX5_countFree_0 : decode cX5_countFree 0 = .ok (.iconst 0, 1) := by decide +kernel
theorem dX5_countFree_1 : decode cX5_countFree 1 = .ok (.istore_n 1, 1) := by decide +kernel
theorem dX5_countFree_2 : decode cX5_countFree 2 = .ok (.iconst 0, 1) := by decide +kernel
theorem dX5_countFree_3 : decode cX5_countFree 3 = .ok (.istore_n 2, 1) := by decide +kernel
theorem dX5_countFree_4 : decode cX5_countFree 4 = .ok (.iload_n 2, 1) := by decide +kernel
theorem dX5_countFree_5 : decode cX5_countFree 5 = .ok (.bipush 12, 2) := by decide +kernel
theorem dX5_countFree_7 : decode cX5_countFree 7 = .ok (.if_icmp .ge 20, 3) := by decide +kernel
theorem dX5_countFree_10 : decode cX5_countFree 10 = .ok (.aload_n 0, 1) := by decide +kernel
theorem dX5_countFree_11 : decode cX5_countFree 11 = .ok (.iload_n 2, 1) := by decide +kernel
theorem dX5_countFree_12 : decode cX5_countFree 12 = .ok (.invokevirtual 37, 3) := by decide +kernel
theorem dX5_countFree_15 : decode cX5_countFree 15 = .ok (.ifCond .eq 6, 3) := by decide +kernel
theorem dX5_countFree_18 : decode cX5_countFree 18 = .ok (.iinc 1 1, 3) := by decide +kernel
theorem dX5_countFree_21 : decode cX5_countFree 21 = .ok (.iinc 2 1, 3) := by decide +kernel
theorem dX5_countFree_24 : decode cX5_countFree 24 = .ok (.goto (-20), 3) := by decide +kernel
theorem dX5_countFree_27 : decode cX5_countFree 27 = .ok (.iload_n 1, 1) := by decide +kernel
theorem dX5_countFree_28 : decode cX5_countFree 28 = .ok (.ireturn, 1) := by decide +kernel
set_option maxRecDepth 20000 in
theorem ggX5_putLoaf_X6_put : GoodIn wsX5_putLoaf wsX6_put := goodIn_r _ [8, 9, 13] (by decide +kernel) (by decide +kernel)
set_option maxRecDepth 20000 in
theorem gX5_putLoaf_X6_put : GoodIn wsX5_putLoaf (wsV RX5 41 RX6 yX6_put wsX6_put) := goodIn_app (goodIn_of _ (by decide +kernel)) ggX5_putLoaf_X6_put
theorem dX5_putLoaf_0 : decode cX5_putLoaf 0 = .ok (.aload_n 0, 1) := by decide +kernel
theorem dX5_putLoaf_1 : decode cX5_putLoaf 1 = .ok (.getfield 14, 3) := by decide +kernel
theorem dX5_putLoaf_4 : decode cX5_putLoaf 4 = .ok (.iload_n 1, 1) := by decide +kernel
theorem dX5_putLoaf_5 : decode cX5_putLoaf 5 = .ok (.iload_n 2, 1) := by decide +kernel
theorem dX5_putLoaf_6 : decode cX5_putLoaf 6 = .ok (.invokevirtual 41, 3) := by decide +kernel
theorem dX5_putLoaf_9 : decode cX5_putLoaf 9 = .ok (.aload_n 0, 1) := by decide +kernel
theorem dX5_putLoaf_10 : decode cX5_putLoaf 10 = .ok (.getfield 20, 3) := by decide +kernel
theorem dX5_putLoaf_13 : decode cX5_putLoaf 13 = .ok (.iload_n 1, 1) := by decide +kernel
theorem dX5_putLoaf_14 : decode cX5_putLoaf 14 = .ok (.iconst 0, 1) := by decide +kernel
theorem dX5_putLoaf_15 : decode cX5_putLoaf 15 = .ok (.invokevirtual 41, 3) := by decide +kernel
theorem dX5_putLoaf_18 : decode cX5_putLoaf 18 = .ok (.aload_n 0, 1) := by decide +kernel
theorem dX5_putLoaf_19 : decode cX5_putLoaf 19 = .ok (.getfield 23, 3) := by decide +kernel
theorem dX5_putLoaf_22 : decode cX5_putLoaf 22 = .ok (.iload_n 1, 1) := by decide +kernel
theorem dX5_putLoaf_23 : decode cX5_putLoaf 23 = .ok (.iconst 0, 1) := by decide +kernel
theorem dX5_putLoaf_24 : decode cX5_putLoaf 24 = .ok (.invokevirtual 41, 3) := by decide +kernel
theorem dX5_putLoaf_27 : decode cX5_putLoaf 27 = .ok (.return_, 1) := by decide +kernel
theorem dX6_init_0 : decode cX6_init 0 = .ok (.aload_n 0, 1) := by decide +kernel
theorem dX6_init_1 : decode cX6_init 1 = .ok (.invokespecial 1, 3) := by decide +kernel
theorem dX6_init_4 : decode cX6_init 4 = .ok (.aload_n 0, 1) := by decide +kernel
theorem dX6_init_5 : decode cX6_init 5 = .ok (.iload_n 1, 1) := by decide +kernel
theorem dX6_init_6 : decode cX6_init 6 = .ok (.ifCond .le 7, 3) := by decide +kernel
theorem dX6_init_9 : decode cX6_init 9 = .ok (.iload_n 1, 1) := by decide +kernel
theorem dX6_init_10 : decode cX6_init 10 = .ok (.goto 4, 3) := by decide +kernel
theorem dX6_init_13 : decode cX6_init 13 = .ok (.iconst 0, 1) := by decide +kernel
theorem dX6_init_14 : decode cX6_init 14 = .ok (.newarray .int, 2) := by decide +kernel
theorem dX6_init_16 : decode cX6_init 16 = .ok (.putfield 7, 3) := by decide +kernel
theorem dX6_init_19 : decode cX6_init 19 = .ok (.return_, 1) := by decide +kernel
theorem dX6_at_0 : decode cX6_at 0 = .ok (.iload_n 1, 1) := by decide +kernel
theorem dX6_at_1 : decode cX6_at 1 = .ok (.ifCond .lt 21, 3) := by decide +kernel
theorem dX6_at_4 : decode cX6_at 4 = .ok (.iload_n 1, 1) := by decide +kernel
theorem dX6_at_5 : decode cX6_at 5 = .ok (.aload_n 0, 1) := by decide +kernel
theorem dX6_at_6 : decode cX6_at 6 = .ok (.getfield 7, 3) := by decide +kernel
theorem dX6_at_9 : decode cX6_at 9 = .ok (.arraylength, 1) := by decide +kernel
theorem dX6_at_10 : decode cX6_at 10 = .ok (.if_icmp .ge 12, 3) := by decide +kernel
theorem dX6_at_13 : decode cX6_at 13 = .ok (.aload_n 0, 1) := by decide +kernel
theorem dX6_at_14 : decode cX6_at 14 = .ok (.getfield 7, 3) := by decide +kernel
theorem dX6_at_17 : decode cX6_at 17 = .ok (.iload_n 1, 1) := by decide +kernel
theorem dX6_at_18 : decode cX6_at 18 = .ok (.iaload, 1) := by decide +kernel
theorem dX6_at_19 : decode cX6_at 19 = .ok (.goto 4, 3) := by decide +kernel
theorem dX6_at_22 : decode cX6_at 22 = .ok (.iconst 0, 1) := by decide +kernel
theorem dX6_at_23 : decode cX6_at 23 = .ok (.ireturn, 1) := by decide +kernel
theorem dX6_put_0 : decode cX6_put 0 = .ok (.iload_n 1, 1) := by decide +kernel
theorem dX6_put_1 : decode cX6_put 1 = .ok (.ifCond .lt 19, 3) := by decide +kernel
theorem dX6_put_4 : decode cX6_put 4 = .ok (.iload_n 1, 1) := by decide +kernel
theorem dX6_put_5 : decode cX6_put 5 = .ok (.aload_n 0, 1) := by decide +kernel
theorem dX6_put_6 : decode cX6_put 6 = .ok (.getfield 7, 3) := by decide +kernel
theorem dX6_put_9 : decode cX6_put 9 = .ok (.arraylength, 1) := by decide +kernel
theorem dX6_put_10 : decode cX6_put 10 = .ok (.if_icmp .ge 10, 3) := by decide +kernel
theorem dX6_put_13 : decode cX6_put 13 = .ok (.aload_n 0, 1) := by decide +kernel
theorem dX6_put_14 : decode cX6_put 14 = .ok (.getfield 7, 3) := by decide +kernel
theorem dX6_put_17 : decode cX6_put 17 = .ok (.iload_n 1, 1) := by decide +kernel
theorem dX6_put_18 : decode cX6_put 18 = .ok (.iload_n 2, 1) := by decide +kernel
theorem dX6_put_19 : decode cX6_put 19 = .ok (.iastore, 1) := by decide +kernel
theorem dX6_put_20 : decode cX6_put 20 = .ok (.return_, 1) := by decide +kernel
set_option maxRecDepth 20000 in
theorem ggX6_increase_X6_at : GoodIn wsX6_increase wsX6_at := goodIn_r _ [5, 6, 11] (by decide +kernel) (by decide +kernel)
set_option maxRecDepth 20000 in
theorem gX6_increase_X6_at : GoodIn wsX6_increase (wsV RX6 13 RX6 yX6_at wsX6_at) := goodIn_app (goodIn_of _ (by decide +kernel)) ggX6_increase_X6_at
set_option maxRecDepth 20000 in
theorem ggX6_increase_X6_put : GoodIn wsX6_increase wsX6_put := goodIn_r _ [10, 6, 11] (by decide +kernel) (by decide +kernel)
set_option maxRecDepth 20000 in
theorem gX6_increase_X6_put : GoodIn wsX6_increase (wsV RX6 17 RX6 yX6_put wsX6_put) := goodIn_app (goodIn_of _ (by decide +kernel)) ggX6_increase_X6_put
theorem dX6_increase_0 : decode cX6_increase 0 = .ok (.aload_n 0, 1) := by decide +kernel
theorem dX6_increase_1 : decode cX6_increase 1 = .ok (.iload_n 1, 1) := by decide +kernel
theorem dX6_increase_2 : decode cX6_increase 2 = .ok (.aload_n 0, 1) := by decide +kernel
theorem dX6_increase_3 : decode cX6_increase 3 = .ok (.iload_n 1, 1) := by decide +kernel
theorem dX6_increase_4 : decode cX6_increase 4 = .ok (.invokevirtual 13, 3) := by decide +kernel
theorem dX6_increase_7 : decode cX6_increase 7 = .ok (.iload_n 2, 1) := by decide +kernel
theorem dX6_increase_8 : decode cX6_increase 8 = .ok (.iadd, 1) := by decide +kernel
theorem dX6_increase_9 : decode cX6_increase 9 = .ok (.invokevirtual 17, 3) := by decide +kernel
theorem dX6_increase_12 : decode cX6_increase 12 = .ok (.return_, 1) := by decide +kernel
theorem dX6_fill_0 : decode cX6_fill 0 = .ok (.iconst 0, 1) := by decide +kernel
theorem dX6_fill_1 : decode cX6_fill 1 = .ok (.istore_n 2, 1) := by decide +kernel
theorem dX6_fill_2 : decode cX6_fill 2 = .ok (.iload_n 2, 1) := by decide +kernel
theorem dX6_fill_3 : decode cX6_fill 3 = .ok (.aload_n 0, 1) := by decide +kernel
theorem dX6_fill_4 : decode cX6_fill 4 = .ok (.getfield 7, 3) := by decide +kernel
theorem dX6_fill_7 : decode cX6_fill 7 = .ok (.arraylength, 1) := by decide +kernel
theorem dX6_fill_8 : decode cX6_fill 8 = .ok (.if_icmp .ge 16, 3) := by decide +kernel
theorem dX6_fill_11 : decode cX6_fill 11 = .ok (.aload_n 0, 1) := by decide +kernel
theorem dX6_fill_12 : decode cX6_fill 12 = .ok (.getfield 7, 3) := by decide +kernel
theorem dX6_fill_15 : decode cX6_fill 15 = .ok (.iload_n 2, 1) := by decide +kernel
theorem dX6_fill_16 : decode cX6_fill 16 = .ok (.iload_n 1, 1) := by decide +kernel
theorem dX6_fill_17 : decode cX6_fill 17 = .ok (.iastore, 1) := by decide +kernel
theorem dX6_fill_18 : decode cX6_fill 18 = .ok (.iinc 2 1, 3) := by decide +kernel
theorem dX6_fill_21 : decode cX6_fill 21 = .ok (.goto (-19), 3) := by decide +kernel
theorem dX6_fill_24 : decode cX6_fill 24 = .ok (.return_, 1) := by decide +kernel
theorem dX6_copyFrom_0 : decode cX6_copyFrom 0 = .ok (.aload_n 1, 1) := by decide +kernel
theorem dX6_copyFrom_1 : decode cX6_copyFrom 1 = .ok (.ifnull 29, 3) := by decide +kernel
theorem dX6_copyFrom_4 : decode cX6_copyFrom 4 = .ok (.aload_n 1, 1) := by decide +kernel
theorem dX6_copyFrom_5 : decode cX6_copyFrom 5 = .ok (.getfield 7, 3) := by decide +kernel
theorem dX6_copyFrom_8 : decode cX6_copyFrom 8 = .ok (.iconst 0, 1) := by decide +kernel
theorem dX6_copyFrom_9 : decode cX6_copyFrom 9 = .ok (.aload_n 0, 1) := by decide +kernel
theorem dX6_copyFrom_10 : decode cX6_copyFrom 10 = .ok (.getfield 7, 3) := by decide +kernel
theorem dX6_copyFrom_13 : decode cX6_copyFrom 13 = .ok (.iconst 0, 1) := by decide +kernel
theorem dX6_copyFrom_14 : decode cX6_copyFrom 14 = .ok (.aload_n 1, 1) := by decide +kernel
theorem dX6_copyFrom_15 : decode cX6_copyFrom 15 = .ok (.getfield 7, 3) := by decide +kernel
theorem dX6_copyFrom_18 : decode cX6_copyFrom 18 = .ok (.arraylength, 1) := by decide +kernel
theorem dX6_copyFrom_19 : decode cX6_copyFrom 19 = .ok (.aload_n 0, 1) := by decide +kernel
theorem dX6_copyFrom_20 : decode cX6_copyFrom 20 = .ok (.getfield 7, 3) := by decide +kernel
theorem dX6_copyFrom_23 : decode cX6_copyFrom 23 = .ok (.arraylength, 1) := by decide +kernel
theorem dX6_copyFrom_24 : decode cX6_copyFrom 24 = .ok (.invokestatic 21, 3) := by decide +kernel
theorem dX6_copyFrom_27 : decode cX6_copyFrom 27 = .ok (.invokestatic 27, 3) := by decide +kernel
theorem dX6_copyFrom_30 : decode cX6_copyFrom 30 = .ok (.return_, 1) := by decide +kernel
set_option maxRecDepth 20000 in
theorem ggX7_init_X4_init : GoodIn wsX7_init wsX4_init := goodIn_r _ [25, 26, 2, 3, 27, 21, 22, 28, 29, 30, 31, 32, 33, 34, 35, 36, 37, 38, 116, 77, 78, 79, 80, 81, 82] (by decide +kernel) (by decide +kernel)
set_option maxRecDepth 20000 in
theorem gX7_init_X4_init_n11 : GoodIn wsX7_init (wsX4_init) := ggX7_init_X4_init
set_option maxRecDepth 20000 in
theorem ggX7_init_X3_init : GoodIn wsX7_init wsX3_init := goodIn_r _ [40, 41, 2, 3, 42, 21, 22, 43, 44, 45, 46, 47, 48, 49, 34, 35, 36, 37, 38, 116, 97, 98, 99, 100, 101, 102, 103] (by decide +kernel) (by decide +kernel)
set_option maxRecDepth 20000 in
theorem gX7_init_X3_init_n20 : GoodIn wsX7_init (wsX3_init) := ggX7_init_X3_init
set_option maxRecDepth 20000 in
theorem ggX7_init_X1_init : GoodIn wsX7_init wsX1_init := goodIn_r _ [51, 52, 2, 3, 53, 21, 22, 54, 55, 56, 57, 58, 59, 60, 61, 62, 34, 35, 36, 37, 38, 116, 104, 105, 106, 107, 108, 109, 110, 111, 112] (by decide +kernel) (by decide +kernel)
set_option maxRecDepth 20000 in
theorem gX7_init_X1_init_n27 : GoodIn wsX7_init (wsX1_init) := ggX7_init_X1_init
set_option maxRecDepth 20000 in
theorem ggX7_init_X5_init : GoodIn wsX7_init wsX5_init := goodIn_r _ [65, 66, 2, 3, 67, 21, 22, 68, 69, 70, 71, 34, 35, 36, 37, 38, 72, 73, 74, 75, 116, 113, 114, 115] (by decide +kernel) (by decide +kernel)
set_option maxRecDepth 20000 in
theorem gX7_init_X5_init : GoodIn wsX7_init (wsX5_init) := ggX7_init_X5_init
set_option maxRecDepth 20000 in
theorem ggX7_init_X6_init : GoodIn wsX7_init wsX6_init := goodIn_r _ [35, 36, 2, 3, 37, 38, 116] (by decide +kernel) (by decide +kernel)
set_option maxRecDepth 20000 in
theorem gX7_init_X6_init : GoodIn wsX7_init (wsX6_init) := ggX7_init_X6_init
theorem dX7_init_0 : decode cX7_init 0 = .ok (.aload_n 0, 1) := by decide +kernel
theorem dX7_init_1 : decode cX7_init 1 = .ok (.invokespecial 3, 3) := by decide +kernel
theorem dX7_init_4 : decode cX7_init 4 = .ok (.aload_n 0, 1) := by decide +kernel
theorem dX7_init_5 : decode cX7_init 5 = .ok (.new 9, 3) := by decide +kernel
theorem dX7_init_8 : decode cX7_init 8 = .ok (.dup, 1) := by decide +kernel
theorem dX7_init_9 : decode cX7_init 9 = .ok (.invokespecial 11, 3) := by decide +kernel
theorem dX7_init_12 : decode cX7_init 12 = .ok (.putfield 12, 3) := by decide +kernel
theorem dX7_init_15 : decode cX7_init 15 = .ok (.aload_n 0, 1) := by decide +kernel
theorem dX7_init_16 : decode cX7_init 16 = .ok (.new 18, 3) := by decide +kernel
theorem dX7_init_19 : decode cX7_init 19 = .ok (.dup, 1) := by decide +kernel
theorem dX7_init_20 : decode cX7_init 20 = .ok (.invokespecial 20, 3) := by decide +kernel
theorem dX7_init_23 : decode cX7_init 23 = .ok (.putfield 21, 3) := by decide +kernel
theorem dX7_init_26 : decode cX7_init 26 = .ok (.aload_n 0, 1) := by decide +kernel
theorem dX7_init_27 : decode cX7_init 27 = .ok (.new 25, 3) := by decide +kernel
theorem dX7_init_30 : decode cX7_init 30 = .ok (.dup, 1) := by decide +kernel
theorem dX7_init_31 : decode cX7_init 31 = .ok (.invokespecial 27, 3) := by decide +kernel
theorem dX7_init_34 : decode cX7_init 34 = .ok (.putfield 28, 3) := by decide +kernel
theorem dX7_init_37 : decode cX7_init 37 = .ok (.aload_n 0, 1) := by decide +kernel
theorem dX7_init_38 : decode cX7_init 38 = .ok (.new 32, 3) := by decide +kernel
theorem dX7_init_41 : decode cX7_init 41 = .ok (.dup, 1) := by decide +kernel
theorem dX7_init_42 : decode cX7_init 42 = .ok (.invokespecial 34, 3) := by decide +kernel
theorem dX7_init_45 : decode cX7_init 45 = .ok (.putfield 35, 3) := by decide +kernel
theorem dX7_init_48 : decode cX7_init 48 = .ok (.aload_n 0, 1) := by decide +kernel
theorem dX7_init_49 : decode cX7_init 49 = .ok (.new 39, 3) := by decide +kernel
theorem dX7_init_52 : decode cX7_init 52 = .ok (.dup, 1) := by decide +kernel
theorem dX7_init_53 : decode cX7_init 53 = .ok (.bipush 16, 2) := by decide +kernel
theorem dX7_init_55 : decode cX7_init 55 = .ok (.invokespecial 41, 3) := by decide +kernel
theorem dX7_init_58 : decode cX7_init 58 = .ok (.putfield 44, 3) := by decide +kernel
theorem dX7_init_61 : decode cX7_init 61 = .ok (.return_, 1) := by decide +kernel
set_option maxRecDepth 20000 in
theorem ggX7_copyFrom_X4_copyFrom : GoodIn wsX7_copyFrom wsX4_copyFrom := goodIn_r _ [19, 20, 21, 22, 23, 24, 25, 26, 27, 28, 29, 30, 31, 32, 33, 34, 35, 36, 37, 38, 39, 92, 93, 94, 95, 96, 97, 98] (by decide +kernel) (by decide +kernel)
set_option maxRecDepth 20000 in
theorem gX7_copyFrom_X4_copyFrom : GoodIn wsX7_copyFrom (wsV RX7 48 RX4 yX4_copyFrom wsX4_copyFrom) := goodIn_app (goodIn_of _ (by decide +kernel)) ggX7_copyFrom_X4_copyFrom
set_option maxRecDepth 20000 in
theorem ggX7_copyFrom_X3_copyFrom : GoodIn wsX7_copyFrom wsX3_copyFrom := goodIn_r _ [44, 45, 46, 47, 48, 49, 50, 51, 52, 27, 28, 29, 30, 31, 32, 33, 34, 35, 36, 37, 38, 39, 99, 100, 101, 102, 103, 104, 105, 98] (by decide +kernel) (by decide +kernel)
set_option maxRecDepth 20000 in
theorem gX7_copyFrom_X3_copyFrom : GoodIn wsX7_copyFrom (wsV RX7 52 RX3 yX3_copyFrom wsX3_copyFrom) := goodIn_app (goodIn_of _ (by decide +kernel)) ggX7_copyFrom_X3_copyFrom
set_option maxRecDepth 20000 in
theorem ggX7_copyFrom_X1_copyFrom : GoodIn wsX7_copyFrom wsX1_copyFrom := goodIn_r _ [57, 58, 59, 60, 61, 62, 63, 64, 65, 66, 67, 27, 28, 29, 30, 31, 32, 33, 34, 35, 36, 37, 38, 39, 106, 107, 108, 109, 110, 111, 112, 113, 114, 98] (by decide +kernel) (by decide +kernel)
set_option maxRecDepth 20000 in
theorem gX7_copyFrom_X1_copyFrom : GoodIn wsX7_copyFrom (wsV RX7 55 RX1 yX1_copyFrom wsX1_copyFrom) := goodIn_app (goodIn_of _ (by decide +kernel)) ggX7_copyFrom_X1_copyFrom
set_option maxRecDepth 20000 in
theorem ggX7_copyFrom_X5_copyFrom : GoodIn wsX7_copyFrom wsX5_copyFrom := goodIn_r _ [72, 73, 74, 75, 76, 27, 28, 29, 30, 31, 32, 33, 34, 35, 36, 37, 38, 39, 115, 116, 117, 98] (by decide +kernel) (by decide +kernel)
set_option maxRecDepth 20000 in
theorem gX7_copyFrom_X5_copyFrom : GoodIn wsX7_copyFrom (wsV RX7 58 RX5 yX5_copyFrom wsX5_copyFrom) := goodIn_app (goodIn_of _ (by decide +kernel)) ggX7_copyFrom_X5_copyFrom
set_option maxRecDepth 20000 in
theorem ggX7_copyFrom_X6_copyFrom : GoodIn wsX7_copyFrom wsX6_copyFrom := goodIn_r _ [30, 31, 32, 33, 34, 35, 36, 37, 38, 39, 98] (by decide +kernel) (by decide +kernel)
set_option maxRecDepth 20000 in
theorem gX7_copyFrom_X6_copyFrom : GoodIn wsX7_copyFrom (wsV RX7 61 RX6 yX6_copyFrom wsX6_copyFrom) := goodIn_app (goodIn_of _ (by decide +kernel)) ggX7_copyFrom_X6_copyFrom
theorem dX7_copyFrom_0 : decode cX7_copyFrom 0 = .ok (.aload_n 1, 1) := by decide +kernel
theorem dX7_copyFrom_1 : decode cX7_copyFrom 1 = .ok (.ifnull 130, 3) := by decide +kernel
theorem dX7_copyFrom_4 : decode cX7_copyFrom 4 = .ok (.aload_n 0, 1) := by decide +kernel
theorem dX7_copyFrom_5 : decode cX7_copyFrom 5 = .ok (.getfield 12, 3) := by decide +kernel
theorem dX7_copyFrom_8 : decode cX7_copyFrom 8 = .ok (.aload_n 1, 1) := by decide +kernel
theorem dX7_copyFrom_9 : decode cX7_copyFrom 9 = .ok (.getfield 12, 3) := by decide +kernel
theorem dX7_copyFrom_12 : decode cX7_copyFrom 12 = .ok (.invokevirtual 48, 3) := by decide +kernel
theorem dX7_copyFrom_15 : decode cX7_copyFrom 15 = .ok (.aload_n 0, 1) := by decide +kernel
theorem dX7_copyFrom_16 : decode cX7_copyFrom 16 = .ok (.getfield 21, 3) := by decide +kernel
theorem dX7_copyFrom_19 : decode cX7_copyFrom 19 = .ok (.aload_n 1, 1) := by decide +kernel
theorem dX7_copyFrom_20 : decode cX7_copyFrom 20 = .ok (.getfield 21, 3) := by decide +kernel
theorem dX7_copyFrom_23 : decode cX7_copyFrom 23 = .ok (.invokevirtual 52, 3) := by decide +kernel
theorem dX7_copyFrom_26 : decode cX7_copyFrom 26 = .ok (.aload_n 0, 1) := by decide +kernel
theorem dX7_copyFrom_27 : decode cX7_copyFrom 27 = .ok (.getfield 28, 3) := by decide +kernel
theorem dX7_copyFrom_30 : decode cX7_copyFrom 30 = .ok (.aload_n 1, 1) := by decide +kernel
theorem dX7_copyFrom_31 : decode cX7_copyFrom 31 = .ok (.getfield 28, 3) := by decide +kernel
theorem dX7_copyFrom_34 : decode cX7_copyFrom 34 = .ok (.invokevirtual 55, 3) := by decide +kernel
theorem dX7_copyFrom_37 : decode cX7_copyFrom 37 = .ok (.aload_n 0, 1) := by decide +kernel
theorem dX7_copyFrom_38 : decode cX7_copyFrom 38 = .ok (.getfield 35, 3) := by decide +kernel
theorem dX7_copyFrom_41 : decode cX7_copyFrom 41 = .ok (.aload_n 1, 1) := by decide +kernel
theorem dX7_copyFrom_42 : decode cX7_copyFrom 42 = .ok (.getfield 35, 3) := by decide +kernel
theorem dX7_copyFrom_45 : decode cX7_copyFrom 45 = .ok (.invokevirtual 58, 3) := by decide +kernel
theorem dX7_copyFrom_48 : decode cX7_copyFrom 48 = .ok (.aload_n 0, 1) := by decide +kernel
theorem dX7_copyFrom_49 : decode cX7_copyFrom 49 = .ok (.getfield 44, 3) := by decide +kernel
theorem dX7_copyFrom_52 : decode cX7_copyFrom 52 = .ok (.aload_n 1, 1) := by decide +kernel
theorem dX7_copyFrom_53 : decode cX7_copyFrom 53 = .ok (.getfield 44, 3) := by decide +kernel
theorem dX7_copyFrom_56 : decode cX7_copyFrom 56 = .ok (.invokevirtual 61, 3) := by decide +kernel
theorem dX7_copyFrom_59 : decode cX7_copyFrom 59 = .ok (.aload_n 0, 1) := by decide +kernel
theorem dX7_copyFrom_60 : decode cX7_copyFrom 60 = .ok (.aload_n 1, 1) := by decide +kernel
theorem dX7_copyFrom_61 : decode cX7_copyFrom 61 = .ok (.getfield 64, 3) := by decide +kernel
theorem dX7_copyFrom_64 : decode cX7_copyFrom 64 = .ok (.putfield 64, 3) := by decide +kernel
theorem dX7_copyFrom_67 : decode cX7_copyFrom 67 = .ok (.aload_n 0, 1) := by decide +kernel
theorem dX7_copyFrom_68 : decode cX7_copyFrom 68 = .ok (.aload_n 1, 1) := by decide +kernel
theorem dX7_copyFrom_69 : decode cX7_copyFrom 69 = .ok (.getfield 68, 3) := by decide +kernel
theorem dX7_copyFrom_72 : decode cX7_copyFrom 72 = .ok (.putfield 68, 3) := by decide +kernel
theorem dX7_copyFrom_75 : decode cX7_copyFrom 75 = .ok (.aload_n 0, 1) := by decide +kernel
theorem dX7_copyFrom_76 : decode cX7_copyFrom 76 = .ok (.aload_n 1, 1) := by decide +kernel
theorem dX7_copyFrom_77 : decode cX7_copyFrom 77 = .ok (.getfield 71, 3) := by decide +kernel
theorem dX7_copyFrom_80 : decode cX7_copyFrom 80 = .ok (.putfield 71, 3) := by decide +kernel
theorem dX7_copyFrom_83 : decode cX7_copyFrom 83 = .ok (.aload_n 0, 1) := by decide +kernel
theorem dX7_copyFrom_84 : decode cX7_copyFrom 84 = .ok (.aload_n 1, 1) := by decide +kernel
theorem dX7_copyFrom_85 : decode cX7_copyFrom 85 = .ok (.getfield 74, 3) := by decide +kernel
theorem dX7_copyFrom_88 : decode cX7_copyFrom 88 = .ok (.putfield 74, 3) := by decide +kernel
theorem dX7_copyFrom_91 : decode cX7_copyFrom 91 = .ok (.aload_n 0, 1) := by decide +kernel
theorem dX7_copyFrom_92 : decode cX7_copyFrom 92 = .ok (.aload_n 1, 1) := by decide +kernel
theorem dX7_copyFrom_93 : decode cX7_copyFrom 93 = .ok (.getfield 77, 3) := by decide +kernel
theorem dX7_copyFrom_96 : decode cX7_copyFrom 96 = .ok (.putfield 77, 3) := by decide +kernel
theorem dX7_copyFrom_99 : decode cX7_copyFrom 99 = .ok (.aload_n 0, 1) := by decide +kernel
theorem dX7_copyFrom_100 : decode cX7_copyFrom 100 = .ok (.aload_n 1, 1) := by decide +kernel
theorem dX7_copyFrom_101 : decode cX7_copyFrom 101 = .ok (.getfield 80, 3) := by decide +kernel
theorem dX7_copyFrom_104 : decode cX7_copyFrom 104 = .ok (.putfield 80, 3) := by decide +kernel
theorem dX7_copyFrom_107 : decode cX7_copyFrom 107 = .ok (.aload_n 0, 1) := by decide +kernel
theorem dX7_copyFrom_108 : decode cX7_copyFrom 108 = .ok (.aload_n 1, 1) := by decide +kernel
theorem dX7_copyFrom_109 : decode cX7_copyFrom 109 = .ok (.getfield 83, 3) := by decide +kernel
theorem dX7_copyFrom_112 : decode cX7_copyFrom 112 = .ok (.putfield 83, 3) := by decide +kernel
theorem dX7_copyFrom_115 : decode cX7_copyFrom 115 = .ok (.aload_n 0, 1) := by decide +kernel
theorem dX7_copyFrom_116 : decode cX7_copyFrom 116 = .ok (.aload_n 1, 1) := by decide +kernel
theorem dX7_copyFrom_117 : decode cX7_copyFrom 117 = .ok (.getfield 86, 3) := by decide +kernel
theorem dX7_copyFrom_120 : decode cX7_copyFrom 120 = .ok (.putfield 86, 3) := by decide +kernel
theorem dX7_copyFrom_123 : decode cX7_copyFrom 123 = .ok (.aload_n 0, 1) := by decide +kernel
theorem dX7_copyFrom_124 : decode cX7_copyFrom 124 = .ok (.aload_n 1, 1) := by decide +kernel
theorem dX7_copyFrom_125 : decode cX7_copyFrom 125 = .ok (.getfield 89, 3) := by decide +kernel
theorem dX7_copyFrom_128 : decode cX7_copyFrom 128 = .ok (.putfield 89, 3) := by decide +kernel
theorem dX7_copyFrom_131 : decode cX7_copyFrom 131 = .ok (.return_, 1) := by decide +kernel
theorem dX7_isKind_0 : decode cX7_isKind 0 = .ok (.iload_n 1, 1) := by decide +kernel
theorem dX7_isKind_1 : decode cX7_isKind 1 = .ok (.ifCond .lt 18, 3) := by decide +kernel
theorem dX7_isKind_4 : decode cX7_isKind 4 = .ok (.iload_n 1, 1) := by decide +kernel
theorem dX7_isKind_5 : decode cX7_isKind 5 = .ok (.aload_n 0, 1) := by decide +kernel
theorem dX7_isKind_6 : decode cX7_isKind 6 = .ok (.getfield 12, 3) := by decide +kernel
theorem dX7_isKind_9 : decode cX7_isKind 9 = .ok (.getfield 92, 3) := by decide +kernel
theorem dX7_isKind_12 : decode cX7_isKind 12 = .ok (.if_icmp .ge 7, 3) := by decide +kernel
theorem dX7_isKind_15 : decode cX7_isKind 15 = .ok (.iconst 1, 1) := by decide +kernel
theorem dX7_isKind_16 : decode cX7_isKind 16 = .ok (.goto 4, 3) := by decide +kernel
theorem dX7_isKind_19 : decode cX7_isKind 19 = .ok (.iconst 0, 1) := by decide +kernel
theorem dX7_isKind_20 : decode cX7_isKind 20 = .ok (.ireturn, 1) := by decide +kernel
theorem dX7_isHouse_0 : decode cX7_isHouse 0 = .ok (.iload_n 1, 1) := by decide +kernel
theorem dX7_isHouse_1 : decode cX7_isHouse 1 = .ok (.ifCond .lt 18, 3) := by decide +kernel
theorem dX7_isHouse_4 : decode cX7_isHouse 4 = .ok (.iload_n 1, 1) := by decide +kernel
theorem dX7_isHouse_5 : decode cX7_isHouse 5 = .ok (.aload_n 0, 1) := by decide +kernel
theorem dX7_isHouse_6 : decode cX7_isHouse 6 = .ok (.getfield 21, 3) := by decide +kernel
theorem dX7_isHouse_9 : decode cX7_isHouse 9 = .ok (.getfield 95, 3) := by decide +kernel
theorem dX7_isHouse_12 : decode cX7_isHouse 12 = .ok (.if_icmp .ge 7, 3) := by decide +kernel
theorem dX7_isHouse_15 : decode cX7_isHouse 15 = .ok (.iconst 1, 1) := by decide +kernel
theorem dX7_isHouse_16 : decode cX7_isHouse 16 = .ok (.goto 4, 3) := by decide +kernel
theorem dX7_isHouse_19 : decode cX7_isHouse 19 = .ok (.iconst 0, 1) := by decide +kernel
theorem dX7_isHouse_20 : decode cX7_isHouse 20 = .ok (.ireturn, 1) := by decide +kernel
theorem dX7_isDough_0 : decode cX7_isDough 0 = .ok (.iload_n 1, 1) := by decide +kernel
theorem dX7_isDough_1 : decode cX7_isDough 1 = .ok (.ifCond .lt 18, 3) := by decide +kernel
theorem dX7_isDough_4 : decode cX7_isDough 4 = .ok (.iload_n 1, 1) := by decide +kernel
theorem dX7_isDough_5 : decode cX7_isDough 5 = .ok (.aload_n 0, 1) := by decide +kernel
theorem dX7_isDough_6 : decode cX7_isDough 6 = .ok (.getfield 28, 3) := by decide +kernel
theorem dX7_isDough_9 : decode cX7_isDough 9 = .ok (.getfield 96, 3) := by decide +kernel
theorem dX7_isDough_12 : decode cX7_isDough 12 = .ok (.if_icmp .ge 7, 3) := by decide +kernel
theorem dX7_isDough_15 : decode cX7_isDough 15 = .ok (.iconst 1, 1) := by decide +kernel
theorem dX7_isDough_16 : decode cX7_isDough 16 = .ok (.goto 4, 3) := by decide +kernel
theorem dX7_isDough_19 : decode cX7_isDough 19 = .ok (.iconst 0, 1) := by decide +kernel
theorem dX7_isDough_20 : decode cX7_isDough 20 = .ok (.ireturn, 1) := by decide +kernel
set_option maxRecDepth 20000 in
theorem ggX7_isWaiting_X7_isDough : GoodIn wsX7_isWaiting wsX7_isDough := goodIn_r _ [7, 1, 8, 15, 16, 17, 18, 19, 20, 21, 22, 23, 24, 25, 26, 27, 28, 29, 30, 31, 32, 33, 34, 35, 36, 37] (by decide +kernel) (by decide +kernel)
set_option maxRecDepth 20000 in
theorem gX7_isWaiting_X7_isDough : GoodIn wsX7_isWaiting (wsV RX7 97 RX7 yX7_isDough wsX7_isDough) := goodIn_app (goodIn_of _ (by decide +kernel)) ggX7_isWaiting_X7_isDough
set_option maxRecDepth 20000 in
theorem ggX7_isWaiting_X6_at : GoodIn wsX7_isWaiting wsX6_at := goodIn_r _ [13, 14, 38] (by decide +kernel) (by decide +kernel)
set_option maxRecDepth 20000 in
theorem gX7_isWaiting_X6_at : GoodIn wsX7_isWaiting (wsV RX7 104 RX6 yX6_at wsX6_at) := goodIn_app (goodIn_of _ (by decide +kernel)) ggX7_isWaiting_X6_at
theorem dX7_isWaiting_0 : decode cX7_isWaiting 0 = .ok (.aload_n 0, 1) := by decide +kernel
theorem dX7_isWaiting_1 : decode cX7_isWaiting 1 = .ok (.iload_n 1, 1) := by decide +kernel
theorem dX7_isWaiting_2 : decode cX7_isWaiting 2 = .ok (.invokevirtual 97, 3) := by decide +kernel
theorem dX7_isWaiting_5 : decode cX7_isWaiting 5 = .ok (.ifCond .eq 21, 3) := by decide +kernel
theorem dX7_isWaiting_8 : decode cX7_isWaiting 8 = .ok (.aload_n 0, 1) := by decide +kernel
theorem dX7_isWaiting_9 : decode cX7_isWaiting 9 = .ok (.getfield 28, 3) := by decide +kernel
theorem dX7_isWaiting_12 : decode cX7_isWaiting 12 = .ok (.getfield 101, 3) := by decide +kernel
theorem dX7_isWaiting_15 : decode cX7_isWaiting 15 = .ok (.iload_n 1, 1) := by decide +kernel
theorem dX7_isWaiting_16 : decode cX7_isWaiting 16 = .ok (.invokevirtual 104, 3) := by decide +kernel
theorem dX7_isWaiting_19 : decode cX7_isWaiting 19 = .ok (.ifCond .ne 7, 3) := by decide +kernel
theorem dX7_isWaiting_22 : decode cX7_isWaiting 22 = .ok (.iconst 1, 1) := by decide +kernel
theorem dX7_isWaiting_23 : decode cX7_isWaiting 23 = .ok (.goto 4, 3) := by decide +kernel
theorem dX7_isWaiting_26 : decode cX7_isWaiting 26 = .ok (.iconst 0, 1) := by decide +kernel
theorem dX7_isWaiting_27 : decode cX7_isWaiting 27 = .ok (.ireturn, 1) := by decide +kernel
set_option maxRecDepth 20000 in
theorem ggX7_wasLoaded_X7_isDough : GoodIn wsX7_wasLoaded wsX7_isDough := goodIn_r _ [7, 1, 8, 15, 16, 17, 18, 19, 20, 21, 22, 23, 24, 25, 26, 27, 28, 29, 30, 31, 32, 33, 34, 35, 36, 37] (by decide +kernel) (by decide +kernel)
set_option maxRecDepth 20000 in
theorem gX7_wasLoaded_X7_isDough : GoodIn wsX7_wasLoaded (wsV RX7 97 RX7 yX7_isDough wsX7_isDough) := goodIn_app (goodIn_of _ (by decide +kernel)) ggX7_wasLoaded_X7_isDough
set_option maxRecDepth 20000 in
theorem ggX7_wasLoaded_X6_at : GoodIn wsX7_wasLoaded wsX6_at := goodIn_r _ [13, 14, 38] (by decide +kernel) (by decide +kernel)
set_option maxRecDepth 20000 in
theorem gX7_wasLoaded_X6_at : GoodIn wsX7_wasLoaded (wsV RX7 104 RX6 yX6_at wsX6_at) := goodIn_app (goodIn_of _ (by decide +kernel)) ggX7_wasLoaded_X6_at
theorem dX7_wasLoaded_0 : decode cX7_wasLoaded 0 = .ok (.aload_n 0, 1) := by decide +kernel
theorem dX7_wasLoaded_1 : decode cX7_wasLoaded 1 = .ok (.iload_n 1, 1) := by decide +kernel
theorem dX7_wasLoaded_2 : decode cX7_wasLoaded 2 = .ok (.invokevirtual 97, 3) := by decide +kernel
theorem dX7_wasLoaded_5 : decode cX7_wasLoaded 5 = .ok (.ifCond .eq 22, 3) := by decide +kernel
theorem dX7_wasLoaded_8 : decode cX7_wasLoaded 8 = .ok (.aload_n 0, 1) := by decide +kernel
theorem dX7_wasLoaded_9 : decode cX7_wasLoaded 9 = .ok (.getfield 28, 3) := by decide +kernel
theorem dX7_wasLoaded_12 : decode cX7_wasLoaded 12 = .ok (.getfield 108, 3) := by decide +kernel
theorem dX7_wasLoaded_15 : decode cX7_wasLoaded 15 = .ok (.iload_n 1, 1) := by decide +kernel
theorem dX7_wasLoaded_16 : decode cX7_wasLoaded 16 = .ok (.invokevirtual 104, 3) := by decide +kernel
theorem dX7_wasLoaded_19 : decode cX7_wasLoaded 19 = .ok (.iconst (-1), 1) := by decide +kernel
theorem dX7_wasLoaded_20 : decode cX7_wasLoaded 20 = .ok (.if_icmp .eq 7, 3) := by decide +kernel
theorem dX7_wasLoaded_23 : decode cX7_wasLoaded 23 = .ok (.iconst 1, 1) := by decide +kernel
theorem dX7_wasLoaded_24 : decode cX7_wasLoaded 24 = .ok (.goto 4, 3) := by decide +kernel
theorem dX7_wasLoaded_27 : decode cX7_wasLoaded 27 = .ok (.iconst 0, 1) := by decide +kernel
theorem dX7_wasLoaded_28 : decode cX7_wasLoaded 28 = .ok (.ireturn, 1) := by decide +kernel
theorem dX7_refusalOfKind_0 : decode cX7_refusalOfKind 0 = .ok (.iload_n 1, 1) := by decide +kernel
theorem dX7_refusalOfKind_1 : decode cX7_refusalOfKind 1 = .ok (.bipush 50, 2) := by decide +kernel
theorem dX7_refusalOfKind_3 : decode cX7_refusalOfKind 3 = .ok (.if_icmp .lt 58, 3) := by decide +kernel
theorem dX7_refusalOfKind_6 : decode cX7_refusalOfKind 6 = .ok (.iload_n 1, 1) := by decide +kernel
theorem dX7_refusalOfKind_7 : decode cX7_refusalOfKind 7 = .ok (.sipush 350, 3) := by decide +kernel
theorem dX7_refusalOfKind_10 : decode cX7_refusalOfKind 10 = .ok (.if_icmp .gt 51, 3) := by decide +kernel
theorem dX7_refusalOfKind_13 : decode cX7_refusalOfKind 13 = .ok (.iload_n 2, 1) := by decide +kernel
theorem dX7_refusalOfKind_14 : decode cX7_refusalOfKind 14 = .ok (.iload_n 1, 1) := by decide +kernel
theorem dX7_refusalOfKind_15 : decode cX7_refusalOfKind 15 = .ok (.if_icmp .lt 46, 3) := by decide +kernel
theorem dX7_refusalOfKind_18 : decode cX7_refusalOfKind 18 = .ok (.iload_n 2, 1) := by decide +kernel
theorem dX7_refusalOfKind_19 : decode cX7_refusalOfKind 19 = .ok (.sipush 400, 3) := by decide +kernel
theorem dX7_refusalOfKind_22 : decode cX7_refusalOfKind 22 = .ok (.if_icmp .gt 39, 3) := by decide +kernel
theorem dX7_refusalOfKind_25 : decode cX7_refusalOfKind 25 = .ok (.iload_n 3, 1) := by decide +kernel
theorem dX7_refusalOfKind_26 : decode cX7_refusalOfKind 26 = .ok (.iconst 1, 1) := by decide +kernel
theorem dX7_refusalOfKind_27 : decode cX7_refusalOfKind 27 = .ok (.if_icmp .lt 34, 3) := by decide +kernel
theorem dX7_refusalOfKind_30 : decode cX7_refusalOfKind 30 = .ok (.iload_n 3, 1) := by decide +kernel
theorem dX7_refusalOfKind_31 : decode cX7_refusalOfKind 31 = .ok (.bipush 20, 2) := by decide +kernel
theorem dX7_refusalOfKind_33 : decode cX7_refusalOfKind 33 = .ok (.if_icmp .gt 28, 3) := by decide +kernel
theorem dX7_refusalOfKind_36 : decode cX7_refusalOfKind 36 = .ok (.iload 4, 2) := by decide +kernel
theorem dX7_refusalOfKind_38 : decode cX7_refusalOfKind 38 = .ok (.ifCond .lt 23, 3) := by decide +kernel
theorem dX7_refusalOfKind_41 : decode cX7_refusalOfKind 41 = .ok (.iload 4, 2) := by decide +kernel
theorem dX7_refusalOfKind_43 : decode cX7_refusalOfKind 43 = .ok (.bipush 30, 2) := by decide +kernel
theorem dX7_refusalOfKind_45 : decode cX7_refusalOfKind 45 = .ok (.if_icmp .gt 16, 3) := by decide +kernel
theorem dX7_refusalOfKind_48 : decode cX7_refusalOfKind 48 = .ok (.iload 5, 2) := by decide +kernel
theorem dX7_refusalOfKind_50 : decode cX7_refusalOfKind 50 = .ok (.iconst 1, 1) := by decide +kernel
theorem dX7_refusalOfKind_51 : decode cX7_refusalOfKind 51 = .ok (.if_icmp .lt 10, 3) := by decide +kernel
theorem dX7_refusalOfKind_54 : decode cX7_refusalOfKind 54 = .ok (.iload 5, 2) := by decide +kernel
theorem dX7_refusalOfKind_56 : decode cX7_refusalOfKind 56 = .ok (.bipush 40, 2) := by decide +kernel
theorem dX7_refusalOfKind_58 : decode cX7_refusalOfKind 58 = .ok (.if_icmp .le 5, 3) := by decide +kernel
theorem dX7_refusalOfKind_61 : decode cX7_refusalOfKind 61 = .ok (.iconst 2, 1) := by decide +kernel
theorem dX7_refusalOfKind_62 : decode cX7_refusalOfKind 62 = .ok (.ireturn, 1) := by decide +kernel
theorem dX7_refusalOfKind_63 : decode cX7_refusalOfKind 63 = .ok (.aload_n 0, 1) := by decide +kernel
theorem dX7_refusalOfKind_64 : decode cX7_refusalOfKind 64 = .ok (.getfield 12, 3) := by decide +kernel
theorem dX7_refusalOfKind_67 : decode cX7_refusalOfKind 67 = .ok (.getfield 92, 3) := by decide +kernel
theorem dX7_refusalOfKind_70 : decode cX7_refusalOfKind 70 = .ok (.iconst 5, 1) := by decide +kernel
theorem dX7_refusalOfKind_71 : decode cX7_refusalOfKind 71 = .ok (.if_icmp .lt 7, 3) := by decide +kernel
theorem dX7_refusalOfKind_74 : decode cX7_refusalOfKind 74 = .ok (.iconst 3, 1) := by decide +kernel
theorem dX7_refusalOfKind_75 : decode cX7_refusalOfKind 75 = .ok (.goto 4, 3) := by decide +kernel
theorem dX7_refusalOfKind_78 : decode cX7_refusalOfKind 78 = .ok (.iconst 0, 1) := by decide +kernel
theorem dX7_refusalOfKind_79 : decode cX7_refusalOfKind 79 = .ok (.ireturn, 1) := by decide +kernel
theorem dX7_refusalOfHouse_0 : decode cX7_refusalOfHouse 0 = .ok (.aload_n 0, 1) := by decide +kernel
theorem dX7_refusalOfHouse_1 : decode cX7_refusalOfHouse 1 = .ok (.getfield 21, 3) := by decide +kernel
theorem dX7_refusalOfHouse_4 : decode cX7_refusalOfHouse 4 = .ok (.getfield 95, 3) := by decide +kernel
theorem dX7_refusalOfHouse_7 : decode cX7_refusalOfHouse 7 = .ok (.bipush 8, 2) := by decide +kernel
theorem dX7_refusalOfHouse_9 : decode cX7_refusalOfHouse 9 = .ok (.if_icmp .lt 7, 3) := by decide +kernel
theorem dX7_refusalOfHouse_12 : decode cX7_refusalOfHouse 12 = .ok (.iconst 3, 1) := by decide +kernel
theorem dX7_refusalOfHouse_13 : decode cX7_refusalOfHouse 13 = .ok (.goto 4, 3) := by decide +kernel
theorem dX7_refusalOfHouse_16 : decode cX7_refusalOfHouse 16 = .ok (.iconst 0, 1) := by decide +kernel
theorem dX7_refusalOfHouse_17 : decode cX7_refusalOfHouse 17 = .ok (.ireturn, 1) := by decide +kernel
set_option maxRecDepth 20000 in
theorem ggX7_refusalOfDough_X7_isHouse : GoodIn wsX7_refusalOfDough wsX7_isHouse := goodIn_r _ [7, 8, 9, 16, 17, 18, 19, 20, 21, 22, 23, 24, 25, 26, 27, 28, 29, 39, 40, 41, 42, 43, 44, 45] (by decide +kernel) (by decide +kernel)
set_option maxRecDepth 20000 in
theorem gX7_refusalOfDough_X7_isHouse : GoodIn wsX7_refusalOfDough (wsV RX7 111 RX7 yX7_isHouse wsX7_isHouse) := goodIn_app (goodIn_of _ (by decide +kernel)) ggX7_refusalOfDough_X7_isHouse
set_option maxRecDepth 20000 in
theorem ggX7_refusalOfDough_X7_isKind : GoodIn wsX7_refusalOfDough wsX7_isKind := goodIn_r _ [13, 14, 15, 16, 17, 18, 19, 20, 21, 22, 23, 24, 25, 26, 27, 28, 29, 46, 47, 48, 49, 50, 51] (by decide +kernel) (by decide +kernel)
set_option maxRecDepth 20000 in
theorem gX7_refusalOfDough_X7_isKind : GoodIn wsX7_refusalOfDough (wsV RX7 114 RX7 yX7_isKind wsX7_isKind) := goodIn_app (goodIn_of _ (by decide +kernel)) ggX7_refusalOfDough_X7_isKind
theorem dX7_refusalOfDough_0 : decode cX7_refusalOfDough 0 = .ok (.aload_n 0, 1) := by decide +kernel
theorem dX7_refusalOfDough_1 : decode cX7_refusalOfDough 1 = .ok (.iload_n 1, 1) := by decide +kernel
theorem dX7_refusalOfDough_2 : decode cX7_refusalOfDough 2 = .ok (.invokevirtual 111, 3) := by decide +kernel
theorem dX7_refusalOfDough_5 : decode cX7_refusalOfDough 5 = .ok (.ifCond .eq 11, 3) := by decide +kernel
theorem dX7_refusalOfDough_8 : decode cX7_refusalOfDough 8 = .ok (.aload_n 0, 1) := by decide +kernel
theorem dX7_refusalOfDough_9 : decode cX7_refusalOfDough 9 = .ok (.iload_n 2, 1) := by decide +kernel
theorem dX7_refusalOfDough_10 : decode cX7_refusalOfDough 10 = .ok (.invokevirtual 114, 3) := by decide +kernel
theorem dX7_refusalOfDough_13 : decode cX7_refusalOfDough 13 = .ok (.ifCond .ne 5, 3) := by decide +kernel
theorem dX7_refusalOfDough_16 : decode cX7_refusalOfDough 16 = .ok (.iconst 1, 1) := by decide +kernel
theorem dX7_refusalOfDough_17 : decode cX7_refusalOfDough 17 = .ok (.ireturn, 1) := by decide +kernel
theorem dX7_refusalOfDough_18 : decode cX7_refusalOfDough 18 = .ok (.iload_n 3, 1) := by decide +kernel
theorem dX7_refusalOfDough_19 : decode cX7_refusalOfDough 19 = .ok (.iconst 1, 1) := by decide +kernel
theorem dX7_refusalOfDough_20 : decode cX7_refusalOfDough 20 = .ok (.if_icmp .lt 8, 3) := by decide +kernel
theorem dX7_refusalOfDough_23 : decode cX7_refusalOfDough 23 = .ok (.iload_n 3, 1) := by decide +kernel
theorem dX7_refusalOfDough_24 : decode cX7_refusalOfDough 24 = .ok (.iconst 4, 1) := by decide +kernel
theorem dX7_refusalOfDough_25 : decode cX7_refusalOfDough 25 = .ok (.if_icmp .le 5, 3) := by decide +kernel
theorem dX7_refusalOfDough_28 : decode cX7_refusalOfDough 28 = .ok (.iconst 2, 1) := by decide +kernel
theorem dX7_refusalOfDough_29 : decode cX7_refusalOfDough 29 = .ok (.ireturn, 1) := by decide +kernel
theorem dX7_refusalOfDough_30 : decode cX7_refusalOfDough 30 = .ok (.aload_n 0, 1) := by decide +kernel
theorem dX7_refusalOfDough_31 : decode cX7_refusalOfDough 31 = .ok (.getfield 28, 3) := by decide +kernel
theorem dX7_refusalOfDough_34 : decode cX7_refusalOfDough 34 = .ok (.getfield 96, 3) := by decide +kernel
theorem dX7_refusalOfDough_37 : decode cX7_refusalOfDough 37 = .ok (.bipush 16, 2) := by decide +kernel
theorem dX7_refusalOfDough_39 : decode cX7_refusalOfDough 39 = .ok (.if_icmp .lt 7, 3) := by decide +kernel
theorem dX7_refusalOfDough_42 : decode cX7_refusalOfDough 42 = .ok (.iconst 3, 1) := by decide +kernel
theorem dX7_refusalOfDough_43 : decode cX7_refusalOfDough 43 = .ok (.goto 4, 3) := by decide +kernel
theorem dX7_refusalOfDough_46 : decode cX7_refusalOfDough 46 = .ok (.iconst 0, 1) := by decide +kernel
theorem dX7_refusalOfDough_47 : decode cX7_refusalOfDough 47 = .ok (.ireturn, 1) := by decide +kernel
set_option maxRecDepth 20000 in
theorem ggX7_refusalOfSwap_X7_isDough : GoodIn wsX7_refusalOfSwap wsX7_isDough := goodIn_r _ [5, 6, 7, 19, 20, 21, 22, 23, 24, 25, 26, 27, 28, 29, 30, 31, 32, 33, 34, 35, 36, 37, 38, 39, 40, 41] (by decide +kernel) (by decide +kernel)
set_option maxRecDepth 20000 in
theorem gX7_refusalOfSwap_X7_isDough : GoodIn wsX7_refusalOfSwap (wsV RX7 97 RX7 yX7_isDough wsX7_isDough) := goodIn_app (goodIn_of _ (by decide +kernel)) ggX7_refusalOfSwap_X7_isDough
set_option maxRecDepth 20000 in
theorem ggX7_refusalOfSwap_X7_isWaiting : GoodIn wsX7_refusalOfSwap wsX7_isWaiting := goodIn_r _ [11, 6, 12, 1, 2, 3, 4, 5, 7, 13, 14, 15, 16, 17, 18, 19, 20, 21, 22, 23, 24, 25, 26, 27, 28, 29, 30, 31, 32, 33, 34, 35, 36, 37, 38, 39, 40, 41, 42] (by decide +kernel) (by decide +kernel)
set_option maxRecDepth 20000 in
theorem gX7_refusalOfSwap_X7_isWaiting : GoodIn wsX7_refusalOfSwap (wsV RX7 117 RX7 yX7_isWaiting wsX7_isWaiting) := goodIn_app (goodIn_of _ (by decide +kernel)) ggX7_refusalOfSwap_X7_isWaiting
theorem dX7_refusalOfSwap_0 : decode cX7_refusalOfSwap 0 = .ok (.aload_n 0, 1) := by decide +kernel
theorem dX7_refusalOfSwap_1 : decode cX7_refusalOfSwap 1 = .ok (.iload_n 1, 1) := by decide +kernel
theorem dX7_refusalOfSwap_2 : decode cX7_refusalOfSwap 2 = .ok (.invokevirtual 97, 3) := by decide +kernel
theorem dX7_refusalOfSwap_5 : decode cX7_refusalOfSwap 5 = .ok (.ifCond .eq 11, 3) := by decide +kernel
theorem dX7_refusalOfSwap_8 : decode cX7_refusalOfSwap 8 = .ok (.aload_n 0, 1) := by decide +kernel
theorem dX7_refusalOfSwap_9 : decode cX7_refusalOfSwap 9 = .ok (.iload_n 2, 1) := by decide +kernel
theorem dX7_refusalOfSwap_10 : decode cX7_refusalOfSwap 10 = .ok (.invokevirtual 97, 3) := by decide +kernel
theorem dX7_refusalOfSwap_13 : decode cX7_refusalOfSwap 13 = .ok (.ifCond .ne 5, 3) := by decide +kernel
theorem dX7_refusalOfSwap_16 : decode cX7_refusalOfSwap 16 = .ok (.iconst 1, 1) := by decide +kernel
theorem dX7_refusalOfSwap_17 : decode cX7_refusalOfSwap 17 = .ok (.ireturn, 1) := by decide +kernel
theorem dX7_refusalOfSwap_18 : decode cX7_refusalOfSwap 18 = .ok (.iload_n 1, 1) := by decide +kernel
theorem dX7_refusalOfSwap_19 : decode cX7_refusalOfSwap 19 = .ok (.iload_n 2, 1) := by decide +kernel
theorem dX7_refusalOfSwap_20 : decode cX7_refusalOfSwap 20 = .ok (.if_icmp .ne 5, 3) := by decide +kernel
theorem dX7_refusalOfSwap_23 : decode cX7_refusalOfSwap 23 = .ok (.iconst 2, 1) := by decide +kernel
theorem dX7_refusalOfSwap_24 : decode cX7_refusalOfSwap 24 = .ok (.ireturn, 1) := by decide +kernel
theorem dX7_refusalOfSwap_25 : decode cX7_refusalOfSwap 25 = .ok (.aload_n 0, 1) := by decide +kernel
theorem dX7_refusalOfSwap_26 : decode cX7_refusalOfSwap 26 = .ok (.iload_n 1, 1) := by decide +kernel
theorem dX7_refusalOfSwap_27 : decode cX7_refusalOfSwap 27 = .ok (.invokevirtual 117, 3) := by decide +kernel
theorem dX7_refusalOfSwap_30 : decode cX7_refusalOfSwap 30 = .ok (.ifCond .eq 15, 3) := by decide +kernel
theorem dX7_refusalOfSwap_33 : decode cX7_refusalOfSwap 33 = .ok (.aload_n 0, 1) := by decide +kernel
theorem dX7_refusalOfSwap_34 : decode cX7_refusalOfSwap 34 = .ok (.iload_n 2, 1) := by decide +kernel
theorem dX7_refusalOfSwap_35 : decode cX7_refusalOfSwap 35 = .ok (.invokevirtual 117, 3) := by decide +kernel
theorem dX7_refusalOfSwap_38 : decode cX7_refusalOfSwap 38 = .ok (.ifCond .eq 7, 3) := by decide +kernel
theorem dX7_refusalOfSwap_41 : decode cX7_refusalOfSwap 41 = .ok (.iconst 0, 1) := by decide +kernel
theorem dX7_refusalOfSwap_42 : decode cX7_refusalOfSwap 42 = .ok (.goto 4, 3) := by decide +kernel
theorem dX7_refusalOfSwap_45 : decode cX7_refusalOfSwap 45 = .ok (.iconst 3, 1) := by decide +kernel
theorem dX7_refusalOfSwap_46 : decode cX7_refusalOfSwap 46 = .ok (.ireturn, 1) := by decide +kernel
set_option maxRecDepth 20000 in
theorem ggX7_refusalOfBring_X7_isHouse : GoodIn wsX7_refusalOfBring wsX7_isHouse := goodIn_r _ [7, 1, 8, 15, 16, 17, 18, 19, 20, 21, 22, 23, 24, 25, 26, 27, 28, 29, 30, 31, 32, 33, 34, 35] (by decide +kernel) (by decide +kernel)
set_option maxRecDepth 20000 in
theorem gX7_refusalOfBring_X7_isHouse : GoodIn wsX7_refusalOfBring (wsV RX7 111 RX7 yX7_isHouse wsX7_isHouse) := goodIn_app (goodIn_of _ (by decide +kernel)) ggX7_refusalOfBring_X7_isHouse
set_option maxRecDepth 20000 in
theorem ggX7_refusalOfBring_X6_at : GoodIn wsX7_refusalOfBring wsX6_at := goodIn_r _ [13, 14, 36] (by decide +kernel) (by decide +kernel)
set_option maxRecDepth 20000 in
theorem gX7_refusalOfBring_X6_at : GoodIn wsX7_refusalOfBring (wsV RX7 104 RX6 yX6_at wsX6_at) := goodIn_app (goodIn_of _ (by decide +kernel)) ggX7_refusalOfBring_X6_at
theorem dX7_refusalOfBring_0 : decode cX7_refusalOfBring 0 = .ok (.aload_n 0, 1) := by decide +kernel
theorem dX7_refusalOfBring_1 : decode cX7_refusalOfBring 1 = .ok (.iload_n 1, 1) := by decide +kernel
theorem dX7_refusalOfBring_2 : decode cX7_refusalOfBring 2 = .ok (.invokevirtual 111, 3) := by decide +kernel
theorem dX7_refusalOfBring_5 : decode cX7_refusalOfBring 5 = .ok (.ifCond .ne 5, 3) := by decide +kernel
theorem dX7_refusalOfBring_8 : decode cX7_refusalOfBring 8 = .ok (.iconst 1, 1) := by decide +kernel
theorem dX7_refusalOfBring_9 : decode cX7_refusalOfBring 9 = .ok (.ireturn, 1) := by decide +kernel
theorem dX7_refusalOfBring_10 : decode cX7_refusalOfBring 10 = .ok (.iload_n 2, 1) := by decide +kernel
theorem dX7_refusalOfBring_11 : decode cX7_refusalOfBring 11 = .ok (.iconst 1, 1) := by decide +kernel
theorem dX7_refusalOfBring_12 : decode cX7_refusalOfBring 12 = .ok (.if_icmp .lt 9, 3) := by decide +kernel
theorem dX7_refusalOfBring_15 : decode cX7_refusalOfBring 15 = .ok (.iload_n 2, 1) := by decide +kernel
theorem dX7_refusalOfBring_16 : decode cX7_refusalOfBring 16 = .ok (.bipush 99, 2) := by decide +kernel
theorem dX7_refusalOfBring_18 : decode cX7_refusalOfBring 18 = .ok (.if_icmp .le 5, 3) := by decide +kernel
theorem dX7_refusalOfBring_21 : decode cX7_refusalOfBring 21 = .ok (.iconst 2, 1) := by decide +kernel
theorem dX7_refusalOfBring_22 : decode cX7_refusalOfBring 22 = .ok (.ireturn, 1) := by decide +kernel
theorem dX7_refusalOfBring_23 : decode cX7_refusalOfBring 23 = .ok (.aload_n 0, 1) := by decide +kernel
theorem dX7_refusalOfBring_24 : decode cX7_refusalOfBring 24 = .ok (.getfield 21, 3) := by decide +kernel
theorem dX7_refusalOfBring_27 : decode cX7_refusalOfBring 27 = .ok (.getfield 120, 3) := by decide +kernel
theorem dX7_refusalOfBring_30 : decode cX7_refusalOfBring 30 = .ok (.iload_n 1, 1) := by decide +kernel
theorem dX7_refusalOfBring_31 : decode cX7_refusalOfBring 31 = .ok (.invokevirtual 104, 3) := by decide +kernel
theorem dX7_refusalOfBring_34 : decode cX7_refusalOfBring 34 = .ok (.iload_n 2, 1) := by decide +kernel
theorem dX7_refusalOfBring_35 : decode cX7_refusalOfBring 35 = .ok (.iadd, 1) := by decide +kernel
theorem dX7_refusalOfBring_36 : decode cX7_refusalOfBring 36 = .ok (.sipush 999, 3) := by decide +kernel
theorem dX7_refusalOfBring_39 : decode cX7_refusalOfBring 39 = .ok (.if_icmp .le 7, 3) := by decide +kernel
theorem dX7_refusalOfBring_42 : decode cX7_refusalOfBring 42 = .ok (.iconst 3, 1) := by decide +kernel
theorem dX7_refusalOfBring_43 : decode cX7_refusalOfBring 43 = .ok (.goto 4, 3) := by decide +kernel
theorem dX7_refusalOfBring_46 : decode cX7_refusalOfBring 46 = .ok (.iconst 0, 1) := by decide +kernel
theorem dX7_refusalOfBring_47 : decode cX7_refusalOfBring 47 = .ok (.ireturn, 1) := by decide +kernel
set_option maxRecDepth 20000 in
theorem ggX7_refusalOfStoke_X7_isHouse : GoodIn wsX7_refusalOfStoke wsX7_isHouse := goodIn_r _ [8, 1, 9, 16, 17, 18, 19, 20, 21, 22, 23, 24, 25, 26, 27, 28, 29, 30, 31, 32, 33, 34, 35, 36] (by decide +kernel) (by decide +kernel)
set_option maxRecDepth 20000 in
theorem gX7_refusalOfStoke_X7_isHouse : GoodIn wsX7_refusalOfStoke (wsV RX7 111 RX7 yX7_isHouse wsX7_isHouse) := goodIn_app (goodIn_of _ (by decide +kernel)) ggX7_refusalOfStoke_X7_isHouse
set_option maxRecDepth 20000 in
theorem ggX7_refusalOfStoke_X6_at : GoodIn wsX7_refusalOfStoke wsX6_at := goodIn_r _ [14, 15, 37] (by decide +kernel) (by decide +kernel)
set_option maxRecDepth 20000 in
theorem gX7_refusalOfStoke_X6_at : GoodIn wsX7_refusalOfStoke (wsV RX7 104 RX6 yX6_at wsX6_at) := goodIn_app (goodIn_of _ (by decide +kernel)) ggX7_refusalOfStoke_X6_at
theorem dX7_refusalOfStoke_0 : decode cX7_refusalOfStoke 0 = .ok (.aload_n 0, 1) := by decide +kernel
theorem dX7_refusalOfStoke_1 : decode cX7_refusalOfStoke 1 = .ok (.iload_n 1, 1) := by decide +kernel
theorem dX7_refusalOfStoke_2 : decode cX7_refusalOfStoke 2 = .ok (.invokevirtual 111, 3) := by decide +kernel
theorem dX7_refusalOfStoke_5 : decode cX7_refusalOfStoke 5 = .ok (.ifCond .ne 5, 3) := by decide +kernel
theorem dX7_refusalOfStoke_8 : decode cX7_refusalOfStoke 8 = .ok (.iconst 1, 1) := by decide +kernel
theorem dX7_refusalOfStoke_9 : decode cX7_refusalOfStoke 9 = .ok (.ireturn, 1) := by decide +kernel
theorem dX7_refusalOfStoke_10 : decode cX7_refusalOfStoke 10 = .ok (.iload_n 2, 1) := by decide +kernel
theorem dX7_refusalOfStoke_11 : decode cX7_refusalOfStoke 11 = .ok (.iconst 1, 1) := by decide +kernel
theorem dX7_refusalOfStoke_12 : decode cX7_refusalOfStoke 12 = .ok (.if_icmp .lt 9, 3) := by decide +kernel
theorem dX7_refusalOfStoke_15 : decode cX7_refusalOfStoke 15 = .ok (.iload_n 2, 1) := by decide +kernel
theorem dX7_refusalOfStoke_16 : decode cX7_refusalOfStoke 16 = .ok (.bipush 16, 2) := by decide +kernel
theorem dX7_refusalOfStoke_18 : decode cX7_refusalOfStoke 18 = .ok (.if_icmp .le 5, 3) := by decide +kernel
theorem dX7_refusalOfStoke_21 : decode cX7_refusalOfStoke 21 = .ok (.iconst 2, 1) := by decide +kernel
theorem dX7_refusalOfStoke_22 : decode cX7_refusalOfStoke 22 = .ok (.ireturn, 1) := by decide +kernel
theorem dX7_refusalOfStoke_23 : decode cX7_refusalOfStoke 23 = .ok (.aload_n 0, 1) := by decide +kernel
theorem dX7_refusalOfStoke_24 : decode cX7_refusalOfStoke 24 = .ok (.getfield 21, 3) := by decide +kernel
theorem dX7_refusalOfStoke_27 : decode cX7_refusalOfStoke 27 = .ok (.getfield 120, 3) := by decide +kernel
theorem dX7_refusalOfStoke_30 : decode cX7_refusalOfStoke 30 = .ok (.iload_n 1, 1) := by decide +kernel
theorem dX7_refusalOfStoke_31 : decode cX7_refusalOfStoke 31 = .ok (.invokevirtual 104, 3) := by decide +kernel
theorem dX7_refusalOfStoke_34 : decode cX7_refusalOfStoke 34 = .ok (.iload_n 2, 1) := by decide +kernel
theorem dX7_refusalOfStoke_35 : decode cX7_refusalOfStoke 35 = .ok (.isub, 1) := by decide +kernel
theorem dX7_refusalOfStoke_36 : decode cX7_refusalOfStoke 36 = .ok (.bipush (-20), 2) := by decide +kernel
theorem dX7_refusalOfStoke_38 : decode cX7_refusalOfStoke 38 = .ok (.if_icmp .ge 7, 3) := by decide +kernel
theorem dX7_refusalOfStoke_41 : decode cX7_refusalOfStoke 41 = .ok (.iconst 1, 1) := by decide +kernel
theorem dX7_refusalOfStoke_42 : decode cX7_refusalOfStoke 42 = .ok (.goto 4, 3) := by decide +kernel
theorem dX7_refusalOfStoke_45 : decode cX7_refusalOfStoke 45 = .ok (.iconst 0, 1) := by decide +kernel
theorem dX7_refusalOfStoke_46 : decode cX7_refusalOfStoke 46 = .ok (.istore_n 3, 1) := by decide +kernel
theorem dX7_refusalOfStoke_47 : decode cX7_refusalOfStoke 47 = .ok (.iload_n 3, 1) := by decide +kernel
theorem dX7_refusalOfStoke_48 : decode cX7_refusalOfStoke 48 = .ok (.ifCond .ne 18, 3) := by decide +kernel
theorem dX7_refusalOfStoke_51 : decode cX7_refusalOfStoke 51 = .ok (.aload_n 0, 1) := by decide +kernel
theorem dX7_refusalOfStoke_52 : decode cX7_refusalOfStoke 52 = .ok (.getfield 68, 3) := by decide +kernel
theorem dX7_refusalOfStoke_55 : decode cX7_refusalOfStoke 55 = .ok (.bipush 25, 2) := by decide +kernel
theorem dX7_refusalOfStoke_57 : decode cX7_refusalOfStoke 57 = .ok (.iload_n 2, 1) := by decide +kernel
theorem dX7_refusalOfStoke_58 : decode cX7_refusalOfStoke 58 = .ok (.imul, 1) := by decide +kernel
theorem dX7_refusalOfStoke_59 : decode cX7_refusalOfStoke 59 = .ok (.iadd, 1) := by decide +kernel
theorem dX7_refusalOfStoke_60 : decode cX7_refusalOfStoke 60 = .ok (.sipush 400, 3) := by decide +kernel
theorem dX7_refusalOfStoke_63 : decode cX7_refusalOfStoke 63 = .ok (.if_icmp .le 7, 3) := by decide +kernel
theorem dX7_refusalOfStoke_66 : decode cX7_refusalOfStoke 66 = .ok (.iconst 3, 1) := by decide +kernel
theorem dX7_refusalOfStoke_67 : decode cX7_refusalOfStoke 67 = .ok (.goto 4, 3) := by decide +kernel
theorem dX7_refusalOfStoke_70 : decode cX7_refusalOfStoke 70 = .ok (.iconst 0, 1) := by decide +kernel
theorem dX7_refusalOfStoke_71 : decode cX7_refusalOfStoke 71 = .ok (.ireturn, 1) := by decide +kernel
theorem dX7_refusalOfPass_0 : decode cX7_refusalOfPass 0 = .ok (.iload_n 1, 1) := by decide +kernel
theorem dX7_refusalOfPass_1 : decode cX7_refusalOfPass 1 = .ok (.iconst 1, 1) := by decide +kernel
theorem dX7_refusalOfPass_2 : decode cX7_refusalOfPass 2 = .ok (.if_icmp .lt 9, 3) := by decide +kernel
theorem dX7_refusalOfPass_5 : decode cX7_refusalOfPass 5 = .ok (.iload_n 1, 1) := by decide +kernel
theorem dX7_refusalOfPass_6 : decode cX7_refusalOfPass 6 = .ok (.bipush 100, 2) := by decide +kernel
theorem dX7_refusalOfPass_8 : decode cX7_refusalOfPass 8 = .ok (.if_icmp .le 5, 3) := by decide +kernel
theorem dX7_refusalOfPass_11 : decode cX7_refusalOfPass 11 = .ok (.iconst 2, 1) := by decide +kernel
theorem dX7_refusalOfPass_12 : decode cX7_refusalOfPass 12 = .ok (.ireturn, 1) := by decide +kernel
theorem dX7_refusalOfPass_13 : decode cX7_refusalOfPass 13 = .ok (.aload_n 0, 1) := by decide +kernel
theorem dX7_refusalOfPass_14 : decode cX7_refusalOfPass 14 = .ok (.getfield 71, 3) := by decide +kernel
theorem dX7_refusalOfPass_17 : decode cX7_refusalOfPass 17 = .ok (.iload_n 1, 1) := by decide +kernel
theorem dX7_refusalOfPass_18 : decode cX7_refusalOfPass 18 = .ok (.iadd, 1) := by decide +kernel
theorem dX7_refusalOfPass_19 : decode cX7_refusalOfPass 19 = .ok (.ldc 123, 2) := by decide +kernel
theorem dX7_refusalOfPass_21 : decode cX7_refusalOfPass 21 = .ok (.if_icmp .le 7, 3) := by decide +kernel
theorem dX7_refusalOfPass_24 : decode cX7_refusalOfPass 24 = .ok (.iconst 3, 1) := by decide +kernel
theorem dX7_refusalOfPass_25 : decode cX7_refusalOfPass 25 = .ok (.goto 4, 3) := by decide +kernel
theorem dX7_refusalOfPass_28 : decode cX7_refusalOfPass 28 = .ok (.iconst 0, 1) := by decide +kernel
theorem dX7_refusalOfPass_29 : decode cX7_refusalOfPass 29 = .ok (.ireturn, 1) := by decide +kernel
set_option maxRecDepth 20000 in
theorem ggX7_newKind_X6_put : GoodIn wsX7_newKind wsX6_put := goodIn_r _ [12, 13, 34] (by decide +kernel) (by decide +kernel)
set_option maxRecDepth 20000 in
theorem gX7_newKind_X6_put : GoodIn wsX7_newKind (wsV RX7 127 RX6 yX6_put wsX6_put) := goodIn_app (goodIn_of _ (by decide +kernel)) ggX7_newKind_X6_put
theorem dX7_newKind_0 : decode cX7_newKind 0 = .ok (.aload_n 0, 1) := by decide +kernel
theorem dX7_newKind_1 : decode cX7_newKind 1 = .ok (.getfield 12, 3) := by decide +kernel
theorem dX7_newKind_4 : decode cX7_newKind 4 = .ok (.getfield 92, 3) := by decide +kernel
theorem dX7_newKind_7 : decode cX7_newKind 7 = .ok (.istore 6, 2) := by decide +kernel
theorem dX7_newKind_9 : decode cX7_newKind 9 = .ok (.aload_n 0, 1) := by decide +kernel
theorem dX7_newKind_10 : decode cX7_newKind 10 = .ok (.getfield 12, 3) := by decide +kernel
theorem dX7_newKind_13 : decode cX7_newKind 13 = .ok (.getfield 124, 3) := by decide +kernel
theorem dX7_newKind_16 : decode cX7_newKind 16 = .ok (.iload 6, 2) := by decide +kernel
theorem dX7_newKind_18 : decode cX7_newKind 18 = .ok (.iload_n 1, 1) := by decide +kernel
