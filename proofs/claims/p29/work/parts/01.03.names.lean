theorem dX7_newKind_19 : decode cX7_newKind 19 = .ok (.invokevirtual 127, 3) := by decide +kernel
theorem dX7_newKind_22 : decode cX7_newKind 22 = .ok (.aload_n 0, 1) := by decide +kernel
theorem dX7_newKind_23 : decode cX7_newKind 23 = .ok (.getfield 12, 3) := by decide +kernel
theorem dX7_newKind_26 : decode cX7_newKind 26 = .ok (.getfield 131, 3) := by decide +kernel
theorem dX7_newKind_29 : decode cX7_newKind 29 = .ok (.iload 6, 2) := by decide +kernel
theorem dX7_newKind_31 : decode cX7_newKind 31 = .ok (.iload_n 2, 1) := by decide +kernel
theorem dX7_newKind_32 : decode cX7_newKind 32 = .ok (.invokevirtual 127, 3) := by decide +kernel
theorem dX7_newKind_35 : decode cX7_newKind 35 = .ok (.aload_n 0, 1) := by decide +kernel
theorem dX7_newKind_36 : decode cX7_newKind 36 = .ok (.getfield 12, 3) := by decide +kernel
theorem dX7_newKind_39 : decode cX7_newKind 39 = .ok (.getfield 134, 3) := by decide +kernel
theorem dX7_newKind_42 : decode cX7_newKind 42 = .ok (.iload 6, 2) := by decide +kernel
theorem dX7_newKind_44 : decode cX7_newKind 44 = .ok (.iload_n 3, 1) := by decide +kernel
theorem dX7_newKind_45 : decode cX7_newKind 45 = .ok (.invokevirtual 127, 3) := by decide +kernel
theorem dX7_newKind_48 : decode cX7_newKind 48 = .ok (.aload_n 0, 1) := by decide +kernel
theorem dX7_newKind_49 : decode cX7_newKind 49 = .ok (.getfield 12, 3) := by decide +kernel
theorem dX7_newKind_52 : decode cX7_newKind 52 = .ok (.getfield 137, 3) := by decide +kernel
theorem dX7_newKind_55 : decode cX7_newKind 55 = .ok (.iload 6, 2) := by decide +kernel
theorem dX7_newKind_57 : decode cX7_newKind 57 = .ok (.iload 4, 2) := by decide +kernel
theorem dX7_newKind_59 : decode cX7_newKind 59 = .ok (.invokevirtual 127, 3) := by decide +kernel
theorem dX7_newKind_62 : decode cX7_newKind 62 = .ok (.aload_n 0, 1) := by decide +kernel
theorem dX7_newKind_63 : decode cX7_newKind 63 = .ok (.getfield 12, 3) := by decide +kernel
theorem dX7_newKind_66 : decode cX7_newKind 66 = .ok (.getfield 140, 3) := by decide +kernel
theorem dX7_newKind_69 : decode cX7_newKind 69 = .ok (.iload 6, 2) := by decide +kernel
theorem dX7_newKind_71 : decode cX7_newKind 71 = .ok (.iload 5, 2) := by decide +kernel
theorem dX7_newKind_73 : decode cX7_newKind 73 = .ok (.invokevirtual 127, 3) := by decide +kernel
theorem dX7_newKind_76 : decode cX7_newKind 76 = .ok (.aload_n 0, 1) := by decide +kernel
theorem dX7_newKind_77 : decode cX7_newKind 77 = .ok (.getfield 12, 3) := by decide +kernel
theorem dX7_newKind_80 : decode cX7_newKind 80 = .ok (.iload 6, 2) := by decide +kernel
theorem dX7_newKind_82 : decode cX7_newKind 82 = .ok (.iconst 1, 1) := by decide +kernel
theorem dX7_newKind_83 : decode cX7_newKind 83 = .ok (.iadd, 1) := by decide +kernel
theorem dX7_newKind_84 : decode cX7_newKind 84 = .ok (.putfield 92, 3) := by decide +kernel
theorem dX7_newKind_87 : decode cX7_newKind 87 = .ok (.iload 6, 2) := by decide +kernel
theorem dX7_newKind_89 : decode cX7_newKind 89 = .ok (.ireturn, 1) := by decide +kernel
theorem dX7_newHouse_0 : decode cX7_newHouse 0 = .ok (.aload_n 0, 1) := by decide +kernel
theorem dX7_newHouse_1 : decode cX7_newHouse 1 = .ok (.getfield 21, 3) := by decide +kernel
theorem dX7_newHouse_4 : decode cX7_newHouse 4 = .ok (.getfield 95, 3) := by decide +kernel
theorem dX7_newHouse_7 : decode cX7_newHouse 7 = .ok (.istore_n 1, 1) := by decide +kernel
theorem dX7_newHouse_8 : decode cX7_newHouse 8 = .ok (.aload_n 0, 1) := by decide +kernel
theorem dX7_newHouse_9 : decode cX7_newHouse 9 = .ok (.getfield 21, 3) := by decide +kernel
theorem dX7_newHouse_12 : decode cX7_newHouse 12 = .ok (.iload_n 1, 1) := by decide +kernel
theorem dX7_newHouse_13 : decode cX7_newHouse 13 = .ok (.iconst 1, 1) := by decide +kernel
theorem dX7_newHouse_14 : decode cX7_newHouse 14 = .ok (.iadd, 1) := by decide +kernel
theorem dX7_newHouse_15 : decode cX7_newHouse 15 = .ok (.putfield 95, 3) := by decide +kernel
theorem dX7_newHouse_18 : decode cX7_newHouse 18 = .ok (.iload_n 1, 1) := by decide +kernel
theorem dX7_newHouse_19 : decode cX7_newHouse 19 = .ok (.ireturn, 1) := by decide +kernel
set_option maxRecDepth 20000 in
theorem ggX7_newDough_X6_put : GoodIn wsX7_newDough wsX6_put := goodIn_r _ [17, 18, 42] (by decide +kernel) (by decide +kernel)
set_option maxRecDepth 20000 in
theorem gX7_newDough_X6_put : GoodIn wsX7_newDough (wsV RX7 127 RX6 yX6_put wsX6_put) := goodIn_app (goodIn_of _ (by decide +kernel)) ggX7_newDough_X6_put
theorem dX7_newDough_0 : decode cX7_newDough 0 = .ok (.aload_n 0, 1) := by decide +kernel
theorem dX7_newDough_1 : decode cX7_newDough 1 = .ok (.getfield 28, 3) := by decide +kernel
theorem dX7_newDough_4 : decode cX7_newDough 4 = .ok (.getfield 96, 3) := by decide +kernel
theorem dX7_newDough_7 : decode cX7_newDough 7 = .ok (.istore 4, 2) := by decide +kernel
theorem dX7_newDough_9 : decode cX7_newDough 9 = .ok (.aload_n 0, 1) := by decide +kernel
theorem dX7_newDough_10 : decode cX7_newDough 10 = .ok (.getfield 28, 3) := by decide +kernel
theorem dX7_newDough_13 : decode cX7_newDough 13 = .ok (.getfield 143, 3) := by decide +kernel
theorem dX7_newDough_16 : decode cX7_newDough 16 = .ok (.iload 4, 2) := by decide +kernel
theorem dX7_newDough_18 : decode cX7_newDough 18 = .ok (.iload_n 1, 1) := by decide +kernel
theorem dX7_newDough_19 : decode cX7_newDough 19 = .ok (.invokevirtual 127, 3) := by decide +kernel
theorem dX7_newDough_22 : decode cX7_newDough 22 = .ok (.aload_n 0, 1) := by decide +kernel
theorem dX7_newDough_23 : decode cX7_newDough 23 = .ok (.getfield 28, 3) := by decide +kernel
theorem dX7_newDough_26 : decode cX7_newDough 26 = .ok (.getfield 146, 3) := by decide +kernel
theorem dX7_newDough_29 : decode cX7_newDough 29 = .ok (.iload 4, 2) := by decide +kernel
theorem dX7_newDough_31 : decode cX7_newDough 31 = .ok (.iload_n 2, 1) := by decide +kernel
theorem dX7_newDough_32 : decode cX7_newDough 32 = .ok (.invokevirtual 127, 3) := by decide +kernel
theorem dX7_newDough_35 : decode cX7_newDough 35 = .ok (.aload_n 0, 1) := by decide +kernel
theorem dX7_newDough_36 : decode cX7_newDough 36 = .ok (.getfield 28, 3) := by decide +kernel
theorem dX7_newDough_39 : decode cX7_newDough 39 = .ok (.getfield 149, 3) := by decide +kernel
theorem dX7_newDough_42 : decode cX7_newDough 42 = .ok (.iload 4, 2) := by decide +kernel
theorem dX7_newDough_44 : decode cX7_newDough 44 = .ok (.iload_n 3, 1) := by decide +kernel
theorem dX7_newDough_45 : decode cX7_newDough 45 = .ok (.invokevirtual 127, 3) := by decide +kernel
theorem dX7_newDough_48 : decode cX7_newDough 48 = .ok (.aload_n 0, 1) := by decide +kernel
theorem dX7_newDough_49 : decode cX7_newDough 49 = .ok (.getfield 28, 3) := by decide +kernel
theorem dX7_newDough_52 : decode cX7_newDough 52 = .ok (.getfield 152, 3) := by decide +kernel
theorem dX7_newDough_55 : decode cX7_newDough 55 = .ok (.iload 4, 2) := by decide +kernel
theorem dX7_newDough_57 : decode cX7_newDough 57 = .ok (.iconst 0, 1) := by decide +kernel
theorem dX7_newDough_58 : decode cX7_newDough 58 = .ok (.invokevirtual 127, 3) := by decide +kernel
theorem dX7_newDough_61 : decode cX7_newDough 61 = .ok (.aload_n 0, 1) := by decide +kernel
theorem dX7_newDough_62 : decode cX7_newDough 62 = .ok (.getfield 28, 3) := by decide +kernel
theorem dX7_newDough_65 : decode cX7_newDough 65 = .ok (.getfield 101, 3) := by decide +kernel
theorem dX7_newDough_68 : decode cX7_newDough 68 = .ok (.iload 4, 2) := by decide +kernel
theorem dX7_newDough_70 : decode cX7_newDough 70 = .ok (.iconst 0, 1) := by decide +kernel
theorem dX7_newDough_71 : decode cX7_newDough 71 = .ok (.invokevirtual 127, 3) := by decide +kernel
theorem dX7_newDough_74 : decode cX7_newDough 74 = .ok (.aload_n 0, 1) := by decide +kernel
theorem dX7_newDough_75 : decode cX7_newDough 75 = .ok (.getfield 28, 3) := by decide +kernel
theorem dX7_newDough_78 : decode cX7_newDough 78 = .ok (.getfield 155, 3) := by decide +kernel
theorem dX7_newDough_81 : decode cX7_newDough 81 = .ok (.iload 4, 2) := by decide +kernel
theorem dX7_newDough_83 : decode cX7_newDough 83 = .ok (.iconst 0, 1) := by decide +kernel
theorem dX7_newDough_84 : decode cX7_newDough 84 = .ok (.invokevirtual 127, 3) := by decide +kernel
theorem dX7_newDough_87 : decode cX7_newDough 87 = .ok (.aload_n 0, 1) := by decide +kernel
theorem dX7_newDough_88 : decode cX7_newDough 88 = .ok (.getfield 28, 3) := by decide +kernel
theorem dX7_newDough_91 : decode cX7_newDough 91 = .ok (.getfield 108, 3) := by decide +kernel
theorem dX7_newDough_94 : decode cX7_newDough 94 = .ok (.iload 4, 2) := by decide +kernel
theorem dX7_newDough_96 : decode cX7_newDough 96 = .ok (.iconst (-1), 1) := by decide +kernel
theorem dX7_newDough_97 : decode cX7_newDough 97 = .ok (.invokevirtual 127, 3) := by decide +kernel
theorem dX7_newDough_100 : decode cX7_newDough 100 = .ok (.aload_n 0, 1) := by decide +kernel
theorem dX7_newDough_101 : decode cX7_newDough 101 = .ok (.getfield 28, 3) := by decide +kernel
theorem dX7_newDough_104 : decode cX7_newDough 104 = .ok (.getfield 158, 3) := by decide +kernel
theorem dX7_newDough_107 : decode cX7_newDough 107 = .ok (.iload 4, 2) := by decide +kernel
theorem dX7_newDough_109 : decode cX7_newDough 109 = .ok (.iconst 0, 1) := by decide +kernel
theorem dX7_newDough_110 : decode cX7_newDough 110 = .ok (.invokevirtual 127, 3) := by decide +kernel
theorem dX7_newDough_113 : decode cX7_newDough 113 = .ok (.aload_n 0, 1) := by decide +kernel
theorem dX7_newDough_114 : decode cX7_newDough 114 = .ok (.getfield 28, 3) := by decide +kernel
theorem dX7_newDough_117 : decode cX7_newDough 117 = .ok (.iload 4, 2) := by decide +kernel
theorem dX7_newDough_119 : decode cX7_newDough 119 = .ok (.iconst 1, 1) := by decide +kernel
theorem dX7_newDough_120 : decode cX7_newDough 120 = .ok (.iadd, 1) := by decide +kernel
theorem dX7_newDough_121 : decode cX7_newDough 121 = .ok (.putfield 96, 3) := by decide +kernel
theorem dX7_newDough_124 : decode cX7_newDough 124 = .ok (.aload_n 0, 1) := by decide +kernel
theorem dX7_newDough_125 : decode cX7_newDough 125 = .ok (.getfield 44, 3) := by decide +kernel
theorem dX7_newDough_128 : decode cX7_newDough 128 = .ok (.aload_n 0, 1) := by decide +kernel
theorem dX7_newDough_129 : decode cX7_newDough 129 = .ok (.getfield 64, 3) := by decide +kernel
theorem dX7_newDough_132 : decode cX7_newDough 132 = .ok (.iload 4, 2) := by decide +kernel
theorem dX7_newDough_134 : decode cX7_newDough 134 = .ok (.invokevirtual 127, 3) := by decide +kernel
theorem dX7_newDough_137 : decode cX7_newDough 137 = .ok (.aload_n 0, 1) := by decide +kernel
theorem dX7_newDough_138 : decode cX7_newDough 138 = .ok (.dup, 1) := by decide +kernel
theorem dX7_newDough_139 : decode cX7_newDough 139 = .ok (.getfield 64, 3) := by decide +kernel
theorem dX7_newDough_142 : decode cX7_newDough 142 = .ok (.iconst 1, 1) := by decide +kernel
theorem dX7_newDough_143 : decode cX7_newDough 143 = .ok (.iadd, 1) := by decide +kernel
theorem dX7_newDough_144 : decode cX7_newDough 144 = .ok (.putfield 64, 3) := by decide +kernel
theorem dX7_newDough_147 : decode cX7_newDough 147 = .ok (.iload 4, 2) := by decide +kernel
theorem dX7_newDough_149 : decode cX7_newDough 149 = .ok (.ireturn, 1) := by decide +kernel
set_option maxRecDepth 20000 in
theorem ggX7_clearAway_X6_at : GoodIn wsX7_clearAway wsX6_at := goodIn_r _ [8, 9, 61] (by decide +kernel) (by decide +kernel)
set_option maxRecDepth 20000 in
theorem gX7_clearAway_X6_at : GoodIn wsX7_clearAway (wsV RX7 104 RX6 yX6_at wsX6_at) := goodIn_app (goodIn_of _ (by decide +kernel)) ggX7_clearAway_X6_at
set_option maxRecDepth 20000 in
theorem ggX7_clearAway_X1_move : GoodIn wsX7_clearAway wsX1_move := goodIn_r _ [14, 15, 16, 17, 18, 19, 20, 21, 22, 23, 5, 6, 7, 8, 9, 24, 25, 26, 27, 52, 53, 54, 55, 56, 57, 58, 59, 60, 61] (by decide +kernel) (by decide +kernel)
set_option maxRecDepth 20000 in
theorem gX7_clearAway_X1_move : GoodIn wsX7_clearAway (wsV RX7 161 RX1 yX1_move wsX1_move) := goodIn_app (goodIn_of _ (by decide +kernel)) ggX7_clearAway_X1_move
set_option maxRecDepth 20000 in
theorem ggX7_clearAway_X7_renumber : GoodIn wsX7_clearAway wsX7_renumber := goodIn_r _ [32, 33, 34, 35, 36, 4, 5, 6, 7, 8, 9, 37, 25, 26, 27, 38, 39, 40, 41, 42, 43, 44, 45, 46, 47, 48, 49, 50, 51, 62, 63, 64, 61] (by decide +kernel) (by decide +kernel)
set_option maxRecDepth 20000 in
theorem gX7_clearAway_X7_renumber : GoodIn wsX7_clearAway (wsV RX7 164 RX7 yX7_renumber wsX7_renumber) := goodIn_app (goodIn_of _ (by decide +kernel)) ggX7_clearAway_X7_renumber
theorem dX7_clearAway_0 : decode cX7_clearAway 0 = .ok (.aload_n 0, 1) := by decide +kernel
theorem dX7_clearAway_1 : decode cX7_clearAway 1 = .ok (.getfield 28, 3) := by decide +kernel
theorem dX7_clearAway_4 : decode cX7_clearAway 4 = .ok (.getfield 96, 3) := by decide +kernel
theorem dX7_clearAway_7 : decode cX7_clearAway 7 = .ok (.istore_n 1, 1) := by decide +kernel
theorem dX7_clearAway_8 : decode cX7_clearAway 8 = .ok (.iconst 0, 1) := by decide +kernel
theorem dX7_clearAway_9 : decode cX7_clearAway 9 = .ok (.istore_n 2, 1) := by decide +kernel
theorem dX7_clearAway_10 : decode cX7_clearAway 10 = .ok (.iconst 0, 1) := by decide +kernel
theorem dX7_clearAway_11 : decode cX7_clearAway 11 = .ok (.istore_n 3, 1) := by decide +kernel
theorem dX7_clearAway_12 : decode cX7_clearAway 12 = .ok (.iload_n 3, 1) := by decide +kernel
theorem dX7_clearAway_13 : decode cX7_clearAway 13 = .ok (.iload_n 1, 1) := by decide +kernel
theorem dX7_clearAway_14 : decode cX7_clearAway 14 = .ok (.if_icmp .ge 51, 3) := by decide +kernel
theorem dX7_clearAway_17 : decode cX7_clearAway 17 = .ok (.aload_n 0, 1) := by decide +kernel
theorem dX7_clearAway_18 : decode cX7_clearAway 18 = .ok (.getfield 28, 3) := by decide +kernel
theorem dX7_clearAway_21 : decode cX7_clearAway 21 = .ok (.getfield 101, 3) := by decide +kernel
theorem dX7_clearAway_24 : decode cX7_clearAway 24 = .ok (.iload_n 3, 1) := by decide +kernel
theorem dX7_clearAway_25 : decode cX7_clearAway 25 = .ok (.invokevirtual 104, 3) := by decide +kernel
theorem dX7_clearAway_28 : decode cX7_clearAway 28 = .ok (.istore 4, 2) := by decide +kernel
theorem dX7_clearAway_30 : decode cX7_clearAway 30 = .ok (.iload 4, 2) := by decide +kernel
theorem dX7_clearAway_32 : decode cX7_clearAway 32 = .ok (.ifCond .eq 9, 3) := by decide +kernel
theorem dX7_clearAway_35 : decode cX7_clearAway 35 = .ok (.iload 4, 2) := by decide +kernel
theorem dX7_clearAway_37 : decode cX7_clearAway 37 = .ok (.iconst 1, 1) := by decide +kernel
theorem dX7_clearAway_38 : decode cX7_clearAway 38 = .ok (.if_icmp .ne 21, 3) := by decide +kernel
theorem dX7_clearAway_41 : decode cX7_clearAway 41 = .ok (.aload_n 0, 1) := by decide +kernel
theorem dX7_clearAway_42 : decode cX7_clearAway 42 = .ok (.getfield 28, 3) := by decide +kernel
theorem dX7_clearAway_45 : decode cX7_clearAway 45 = .ok (.iload_n 3, 1) := by decide +kernel
theorem dX7_clearAway_46 : decode cX7_clearAway 46 = .ok (.iload_n 2, 1) := by decide +kernel
theorem dX7_clearAway_47 : decode cX7_clearAway 47 = .ok (.invokevirtual 161, 3) := by decide +kernel
theorem dX7_clearAway_50 : decode cX7_clearAway 50 = .ok (.aload_n 0, 1) := by decide +kernel
theorem dX7_clearAway_51 : decode cX7_clearAway 51 = .ok (.iload_n 3, 1) := by decide +kernel
theorem dX7_clearAway_52 : decode cX7_clearAway 52 = .ok (.iload_n 2, 1) := by decide +kernel
theorem dX7_clearAway_53 : decode cX7_clearAway 53 = .ok (.invokevirtual 164, 3) := by decide +kernel
theorem dX7_clearAway_56 : decode cX7_clearAway 56 = .ok (.iinc 2 1, 3) := by decide +kernel
theorem dX7_clearAway_59 : decode cX7_clearAway 59 = .ok (.iinc 3 1, 3) := by decide +kernel
theorem dX7_clearAway_62 : decode cX7_clearAway 62 = .ok (.goto (-50), 3) := by decide +kernel
theorem dX7_clearAway_65 : decode cX7_clearAway 65 = .ok (.aload_n 0, 1) := by decide +kernel
theorem dX7_clearAway_66 : decode cX7_clearAway 66 = .ok (.getfield 28, 3) := by decide +kernel
theorem dX7_clearAway_69 : decode cX7_clearAway 69 = .ok (.iload_n 2, 1) := by decide +kernel
theorem dX7_clearAway_70 : decode cX7_clearAway 70 = .ok (.putfield 96, 3) := by decide +kernel
theorem dX7_clearAway_73 : decode cX7_clearAway 73 = .ok (.iload_n 2, 1) := by decide +kernel
theorem dX7_clearAway_74 : decode cX7_clearAway 74 = .ok (.ireturn, 1) := by decide +kernel
set_option maxRecDepth 20000 in
theorem ggX7_renumber_X6_at : GoodIn wsX7_renumber wsX6_at := goodIn_r _ [9, 10, 32] (by decide +kernel) (by decide +kernel)
set_option maxRecDepth 20000 in
theorem gX7_renumber_X6_at : GoodIn wsX7_renumber (wsV RX7 104 RX6 yX6_at wsX6_at) := goodIn_app (goodIn_of _ (by decide +kernel)) ggX7_renumber_X6_at
set_option maxRecDepth 20000 in
theorem ggX7_renumber_X6_put : GoodIn wsX7_renumber wsX6_put := goodIn_r _ [14, 10, 32] (by decide +kernel) (by decide +kernel)
set_option maxRecDepth 20000 in
theorem gX7_renumber_X6_put : GoodIn wsX7_renumber (wsV RX7 127 RX6 yX6_put wsX6_put) := goodIn_app (goodIn_of _ (by decide +kernel)) ggX7_renumber_X6_put
theorem dX7_renumber_0 : decode cX7_renumber 0 = .ok (.iconst 0, 1) := by decide +kernel
theorem dX7_renumber_1 : decode cX7_renumber 1 = .ok (.istore_n 3, 1) := by decide +kernel
theorem dX7_renumber_2 : decode cX7_renumber 2 = .ok (.iload_n 3, 1) := by decide +kernel
theorem dX7_renumber_3 : decode cX7_renumber 3 = .ok (.aload_n 0, 1) := by decide +kernel
theorem dX7_renumber_4 : decode cX7_renumber 4 = .ok (.getfield 64, 3) := by decide +kernel
theorem dX7_renumber_7 : decode cX7_renumber 7 = .ok (.if_icmp .ge 30, 3) := by decide +kernel
theorem dX7_renumber_10 : decode cX7_renumber 10 = .ok (.aload_n 0, 1) := by decide +kernel
theorem dX7_renumber_11 : decode cX7_renumber 11 = .ok (.getfield 44, 3) := by decide +kernel
theorem dX7_renumber_14 : decode cX7_renumber 14 = .ok (.iload_n 3, 1) := by decide +kernel
theorem dX7_renumber_15 : decode cX7_renumber 15 = .ok (.invokevirtual 104, 3) := by decide +kernel
theorem dX7_renumber_18 : decode cX7_renumber 18 = .ok (.iload_n 1, 1) := by decide +kernel
theorem dX7_renumber_19 : decode cX7_renumber 19 = .ok (.if_icmp .ne 12, 3) := by decide +kernel
theorem dX7_renumber_22 : decode cX7_renumber 22 = .ok (.aload_n 0, 1) := by decide +kernel
theorem dX7_renumber_23 : decode cX7_renumber 23 = .ok (.getfield 44, 3) := by decide +kernel
theorem dX7_renumber_26 : decode cX7_renumber 26 = .ok (.iload_n 3, 1) := by decide +kernel
theorem dX7_renumber_27 : decode cX7_renumber 27 = .ok (.iload_n 2, 1) := by decide +kernel
theorem dX7_renumber_28 : decode cX7_renumber 28 = .ok (.invokevirtual 127, 3) := by decide +kernel
theorem dX7_renumber_31 : decode cX7_renumber 31 = .ok (.iinc 3 1, 3) := by decide +kernel
theorem dX7_renumber_34 : decode cX7_renumber 34 = .ok (.goto (-32), 3) := by decide +kernel
theorem dX7_renumber_37 : decode cX7_renumber 37 = .ok (.iconst 0, 1) := by decide +kernel
theorem dX7_renumber_38 : decode cX7_renumber 38 = .ok (.istore_n 3, 1) := by decide +kernel
theorem dX7_renumber_39 : decode cX7_renumber 39 = .ok (.iload_n 3, 1) := by decide +kernel
theorem dX7_renumber_40 : decode cX7_renumber 40 = .ok (.bipush 12, 2) := by decide +kernel
theorem dX7_renumber_42 : decode cX7_renumber 42 = .ok (.if_icmp .ge 36, 3) := by decide +kernel
theorem dX7_renumber_45 : decode cX7_renumber 45 = .ok (.aload_n 0, 1) := by decide +kernel
theorem dX7_renumber_46 : decode cX7_renumber 46 = .ok (.getfield 35, 3) := by decide +kernel
theorem dX7_renumber_49 : decode cX7_renumber 49 = .ok (.getfield 167, 3) := by decide +kernel
theorem dX7_renumber_52 : decode cX7_renumber 52 = .ok (.iload_n 3, 1) := by decide +kernel
theorem dX7_renumber_53 : decode cX7_renumber 53 = .ok (.invokevirtual 104, 3) := by decide +kernel
theorem dX7_renumber_56 : decode cX7_renumber 56 = .ok (.iload_n 1, 1) := by decide +kernel
theorem dX7_renumber_57 : decode cX7_renumber 57 = .ok (.if_icmp .ne 15, 3) := by decide +kernel
theorem dX7_renumber_60 : decode cX7_renumber 60 = .ok (.aload_n 0, 1) := by decide +kernel
theorem dX7_renumber_61 : decode cX7_renumber 61 = .ok (.getfield 35, 3) := by decide +kernel
theorem dX7_renumber_64 : decode cX7_renumber 64 = .ok (.getfield 167, 3) := by decide +kernel
theorem dX7_renumber_67 : decode cX7_renumber 67 = .ok (.iload_n 3, 1) := by decide +kernel
theorem dX7_renumber_68 : decode cX7_renumber 68 = .ok (.iload_n 2, 1) := by decide +kernel
theorem dX7_renumber_69 : decode cX7_renumber 69 = .ok (.invokevirtual 127, 3) := by decide +kernel
theorem dX7_renumber_72 : decode cX7_renumber 72 = .ok (.iinc 3 1, 3) := by decide +kernel
theorem dX7_renumber_75 : decode cX7_renumber 75 = .ok (.goto (-36), 3) := by decide +kernel
theorem dX7_renumber_78 : decode cX7_renumber 78 = .ok (.return_, 1) := by decide +kernel
set_option maxRecDepth 20000 in
theorem ggX7_exchange_X7_placeInLine : GoodIn wsX7_exchange wsX7_placeInLine := goodIn_r _ [6, 7, 1, 8, 9, 10, 11, 12, 13, 18, 19, 20, 21, 22, 23, 24, 25, 26, 27, 28, 29, 30, 31, 32] (by decide +kernel) (by decide +kernel)
set_option maxRecDepth 20000 in
theorem gX7_exchange_X7_placeInLine : GoodIn wsX7_exchange (wsV RX7 170 RX7 yX7_placeInLine wsX7_placeInLine) := goodIn_app (goodIn_of _ (by decide +kernel)) ggX7_exchange_X7_placeInLine
set_option maxRecDepth 20000 in
theorem ggX7_exchange_X6_put : GoodIn wsX7_exchange wsX6_put := goodIn_r _ [17, 13, 32] (by decide +kernel) (by decide +kernel)
set_option maxRecDepth 20000 in
theorem gX7_exchange_X6_put : GoodIn wsX7_exchange (wsV RX7 127 RX6 yX6_put wsX6_put) := goodIn_app (goodIn_of _ (by decide +kernel)) ggX7_exchange_X6_put
theorem dX7_exchange_0 : decode cX7_exchange 0 = .ok (.aload_n 0, 1) := by decide +kernel
theorem dX7_exchange_1 : decode cX7_exchange 1 = .ok (.iload_n 1, 1) := by decide +kernel
theorem dX7_exchange_2 : decode cX7_exchange 2 = .ok (.invokevirtual 170, 3) := by decide +kernel
theorem dX7_exchange_5 : decode cX7_exchange 5 = .ok (.istore_n 3, 1) := by decide +kernel
theorem dX7_exchange_6 : decode cX7_exchange 6 = .ok (.aload_n 0, 1) := by decide +kernel
theorem dX7_exchange_7 : decode cX7_exchange 7 = .ok (.iload_n 2, 1) := by decide +kernel
theorem dX7_exchange_8 : decode cX7_exchange 8 = .ok (.invokevirtual 170, 3) := by decide +kernel
theorem dX7_exchange_11 : decode cX7_exchange 11 = .ok (.istore 4, 2) := by decide +kernel
theorem dX7_exchange_13 : decode cX7_exchange 13 = .ok (.aload_n 0, 1) := by decide +kernel
theorem dX7_exchange_14 : decode cX7_exchange 14 = .ok (.getfield 44, 3) := by decide +kernel
theorem dX7_exchange_17 : decode cX7_exchange 17 = .ok (.iload_n 3, 1) := by decide +kernel
theorem dX7_exchange_18 : decode cX7_exchange 18 = .ok (.iload_n 2, 1) := by decide +kernel
theorem dX7_exchange_19 : decode cX7_exchange 19 = .ok (.invokevirtual 127, 3) := by decide +kernel
theorem dX7_exchange_22 : decode cX7_exchange 22 = .ok (.aload_n 0, 1) := by decide +kernel
theorem dX7_exchange_23 : decode cX7_exchange 23 = .ok (.getfield 44, 3) := by decide +kernel
theorem dX7_exchange_26 : decode cX7_exchange 26 = .ok (.iload 4, 2) := by decide +kernel
theorem dX7_exchange_28 : decode cX7_exchange 28 = .ok (.iload_n 1, 1) := by decide +kernel
theorem dX7_exchange_29 : decode cX7_exchange 29 = .ok (.invokevirtual 127, 3) := by decide +kernel
theorem dX7_exchange_32 : decode cX7_exchange 32 = .ok (.iload 4, 2) := by decide +kernel
theorem dX7_exchange_34 : decode cX7_exchange 34 = .ok (.ireturn, 1) := by decide +kernel
set_option maxRecDepth 20000 in
theorem ggX7_takeLogs_X6_increase : GoodIn wsX7_takeLogs wsX6_increase := goodIn_r _ [9, 10, 11, 12, 8, 13, 14, 15, 16, 17, 18, 41] (by decide +kernel) (by decide +kernel)
set_option maxRecDepth 20000 in
theorem gX7_takeLogs_X6_increase : GoodIn wsX7_takeLogs (wsV RX7 173 RX6 yX6_increase wsX6_increase) := goodIn_app (goodIn_of _ (by decide +kernel)) ggX7_takeLogs_X6_increase
set_option maxRecDepth 20000 in
theorem ggX7_takeLogs_X6_at : GoodIn wsX7_takeLogs wsX6_at := goodIn_r _ [13, 14, 41] (by decide +kernel) (by decide +kernel)
set_option maxRecDepth 20000 in
theorem gX7_takeLogs_X6_at : GoodIn wsX7_takeLogs (wsV RX7 104 RX6 yX6_at wsX6_at) := goodIn_app (goodIn_of _ (by decide +kernel)) ggX7_takeLogs_X6_at
theorem dX7_takeLogs_0 : decode cX7_takeLogs 0 = .ok (.aload_n 0, 1) := by decide +kernel
theorem dX7_takeLogs_1 : decode cX7_takeLogs 1 = .ok (.getfield 21, 3) := by decide +kernel
theorem dX7_takeLogs_4 : decode cX7_takeLogs 4 = .ok (.getfield 120, 3) := by decide +kernel
theorem dX7_takeLogs_7 : decode cX7_takeLogs 7 = .ok (.iload_n 1, 1) := by decide +kernel
theorem dX7_takeLogs_8 : decode cX7_takeLogs 8 = .ok (.iload_n 2, 1) := by decide +kernel
theorem dX7_takeLogs_9 : decode cX7_takeLogs 9 = .ok (.invokevirtual 173, 3) := by decide +kernel
theorem dX7_takeLogs_12 : decode cX7_takeLogs 12 = .ok (.aload_n 0, 1) := by decide +kernel
theorem dX7_takeLogs_13 : decode cX7_takeLogs 13 = .ok (.getfield 21, 3) := by decide +kernel
theorem dX7_takeLogs_16 : decode cX7_takeLogs 16 = .ok (.getfield 176, 3) := by decide +kernel
theorem dX7_takeLogs_19 : decode cX7_takeLogs 19 = .ok (.iload_n 1, 1) := by decide +kernel
theorem dX7_takeLogs_20 : decode cX7_takeLogs 20 = .ok (.iload_n 2, 1) := by decide +kernel
theorem dX7_takeLogs_21 : decode cX7_takeLogs 21 = .ok (.invokevirtual 173, 3) := by decide +kernel
theorem dX7_takeLogs_24 : decode cX7_takeLogs 24 = .ok (.aload_n 0, 1) := by decide +kernel
theorem dX7_takeLogs_25 : decode cX7_takeLogs 25 = .ok (.dup, 1) := by decide +kernel
theorem dX7_takeLogs_26 : decode cX7_takeLogs 26 = .ok (.getfield 80, 3) := by decide +kernel
theorem dX7_takeLogs_29 : decode cX7_takeLogs 29 = .ok (.iload_n 2, 1) := by decide +kernel
theorem dX7_takeLogs_30 : decode cX7_takeLogs 30 = .ok (.iadd, 1) := by decide +kernel
theorem dX7_takeLogs_31 : decode cX7_takeLogs 31 = .ok (.putfield 80, 3) := by decide +kernel
theorem dX7_takeLogs_34 : decode cX7_takeLogs 34 = .ok (.aload_n 0, 1) := by decide +kernel
theorem dX7_takeLogs_35 : decode cX7_takeLogs 35 = .ok (.getfield 21, 3) := by decide +kernel
theorem dX7_takeLogs_38 : decode cX7_takeLogs 38 = .ok (.getfield 120, 3) := by decide +kernel
theorem dX7_takeLogs_41 : decode cX7_takeLogs 41 = .ok (.iload_n 1, 1) := by decide +kernel
theorem dX7_takeLogs_42 : decode cX7_takeLogs 42 = .ok (.invokevirtual 104, 3) := by decide +kernel
theorem dX7_takeLogs_45 : decode cX7_takeLogs 45 = .ok (.ireturn, 1) := by decide +kernel
set_option maxRecDepth 20000 in
theorem ggX7_burnLogs_X6_increase : GoodIn wsX7_burnLogs wsX6_increase := goodIn_r _ [11, 12, 13, 14, 10, 15, 16, 17, 18, 19, 20, 42] (by decide +kernel) (by decide +kernel)
set_option maxRecDepth 20000 in
theorem gX7_burnLogs_X6_increase : GoodIn wsX7_burnLogs (wsV RX7 173 RX6 yX6_increase wsX6_increase) := goodIn_app (goodIn_of _ (by decide +kernel)) ggX7_burnLogs_X6_increase
theorem dX7_burnLogs_0 : decode cX7_burnLogs 0 = .ok (.aload_n 0, 1) := by decide +kernel
theorem dX7_burnLogs_1 : decode cX7_burnLogs 1 = .ok (.getfield 21, 3) := by decide +kernel
theorem dX7_burnLogs_4 : decode cX7_burnLogs 4 = .ok (.getfield 120, 3) := by decide +kernel
theorem dX7_burnLogs_7 : decode cX7_burnLogs 7 = .ok (.iload_n 1, 1) := by decide +kernel
theorem dX7_burnLogs_8 : decode cX7_burnLogs 8 = .ok (.iload_n 2, 1) := by decide +kernel
theorem dX7_burnLogs_9 : decode cX7_burnLogs 9 = .ok (.ineg, 1) := by decide +kernel
theorem dX7_burnLogs_10 : decode cX7_burnLogs 10 = .ok (.invokevirtual 173, 3) := by decide +kernel
theorem dX7_burnLogs_13 : decode cX7_burnLogs 13 = .ok (.aload_n 0, 1) := by decide +kernel
theorem dX7_burnLogs_14 : decode cX7_burnLogs 14 = .ok (.getfield 21, 3) := by decide +kernel
theorem dX7_burnLogs_17 : decode cX7_burnLogs 17 = .ok (.getfield 179, 3) := by decide +kernel
theorem dX7_burnLogs_20 : decode cX7_burnLogs 20 = .ok (.iload_n 1, 1) := by decide +kernel
theorem dX7_burnLogs_21 : decode cX7_burnLogs 21 = .ok (.iload_n 2, 1) := by decide +kernel
theorem dX7_burnLogs_22 : decode cX7_burnLogs 22 = .ok (.invokevirtual 173, 3) := by decide +kernel
theorem dX7_burnLogs_25 : decode cX7_burnLogs 25 = .ok (.aload_n 0, 1) := by decide +kernel
theorem dX7_burnLogs_26 : decode cX7_burnLogs 26 = .ok (.dup, 1) := by decide +kernel
theorem dX7_burnLogs_27 : decode cX7_burnLogs 27 = .ok (.getfield 74, 3) := by decide +kernel
theorem dX7_burnLogs_30 : decode cX7_burnLogs 30 = .ok (.iload_n 2, 1) := by decide +kernel
theorem dX7_burnLogs_31 : decode cX7_burnLogs 31 = .ok (.iadd, 1) := by decide +kernel
theorem dX7_burnLogs_32 : decode cX7_burnLogs 32 = .ok (.putfield 74, 3) := by decide +kernel
theorem dX7_burnLogs_35 : decode cX7_burnLogs 35 = .ok (.aload_n 0, 1) := by decide +kernel
theorem dX7_burnLogs_36 : decode cX7_burnLogs 36 = .ok (.dup, 1) := by decide +kernel
theorem dX7_burnLogs_37 : decode cX7_burnLogs 37 = .ok (.getfield 77, 3) := by decide +kernel
theorem dX7_burnLogs_40 : decode cX7_burnLogs 40 = .ok (.iload_n 2, 1) := by decide +kernel
theorem dX7_burnLogs_41 : decode cX7_burnLogs 41 = .ok (.iadd, 1) := by decide +kernel
theorem dX7_burnLogs_42 : decode cX7_burnLogs 42 = .ok (.putfield 77, 3) := by decide +kernel
theorem dX7_burnLogs_45 : decode cX7_burnLogs 45 = .ok (.aload_n 0, 1) := by decide +kernel
theorem dX7_burnLogs_46 : decode cX7_burnLogs 46 = .ok (.dup, 1) := by decide +kernel
theorem dX7_burnLogs_47 : decode cX7_burnLogs 47 = .ok (.getfield 68, 3) := by decide +kernel
theorem dX7_burnLogs_50 : decode cX7_burnLogs 50 = .ok (.bipush 25, 2) := by decide +kernel
theorem dX7_burnLogs_52 : decode cX7_burnLogs 52 = .ok (.iload_n 2, 1) := by decide +kernel
theorem dX7_burnLogs_53 : decode cX7_burnLogs 53 = .ok (.imul, 1) := by decide +kernel
theorem dX7_burnLogs_54 : decode cX7_burnLogs 54 = .ok (.iadd, 1) := by decide +kernel
theorem dX7_burnLogs_55 : decode cX7_burnLogs 55 = .ok (.putfield 68, 3) := by decide +kernel
theorem dX7_burnLogs_58 : decode cX7_burnLogs 58 = .ok (.aload_n 0, 1) := by decide +kernel
theorem dX7_burnLogs_59 : decode cX7_burnLogs 59 = .ok (.getfield 68, 3) := by decide +kernel
theorem dX7_burnLogs_62 : decode cX7_burnLogs 62 = .ok (.ireturn, 1) := by decide +kernel
set_option maxRecDepth 20000 in
theorem ggX7_settleLogs_X7_useOfAll : GoodIn wsX7_settleLogs wsX7_useOfAll := goodIn_r _ [11, 2, 3, 6, 12, 13, 14, 15, 16, 17, 35, 36, 37, 38, 39, 40, 41, 42, 43, 44, 45, 46, 47, 48, 49, 50, 51, 52, 53, 54, 55, 56] (by decide +kernel) (by decide +kernel)
set_option maxRecDepth 20000 in
theorem gX7_settleLogs_X7_useOfAll : GoodIn wsX7_settleLogs (wsV RX7 182 RX7 yX7_useOfAll wsX7_useOfAll) := goodIn_app (goodIn_of _ (by decide +kernel)) ggX7_settleLogs_X7_useOfAll
set_option maxRecDepth 20000 in
theorem ggX7_settleLogs_X6_at : GoodIn wsX7_settleLogs wsX6_at := goodIn_r _ [16, 17, 56] (by decide +kernel) (by decide +kernel)
set_option maxRecDepth 20000 in
theorem gX7_settleLogs_X6_at : GoodIn wsX7_settleLogs (wsV RX7 104 RX6 yX6_at wsX6_at) := goodIn_app (goodIn_of _ (by decide +kernel)) ggX7_settleLogs_X6_at
set_option maxRecDepth 20000 in
theorem ggX7_settleLogs_X7_owedBy : GoodIn wsX7_settleLogs wsX7_owedBy := goodIn_r _ [21, 1, 2, 6, 3, 7, 8, 9, 10, 11, 12, 13, 14, 15, 16, 17, 35, 36, 37, 38, 39, 40, 41, 42, 43, 44, 45, 46, 47, 48, 49, 50, 51, 52, 53, 54, 55, 56] (by decide +kernel) (by decide +kernel)
set_option maxRecDepth 20000 in
theorem gX7_settleLogs_X7_owedBy : GoodIn wsX7_settleLogs (wsV RX7 186 RX7 yX7_owedBy wsX7_owedBy) := goodIn_app (goodIn_of _ (by decide +kernel)) ggX7_settleLogs_X7_owedBy
set_option maxRecDepth 20000 in
theorem ggX7_settleLogs_X6_increase : GoodIn wsX7_settleLogs wsX6_increase := goodIn_r _ [25, 26, 13, 14, 15, 16, 17, 27, 28, 29, 30, 56] (by decide +kernel) (by decide +kernel)
set_option maxRecDepth 20000 in
theorem gX7_settleLogs_X6_increase : GoodIn wsX7_settleLogs (wsV RX7 173 RX6 yX6_increase wsX6_increase) := goodIn_app (goodIn_of _ (by decide +kernel)) ggX7_settleLogs_X6_increase
set_option maxRecDepth 20000 in
theorem ggX7_settleLogs_X6_fill : GoodIn wsX7_settleLogs wsX6_fill := goodIn_r _ [34, 17, 56] (by decide +kernel) (by decide +kernel)
set_option maxRecDepth 20000 in
theorem gX7_settleLogs_X6_fill : GoodIn wsX7_settleLogs (wsV RX7 192 RX6 yX6_fill wsX6_fill) := goodIn_app (goodIn_of _ (by decide +kernel)) ggX7_settleLogs_X6_fill
theorem dX7_settleLogs_0 : decode cX7_settleLogs 0 = .ok (.aload_n 0, 1) := by decide +kernel
theorem dX7_settleLogs_1 : decode cX7_settleLogs 1 = .ok (.invokevirtual 182, 3) := by decide +kernel
theorem dX7_settleLogs_4 : decode cX7_settleLogs 4 = .ok (.ifCond .ne 5, 3) := by decide +kernel
theorem dX7_settleLogs_7 : decode cX7_settleLogs 7 = .ok (.iconst 0, 1) := by decide +kernel
theorem dX7_settleLogs_8 : decode cX7_settleLogs 8 = .ok (.ireturn, 1) := by decide +kernel
theorem dX7_settleLogs_9 : decode cX7_settleLogs 9 = .ok (.aload_n 0, 1) := by decide +kernel
theorem dX7_settleLogs_10 : decode cX7_settleLogs 10 = .ok (.getfield 74, 3) := by decide +kernel
theorem dX7_settleLogs_13 : decode cX7_settleLogs 13 = .ok (.istore_n 1, 1) := by decide +kernel
theorem dX7_settleLogs_14 : decode cX7_settleLogs 14 = .ok (.iconst 0, 1) := by decide +kernel
theorem dX7_settleLogs_15 : decode cX7_settleLogs 15 = .ok (.istore_n 2, 1) := by decide +kernel
theorem dX7_settleLogs_16 : decode cX7_settleLogs 16 = .ok (.iload_n 2, 1) := by decide +kernel
theorem dX7_settleLogs_17 : decode cX7_settleLogs 17 = .ok (.aload_n 0, 1) := by decide +kernel
theorem dX7_settleLogs_18 : decode cX7_settleLogs 18 = .ok (.getfield 21, 3) := by decide +kernel
theorem dX7_settleLogs_21 : decode cX7_settleLogs 21 = .ok (.getfield 95, 3) := by decide +kernel
theorem dX7_settleLogs_24 : decode cX7_settleLogs 24 = .ok (.if_icmp .ge 37, 3) := by decide +kernel
theorem dX7_settleLogs_27 : decode cX7_settleLogs 27 = .ok (.aload_n 0, 1) := by decide +kernel
theorem dX7_settleLogs_28 : decode cX7_settleLogs 28 = .ok (.getfield 21, 3) := by decide +kernel
theorem dX7_settleLogs_31 : decode cX7_settleLogs 31 = .ok (.getfield 120, 3) := by decide +kernel
theorem dX7_settleLogs_34 : decode cX7_settleLogs 34 = .ok (.iload_n 2, 1) := by decide +kernel
theorem dX7_settleLogs_35 : decode cX7_settleLogs 35 = .ok (.aload_n 0, 1) := by decide +kernel
theorem dX7_settleLogs_36 : decode cX7_settleLogs 36 = .ok (.getfield 21, 3) := by decide +kernel
theorem dX7_settleLogs_39 : decode cX7_settleLogs 39 = .ok (.getfield 179, 3) := by decide +kernel
theorem dX7_settleLogs_42 : decode cX7_settleLogs 42 = .ok (.iload_n 2, 1) := by decide +kernel
theorem dX7_settleLogs_43 : decode cX7_settleLogs 43 = .ok (.invokevirtual 104, 3) := by decide +kernel
theorem dX7_settleLogs_46 : decode cX7_settleLogs 46 = .ok (.aload_n 0, 1) := by decide +kernel
theorem dX7_settleLogs_47 : decode cX7_settleLogs 47 = .ok (.iload_n 2, 1) := by decide +kernel
theorem dX7_settleLogs_48 : decode cX7_settleLogs 48 = .ok (.invokevirtual 186, 3) := by decide +kernel
theorem dX7_settleLogs_51 : decode cX7_settleLogs 51 = .ok (.isub, 1) := by decide +kernel
theorem dX7_settleLogs_52 : decode cX7_settleLogs 52 = .ok (.invokevirtual 173, 3) := by decide +kernel
theorem dX7_settleLogs_55 : decode cX7_settleLogs 55 = .ok (.iinc 2 1, 3) := by decide +kernel
theorem dX7_settleLogs_58 : decode cX7_settleLogs 58 = .ok (.goto (-42), 3) := by decide +kernel
theorem dX7_settleLogs_61 : decode cX7_settleLogs 61 = .ok (.aload_n 0, 1) := by decide +kernel
theorem dX7_settleLogs_62 : decode cX7_settleLogs 62 = .ok (.getfield 21, 3) := by decide +kernel
theorem dX7_settleLogs_65 : decode cX7_settleLogs 65 = .ok (.getfield 189, 3) := by decide +kernel
theorem dX7_settleLogs_68 : decode cX7_settleLogs 68 = .ok (.iconst 0, 1) := by decide +kernel
theorem dX7_settleLogs_69 : decode cX7_settleLogs 69 = .ok (.invokevirtual 192, 3) := by decide +kernel
theorem dX7_settleLogs_72 : decode cX7_settleLogs 72 = .ok (.aload_n 0, 1) := by decide +kernel
theorem dX7_settleLogs_73 : decode cX7_settleLogs 73 = .ok (.getfield 21, 3) := by decide +kernel
theorem dX7_settleLogs_76 : decode cX7_settleLogs 76 = .ok (.getfield 179, 3) := by decide +kernel
theorem dX7_settleLogs_79 : decode cX7_settleLogs 79 = .ok (.iconst 0, 1) := by decide +kernel
theorem dX7_settleLogs_80 : decode cX7_settleLogs 80 = .ok (.invokevirtual 192, 3) := by decide +kernel
theorem dX7_settleLogs_83 : decode cX7_settleLogs 83 = .ok (.aload_n 0, 1) := by decide +kernel
theorem dX7_settleLogs_84 : decode cX7_settleLogs 84 = .ok (.iconst 0, 1) := by decide +kernel
theorem dX7_settleLogs_85 : decode cX7_settleLogs 85 = .ok (.putfield 74, 3) := by decide +kernel
theorem dX7_settleLogs_88 : decode cX7_settleLogs 88 = .ok (.iload_n 1, 1) := by decide +kernel
theorem dX7_settleLogs_89 : decode cX7_settleLogs 89 = .ok (.ireturn, 1) := by decide +kernel
set_option maxRecDepth 20000 in
theorem ggX7_useOfAll_X6_at : GoodIn wsX7_useOfAll wsX6_at := goodIn_r _ [8, 9, 31] (by decide +kernel) (by decide +kernel)
set_option maxRecDepth 20000 in
theorem gX7_useOfAll_X6_at : GoodIn wsX7_useOfAll (wsV RX7 104 RX6 yX6_at wsX6_at) := goodIn_app (goodIn_of _ (by decide +kernel)) ggX7_useOfAll_X6_at
theorem dX7_useOfAll_0 : decode cX7_useOfAll 0 = .ok (.iconst 0, 1) := by decide +kernel
theorem dX7_useOfAll_1 : decode cX7_useOfAll 1 = .ok (.istore_n 1, 1) := by decide +kernel
theorem dX7_useOfAll_2 : decode cX7_useOfAll 2 = .ok (.iconst 0, 1) := by decide +kernel
theorem dX7_useOfAll_3 : decode cX7_useOfAll 3 = .ok (.istore_n 2, 1) := by decide +kernel
theorem dX7_useOfAll_4 : decode cX7_useOfAll 4 = .ok (.iload_n 2, 1) := by decide +kernel
theorem dX7_useOfAll_5 : decode cX7_useOfAll 5 = .ok (.aload_n 0, 1) := by decide +kernel
theorem dX7_useOfAll_6 : decode cX7_useOfAll 6 = .ok (.getfield 21, 3) := by decide +kernel
theorem dX7_useOfAll_9 : decode cX7_useOfAll 9 = .ok (.getfield 95, 3) := by decide +kernel
theorem dX7_useOfAll_12 : decode cX7_useOfAll 12 = .ok (.if_icmp .ge 23, 3) := by decide +kernel
theorem dX7_useOfAll_15 : decode cX7_useOfAll 15 = .ok (.iload_n 1, 1) := by decide +kernel
theorem dX7_useOfAll_16 : decode cX7_useOfAll 16 = .ok (.aload_n 0, 1) := by decide +kernel
theorem dX7_useOfAll_17 : decode cX7_useOfAll 17 = .ok (.getfield 21, 3) := by decide +kernel
theorem dX7_useOfAll_20 : decode cX7_useOfAll 20 = .ok (.getfield 189, 3) := by decide +kernel
theorem dX7_useOfAll_23 : decode cX7_useOfAll 23 = .ok (.iload_n 2, 1) := by decide +kernel
theorem dX7_useOfAll_24 : decode cX7_useOfAll 24 = .ok (.invokevirtual 104, 3) := by decide +kernel
theorem dX7_useOfAll_27 : decode cX7_useOfAll 27 = .ok (.iadd, 1) := by decide +kernel
theorem dX7_useOfAll_28 : decode cX7_useOfAll 28 = .ok (.istore_n 1, 1) := by decide +kernel
theorem dX7_useOfAll_29 : decode cX7_useOfAll 29 = .ok (.iinc 2 1, 3) := by decide +kernel
theorem dX7_useOfAll_32 : decode cX7_useOfAll 32 = .ok (.goto (-28), 3) := by decide +kernel
theorem dX7_useOfAll_35 : decode cX7_useOfAll 35 = .ok (.iload_n 1, 1) := by decide +kernel
theorem dX7_useOfAll_36 : decode cX7_useOfAll 36 = .ok (.ireturn, 1) := by decide +kernel
set_option maxRecDepth 20000 in
theorem ggX7_owedBy_X7_useOfAll : GoodIn wsX7_owedBy wsX7_useOfAll := goodIn_r _ [9, 2, 4, 3, 10, 11, 12, 13, 14, 15, 16, 17, 18, 19, 20, 21, 22, 23, 24, 25, 26, 27, 28, 29, 30, 31, 32, 33, 34, 35, 36, 37] (by decide +kernel) (by decide +kernel)
set_option maxRecDepth 20000 in
theorem gX7_owedBy_X7_useOfAll : GoodIn wsX7_owedBy (wsV RX7 182 RX7 yX7_useOfAll wsX7_useOfAll) := goodIn_app (goodIn_of _ (by decide +kernel)) ggX7_owedBy_X7_useOfAll
set_option maxRecDepth 20000 in
theorem ggX7_owedBy_X6_at : GoodIn wsX7_owedBy wsX6_at := goodIn_r _ [14, 15, 37] (by decide +kernel) (by decide +kernel)
set_option maxRecDepth 20000 in
theorem gX7_owedBy_X6_at : GoodIn wsX7_owedBy (wsV RX7 104 RX6 yX6_at wsX6_at) := goodIn_app (goodIn_of _ (by decide +kernel)) ggX7_owedBy_X6_at
theorem dX7_owedBy_0 : decode cX7_owedBy 0 = .ok (.aload_n 0, 1) := by decide +kernel
theorem dX7_owedBy_1 : decode cX7_owedBy 1 = .ok (.invokevirtual 182, 3) := by decide +kernel
theorem dX7_owedBy_4 : decode cX7_owedBy 4 = .ok (.i2l, 1) := by decide +kernel
theorem dX7_owedBy_5 : decode cX7_owedBy 5 = .ok (.lstore_n 2, 1) := by decide +kernel
theorem dX7_owedBy_6 : decode cX7_owedBy 6 = .ok (.lload_n 2, 1) := by decide +kernel
theorem dX7_owedBy_7 : decode cX7_owedBy 7 = .ok (.lconst 0, 1) := by decide +kernel
theorem dX7_owedBy_8 : decode cX7_owedBy 8 = .ok (.lcmp, 1) := by decide +kernel
theorem dX7_owedBy_9 : decode cX7_owedBy 9 = .ok (.ifCond .gt 5, 3) := by decide +kernel
theorem dX7_owedBy_12 : decode cX7_owedBy 12 = .ok (.iconst 0, 1) := by decide +kernel
theorem dX7_owedBy_13 : decode cX7_owedBy 13 = .ok (.ireturn, 1) := by decide +kernel
theorem dX7_owedBy_14 : decode cX7_owedBy 14 = .ok (.aload_n 0, 1) := by decide +kernel
theorem dX7_owedBy_15 : decode cX7_owedBy 15 = .ok (.getfield 74, 3) := by decide +kernel
theorem dX7_owedBy_18 : decode cX7_owedBy 18 = .ok (.i2l, 1) := by decide +kernel
theorem dX7_owedBy_19 : decode cX7_owedBy 19 = .ok (.aload_n 0, 1) := by decide +kernel
theorem dX7_owedBy_20 : decode cX7_owedBy 20 = .ok (.getfield 21, 3) := by decide +kernel
theorem dX7_owedBy_23 : decode cX7_owedBy 23 = .ok (.getfield 189, 3) := by decide +kernel
theorem dX7_owedBy_26 : decode cX7_owedBy 26 = .ok (.iload_n 1, 1) := by decide +kernel
theorem dX7_owedBy_27 : decode cX7_owedBy 27 = .ok (.invokevirtual 104, 3) := by decide +kernel
theorem dX7_owedBy_30 : decode cX7_owedBy 30 = .ok (.i2l, 1) := by decide +kernel
theorem dX7_owedBy_31 : decode cX7_owedBy 31 = .ok (.lmul, 1) := by decide +kernel
theorem dX7_owedBy_32 : decode cX7_owedBy 32 = .ok (.lstore 4, 2) := by decide +kernel
theorem dX7_owedBy_34 : decode cX7_owedBy 34 = .ok (.lload 4, 2) := by decide +kernel
theorem dX7_owedBy_36 : decode cX7_owedBy 36 = .ok (.lload_n 2, 1) := by decide +kernel
theorem dX7_owedBy_37 : decode cX7_owedBy 37 = .ok (.lrem, 1) := by decide +kernel
theorem dX7_owedBy_38 : decode cX7_owedBy 38 = .ok (.lstore 6, 2) := by decide +kernel
theorem dX7_owedBy_40 : decode cX7_owedBy 40 = .ok (.aload_n 0, 1) := by decide +kernel
theorem dX7_owedBy_41 : decode cX7_owedBy 41 = .ok (.getfield 74, 3) := by decide +kernel
theorem dX7_owedBy_44 : decode cX7_owedBy 44 = .ok (.i2l, 1) := by decide +kernel
theorem dX7_owedBy_45 : decode cX7_owedBy 45 = .ok (.lstore 8, 2) := by decide +kernel
theorem dX7_owedBy_47 : decode cX7_owedBy 47 = .ok (.iconst 0, 1) := by decide +kernel
theorem dX7_owedBy_48 : decode cX7_owedBy 48 = .ok (.istore 10, 2) := by decide +kernel
theorem dX7_owedBy_50 : decode cX7_owedBy 50 = .ok (.iconst 0, 1) := by decide +kernel
theorem dX7_owedBy_51 : decode cX7_owedBy 51 = .ok (.istore 11, 2) := by decide +kernel
theorem dX7_owedBy_53 : decode cX7_owedBy 53 = .ok (.iload 11, 2) := by decide +kernel
theorem dX7_owedBy_55 : decode cX7_owedBy 55 = .ok (.aload_n 0, 1) := by decide +kernel
theorem dX7_owedBy_56 : decode cX7_owedBy 56 = .ok (.getfield 21, 3) := by decide +kernel
theorem dX7_owedBy_59 : decode cX7_owedBy 59 = .ok (.getfield 95, 3) := by decide +kernel
theorem dX7_owedBy_62 : decode cX7_owedBy 62 = .ok (.if_icmp .ge 70, 3) := by decide +kernel
theorem dX7_owedBy_65 : decode cX7_owedBy 65 = .ok (.aload_n 0, 1) := by decide +kernel
theorem dX7_owedBy_66 : decode cX7_owedBy 66 = .ok (.getfield 74, 3) := by decide +kernel
theorem dX7_owedBy_69 : decode cX7_owedBy 69 = .ok (.i2l, 1) := by decide +kernel
theorem dX7_owedBy_70 : decode cX7_owedBy 70 = .ok (.aload_n 0, 1) := by decide +kernel
theorem dX7_owedBy_71 : decode cX7_owedBy 71 = .ok (.getfield 21, 3) := by decide +kernel
theorem dX7_owedBy_74 : decode cX7_owedBy 74 = .ok (.getfield 189, 3) := by decide +kernel
theorem dX7_owedBy_77 : decode cX7_owedBy 77 = .ok (.iload 11, 2) := by decide +kernel
theorem dX7_owedBy_79 : decode cX7_owedBy 79 = .ok (.invokevirtual 104, 3) := by decide +kernel
theorem dX7_owedBy_82 : decode cX7_owedBy 82 = .ok (.i2l, 1) := by decide +kernel
theorem dX7_owedBy_83 : decode cX7_owedBy 83 = .ok (.lmul, 1) := by decide +kernel
theorem dX7_owedBy_84 : decode cX7_owedBy 84 = .ok (.lstore 12, 2) := by decide +kernel
theorem dX7_owedBy_86 : decode cX7_owedBy 86 = .ok (.lload 12, 2) := by decide +kernel
theorem dX7_owedBy_88 : decode cX7_owedBy 88 = .ok (.lload_n 2, 1) := by decide +kernel
theorem dX7_owedBy_89 : decode cX7_owedBy 89 = .ok (.lrem, 1) := by decide +kernel
theorem dX7_owedBy_90 : decode cX7_owedBy 90 = .ok (.lstore 14, 2) := by decide +kernel
theorem dX7_owedBy_92 : decode cX7_owedBy 92 = .ok (.lload 8, 2) := by decide +kernel
theorem dX7_owedBy_94 : decode cX7_owedBy 94 = .ok (.lload 12, 2) := by decide +kernel
theorem dX7_owedBy_96 : decode cX7_owedBy 96 = .ok (.lload_n 2, 1) := by decide +kernel
theorem dX7_owedBy_97 : decode cX7_owedBy 97 = .ok (.ldiv, 1) := by decide +kernel
theorem dX7_owedBy_98 : decode cX7_owedBy 98 = .ok (.lsub, 1) := by decide +kernel
theorem dX7_owedBy_99 : decode cX7_owedBy 99 = .ok (.lstore 8, 2) := by decide +kernel
theorem dX7_owedBy_101 : decode cX7_owedBy 101 = .ok (.lload 14, 2) := by decide +kernel
theorem dX7_owedBy_103 : decode cX7_owedBy 103 = .ok (.lload 6, 2) := by decide +kernel
theorem dX7_owedBy_105 : decode cX7_owedBy 105 = .ok (.lcmp, 1) := by decide +kernel
theorem dX7_owedBy_106 : decode cX7_owedBy 106 = .ok (.ifCond .gt 17, 3) := by decide +kernel
theorem dX7_owedBy_109 : decode cX7_owedBy 109 = .ok (.lload 14, 2) := by decide +kernel
theorem dX7_owedBy_111 : decode cX7_owedBy 111 = .ok (.lload 6, 2) := by decide +kernel
theorem dX7_owedBy_113 : decode cX7_owedBy 113 = .ok (.lcmp, 1) := by decide +kernel
theorem dX7_owedBy_114 : decode cX7_owedBy 114 = .ok (.ifCond .ne 12, 3) := by decide +kernel
theorem dX7_owedBy_117 : decode cX7_owedBy 117 = .ok (.iload 11, 2) := by decide +kernel
theorem dX7_owedBy_119 : decode cX7_owedBy 119 = .ok (.iload_n 1, 1) := by decide +kernel
theorem dX7_owedBy_120 : decode cX7_owedBy 120 = .ok (.if_icmp .ge 6, 3) := by decide +kernel
theorem dX7_owedBy_123 : decode cX7_owedBy 123 = .ok (.iinc 10 1, 3) := by decide +kernel
theorem dX7_owedBy_126 : decode cX7_owedBy 126 = .ok (.iinc 11 1, 3) := by decide +kernel
theorem dX7_owedBy_129 : decode cX7_owedBy 129 = .ok (.goto (-76), 3) := by decide +kernel
theorem dX7_owedBy_132 : decode cX7_owedBy 132 = .ok (.lload 4, 2) := by decide +kernel
theorem dX7_owedBy_134 : decode cX7_owedBy 134 = .ok (.lload_n 2, 1) := by decide +kernel
theorem dX7_owedBy_135 : decode cX7_owedBy 135 = .ok (.ldiv, 1) := by decide +kernel
theorem dX7_owedBy_136 : decode cX7_owedBy 136 = .ok (.l2i, 1) := by decide +kernel
theorem dX7_owedBy_137 : decode cX7_owedBy 137 = .ok (.iload 10, 2) := by decide +kernel
theorem dX7_owedBy_139 : decode cX7_owedBy 139 = .ok (.i2l, 1) := by decide +kernel
theorem dX7_owedBy_140 : decode cX7_owedBy 140 = .ok (.lload 8, 2) := by decide +kernel
theorem dX7_owedBy_142 : decode cX7_owedBy 142 = .ok (.lcmp, 1) := by decide +kernel
theorem dX7_owedBy_143 : decode cX7_owedBy 143 = .ok (.ifCond .ge 7, 3) := by decide +kernel
theorem dX7_owedBy_146 : decode cX7_owedBy 146 = .ok (.iconst 1, 1) := by decide +kernel
theorem dX7_owedBy_147 : decode cX7_owedBy 147 = .ok (.goto 4, 3) := by decide +kernel
theorem dX7_owedBy_150 : decode cX7_owedBy 150 = .ok (.iconst 0, 1) := by decide +kernel
theorem dX7_owedBy_151 : decode cX7_owedBy 151 = .ok (.iadd, 1) := by decide +kernel
theorem dX7_owedBy_152 : decode cX7_owedBy 152 = .ok (.ireturn, 1) := by decide +kernel
set_option maxRecDepth 20000 in
theorem ggX7_passTicks_X7_growOlder : GoodIn wsX7_passTicks wsX7_growOlder := goodIn_r _ [6, 7, 8, 9, 10, 11, 12, 13, 14, 15, 16, 17, 18, 19, 20, 21, 22, 23, 24, 25, 26, 27, 28, 29, 30, 31, 32, 106, 107, 108, 109, 110, 111, 112, 113, 114, 115, 116, 117, 118, 119, 120, 121, 122, 123, 124, 125, 126, 127, 128, 129, 130, 131, 132, 133, 134, 135] (by decide +kernel) (by decide +kernel)
set_option maxRecDepth 20000 in
theorem gX7_passTicks_X7_growOlder : GoodIn wsX7_passTicks (wsV RX7 195 RX7 yX7_growOlder wsX7_growOlder) := goodIn_app (goodIn_of _ (by decide +kernel)) ggX7_passTicks_X7_growOlder
set_option maxRecDepth 20000 in
theorem ggX7_passTicks_X7_loadFirst : GoodIn wsX7_passTicks wsX7_loadFirst := goodIn_r _ [36, 7, 8, 37, 9, 38, 39, 17, 18, 19, 20, 21, 22, 40, 41, 42, 5, 43, 10, 44, 12, 45, 46, 11, 13, 47, 48, 49, 50, 51, 52, 53, 54, 55, 56, 57, 58, 59, 60, 61, 62, 63, 64, 15, 65, 1, 66, 67, 68, 69, 70, 71, 72, 29, 30, 31, 32, 106, 107, 108, 109, 110, 111, 112, 113, 114, 115, 116, 117, 118, 119, 120, 121, 122, 123, 124, 125, 126, 127, 128, 135, 129, 130, 131, 132, 133, 134, 136, 137, 138] (by decide +kernel) (by decide +kernel)
set_option maxRecDepth 20000 in
theorem gX7_passTicks_X7_loadFirst : GoodIn wsX7_passTicks (wsV RX7 198 RX7 yX7_loadFirst wsX7_loadFirst) := goodIn_app (goodIn_of _ (by decide +kernel)) ggX7_passTicks_X7_loadFirst
set_option maxRecDepth 20000 in
theorem ggX7_passTicks_X7_heatLoaves : GoodIn wsX7_passTicks wsX7_heatLoaves := goodIn_r _ [76, 44, 77, 9, 10, 37, 12, 45, 78, 46, 79, 80, 81, 82, 47, 48, 49, 50, 51, 52, 53, 18, 19, 20, 21, 22, 17, 54, 55, 5, 56, 57, 58, 59, 60, 23, 24, 25, 26, 27, 28, 29, 30, 31, 106, 107, 108, 109, 110, 111, 112, 113, 114, 115, 116, 117, 118, 119, 136, 137, 138, 120, 121, 122, 123, 124, 125, 126, 127, 128, 129, 130, 131, 132, 133, 134, 139, 140, 141, 142, 143, 144, 145, 135] (by decide +kernel) (by decide +kernel)
set_option maxRecDepth 20000 in
theorem gX7_passTicks_X7_heatLoaves : GoodIn wsX7_passTicks (wsV RX7 201 RX7 yX7_heatLoaves wsX7_heatLoaves) := goodIn_app (goodIn_of _ (by decide +kernel)) ggX7_passTicks_X7_heatLoaves
set_option maxRecDepth 20000 in
theorem ggX7_passTicks_X7_takeOutDone : GoodIn wsX7_passTicks wsX7_takeOutDone := goodIn_r _ [86, 9, 87, 15, 17, 18, 19, 20, 21, 22, 88, 89, 90, 5, 91, 12, 92, 10, 44, 77, 78, 93, 94, 95, 96, 79, 82, 38, 97, 80, 98, 99, 100, 32, 29, 30, 31, 23, 24, 25, 26, 27, 28, 106, 107, 108, 109, 110, 111, 112, 113, 114, 115, 116, 117, 118, 119, 120, 121, 122, 123, 124, 125, 126, 127, 128, 135, 129, 130, 131, 132, 133, 134, 136, 137, 138, 139, 140, 141, 142, 143, 144, 145] (by decide +kernel) (by decide +kernel)
set_option maxRecDepth 20000 in
theorem gX7_passTicks_X7_takeOutDone : GoodIn wsX7_passTicks (wsV RX7 204 RX7 yX7_takeOutDone wsX7_takeOutDone) := goodIn_app (goodIn_of _ (by decide +kernel)) ggX7_passTicks_X7_takeOutDone
set_option maxRecDepth 20000 in
theorem ggX7_passTicks_X7_coolDown : GoodIn wsX7_passTicks wsX7_coolDown := goodIn_r _ [104, 105, 37, 57, 58, 59, 60, 106, 107, 108, 109, 110, 111, 112, 113, 114, 115, 116, 117, 118, 119] (by decide +kernel) (by decide +kernel)
set_option maxRecDepth 20000 in
theorem gX7_passTicks_X7_coolDown : GoodIn wsX7_passTicks (wsV RX7 207 RX7 yX7_coolDown wsX7_coolDown) := goodIn_app (goodIn_of _ (by decide +kernel)) ggX7_passTicks_X7_coolDown
theorem dX7_passTicks_0 : decode cX7_passTicks 0 = .ok (.iconst 0, 1) := by decide +kernel
theorem dX7_passTicks_1 : decode cX7_passTicks 1 = .ok (.istore_n 2, 1) := by decide +kernel
theorem dX7_passTicks_2 : decode cX7_passTicks 2 = .ok (.iconst 0, 1) := by decide +kernel
theorem dX7_passTicks_3 : decode cX7_passTicks 3 = .ok (.istore_n 3, 1) := by decide +kernel
theorem dX7_passTicks_4 : decode cX7_passTicks 4 = .ok (.iload_n 3, 1) := by decide +kernel
theorem dX7_passTicks_5 : decode cX7_passTicks 5 = .ok (.iload_n 1, 1) := by decide +kernel
theorem dX7_passTicks_6 : decode cX7_passTicks 6 = .ok (.if_icmp .ge 52, 3) := by decide +kernel
theorem dX7_passTicks_9 : decode cX7_passTicks 9 = .ok (.aload_n 0, 1) := by decide +kernel
theorem dX7_passTicks_10 : decode cX7_passTicks 10 = .ok (.invokevirtual 195, 3) := by decide +kernel
theorem dX7_passTicks_13 : decode cX7_passTicks 13 = .ok (.aload_n 0, 1) := by decide +kernel
theorem dX7_passTicks_14 : decode cX7_passTicks 14 = .ok (.invokevirtual 198, 3) := by decide +kernel
theorem dX7_passTicks_17 : decode cX7_passTicks 17 = .ok (.istore 4, 2) := by decide +kernel
theorem dX7_passTicks_19 : decode cX7_passTicks 19 = .ok (.aload_n 0, 1) := by decide +kernel
theorem dX7_passTicks_20 : decode cX7_passTicks 20 = .ok (.invokevirtual 201, 3) := by decide +kernel
theorem dX7_passTicks_23 : decode cX7_passTicks 23 = .ok (.aload_n 0, 1) := by decide +kernel
theorem dX7_passTicks_24 : decode cX7_passTicks 24 = .ok (.invokevirtual 204, 3) := by decide +kernel
theorem dX7_passTicks_27 : decode cX7_passTicks 27 = .ok (.istore 5, 2) := by decide +kernel
theorem dX7_passTicks_29 : decode cX7_passTicks 29 = .ok (.aload_n 0, 1) := by decide +kernel
theorem dX7_passTicks_30 : decode cX7_passTicks 30 = .ok (.iload 4, 2) := by decide +kernel
theorem dX7_passTicks_32 : decode cX7_passTicks 32 = .ok (.iload 5, 2) := by decide +kernel
theorem dX7_passTicks_34 : decode cX7_passTicks 34 = .ok (.invokevirtual 207, 3) := by decide +kernel
theorem dX7_passTicks_37 : decode cX7_passTicks 37 = .ok (.aload_n 0, 1) := by decide +kernel
theorem dX7_passTicks_38 : decode cX7_passTicks 38 = .ok (.dup, 1) := by decide +kernel
theorem dX7_passTicks_39 : decode cX7_passTicks 39 = .ok (.getfield 71, 3) := by decide +kernel
theorem dX7_passTicks_42 : decode cX7_passTicks 42 = .ok (.iconst 1, 1) := by decide +kernel
theorem dX7_passTicks_43 : decode cX7_passTicks 43 = .ok (.iadd, 1) := by decide +kernel
theorem dX7_passTicks_44 : decode cX7_passTicks 44 = .ok (.putfield 71, 3) := by decide +kernel
theorem dX7_passTicks_47 : decode cX7_passTicks 47 = .ok (.iload_n 2, 1) := by decide +kernel
theorem dX7_passTicks_48 : decode cX7_passTicks 48 = .ok (.iload 5, 2) := by decide +kernel
theorem dX7_passTicks_50 : decode cX7_passTicks 50 = .ok (.iadd, 1) := by decide +kernel
theorem dX7_passTicks_51 : decode cX7_passTicks 51 = .ok (.istore_n 2, 1) := by decide +kernel
theorem dX7_passTicks_52 : decode cX7_passTicks 52 = .ok (.iinc 3 1, 3) := by decide +kernel
theorem dX7_passTicks_55 : decode cX7_passTicks 55 = .ok (.goto (-51), 3) := by decide +kernel
theorem dX7_passTicks_58 : decode cX7_passTicks 58 = .ok (.iload_n 2, 1) := by decide +kernel
theorem dX7_passTicks_59 : decode cX7_passTicks 59 = .ok (.ireturn, 1) := by decide +kernel
set_option maxRecDepth 20000 in
theorem ggX7_growOlder_X6_at : GoodIn wsX7_growOlder wsX6_at := goodIn_r _ [15, 16, 56] (by decide +kernel) (by decide +kernel)
set_option maxRecDepth 20000 in
theorem gX7_growOlder_X6_at : GoodIn wsX7_growOlder (wsV RX7 104 RX6 yX6_at wsX6_at) := goodIn_app (goodIn_of _ (by decide +kernel)) ggX7_growOlder_X6_at
set_option maxRecDepth 20000 in
theorem ggX7_growOlder_X6_increase : GoodIn wsX7_growOlder wsX6_increase := goodIn_r _ [20, 21, 12, 13, 14, 15, 16, 22, 23, 24, 25, 56] (by decide +kernel) (by decide +kernel)
set_option maxRecDepth 20000 in
theorem gX7_growOlder_X6_increase : GoodIn wsX7_growOlder (wsV RX7 173 RX6 yX6_increase wsX6_increase) := goodIn_app (goodIn_of _ (by decide +kernel)) ggX7_growOlder_X6_increase
set_option maxRecDepth 20000 in
theorem ggX7_growOlder_X6_put : GoodIn wsX7_growOlder wsX6_put := goodIn_r _ [25, 16, 56] (by decide +kernel) (by decide +kernel)
set_option maxRecDepth 20000 in
theorem gX7_growOlder_X6_put : GoodIn wsX7_growOlder (wsV RX7 127 RX6 yX6_put wsX6_put) := goodIn_app (goodIn_of _ (by decide +kernel)) ggX7_growOlder_X6_put
theorem dX7_growOlder_0 : decode cX7_growOlder 0 = .ok (.aload_n 0, 1) := by decide +kernel
theorem dX7_growOlder_1 : decode cX7_growOlder 1 = .ok (.getfield 64, 3) := by decide +kernel
theorem dX7_growOlder_4 : decode cX7_growOlder 4 = .ok (.istore_n 1, 1) := by decide +kernel
theorem dX7_growOlder_5 : decode cX7_growOlder 5 = .ok (.iconst 0, 1) := by decide +kernel
theorem dX7_growOlder_6 : decode cX7_growOlder 6 = .ok (.istore_n 2, 1) := by decide +kernel
theorem dX7_growOlder_7 : decode cX7_growOlder 7 = .ok (.iconst 0, 1) := by decide +kernel
theorem dX7_growOlder_8 : decode cX7_growOlder 8 = .ok (.istore_n 3, 1) := by decide +kernel
theorem dX7_growOlder_9 : decode cX7_growOlder 9 = .ok (.iload_n 3, 1) := by decide +kernel
theorem dX7_growOlder_10 : decode cX7_growOlder 10 = .ok (.iload_n 1, 1) := by decide +kernel
theorem dX7_growOlder_11 : decode cX7_growOlder 11 = .ok (.if_icmp .ge 125, 3) := by decide +kernel
theorem dX7_growOlder_14 : decode cX7_growOlder 14 = .ok (.aload_n 0, 1) := by decide +kernel
theorem dX7_growOlder_15 : decode cX7_growOlder 15 = .ok (.getfield 44, 3) := by decide +kernel
theorem dX7_growOlder_18 : decode cX7_growOlder 18 = .ok (.iload_n 3, 1) := by decide +kernel
theorem dX7_growOlder_19 : decode cX7_growOlder 19 = .ok (.invokevirtual 104, 3) := by decide +kernel
theorem dX7_growOlder_22 : decode cX7_growOlder 22 = .ok (.istore 4, 2) := by decide +kernel
theorem dX7_growOlder_24 : decode cX7_growOlder 24 = .ok (.aload_n 0, 1) := by decide +kernel
theorem dX7_growOlder_25 : decode cX7_growOlder 25 = .ok (.getfield 28, 3) := by decide +kernel
theorem dX7_growOlder_28 : decode cX7_growOlder 28 = .ok (.getfield 146, 3) := by decide +kernel
theorem dX7_growOlder_31 : decode cX7_growOlder 31 = .ok (.iload 4, 2) := by decide +kernel
theorem dX7_growOlder_33 : decode cX7_growOlder 33 = .ok (.invokevirtual 104, 3) := by decide +kernel
theorem dX7_growOlder_36 : decode cX7_growOlder 36 = .ok (.istore 5, 2) := by decide +kernel
theorem dX7_growOlder_38 : decode cX7_growOlder 38 = .ok (.aload_n 0, 1) := by decide +kernel
theorem dX7_growOlder_39 : decode cX7_growOlder 39 = .ok (.getfield 28, 3) := by decide +kernel
theorem dX7_growOlder_42 : decode cX7_growOlder 42 = .ok (.getfield 152, 3) := by decide +kernel
theorem dX7_growOlder_45 : decode cX7_growOlder 45 = .ok (.iload 4, 2) := by decide +kernel
theorem dX7_growOlder_47 : decode cX7_growOlder 47 = .ok (.iconst 1, 1) := by decide +kernel
theorem dX7_growOlder_48 : decode cX7_growOlder 48 = .ok (.invokevirtual 173, 3) := by decide +kernel
theorem dX7_growOlder_51 : decode cX7_growOlder 51 = .ok (.aload_n 0, 1) := by decide +kernel
theorem dX7_growOlder_52 : decode cX7_growOlder 52 = .ok (.getfield 28, 3) := by decide +kernel
theorem dX7_growOlder_55 : decode cX7_growOlder 55 = .ok (.getfield 152, 3) := by decide +kernel
theorem dX7_growOlder_58 : decode cX7_growOlder 58 = .ok (.iload 4, 2) := by decide +kernel
theorem dX7_growOlder_60 : decode cX7_growOlder 60 = .ok (.invokevirtual 104, 3) := by decide +kernel
theorem dX7_growOlder_63 : decode cX7_growOlder 63 = .ok (.aload_n 0, 1) := by decide +kernel
theorem dX7_growOlder_64 : decode cX7_growOlder 64 = .ok (.getfield 12, 3) := by decide +kernel
theorem dX7_growOlder_67 : decode cX7_growOlder 67 = .ok (.getfield 137, 3) := by decide +kernel
theorem dX7_growOlder_70 : decode cX7_growOlder 70 = .ok (.iload 5, 2) := by decide +kernel
theorem dX7_growOlder_72 : decode cX7_growOlder 72 = .ok (.invokevirtual 104, 3) := by decide +kernel
theorem dX7_growOlder_75 : decode cX7_growOlder 75 = .ok (.aload_n 0, 1) := by decide +kernel
theorem dX7_growOlder_76 : decode cX7_growOlder 76 = .ok (.getfield 12, 3) := by decide +kernel
theorem dX7_growOlder_79 : decode cX7_growOlder 79 = .ok (.getfield 140, 3) := by decide +kernel
theorem dX7_growOlder_82 : decode cX7_growOlder 82 = .ok (.iload 5, 2) := by decide +kernel
theorem dX7_growOlder_84 : decode cX7_growOlder 84 = .ok (.invokevirtual 104, 3) := by decide +kernel
theorem dX7_growOlder_87 : decode cX7_growOlder 87 = .ok (.iadd, 1) := by decide +kernel
theorem dX7_growOlder_88 : decode cX7_growOlder 88 = .ok (.if_icmp .le 29, 3) := by decide +kernel
theorem dX7_growOlder_91 : decode cX7_growOlder 91 = .ok (.aload_n 0, 1) := by decide +kernel
theorem dX7_growOlder_92 : decode cX7_growOlder 92 = .ok (.getfield 28, 3) := by decide +kernel
theorem dX7_growOlder_95 : decode cX7_growOlder 95 = .ok (.getfield 101, 3) := by decide +kernel
theorem dX7_growOlder_98 : decode cX7_growOlder 98 = .ok (.iload 4, 2) := by decide +kernel
theorem dX7_growOlder_100 : decode cX7_growOlder 100 = .ok (.iconst 3, 1) := by decide +kernel
theorem dX7_growOlder_101 : decode cX7_growOlder 101 = .ok (.invokevirtual 127, 3) := by decide +kernel
theorem dX7_growOlder_104 : decode cX7_growOlder 104 = .ok (.aload_n 0, 1) := by decide +kernel
theorem dX7_growOlder_105 : decode cX7_growOlder 105 = .ok (.dup, 1) := by decide +kernel
theorem dX7_growOlder_106 : decode cX7_growOlder 106 = .ok (.getfield 89, 3) := by decide +kernel
theorem dX7_growOlder_109 : decode cX7_growOlder 109 = .ok (.iconst 1, 1) := by decide +kernel
theorem dX7_growOlder_110 : decode cX7_growOlder 110 = .ok (.iadd, 1) := by decide +kernel
theorem dX7_growOlder_111 : decode cX7_growOlder 111 = .ok (.putfield 89, 3) := by decide +kernel
theorem dX7_growOlder_114 : decode cX7_growOlder 114 = .ok (.goto 16, 3) := by decide +kernel
theorem dX7_growOlder_117 : decode cX7_growOlder 117 = .ok (.aload_n 0, 1) := by decide +kernel
theorem dX7_growOlder_118 : decode cX7_growOlder 118 = .ok (.getfield 44, 3) := by decide +kernel
theorem dX7_growOlder_121 : decode cX7_growOlder 121 = .ok (.iload_n 2, 1) := by decide +kernel
theorem dX7_growOlder_122 : decode cX7_growOlder 122 = .ok (.iload 4, 2) := by decide +kernel
theorem dX7_growOlder_124 : decode cX7_growOlder 124 = .ok (.invokevirtual 127, 3) := by decide +kernel
theorem dX7_growOlder_127 : decode cX7_growOlder 127 = .ok (.iinc 2 1, 3) := by decide +kernel
theorem dX7_growOlder_130 : decode cX7_growOlder 130 = .ok (.iinc 3 1, 3) := by decide +kernel
theorem dX7_growOlder_133 : decode cX7_growOlder 133 = .ok (.goto (-124), 3) := by decide +kernel
theorem dX7_growOlder_136 : decode cX7_growOlder 136 = .ok (.aload_n 0, 1) := by decide +kernel
theorem dX7_growOlder_137 : decode cX7_growOlder 137 = .ok (.iload_n 2, 1) := by decide +kernel
theorem dX7_growOlder_138 : decode cX7_growOlder 138 = .ok (.putfield 64, 3) := by decide +kernel
theorem dX7_growOlder_141 : decode cX7_growOlder 141 = .ok (.return_, 1) := by decide +kernel
set_option maxRecDepth 20000 in
theorem ggX7_loadFirst_X6_at : GoodIn wsX7_loadFirst wsX6_at := goodIn_r _ [11, 12, 80] (by decide +kernel) (by decide +kernel)
set_option maxRecDepth 20000 in
theorem gX7_loadFirst_X6_at : GoodIn wsX7_loadFirst (wsV RX7 104 RX6 yX6_at wsX6_at) := goodIn_app (goodIn_of _ (by decide +kernel)) ggX7_loadFirst_X6_at
set_option maxRecDepth 20000 in
theorem ggX7_loadFirst_X7_reasonAt : GoodIn wsX7_loadFirst wsX7_reasonAt := goodIn_r _ [17, 4, 18, 19, 20, 21, 22, 5, 23, 24, 7, 8, 9, 10, 11, 12, 25, 26, 27, 28, 29, 30, 31, 32, 33, 16, 34, 35, 36, 37, 38, 57, 58, 59, 60, 61, 62, 63, 64, 65, 66, 67, 68, 69, 70, 71, 72, 73, 74, 75, 76, 77, 78, 79, 81, 82, 83, 84, 85, 86, 80, 87, 88, 89] (by decide +kernel) (by decide +kernel)
set_option maxRecDepth 20000 in
theorem gX7_loadFirst_X7_reasonAt : GoodIn wsX7_loadFirst (wsV RX7 210 RX7 yX7_reasonAt wsX7_reasonAt) := goodIn_app (goodIn_of _ (by decide +kernel)) ggX7_loadFirst_X7_reasonAt
set_option maxRecDepth 20000 in
theorem ggX7_loadFirst_X7_load : GoodIn wsX7_loadFirst wsX7_load := goodIn_r _ [42, 4, 18, 5, 3, 19, 20, 21, 22, 43, 44, 45, 7, 8, 9, 10, 11, 12, 32, 33, 16, 34, 35, 36, 37, 38, 25, 26, 27, 28, 29, 30, 31, 46, 47, 48, 49, 50, 51, 52, 53, 54, 55, 56, 57, 58, 59, 60, 61, 62, 63, 64, 65, 66, 67, 68, 69, 70, 71, 72, 73, 74, 75, 76, 77, 78, 79, 81, 82, 83, 84, 85, 86, 80, 87, 88, 89] (by decide +kernel) (by decide +kernel)
set_option maxRecDepth 20000 in
theorem gX7_loadFirst_X7_load : GoodIn wsX7_loadFirst (wsV RX7 214 RX7 yX7_load wsX7_load) := goodIn_app (goodIn_of _ (by decide +kernel)) ggX7_loadFirst_X7_load
set_option maxRecDepth 20000 in
theorem ggX7_loadFirst_X6_put : GoodIn wsX7_loadFirst wsX6_put := goodIn_r _ [55, 12, 80] (by decide +kernel) (by decide +kernel)
set_option maxRecDepth 20000 in
theorem gX7_loadFirst_X6_put : GoodIn wsX7_loadFirst (wsV RX7 127 RX6 yX6_put wsX6_put) := goodIn_app (goodIn_of _ (by decide +kernel)) ggX7_loadFirst_X6_put
theorem dX7_loadFirst_0 : decode cX7_loadFirst 0 = .ok (.aload_n 0, 1) := by decide +kernel
theorem dX7_loadFirst_1 : decode cX7_loadFirst 1 = .ok (.getfield 64, 3) := by decide +kernel
theorem dX7_loadFirst_4 : decode cX7_loadFirst 4 = .ok (.istore_n 1, 1) := by decide +kernel
theorem dX7_loadFirst_5 : decode cX7_loadFirst 5 = .ok (.iconst 0, 1) := by decide +kernel
theorem dX7_loadFirst_6 : decode cX7_loadFirst 6 = .ok (.istore_n 2, 1) := by decide +kernel
theorem dX7_loadFirst_7 : decode cX7_loadFirst 7 = .ok (.iconst 0, 1) := by decide +kernel
theorem dX7_loadFirst_8 : decode cX7_loadFirst 8 = .ok (.istore_n 3, 1) := by decide +kernel
theorem dX7_loadFirst_9 : decode cX7_loadFirst 9 = .ok (.iconst 0, 1) := by decide +kernel
theorem dX7_loadFirst_10 : decode cX7_loadFirst 10 = .ok (.istore 4, 2) := by decide +kernel
theorem dX7_loadFirst_12 : decode cX7_loadFirst 12 = .ok (.iload 4, 2) := by decide +kernel
theorem dX7_loadFirst_14 : decode cX7_loadFirst 14 = .ok (.iload_n 1, 1) := by decide +kernel
theorem dX7_loadFirst_15 : decode cX7_loadFirst 15 = .ok (.if_icmp .ge 94, 3) := by decide +kernel
theorem dX7_loadFirst_18 : decode cX7_loadFirst 18 = .ok (.aload_n 0, 1) := by decide +kernel
theorem dX7_loadFirst_19 : decode cX7_loadFirst 19 = .ok (.getfield 44, 3) := by decide +kernel
theorem dX7_loadFirst_22 : decode cX7_loadFirst 22 = .ok (.iload 4, 2) := by decide +kernel
theorem dX7_loadFirst_24 : decode cX7_loadFirst 24 = .ok (.invokevirtual 104, 3) := by decide +kernel
theorem dX7_loadFirst_27 : decode cX7_loadFirst 27 = .ok (.istore 5, 2) := by decide +kernel
theorem dX7_loadFirst_29 : decode cX7_loadFirst 29 = .ok (.iload_n 3, 1) := by decide +kernel
theorem dX7_loadFirst_30 : decode cX7_loadFirst 30 = .ok (.ifCond .le 7, 3) := by decide +kernel
theorem dX7_loadFirst_33 : decode cX7_loadFirst 33 = .ok (.iconst 1, 1) := by decide +kernel
theorem dX7_loadFirst_34 : decode cX7_loadFirst 34 = .ok (.goto 13, 3) := by decide +kernel
theorem dX7_loadFirst_37 : decode cX7_loadFirst 37 = .ok (.aload_n 0, 1) := by decide +kernel
theorem dX7_loadFirst_38 : decode cX7_loadFirst 38 = .ok (.iload 5, 2) := by decide +kernel
theorem dX7_loadFirst_40 : decode cX7_loadFirst 40 = .ok (.aload_n 0, 1) := by decide +kernel
theorem dX7_loadFirst_41 : decode cX7_loadFirst 41 = .ok (.getfield 68, 3) := by decide +kernel
theorem dX7_loadFirst_44 : decode cX7_loadFirst 44 = .ok (.invokevirtual 210, 3) := by decide +kernel
theorem dX7_loadFirst_47 : decode cX7_loadFirst 47 = .ok (.istore 6, 2) := by decide +kernel
theorem dX7_loadFirst_49 : decode cX7_loadFirst 49 = .ok (.iload 6, 2) := by decide +kernel
theorem dX7_loadFirst_51 : decode cX7_loadFirst 51 = .ok (.ifCond .ne 25, 3) := by decide +kernel
theorem dX7_loadFirst_54 : decode cX7_loadFirst 54 = .ok (.aload_n 0, 1) := by decide +kernel
theorem dX7_loadFirst_55 : decode cX7_loadFirst 55 = .ok (.iload 5, 2) := by decide +kernel
theorem dX7_loadFirst_57 : decode cX7_loadFirst 57 = .ok (.invokevirtual 214, 3) := by decide +kernel
theorem dX7_loadFirst_60 : decode cX7_loadFirst 60 = .ok (.aload_n 0, 1) := by decide +kernel
theorem dX7_loadFirst_61 : decode cX7_loadFirst 61 = .ok (.getfield 28, 3) := by decide +kernel
theorem dX7_loadFirst_64 : decode cX7_loadFirst 64 = .ok (.getfield 149, 3) := by decide +kernel
theorem dX7_loadFirst_67 : decode cX7_loadFirst 67 = .ok (.iload 5, 2) := by decide +kernel
theorem dX7_loadFirst_69 : decode cX7_loadFirst 69 = .ok (.invokevirtual 104, 3) := by decide +kernel
theorem dX7_loadFirst_72 : decode cX7_loadFirst 72 = .ok (.istore_n 3, 1) := by decide +kernel
theorem dX7_loadFirst_73 : decode cX7_loadFirst 73 = .ok (.goto 30, 3) := by decide +kernel
theorem dX7_loadFirst_76 : decode cX7_loadFirst 76 = .ok (.aload_n 0, 1) := by decide +kernel
theorem dX7_loadFirst_77 : decode cX7_loadFirst 77 = .ok (.getfield 28, 3) := by decide +kernel
theorem dX7_loadFirst_80 : decode cX7_loadFirst 80 = .ok (.getfield 155, 3) := by decide +kernel
theorem dX7_loadFirst_83 : decode cX7_loadFirst 83 = .ok (.iload 5, 2) := by decide +kernel
theorem dX7_loadFirst_85 : decode cX7_loadFirst 85 = .ok (.iload 6, 2) := by decide +kernel
theorem dX7_loadFirst_87 : decode cX7_loadFirst 87 = .ok (.invokevirtual 127, 3) := by decide +kernel
theorem dX7_loadFirst_90 : decode cX7_loadFirst 90 = .ok (.aload_n 0, 1) := by decide +kernel
theorem dX7_loadFirst_91 : decode cX7_loadFirst 91 = .ok (.getfield 44, 3) := by decide +kernel
theorem dX7_loadFirst_94 : decode cX7_loadFirst 94 = .ok (.iload_n 2, 1) := by decide +kernel
theorem dX7_loadFirst_95 : decode cX7_loadFirst 95 = .ok (.iload 5, 2) := by decide +kernel
theorem dX7_loadFirst_97 : decode cX7_loadFirst 97 = .ok (.invokevirtual 127, 3) := by decide +kernel
theorem dX7_loadFirst_100 : decode cX7_loadFirst 100 = .ok (.iinc 2 1, 3) := by decide +kernel
theorem dX7_loadFirst_103 : decode cX7_loadFirst 103 = .ok (.iinc 4 1, 3) := by decide +kernel
theorem dX7_loadFirst_106 : decode cX7_loadFirst 106 = .ok (.goto (-94), 3) := by decide +kernel
theorem dX7_loadFirst_109 : decode cX7_loadFirst 109 = .ok (.aload_n 0, 1) := by decide +kernel
theorem dX7_loadFirst_110 : decode cX7_loadFirst 110 = .ok (.iload_n 2, 1) := by decide +kernel
theorem dX7_loadFirst_111 : decode cX7_loadFirst 111 = .ok (.putfield 64, 3) := by decide +kernel
theorem dX7_loadFirst_114 : decode cX7_loadFirst 114 = .ok (.iload_n 3, 1) := by decide +kernel
theorem dX7_loadFirst_115 : decode cX7_loadFirst 115 = .ok (.ireturn, 1) := by decide +kernel
set_option maxRecDepth 20000 in
theorem ggX7_load_X6_at : GoodIn wsX7_load wsX6_at := goodIn_r _ [16, 17, 73] (by decide +kernel) (by decide +kernel)
set_option maxRecDepth 20000 in
theorem gX7_load_X6_at : GoodIn wsX7_load (wsV RX7 104 RX6 yX6_at wsX6_at) := goodIn_app (goodIn_of _ (by decide +kernel)) ggX7_load_X6_at
set_option maxRecDepth 20000 in
theorem ggX7_load_X7_warmthOf : GoodIn wsX7_load wsX7_warmthOf := goodIn_r _ [21, 22, 23, 24, 25] (by decide +kernel) (by decide +kernel)
set_option maxRecDepth 20000 in
theorem gX7_load_X7_warmthOf : GoodIn wsX7_load (va_wsS RX7 217 yX7_warmthOf wsX7_warmthOf) := goodIn_app (goodIn_of _ (by decide +kernel)) ggX7_load_X7_warmthOf
set_option maxRecDepth 20000 in
theorem ggX7_load_X5_isFree : GoodIn wsX7_load wsX5_isFree := goodIn_r _ [30, 31, 32, 13, 14, 15, 16, 17, 74, 75, 76, 73] (by decide +kernel) (by decide +kernel)
set_option maxRecDepth 20000 in
theorem gX7_load_X5_isFree : GoodIn wsX7_load (wsV RX7 220 RX5 yX5_isFree wsX5_isFree) := goodIn_app (goodIn_of _ (by decide +kernel)) ggX7_load_X5_isFree
set_option maxRecDepth 20000 in
theorem ggX7_load_X5_putLoaf : GoodIn wsX7_load wsX5_putLoaf := goodIn_r _ [36, 31, 37, 38, 39, 40, 41, 15, 42, 17, 74, 75, 76, 73] (by decide +kernel) (by decide +kernel)
set_option maxRecDepth 20000 in
theorem gX7_load_X5_putLoaf : GoodIn wsX7_load (wsV RX7 223 RX5 yX5_putLoaf wsX5_putLoaf) := goodIn_app (goodIn_of _ (by decide +kernel)) ggX7_load_X5_putLoaf
set_option maxRecDepth 20000 in
theorem ggX7_load_X6_put : GoodIn wsX7_load wsX6_put := goodIn_r _ [42, 17, 73] (by decide +kernel) (by decide +kernel)
set_option maxRecDepth 20000 in
theorem gX7_load_X6_put : GoodIn wsX7_load (wsV RX7 127 RX6 yX6_put wsX6_put) := goodIn_app (goodIn_of _ (by decide +kernel)) ggX7_load_X6_put
theorem dX7_load_0 : decode cX7_load 0 = .ok (.aload_n 0, 1) := by decide +kernel
theorem dX7_load_1 : decode cX7_load 1 = .ok (.getfield 28, 3) := by decide +kernel
theorem dX7_load_4 : decode cX7_load 4 = .ok (.getfield 146, 3) := by decide +kernel
theorem dX7_load_7 : decode cX7_load 7 = .ok (.iload_n 1, 1) := by decide +kernel
theorem dX7_load_8 : decode cX7_load 8 = .ok (.invokevirtual 104, 3) := by decide +kernel
theorem dX7_load_11 : decode cX7_load 11 = .ok (.istore_n 2, 1) := by decide +kernel
theorem dX7_load_12 : decode cX7_load 12 = .ok (.aload_n 0, 1) := by decide +kernel
theorem dX7_load_13 : decode cX7_load 13 = .ok (.getfield 28, 3) := by decide +kernel
theorem dX7_load_16 : decode cX7_load 16 = .ok (.getfield 149, 3) := by decide +kernel
theorem dX7_load_19 : decode cX7_load 19 = .ok (.iload_n 1, 1) := by decide +kernel
theorem dX7_load_20 : decode cX7_load 20 = .ok (.invokevirtual 104, 3) := by decide +kernel
theorem dX7_load_23 : decode cX7_load 23 = .ok (.istore_n 3, 1) := by decide +kernel
theorem dX7_load_24 : decode cX7_load 24 = .ok (.iconst 0, 1) := by decide +kernel
theorem dX7_load_25 : decode cX7_load 25 = .ok (.istore 4, 2) := by decide +kernel
theorem dX7_load_27 : decode cX7_load 27 = .ok (.iload 4, 2) := by decide +kernel
theorem dX7_load_29 : decode cX7_load 29 = .ok (.bipush 12, 2) := by decide +kernel
theorem dX7_load_31 : decode cX7_load 31 = .ok (.if_icmp .ge 81, 3) := by decide +kernel
theorem dX7_load_34 : decode cX7_load 34 = .ok (.iload_n 3, 1) := by decide +kernel
theorem dX7_load_35 : decode cX7_load 35 = .ok (.ifCond .le 77, 3) := by decide +kernel
theorem dX7_load_38 : decode cX7_load 38 = .ok (.iload 4, 2) := by decide +kernel
theorem dX7_load_40 : decode cX7_load 40 = .ok (.aload_n 0, 1) := by decide +kernel
theorem dX7_load_41 : decode cX7_load 41 = .ok (.getfield 68, 3) := by decide +kernel
theorem dX7_load_44 : decode cX7_load 44 = .ok (.invokestatic 217, 3) := by decide +kernel
theorem dX7_load_47 : decode cX7_load 47 = .ok (.istore 5, 2) := by decide +kernel
theorem dX7_load_49 : decode cX7_load 49 = .ok (.aload_n 0, 1) := by decide +kernel
theorem dX7_load_50 : decode cX7_load 50 = .ok (.getfield 35, 3) := by decide +kernel
theorem dX7_load_53 : decode cX7_load 53 = .ok (.iload 4, 2) := by decide +kernel
theorem dX7_load_55 : decode cX7_load 55 = .ok (.invokevirtual 220, 3) := by decide +kernel
theorem dX7_load_58 : decode cX7_load 58 = .ok (.ifCond .eq 48, 3) := by decide +kernel
theorem dX7_load_61 : decode cX7_load 61 = .ok (.iload 5, 2) := by decide +kernel
theorem dX7_load_63 : decode cX7_load 63 = .ok (.aload_n 0, 1) := by decide +kernel
theorem dX7_load_64 : decode cX7_load 64 = .ok (.getfield 12, 3) := by decide +kernel
theorem dX7_load_67 : decode cX7_load 67 = .ok (.getfield 124, 3) := by decide +kernel
theorem dX7_load_70 : decode cX7_load 70 = .ok (.iload_n 2, 1) := by decide +kernel
theorem dX7_load_71 : decode cX7_load 71 = .ok (.invokevirtual 104, 3) := by decide +kernel
theorem dX7_load_74 : decode cX7_load 74 = .ok (.if_icmp .lt 32, 3) := by decide +kernel
theorem dX7_load_77 : decode cX7_load 77 = .ok (.iload 5, 2) := by decide +kernel
theorem dX7_load_79 : decode cX7_load 79 = .ok (.aload_n 0, 1) := by decide +kernel
theorem dX7_load_80 : decode cX7_load 80 = .ok (.getfield 12, 3) := by decide +kernel
theorem dX7_load_83 : decode cX7_load 83 = .ok (.getfield 131, 3) := by decide +kernel
theorem dX7_load_86 : decode cX7_load 86 = .ok (.iload_n 2, 1) := by decide +kernel
theorem dX7_load_87 : decode cX7_load 87 = .ok (.invokevirtual 104, 3) := by decide +kernel
theorem dX7_load_90 : decode cX7_load 90 = .ok (.if_icmp .gt 16, 3) := by decide +kernel
theorem dX7_load_93 : decode cX7_load 93 = .ok (.aload_n 0, 1) := by decide +kernel
theorem dX7_load_94 : decode cX7_load 94 = .ok (.getfield 35, 3) := by decide +kernel
theorem dX7_load_97 : decode cX7_load 97 = .ok (.iload 4, 2) := by decide +kernel
theorem dX7_load_99 : decode cX7_load 99 = .ok (.iload_n 1, 1) := by decide +kernel
theorem dX7_load_100 : decode cX7_load 100 = .ok (.invokevirtual 223, 3) := by decide +kernel
theorem dX7_load_103 : decode cX7_load 103 = .ok (.iinc 3 (-1), 3) := by decide +kernel
theorem dX7_load_106 : decode cX7_load 106 = .ok (.iinc 4 1, 3) := by decide +kernel
theorem dX7_load_109 : decode cX7_load 109 = .ok (.goto (-82), 3) := by decide +kernel
theorem dX7_load_112 : decode cX7_load 112 = .ok (.aload_n 0, 1) := by decide +kernel
theorem dX7_load_113 : decode cX7_load 113 = .ok (.getfield 28, 3) := by decide +kernel
theorem dX7_load_116 : decode cX7_load 116 = .ok (.getfield 101, 3) := by decide +kernel
theorem dX7_load_119 : decode cX7_load 119 = .ok (.iload_n 1, 1) := by decide +kernel
theorem dX7_load_120 : decode cX7_load 120 = .ok (.iconst 1, 1) := by decide +kernel
theorem dX7_load_121 : decode cX7_load 121 = .ok (.invokevirtual 127, 3) := by decide +kernel
theorem dX7_load_124 : decode cX7_load 124 = .ok (.aload_n 0, 1) := by decide +kernel
theorem dX7_load_125 : decode cX7_load 125 = .ok (.getfield 28, 3) := by decide +kernel
theorem dX7_load_128 : decode cX7_load 128 = .ok (.getfield 108, 3) := by decide +kernel
theorem dX7_load_131 : decode cX7_load 131 = .ok (.iload_n 1, 1) := by decide +kernel
theorem dX7_load_132 : decode cX7_load 132 = .ok (.aload_n 0, 1) := by decide +kernel
theorem dX7_load_133 : decode cX7_load 133 = .ok (.getfield 71, 3) := by decide +kernel
theorem dX7_load_136 : decode cX7_load 136 = .ok (.invokevirtual 127, 3) := by decide +kernel
theorem dX7_load_139 : decode cX7_load 139 = .ok (.return_, 1) := by decide +kernel
set_option maxRecDepth 20000 in
theorem ggX7_heatLoaves_X5_isFree : GoodIn wsX7_heatLoaves wsX5_isFree := goodIn_r _ [18, 19, 20, 21, 22, 23, 24, 25, 58, 59, 60, 83] (by decide +kernel) (by decide +kernel)
set_option maxRecDepth 20000 in
theorem gX7_heatLoaves_X5_isFree : GoodIn wsX7_heatLoaves (wsV RX7 220 RX5 yX5_isFree wsX5_isFree) := goodIn_app (goodIn_of _ (by decide +kernel)) ggX7_heatLoaves_X5_isFree
set_option maxRecDepth 20000 in
theorem ggX7_heatLoaves_X6_at : GoodIn wsX7_heatLoaves wsX6_at := goodIn_r _ [24, 25, 83] (by decide +kernel) (by decide +kernel)
set_option maxRecDepth 20000 in
theorem gX7_heatLoaves_X6_at : GoodIn wsX7_heatLoaves (wsV RX7 104 RX6 yX6_at wsX6_at) := goodIn_app (goodIn_of _ (by decide +kernel)) ggX7_heatLoaves_X6_at
set_option maxRecDepth 20000 in
theorem ggX7_heatLoaves_X7_warmthOf : GoodIn wsX7_heatLoaves wsX7_warmthOf := goodIn_r _ [30, 31, 32, 33, 34] (by decide +kernel) (by decide +kernel)
set_option maxRecDepth 20000 in
theorem gX7_heatLoaves_X7_warmthOf : GoodIn wsX7_heatLoaves (va_wsS RX7 217 yX7_warmthOf wsX7_warmthOf) := goodIn_app (goodIn_of _ (by decide +kernel)) ggX7_heatLoaves_X7_warmthOf
set_option maxRecDepth 20000 in
theorem ggX7_heatLoaves_X6_increase : GoodIn wsX7_heatLoaves wsX6_increase := goodIn_r _ [38, 39, 21, 22, 23, 24, 25, 40, 41, 42, 43, 83] (by decide +kernel) (by decide +kernel)
set_option maxRecDepth 20000 in
theorem gX7_heatLoaves_X6_increase : GoodIn wsX7_heatLoaves (wsV RX7 173 RX6 yX6_increase wsX6_increase) := goodIn_app (goodIn_of _ (by decide +kernel)) ggX7_heatLoaves_X6_increase
theorem dX7_heatLoaves_0 : decode cX7_heatLoaves 0 = .ok (.iconst 0, 1) := by decide +kernel
theorem dX7_heatLoaves_1 : decode cX7_heatLoaves 1 = .ok (.istore_n 1, 1) := by decide +kernel
theorem dX7_heatLoaves_2 : decode cX7_heatLoaves 2 = .ok (.iload_n 1, 1) := by decide +kernel
theorem dX7_heatLoaves_3 : decode cX7_heatLoaves 3 = .ok (.bipush 12, 2) := by decide +kernel
theorem dX7_heatLoaves_5 : decode cX7_heatLoaves 5 = .ok (.if_icmp .ge 132, 3) := by decide +kernel
theorem dX7_heatLoaves_8 : decode cX7_heatLoaves 8 = .ok (.aload_n 0, 1) := by decide +kernel
theorem dX7_heatLoaves_9 : decode cX7_heatLoaves 9 = .ok (.getfield 35, 3) := by decide +kernel
theorem dX7_heatLoaves_12 : decode cX7_heatLoaves 12 = .ok (.iload_n 1, 1) := by decide +kernel
theorem dX7_heatLoaves_13 : decode cX7_heatLoaves 13 = .ok (.invokevirtual 220, 3) := by decide +kernel
theorem dX7_heatLoaves_16 : decode cX7_heatLoaves 16 = .ok (.ifCond .ne 115, 3) := by decide +kernel
theorem dX7_heatLoaves_19 : decode cX7_heatLoaves 19 = .ok (.aload_n 0, 1) := by decide +kernel
theorem dX7_heatLoaves_20 : decode cX7_heatLoaves 20 = .ok (.getfield 35, 3) := by decide +kernel
theorem dX7_heatLoaves_23 : decode cX7_heatLoaves 23 = .ok (.getfield 167, 3) := by decide +kernel
theorem dX7_heatLoaves_26 : decode cX7_heatLoaves 26 = .ok (.iload_n 1, 1) := by decide +kernel
theorem dX7_heatLoaves_27 : decode cX7_heatLoaves 27 = .ok (.invokevirtual 104, 3) := by decide +kernel
theorem dX7_heatLoaves_30 : decode cX7_heatLoaves 30 = .ok (.istore_n 2, 1) := by decide +kernel
theorem dX7_heatLoaves_31 : decode cX7_heatLoaves 31 = .ok (.aload_n 0, 1) := by decide +kernel
theorem dX7_heatLoaves_32 : decode cX7_heatLoaves 32 = .ok (.getfield 28, 3) := by decide +kernel
theorem dX7_heatLoaves_35 : decode cX7_heatLoaves 35 = .ok (.getfield 146, 3) := by decide +kernel
theorem dX7_heatLoaves_38 : decode cX7_heatLoaves 38 = .ok (.iload_n 2, 1) := by decide +kernel
theorem dX7_heatLoaves_39 : decode cX7_heatLoaves 39 = .ok (.invokevirtual 104, 3) := by decide +kernel
theorem dX7_heatLoaves_42 : decode cX7_heatLoaves 42 = .ok (.istore_n 3, 1) := by decide +kernel
theorem dX7_heatLoaves_43 : decode cX7_heatLoaves 43 = .ok (.iload_n 1, 1) := by decide +kernel
theorem dX7_heatLoaves_44 : decode cX7_heatLoaves 44 = .ok (.aload_n 0, 1) := by decide +kernel
theorem dX7_heatLoaves_45 : decode cX7_heatLoaves 45 = .ok (.getfield 68, 3) := by decide +kernel
theorem dX7_heatLoaves_48 : decode cX7_heatLoaves 48 = .ok (.invokestatic 217, 3) := by decide +kernel
theorem dX7_heatLoaves_51 : decode cX7_heatLoaves 51 = .ok (.istore 4, 2) := by decide +kernel
theorem dX7_heatLoaves_53 : decode cX7_heatLoaves 53 = .ok (.iload 4, 2) := by decide +kernel
theorem dX7_heatLoaves_55 : decode cX7_heatLoaves 55 = .ok (.aload_n 0, 1) := by decide +kernel
theorem dX7_heatLoaves_56 : decode cX7_heatLoaves 56 = .ok (.getfield 12, 3) := by decide +kernel
theorem dX7_heatLoaves_59 : decode cX7_heatLoaves 59 = .ok (.getfield 124, 3) := by decide +kernel
theorem dX7_heatLoaves_62 : decode cX7_heatLoaves 62 = .ok (.iload_n 3, 1) := by decide +kernel
theorem dX7_heatLoaves_63 : decode cX7_heatLoaves 63 = .ok (.invokevirtual 104, 3) := by decide +kernel
theorem dX7_heatLoaves_66 : decode cX7_heatLoaves 66 = .ok (.if_icmp .lt 15, 3) := by decide +kernel
theorem dX7_heatLoaves_69 : decode cX7_heatLoaves 69 = .ok (.aload_n 0, 1) := by decide +kernel
theorem dX7_heatLoaves_70 : decode cX7_heatLoaves 70 = .ok (.getfield 35, 3) := by decide +kernel
theorem dX7_heatLoaves_73 : decode cX7_heatLoaves 73 = .ok (.getfield 226, 3) := by decide +kernel
theorem dX7_heatLoaves_76 : decode cX7_heatLoaves 76 = .ok (.iload_n 1, 1) := by decide +kernel
theorem dX7_heatLoaves_77 : decode cX7_heatLoaves 77 = .ok (.iconst 1, 1) := by decide +kernel
theorem dX7_heatLoaves_78 : decode cX7_heatLoaves 78 = .ok (.invokevirtual 173, 3) := by decide +kernel
theorem dX7_heatLoaves_81 : decode cX7_heatLoaves 81 = .ok (.iload 4, 2) := by decide +kernel
theorem dX7_heatLoaves_83 : decode cX7_heatLoaves 83 = .ok (.aload_n 0, 1) := by decide +kernel
theorem dX7_heatLoaves_84 : decode cX7_heatLoaves 84 = .ok (.getfield 12, 3) := by decide +kernel
theorem dX7_heatLoaves_87 : decode cX7_heatLoaves 87 = .ok (.getfield 131, 3) := by decide +kernel
theorem dX7_heatLoaves_90 : decode cX7_heatLoaves 90 = .ok (.iload_n 3, 1) := by decide +kernel
theorem dX7_heatLoaves_91 : decode cX7_heatLoaves 91 = .ok (.invokevirtual 104, 3) := by decide +kernel
theorem dX7_heatLoaves_94 : decode cX7_heatLoaves 94 = .ok (.if_icmp .le 15, 3) := by decide +kernel
theorem dX7_heatLoaves_97 : decode cX7_heatLoaves 97 = .ok (.aload_n 0, 1) := by decide +kernel
theorem dX7_heatLoaves_98 : decode cX7_heatLoaves 98 = .ok (.getfield 35, 3) := by decide +kernel
theorem dX7_heatLoaves_101 : decode cX7_heatLoaves 101 = .ok (.getfield 229, 3) := by decide +kernel
theorem dX7_heatLoaves_104 : decode cX7_heatLoaves 104 = .ok (.iload_n 1, 1) := by decide +kernel
theorem dX7_heatLoaves_105 : decode cX7_heatLoaves 105 = .ok (.iconst 1, 1) := by decide +kernel
theorem dX7_heatLoaves_106 : decode cX7_heatLoaves 106 = .ok (.invokevirtual 173, 3) := by decide +kernel
theorem dX7_heatLoaves_109 : decode cX7_heatLoaves 109 = .ok (.aload_n 0, 1) := by decide +kernel
theorem dX7_heatLoaves_110 : decode cX7_heatLoaves 110 = .ok (.getfield 21, 3) := by decide +kernel
theorem dX7_heatLoaves_113 : decode cX7_heatLoaves 113 = .ok (.getfield 189, 3) := by decide +kernel
theorem dX7_heatLoaves_116 : decode cX7_heatLoaves 116 = .ok (.aload_n 0, 1) := by decide +kernel
theorem dX7_heatLoaves_117 : decode cX7_heatLoaves 117 = .ok (.getfield 28, 3) := by decide +kernel
theorem dX7_heatLoaves_120 : decode cX7_heatLoaves 120 = .ok (.getfield 143, 3) := by decide +kernel
theorem dX7_heatLoaves_123 : decode cX7_heatLoaves 123 = .ok (.iload_n 2, 1) := by decide +kernel
theorem dX7_heatLoaves_124 : decode cX7_heatLoaves 124 = .ok (.invokevirtual 104, 3) := by decide +kernel
theorem dX7_heatLoaves_127 : decode cX7_heatLoaves 127 = .ok (.iconst 1, 1) := by decide +kernel
theorem dX7_heatLoaves_128 : decode cX7_heatLoaves 128 = .ok (.invokevirtual 173, 3) := by decide +kernel
theorem dX7_heatLoaves_131 : decode cX7_heatLoaves 131 = .ok (.iinc 1 1, 3) := by decide +kernel
theorem dX7_heatLoaves_134 : decode cX7_heatLoaves 134 = .ok (.goto (-132), 3) := by decide +kernel
theorem dX7_heatLoaves_137 : decode cX7_heatLoaves 137 = .ok (.return_, 1) := by decide +kernel
set_option maxRecDepth 20000 in
theorem ggX7_takeOutDone_X6_at : GoodIn wsX7_takeOutDone wsX6_at := goodIn_r _ [8, 9, 66] (by decide +kernel) (by decide +kernel)
set_option maxRecDepth 20000 in
theorem gX7_takeOutDone_X6_at : GoodIn wsX7_takeOutDone (wsV RX7 104 RX6 yX6_at wsX6_at) := goodIn_app (goodIn_of _ (by decide +kernel)) ggX7_takeOutDone_X6_at
set_option maxRecDepth 20000 in
theorem ggX7_takeOutDone_X7_isBaked : GoodIn wsX7_takeOutDone wsX7_isBaked := goodIn_r _ [14, 15, 16, 1, 17, 18, 19, 20, 4, 5, 6, 7, 8, 9, 43, 44, 45, 46, 47, 48, 49, 50, 51, 52, 53, 54, 55, 56, 67, 68, 69, 70, 71, 72, 57, 58, 59, 60, 61, 62, 63, 64, 65, 73, 74, 75, 66] (by decide +kernel) (by decide +kernel)
set_option maxRecDepth 20000 in
theorem gX7_takeOutDone_X7_isBaked : GoodIn wsX7_takeOutDone (wsV RX7 232 RX7 yX7_isBaked wsX7_isBaked) := goodIn_app (goodIn_of _ (by decide +kernel)) ggX7_takeOutDone_X7_isBaked
set_option maxRecDepth 20000 in
theorem ggX7_takeOutDone_X7_takeOut : GoodIn wsX7_takeOutDone wsX7_takeOut := goodIn_r _ [24, 18, 19, 25, 1, 26, 27, 3, 28, 29, 30, 31, 32, 4, 5, 6, 7, 8, 9, 33, 34, 35, 36, 37, 38, 39, 40, 41, 42, 43, 44, 45, 46, 47, 48, 49, 50, 51, 52, 53, 54, 55, 56, 73, 74, 75, 57, 58, 59, 60, 61, 62, 63, 64, 65, 76, 77, 78, 79, 80, 81, 82, 66] (by decide +kernel) (by decide +kernel)
set_option maxRecDepth 20000 in
theorem gX7_takeOutDone_X7_takeOut : GoodIn wsX7_takeOutDone (wsV RX7 235 RX7 yX7_takeOut wsX7_takeOut) := goodIn_app (goodIn_of _ (by decide +kernel)) ggX7_takeOutDone_X7_takeOut
theorem dX7_takeOutDone_0 : decode cX7_takeOutDone 0 = .ok (.iconst 0, 1) := by decide +kernel
theorem dX7_takeOutDone_1 : decode cX7_takeOutDone 1 = .ok (.istore_n 1, 1) := by decide +kernel
theorem dX7_takeOutDone_2 : decode cX7_takeOutDone 2 = .ok (.iconst 0, 1) := by decide +kernel
theorem dX7_takeOutDone_3 : decode cX7_takeOutDone 3 = .ok (.istore_n 2, 1) := by decide +kernel
theorem dX7_takeOutDone_4 : decode cX7_takeOutDone 4 = .ok (.iload_n 2, 1) := by decide +kernel
theorem dX7_takeOutDone_5 : decode cX7_takeOutDone 5 = .ok (.aload_n 0, 1) := by decide +kernel
theorem dX7_takeOutDone_6 : decode cX7_takeOutDone 6 = .ok (.getfield 28, 3) := by decide +kernel
theorem dX7_takeOutDone_9 : decode cX7_takeOutDone 9 = .ok (.getfield 96, 3) := by decide +kernel
theorem dX7_takeOutDone_12 : decode cX7_takeOutDone 12 = .ok (.if_icmp .ge 40, 3) := by decide +kernel
theorem dX7_takeOutDone_15 : decode cX7_takeOutDone 15 = .ok (.aload_n 0, 1) := by decide +kernel
theorem dX7_takeOutDone_16 : decode cX7_takeOutDone 16 = .ok (.getfield 28, 3) := by decide +kernel
theorem dX7_takeOutDone_19 : decode cX7_takeOutDone 19 = .ok (.getfield 101, 3) := by decide +kernel
theorem dX7_takeOutDone_22 : decode cX7_takeOutDone 22 = .ok (.iload_n 2, 1) := by decide +kernel
theorem dX7_takeOutDone_23 : decode cX7_takeOutDone 23 = .ok (.invokevirtual 104, 3) := by decide +kernel
theorem dX7_takeOutDone_26 : decode cX7_takeOutDone 26 = .ok (.iconst 1, 1) := by decide +kernel
theorem dX7_takeOutDone_27 : decode cX7_takeOutDone 27 = .ok (.if_icmp .ne 19, 3) := by decide +kernel
theorem dX7_takeOutDone_30 : decode cX7_takeOutDone 30 = .ok (.aload_n 0, 1) := by decide +kernel
theorem dX7_takeOutDone_31 : decode cX7_takeOutDone 31 = .ok (.iload_n 2, 1) := by decide +kernel
theorem dX7_takeOutDone_32 : decode cX7_takeOutDone 32 = .ok (.invokevirtual 232, 3) := by decide +kernel
theorem dX7_takeOutDone_35 : decode cX7_takeOutDone 35 = .ok (.ifCond .eq 11, 3) := by decide +kernel
theorem dX7_takeOutDone_38 : decode cX7_takeOutDone 38 = .ok (.aload_n 0, 1) := by decide +kernel
theorem dX7_takeOutDone_39 : decode cX7_takeOutDone 39 = .ok (.iload_n 2, 1) := by decide +kernel
theorem dX7_takeOutDone_40 : decode cX7_takeOutDone 40 = .ok (.invokevirtual 235, 3) := by decide +kernel
theorem dX7_takeOutDone_43 : decode cX7_takeOutDone 43 = .ok (.iinc 1 1, 3) := by decide +kernel
theorem dX7_takeOutDone_46 : decode cX7_takeOutDone 46 = .ok (.iinc 2 1, 3) := by decide +kernel
theorem dX7_takeOutDone_49 : decode cX7_takeOutDone 49 = .ok (.goto (-45), 3) := by decide +kernel
theorem dX7_takeOutDone_52 : decode cX7_takeOutDone 52 = .ok (.iload_n 1, 1) := by decide +kernel
theorem dX7_takeOutDone_53 : decode cX7_takeOutDone 53 = .ok (.ireturn, 1) := by decide +kernel
set_option maxRecDepth 20000 in
theorem ggX7_isBaked_X6_at : GoodIn wsX7_isBaked wsX6_at := goodIn_r _ [12, 13, 46] (by decide +kernel) (by decide +kernel)
set_option maxRecDepth 20000 in
theorem gX7_isBaked_X6_at : GoodIn wsX7_isBaked (wsV RX7 104 RX6 yX6_at wsX6_at) := goodIn_app (goodIn_of _ (by decide +kernel)) ggX7_isBaked_X6_at
theorem dX7_isBaked_0 : decode cX7_isBaked 0 = .ok (.aload_n 0, 1) := by decide +kernel
theorem dX7_isBaked_1 : decode cX7_isBaked 1 = .ok (.getfield 12, 3) := by decide +kernel
theorem dX7_isBaked_4 : decode cX7_isBaked 4 = .ok (.getfield 134, 3) := by decide +kernel
theorem dX7_isBaked_7 : decode cX7_isBaked 7 = .ok (.aload_n 0, 1) := by decide +kernel
theorem dX7_isBaked_8 : decode cX7_isBaked 8 = .ok (.getfield 28, 3) := by decide +kernel
theorem dX7_isBaked_11 : decode cX7_isBaked 11 = .ok (.getfield 146, 3) := by decide +kernel
theorem dX7_isBaked_14 : decode cX7_isBaked 14 = .ok (.iload_n 1, 1) := by decide +kernel
theorem dX7_isBaked_15 : decode cX7_isBaked 15 = .ok (.invokevirtual 104, 3) := by decide +kernel
theorem dX7_isBaked_18 : decode cX7_isBaked 18 = .ok (.invokevirtual 104, 3) := by decide +kernel
theorem dX7_isBaked_21 : decode cX7_isBaked 21 = .ok (.istore_n 2, 1) := by decide +kernel
theorem dX7_isBaked_22 : decode cX7_isBaked 22 = .ok (.iconst 0, 1) := by decide +kernel
theorem dX7_isBaked_23 : decode cX7_isBaked 23 = .ok (.istore_n 3, 1) := by decide +kernel
theorem dX7_isBaked_24 : decode cX7_isBaked 24 = .ok (.iload_n 3, 1) := by decide +kernel
theorem dX7_isBaked_25 : decode cX7_isBaked 25 = .ok (.bipush 12, 2) := by decide +kernel
theorem dX7_isBaked_27 : decode cX7_isBaked 27 = .ok (.if_icmp .ge 41, 3) := by decide +kernel
theorem dX7_isBaked_30 : decode cX7_isBaked 30 = .ok (.aload_n 0, 1) := by decide +kernel
theorem dX7_isBaked_31 : decode cX7_isBaked 31 = .ok (.getfield 35, 3) := by decide +kernel
theorem dX7_isBaked_34 : decode cX7_isBaked 34 = .ok (.getfield 167, 3) := by decide +kernel
theorem dX7_isBaked_37 : decode cX7_isBaked 37 = .ok (.iload_n 3, 1) := by decide +kernel
theorem dX7_isBaked_38 : decode cX7_isBaked 38 = .ok (.invokevirtual 104, 3) := by decide +kernel
theorem dX7_isBaked_41 : decode cX7_isBaked 41 = .ok (.iload_n 1, 1) := by decide +kernel
theorem dX7_isBaked_42 : decode cX7_isBaked 42 = .ok (.if_icmp .ne 20, 3) := by decide +kernel
theorem dX7_isBaked_45 : decode cX7_isBaked 45 = .ok (.aload_n 0, 1) := by decide +kernel
theorem dX7_isBaked_46 : decode cX7_isBaked 46 = .ok (.getfield 35, 3) := by decide +kernel
theorem dX7_isBaked_49 : decode cX7_isBaked 49 = .ok (.getfield 226, 3) := by decide +kernel
theorem dX7_isBaked_52 : decode cX7_isBaked 52 = .ok (.iload_n 3, 1) := by decide +kernel
theorem dX7_isBaked_53 : decode cX7_isBaked 53 = .ok (.invokevirtual 104, 3) := by decide +kernel
theorem dX7_isBaked_56 : decode cX7_isBaked 56 = .ok (.iload_n 2, 1) := by decide +kernel
theorem dX7_isBaked_57 : decode cX7_isBaked 57 = .ok (.if_icmp .ge 5, 3) := by decide +kernel
theorem dX7_isBaked_60 : decode cX7_isBaked 60 = .ok (.iconst 0, 1) := by decide +kernel
theorem dX7_isBaked_61 : decode cX7_isBaked 61 = .ok (.ireturn, 1) := by decide +kernel
theorem dX7_isBaked_62 : decode cX7_isBaked 62 = .ok (.iinc 3 1, 3) := by decide +kernel
theorem dX7_isBaked_65 : decode cX7_isBaked 65 = .ok (.goto (-41), 3) := by decide +kernel
theorem dX7_isBaked_68 : decode cX7_isBaked 68 = .ok (.iconst 1, 1) := by decide +kernel
theorem dX7_isBaked_69 : decode cX7_isBaked 69 = .ok (.ireturn, 1) := by decide +kernel
set_option maxRecDepth 20000 in
theorem ggX7_takeOut_X6_at : GoodIn wsX7_takeOut wsX6_at := goodIn_r _ [17, 18, 62] (by decide +kernel) (by decide +kernel)
set_option maxRecDepth 20000 in
theorem gX7_takeOut_X6_at : GoodIn wsX7_takeOut (wsV RX7 104 RX6 yX6_at wsX6_at) := goodIn_app (goodIn_of _ (by decide +kernel)) ggX7_takeOut_X6_at
set_option maxRecDepth 20000 in
theorem ggX7_takeOut_X6_put : GoodIn wsX7_takeOut wsX6_put := goodIn_r _ [22, 18, 62] (by decide +kernel) (by decide +kernel)
set_option maxRecDepth 20000 in
theorem gX7_takeOut_X6_put : GoodIn wsX7_takeOut (wsV RX7 127 RX6 yX6_put wsX6_put) := goodIn_app (goodIn_of _ (by decide +kernel)) ggX7_takeOut_X6_put
set_option maxRecDepth 20000 in
theorem ggX7_takeOut_X6_increase : GoodIn wsX7_takeOut wsX6_increase := goodIn_r _ [26, 27, 14, 15, 16, 17, 18, 28, 20, 21, 22, 62] (by decide +kernel) (by decide +kernel)
set_option maxRecDepth 20000 in
theorem gX7_takeOut_X6_increase : GoodIn wsX7_takeOut (wsV RX7 173 RX6 yX6_increase wsX6_increase) := goodIn_app (goodIn_of _ (by decide +kernel)) ggX7_takeOut_X6_increase
theorem dX7_takeOut_0 : decode cX7_takeOut 0 = .ok (.iconst 0, 1) := by decide +kernel
theorem dX7_takeOut_1 : decode cX7_takeOut 1 = .ok (.istore_n 2, 1) := by decide +kernel
theorem dX7_takeOut_2 : decode cX7_takeOut 2 = .ok (.iconst 0, 1) := by decide +kernel
theorem dX7_takeOut_3 : decode cX7_takeOut 3 = .ok (.istore_n 3, 1) := by decide +kernel
theorem dX7_takeOut_4 : decode cX7_takeOut 4 = .ok (.iload_n 3, 1) := by decide +kernel
theorem dX7_takeOut_5 : decode cX7_takeOut 5 = .ok (.bipush 12, 2) := by decide +kernel
theorem dX7_takeOut_7 : decode cX7_takeOut 7 = .ok (.if_icmp .ge 54, 3) := by decide +kernel
theorem dX7_takeOut_10 : decode cX7_takeOut 10 = .ok (.aload_n 0, 1) := by decide +kernel
theorem dX7_takeOut_11 : decode cX7_takeOut 11 = .ok (.getfield 35, 3) := by decide +kernel
theorem dX7_takeOut_14 : decode cX7_takeOut 14 = .ok (.getfield 167, 3) := by decide +kernel
theorem dX7_takeOut_17 : decode cX7_takeOut 17 = .ok (.iload_n 3, 1) := by decide +kernel
theorem dX7_takeOut_18 : decode cX7_takeOut 18 = .ok (.invokevirtual 104, 3) := by decide +kernel
theorem dX7_takeOut_21 : decode cX7_takeOut 21 = .ok (.iload_n 1, 1) := by decide +kernel
theorem dX7_takeOut_22 : decode cX7_takeOut 22 = .ok (.if_icmp .ne 33, 3) := by decide +kernel
theorem dX7_takeOut_25 : decode cX7_takeOut 25 = .ok (.aload_n 0, 1) := by decide +kernel
theorem dX7_takeOut_26 : decode cX7_takeOut 26 = .ok (.getfield 35, 3) := by decide +kernel
theorem dX7_takeOut_29 : decode cX7_takeOut 29 = .ok (.getfield 229, 3) := by decide +kernel
theorem dX7_takeOut_32 : decode cX7_takeOut 32 = .ok (.iload_n 3, 1) := by decide +kernel
theorem dX7_takeOut_33 : decode cX7_takeOut 33 = .ok (.invokevirtual 104, 3) := by decide +kernel
theorem dX7_takeOut_36 : decode cX7_takeOut 36 = .ok (.iconst 3, 1) := by decide +kernel
theorem dX7_takeOut_37 : decode cX7_takeOut 37 = .ok (.if_icmp .lt 6, 3) := by decide +kernel
theorem dX7_takeOut_40 : decode cX7_takeOut 40 = .ok (.iinc 2 1, 3) := by decide +kernel
theorem dX7_takeOut_43 : decode cX7_takeOut 43 = .ok (.aload_n 0, 1) := by decide +kernel
theorem dX7_takeOut_44 : decode cX7_takeOut 44 = .ok (.getfield 35, 3) := by decide +kernel
theorem dX7_takeOut_47 : decode cX7_takeOut 47 = .ok (.getfield 167, 3) := by decide +kernel
