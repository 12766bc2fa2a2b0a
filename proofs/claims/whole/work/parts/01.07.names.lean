theorem dX9_share_25 : decode cX9_share 25 = .ok (.if_icmp .ge 89, 3) := by decide +kernel
theorem dX9_share_28 : decode cX9_share 28 = .ok (.aload_n 0, 1) := by decide +kernel
theorem dX9_share_29 : decode cX9_share 29 = .ok (.getfield 7, 3) := by decide +kernel
theorem dX9_share_32 : decode cX9_share 32 = .ok (.bipush 6, 2) := by decide +kernel
theorem dX9_share_34 : decode cX9_share 34 = .ok (.iaload, 1) := by decide +kernel
theorem dX9_share_35 : decode cX9_share 35 = .ok (.i2l, 1) := by decide +kernel
theorem dX9_share_36 : decode cX9_share 36 = .ok (.aload_n 0, 1) := by decide +kernel
theorem dX9_share_37 : decode cX9_share 37 = .ok (.getfield 7, 3) := by decide +kernel
theorem dX9_share_40 : decode cX9_share 40 = .ok (.bipush 37, 2) := by decide +kernel
theorem dX9_share_42 : decode cX9_share 42 = .ok (.bipush 6, 2) := by decide +kernel
theorem dX9_share_44 : decode cX9_share 44 = .ok (.iload 4, 2) := by decide +kernel
theorem dX9_share_46 : decode cX9_share 46 = .ok (.imul, 1) := by decide +kernel
theorem dX9_share_47 : decode cX9_share 47 = .ok (.iadd, 1) := by decide +kernel
theorem dX9_share_48 : decode cX9_share 48 = .ok (.iconst 1, 1) := by decide +kernel
theorem dX9_share_49 : decode cX9_share 49 = .ok (.iadd, 1) := by decide +kernel
theorem dX9_share_50 : decode cX9_share 50 = .ok (.iaload, 1) := by decide +kernel
theorem dX9_share_51 : decode cX9_share 51 = .ok (.i2l, 1) := by decide +kernel
theorem dX9_share_52 : decode cX9_share 52 = .ok (.lmul, 1) := by decide +kernel
theorem dX9_share_53 : decode cX9_share 53 = .ok (.lstore 5, 2) := by decide +kernel
theorem dX9_share_55 : decode cX9_share 55 = .ok (.aload_n 0, 1) := by decide +kernel
theorem dX9_share_56 : decode cX9_share 56 = .ok (.getfield 22, 3) := by decide +kernel
theorem dX9_share_59 : decode cX9_share 59 = .ok (.iload 4, 2) := by decide +kernel
theorem dX9_share_61 : decode cX9_share 61 = .ok (.lload_n 1, 1) := by decide +kernel
theorem dX9_share_62 : decode cX9_share 62 = .ok (.lconst 0, 1) := by decide +kernel
theorem dX9_share_63 : decode cX9_share 63 = .ok (.lcmp, 1) := by decide +kernel
theorem dX9_share_64 : decode cX9_share 64 = .ok (.ifCond .ne 7, 3) := by decide +kernel
theorem dX9_share_67 : decode cX9_share 67 = .ok (.iconst 0, 1) := by decide +kernel
theorem dX9_share_68 : decode cX9_share 68 = .ok (.goto 8, 3) := by decide +kernel
theorem dX9_share_71 : decode cX9_share 71 = .ok (.lload 5, 2) := by decide +kernel
theorem dX9_share_73 : decode cX9_share 73 = .ok (.lload_n 1, 1) := by decide +kernel
theorem dX9_share_74 : decode cX9_share 74 = .ok (.ldiv, 1) := by decide +kernel
theorem dX9_share_75 : decode cX9_share 75 = .ok (.l2i, 1) := by decide +kernel
theorem dX9_share_76 : decode cX9_share 76 = .ok (.iastore, 1) := by decide +kernel
theorem dX9_share_77 : decode cX9_share 77 = .ok (.aload_n 0, 1) := by decide +kernel
theorem dX9_share_78 : decode cX9_share 78 = .ok (.getfield 25, 3) := by decide +kernel
theorem dX9_share_81 : decode cX9_share 81 = .ok (.iload 4, 2) := by decide +kernel
theorem dX9_share_83 : decode cX9_share 83 = .ok (.lload_n 1, 1) := by decide +kernel
theorem dX9_share_84 : decode cX9_share 84 = .ok (.lconst 0, 1) := by decide +kernel
theorem dX9_share_85 : decode cX9_share 85 = .ok (.lcmp, 1) := by decide +kernel
theorem dX9_share_86 : decode cX9_share 86 = .ok (.ifCond .ne 7, 3) := by decide +kernel
theorem dX9_share_89 : decode cX9_share 89 = .ok (.lconst 0, 1) := by decide +kernel
theorem dX9_share_90 : decode cX9_share 90 = .ok (.goto 7, 3) := by decide +kernel
theorem dX9_share_93 : decode cX9_share 93 = .ok (.lload 5, 2) := by decide +kernel
theorem dX9_share_95 : decode cX9_share 95 = .ok (.lload_n 1, 1) := by decide +kernel
theorem dX9_share_96 : decode cX9_share 96 = .ok (.lrem, 1) := by decide +kernel
theorem dX9_share_97 : decode cX9_share 97 = .ok (.lastore, 1) := by decide +kernel
theorem dX9_share_98 : decode cX9_share 98 = .ok (.iload_n 3, 1) := by decide +kernel
theorem dX9_share_99 : decode cX9_share 99 = .ok (.aload_n 0, 1) := by decide +kernel
theorem dX9_share_100 : decode cX9_share 100 = .ok (.getfield 22, 3) := by decide +kernel
theorem dX9_share_103 : decode cX9_share 103 = .ok (.iload 4, 2) := by decide +kernel
theorem dX9_share_105 : decode cX9_share 105 = .ok (.iaload, 1) := by decide +kernel
theorem dX9_share_106 : decode cX9_share 106 = .ok (.isub, 1) := by decide +kernel
theorem dX9_share_107 : decode cX9_share 107 = .ok (.istore_n 3, 1) := by decide +kernel
theorem dX9_share_108 : decode cX9_share 108 = .ok (.iinc 4 1, 3) := by decide +kernel
theorem dX9_share_111 : decode cX9_share 111 = .ok (.goto (-94), 3) := by decide +kernel
theorem dX9_share_114 : decode cX9_share 114 = .ok (.iconst 0, 1) := by decide +kernel
theorem dX9_share_115 : decode cX9_share 115 = .ok (.istore 4, 2) := by decide +kernel
theorem dX9_share_117 : decode cX9_share 117 = .ok (.iload 4, 2) := by decide +kernel
theorem dX9_share_119 : decode cX9_share 119 = .ok (.iload_n 3, 1) := by decide +kernel
theorem dX9_share_120 : decode cX9_share 120 = .ok (.if_icmp .ge 86, 3) := by decide +kernel
theorem dX9_share_123 : decode cX9_share 123 = .ok (.lload_n 1, 1) := by decide +kernel
theorem dX9_share_124 : decode cX9_share 124 = .ok (.lconst 0, 1) := by decide +kernel
theorem dX9_share_125 : decode cX9_share 125 = .ok (.lcmp, 1) := by decide +kernel
theorem dX9_share_126 : decode cX9_share 126 = .ok (.ifCond .le 80, 3) := by decide +kernel
theorem dX9_share_129 : decode cX9_share 129 = .ok (.iconst 0, 1) := by decide +kernel
theorem dX9_share_130 : decode cX9_share 130 = .ok (.istore 5, 2) := by decide +kernel
theorem dX9_share_132 : decode cX9_share 132 = .ok (.iconst 1, 1) := by decide +kernel
theorem dX9_share_133 : decode cX9_share 133 = .ok (.istore 6, 2) := by decide +kernel
theorem dX9_share_135 : decode cX9_share 135 = .ok (.iload 6, 2) := by decide +kernel
theorem dX9_share_137 : decode cX9_share 137 = .ok (.aload_n 0, 1) := by decide +kernel
theorem dX9_share_138 : decode cX9_share 138 = .ok (.getfield 7, 3) := by decide +kernel
theorem dX9_share_141 : decode cX9_share 141 = .ok (.iconst 3, 1) := by decide +kernel
theorem dX9_share_142 : decode cX9_share 142 = .ok (.iaload, 1) := by decide +kernel
theorem dX9_share_143 : decode cX9_share 143 = .ok (.if_icmp .ge 36, 3) := by decide +kernel
theorem dX9_share_146 : decode cX9_share 146 = .ok (.aload_n 0, 1) := by decide +kernel
theorem dX9_share_147 : decode cX9_share 147 = .ok (.getfield 25, 3) := by decide +kernel
theorem dX9_share_150 : decode cX9_share 150 = .ok (.iload 6, 2) := by decide +kernel
theorem dX9_share_152 : decode cX9_share 152 = .ok (.laload, 1) := by decide +kernel
theorem dX9_share_153 : decode cX9_share 153 = .ok (.aload_n 0, 1) := by decide +kernel
theorem dX9_share_154 : decode cX9_share 154 = .ok (.getfield 25, 3) := by decide +kernel
theorem dX9_share_157 : decode cX9_share 157 = .ok (.iload 5, 2) := by decide +kernel
theorem dX9_share_159 : decode cX9_share 159 = .ok (.laload, 1) := by decide +kernel
theorem dX9_share_160 : decode cX9_share 160 = .ok (.lcmp, 1) := by decide +kernel
theorem dX9_share_161 : decode cX9_share 161 = .ok (.ifCond .le 8, 3) := by decide +kernel
theorem dX9_share_164 : decode cX9_share 164 = .ok (.iload 6, 2) := by decide +kernel
theorem dX9_share_166 : decode cX9_share 166 = .ok (.goto 5, 3) := by decide +kernel
theorem dX9_share_169 : decode cX9_share 169 = .ok (.iload 5, 2) := by decide +kernel
theorem dX9_share_171 : decode cX9_share 171 = .ok (.istore 5, 2) := by decide +kernel
theorem dX9_share_173 : decode cX9_share 173 = .ok (.iinc 6 1, 3) := by decide +kernel
theorem dX9_share_176 : decode cX9_share 176 = .ok (.goto (-41), 3) := by decide +kernel
theorem dX9_share_179 : decode cX9_share 179 = .ok (.aload_n 0, 1) := by decide +kernel
theorem dX9_share_180 : decode cX9_share 180 = .ok (.getfield 22, 3) := by decide +kernel
theorem dX9_share_183 : decode cX9_share 183 = .ok (.iload 5, 2) := by decide +kernel
theorem dX9_share_185 : decode cX9_share 185 = .ok (.dup2, 1) := by decide +kernel
theorem dX9_share_186 : decode cX9_share 186 = .ok (.iaload, 1) := by decide +kernel
theorem dX9_share_187 : decode cX9_share 187 = .ok (.iconst 1, 1) := by decide +kernel
theorem dX9_share_188 : decode cX9_share 188 = .ok (.iadd, 1) := by decide +kernel
theorem dX9_share_189 : decode cX9_share 189 = .ok (.iastore, 1) := by decide +kernel
theorem dX9_share_190 : decode cX9_share 190 = .ok (.aload_n 0, 1) := by decide +kernel
theorem dX9_share_191 : decode cX9_share 191 = .ok (.getfield 25, 3) := by decide +kernel
theorem dX9_share_194 : decode cX9_share 194 = .ok (.iload 5, 2) := by decide +kernel
theorem dX9_share_196 : decode cX9_share 196 = .ok (.ldc2_w 168, 3) := by decide +kernel
theorem dX9_share_199 : decode cX9_share 199 = .ok (.lastore, 1) := by decide +kernel
theorem dX9_share_200 : decode cX9_share 200 = .ok (.iinc 4 1, 3) := by decide +kernel
theorem dX9_share_203 : decode cX9_share 203 = .ok (.goto (-86), 3) := by decide +kernel
theorem dX9_share_206 : decode cX9_share 206 = .ok (.return_, 1) := by decide +kernel
set_option maxRecDepth 20000 in
theorem ggX9_settleNow_X9_useOfAll : GoodIn wsX9_settleNow wsX9_useOfAll := goodIn_r _ [7, 1, 14, 15, 16, 17, 18, 19, 20, 21, 22, 23, 24, 25, 26] (by decide +kernel) (by decide +kernel)
set_option maxRecDepth 20000 in
theorem gX9_settleNow_X9_useOfAll : GoodIn wsX9_settleNow (wsV RX9 165 RX9 yX9_useOfAll wsX9_useOfAll) := goodIn_app (goodIn_of _ (by decide +kernel)) ggX9_settleNow_X9_useOfAll
set_option maxRecDepth 20000 in
theorem ggX9_settleNow_X9_share : GoodIn wsX9_settleNow wsX9_share := goodIn_r _ [11, 1, 2, 12, 13, 3, 4, 5, 6, 7, 14, 15, 16, 17, 18, 19, 20, 21, 22, 23, 24, 25, 26] (by decide +kernel) (by decide +kernel)
set_option maxRecDepth 20000 in
theorem gX9_settleNow_X9_share : GoodIn wsX9_settleNow (wsV RX9 170 RX9 yX9_share wsX9_share) := goodIn_app (goodIn_of _ (by decide +kernel)) ggX9_settleNow_X9_share
theorem dX9_settleNow_0 : decode cX9_settleNow 0 = .ok (.aload_n 0, 1) := by decide +kernel
theorem dX9_settleNow_1 : decode cX9_settleNow 1 = .ok (.invokevirtual 165, 3) := by decide +kernel
theorem dX9_settleNow_4 : decode cX9_settleNow 4 = .ok (.ifCond .ne 5, 3) := by decide +kernel
theorem dX9_settleNow_7 : decode cX9_settleNow 7 = .ok (.iconst 0, 1) := by decide +kernel
theorem dX9_settleNow_8 : decode cX9_settleNow 8 = .ok (.ireturn, 1) := by decide +kernel
theorem dX9_settleNow_9 : decode cX9_settleNow 9 = .ok (.aload_n 0, 1) := by decide +kernel
theorem dX9_settleNow_10 : decode cX9_settleNow 10 = .ok (.invokevirtual 170, 3) := by decide +kernel
theorem dX9_settleNow_13 : decode cX9_settleNow 13 = .ok (.aload_n 0, 1) := by decide +kernel
theorem dX9_settleNow_14 : decode cX9_settleNow 14 = .ok (.getfield 7, 3) := by decide +kernel
theorem dX9_settleNow_17 : decode cX9_settleNow 17 = .ok (.bipush 6, 2) := by decide +kernel
theorem dX9_settleNow_19 : decode cX9_settleNow 19 = .ok (.iaload, 1) := by decide +kernel
theorem dX9_settleNow_20 : decode cX9_settleNow 20 = .ok (.istore_n 1, 1) := by decide +kernel
theorem dX9_settleNow_21 : decode cX9_settleNow 21 = .ok (.iconst 0, 1) := by decide +kernel
theorem dX9_settleNow_22 : decode cX9_settleNow 22 = .ok (.istore_n 2, 1) := by decide +kernel
theorem dX9_settleNow_23 : decode cX9_settleNow 23 = .ok (.iload_n 2, 1) := by decide +kernel
theorem dX9_settleNow_24 : decode cX9_settleNow 24 = .ok (.aload_n 0, 1) := by decide +kernel
theorem dX9_settleNow_25 : decode cX9_settleNow 25 = .ok (.getfield 7, 3) := by decide +kernel
theorem dX9_settleNow_28 : decode cX9_settleNow 28 = .ok (.iconst 3, 1) := by decide +kernel
theorem dX9_settleNow_29 : decode cX9_settleNow 29 = .ok (.iaload, 1) := by decide +kernel
theorem dX9_settleNow_30 : decode cX9_settleNow 30 = .ok (.if_icmp .ge 61, 3) := by decide +kernel
theorem dX9_settleNow_33 : decode cX9_settleNow 33 = .ok (.bipush 37, 2) := by decide +kernel
theorem dX9_settleNow_35 : decode cX9_settleNow 35 = .ok (.bipush 6, 2) := by decide +kernel
theorem dX9_settleNow_37 : decode cX9_settleNow 37 = .ok (.iload_n 2, 1) := by decide +kernel
theorem dX9_settleNow_38 : decode cX9_settleNow 38 = .ok (.imul, 1) := by decide +kernel
theorem dX9_settleNow_39 : decode cX9_settleNow 39 = .ok (.iadd, 1) := by decide +kernel
theorem dX9_settleNow_40 : decode cX9_settleNow 40 = .ok (.istore_n 3, 1) := by decide +kernel
theorem dX9_settleNow_41 : decode cX9_settleNow 41 = .ok (.aload_n 0, 1) := by decide +kernel
theorem dX9_settleNow_42 : decode cX9_settleNow 42 = .ok (.getfield 7, 3) := by decide +kernel
theorem dX9_settleNow_45 : decode cX9_settleNow 45 = .ok (.iload_n 3, 1) := by decide +kernel
theorem dX9_settleNow_46 : decode cX9_settleNow 46 = .ok (.iconst 0, 1) := by decide +kernel
theorem dX9_settleNow_47 : decode cX9_settleNow 47 = .ok (.iadd, 1) := by decide +kernel
theorem dX9_settleNow_48 : decode cX9_settleNow 48 = .ok (.dup2, 1) := by decide +kernel
theorem dX9_settleNow_49 : decode cX9_settleNow 49 = .ok (.iaload, 1) := by decide +kernel
theorem dX9_settleNow_50 : decode cX9_settleNow 50 = .ok (.aload_n 0, 1) := by decide +kernel
theorem dX9_settleNow_51 : decode cX9_settleNow 51 = .ok (.getfield 7, 3) := by decide +kernel
theorem dX9_settleNow_54 : decode cX9_settleNow 54 = .ok (.iload_n 3, 1) := by decide +kernel
theorem dX9_settleNow_55 : decode cX9_settleNow 55 = .ok (.iconst 2, 1) := by decide +kernel
theorem dX9_settleNow_56 : decode cX9_settleNow 56 = .ok (.iadd, 1) := by decide +kernel
theorem dX9_settleNow_57 : decode cX9_settleNow 57 = .ok (.iaload, 1) := by decide +kernel
theorem dX9_settleNow_58 : decode cX9_settleNow 58 = .ok (.aload_n 0, 1) := by decide +kernel
theorem dX9_settleNow_59 : decode cX9_settleNow 59 = .ok (.getfield 22, 3) := by decide +kernel
theorem dX9_settleNow_62 : decode cX9_settleNow 62 = .ok (.iload_n 2, 1) := by decide +kernel
theorem dX9_settleNow_63 : decode cX9_settleNow 63 = .ok (.iaload, 1) := by decide +kernel
theorem dX9_settleNow_64 : decode cX9_settleNow 64 = .ok (.isub, 1) := by decide +kernel
theorem dX9_settleNow_65 : decode cX9_settleNow 65 = .ok (.iadd, 1) := by decide +kernel
theorem dX9_settleNow_66 : decode cX9_settleNow 66 = .ok (.iastore, 1) := by decide +kernel
theorem dX9_settleNow_67 : decode cX9_settleNow 67 = .ok (.aload_n 0, 1) := by decide +kernel
theorem dX9_settleNow_68 : decode cX9_settleNow 68 = .ok (.getfield 7, 3) := by decide +kernel
theorem dX9_settleNow_71 : decode cX9_settleNow 71 = .ok (.iload_n 3, 1) := by decide +kernel
theorem dX9_settleNow_72 : decode cX9_settleNow 72 = .ok (.iconst 1, 1) := by decide +kernel
theorem dX9_settleNow_73 : decode cX9_settleNow 73 = .ok (.iadd, 1) := by decide +kernel
theorem dX9_settleNow_74 : decode cX9_settleNow 74 = .ok (.iconst 0, 1) := by decide +kernel
theorem dX9_settleNow_75 : decode cX9_settleNow 75 = .ok (.iastore, 1) := by decide +kernel
theorem dX9_settleNow_76 : decode cX9_settleNow 76 = .ok (.aload_n 0, 1) := by decide +kernel
theorem dX9_settleNow_77 : decode cX9_settleNow 77 = .ok (.getfield 7, 3) := by decide +kernel
theorem dX9_settleNow_80 : decode cX9_settleNow 80 = .ok (.iload_n 3, 1) := by decide +kernel
theorem dX9_settleNow_81 : decode cX9_settleNow 81 = .ok (.iconst 2, 1) := by decide +kernel
theorem dX9_settleNow_82 : decode cX9_settleNow 82 = .ok (.iadd, 1) := by decide +kernel
theorem dX9_settleNow_83 : decode cX9_settleNow 83 = .ok (.iconst 0, 1) := by decide +kernel
theorem dX9_settleNow_84 : decode cX9_settleNow 84 = .ok (.iastore, 1) := by decide +kernel
theorem dX9_settleNow_85 : decode cX9_settleNow 85 = .ok (.iinc 2 1, 3) := by decide +kernel
theorem dX9_settleNow_88 : decode cX9_settleNow 88 = .ok (.goto (-65), 3) := by decide +kernel
theorem dX9_settleNow_91 : decode cX9_settleNow 91 = .ok (.aload_n 0, 1) := by decide +kernel
theorem dX9_settleNow_92 : decode cX9_settleNow 92 = .ok (.getfield 7, 3) := by decide +kernel
theorem dX9_settleNow_95 : decode cX9_settleNow 95 = .ok (.bipush 6, 2) := by decide +kernel
theorem dX9_settleNow_97 : decode cX9_settleNow 97 = .ok (.iconst 0, 1) := by decide +kernel
theorem dX9_settleNow_98 : decode cX9_settleNow 98 = .ok (.iastore, 1) := by decide +kernel
theorem dX9_settleNow_99 : decode cX9_settleNow 99 = .ok (.iload_n 1, 1) := by decide +kernel
theorem dX9_settleNow_100 : decode cX9_settleNow 100 = .ok (.ireturn, 1) := by decide +kernel
set_option maxRecDepth 20000 in
theorem ggX9_settle_X9_save : GoodIn wsX9_settle wsX9_save := goodIn_r _ [6, 7, 8, 9, 25, 26, 27, 28, 29, 30, 31, 32, 33, 34, 35, 36, 37] (by decide +kernel) (by decide +kernel)
set_option maxRecDepth 20000 in
theorem gX9_settle_X9_save : GoodIn wsX9_settle (wsV RX9 112 RX9 yX9_save wsX9_save) := goodIn_app (goodIn_of _ (by decide +kernel)) ggX9_settle_X9_save
set_option maxRecDepth 20000 in
theorem ggX9_settle_X9_settleNow : GoodIn wsX9_settle wsX9_settleNow := goodIn_r _ [13, 9, 14, 15, 16, 17, 5, 18, 19, 20, 21, 22, 23, 24, 25, 26, 27, 28, 29, 30, 31, 32, 33, 34, 35, 36, 37] (by decide +kernel) (by decide +kernel)
set_option maxRecDepth 20000 in
theorem gX9_settle_X9_settleNow : GoodIn wsX9_settle (wsV RX9 173 RX9 yX9_settleNow wsX9_settleNow) := goodIn_app (goodIn_of _ (by decide +kernel)) ggX9_settle_X9_settleNow
theorem dX9_settle_0 : decode cX9_settle 0 = .ok (.aload_n 0, 1) := by decide +kernel
theorem dX9_settle_1 : decode cX9_settle 1 = .ok (.iconst 0, 1) := by decide +kernel
theorem dX9_settle_2 : decode cX9_settle 2 = .ok (.putfield 35, 3) := by decide +kernel
theorem dX9_settle_5 : decode cX9_settle 5 = .ok (.aload_n 0, 1) := by decide +kernel
theorem dX9_settle_6 : decode cX9_settle 6 = .ok (.invokevirtual 112, 3) := by decide +kernel
theorem dX9_settle_9 : decode cX9_settle 9 = .ok (.aload_n 0, 1) := by decide +kernel
theorem dX9_settle_10 : decode cX9_settle 10 = .ok (.invokevirtual 173, 3) := by decide +kernel
theorem dX9_settle_13 : decode cX9_settle 13 = .ok (.ireturn, 1) := by decide +kernel
set_option maxRecDepth 20000 in
theorem ggX9_passCode_X9_in : GoodIn wsX9_passCode wsX9_in := goodIn_r _ [6] (by decide +kernel) (by decide +kernel)
set_option maxRecDepth 20000 in
theorem gX9_passCode_X9_in : GoodIn wsX9_passCode (va_wsS RX9 49 yX9_in wsX9_in) := goodIn_app (goodIn_of _ (by decide +kernel)) ggX9_passCode_X9_in
theorem dX9_passCode_0 : decode cX9_passCode 0 = .ok (.iload_n 1, 1) := by decide +kernel
theorem dX9_passCode_1 : decode cX9_passCode 1 = .ok (.iconst 1, 1) := by decide +kernel
theorem dX9_passCode_2 : decode cX9_passCode 2 = .ok (.bipush 100, 2) := by decide +kernel
theorem dX9_passCode_4 : decode cX9_passCode 4 = .ok (.invokestatic 49, 3) := by decide +kernel
theorem dX9_passCode_7 : decode cX9_passCode 7 = .ok (.ifCond .ne 7, 3) := by decide +kernel
theorem dX9_passCode_10 : decode cX9_passCode 10 = .ok (.iconst 1, 1) := by decide +kernel
theorem dX9_passCode_11 : decode cX9_passCode 11 = .ok (.goto 21, 3) := by decide +kernel
theorem dX9_passCode_14 : decode cX9_passCode 14 = .ok (.aload_n 0, 1) := by decide +kernel
theorem dX9_passCode_15 : decode cX9_passCode 15 = .ok (.getfield 7, 3) := by decide +kernel
theorem dX9_passCode_18 : decode cX9_passCode 18 = .ok (.iconst 1, 1) := by decide +kernel
theorem dX9_passCode_19 : decode cX9_passCode 19 = .ok (.iaload, 1) := by decide +kernel
theorem dX9_passCode_20 : decode cX9_passCode 20 = .ok (.iload_n 1, 1) := by decide +kernel
theorem dX9_passCode_21 : decode cX9_passCode 21 = .ok (.iadd, 1) := by decide +kernel
theorem dX9_passCode_22 : decode cX9_passCode 22 = .ok (.ldc 176, 2) := by decide +kernel
theorem dX9_passCode_24 : decode cX9_passCode 24 = .ok (.if_icmp .le 7, 3) := by decide +kernel
theorem dX9_passCode_27 : decode cX9_passCode 27 = .ok (.iconst 2, 1) := by decide +kernel
theorem dX9_passCode_28 : decode cX9_passCode 28 = .ok (.goto 4, 3) := by decide +kernel
theorem dX9_passCode_31 : decode cX9_passCode 31 = .ok (.iconst 0, 1) := by decide +kernel
theorem dX9_passCode_32 : decode cX9_passCode 32 = .ok (.ireturn, 1) := by decide +kernel
set_option maxRecDepth 20000 in
theorem ggX9_pass_X9_passCode : GoodIn wsX9_pass wsX9_passCode := goodIn_r _ [6, 7, 8, 9, 10, 5, 11, 76, 77, 78, 79, 80, 81, 82, 83, 84, 85, 86, 87, 88] (by decide +kernel) (by decide +kernel)
set_option maxRecDepth 20000 in
theorem gX9_pass_X9_passCode : GoodIn wsX9_pass (wsV RX9 177 RX9 yX9_passCode wsX9_passCode) := goodIn_app (goodIn_of _ (by decide +kernel)) ggX9_pass_X9_passCode
set_option maxRecDepth 20000 in
theorem ggX9_pass_X9_save : GoodIn wsX9_pass wsX9_save := goodIn_r _ [15, 16, 17, 7, 76, 77, 78, 79, 80, 81, 82, 83, 84, 85, 86, 87, 88] (by decide +kernel) (by decide +kernel)
set_option maxRecDepth 20000 in
theorem gX9_pass_X9_save : GoodIn wsX9_pass (wsV RX9 112 RX9 yX9_save wsX9_save) := goodIn_app (goodIn_of _ (by decide +kernel)) ggX9_pass_X9_save
set_option maxRecDepth 20000 in
theorem ggX9_pass_X9_passNow : GoodIn wsX9_pass wsX9_passNow := goodIn_r _ [21, 7, 22, 23, 5, 24, 25, 26, 27, 28, 29, 30, 31, 32, 33, 34, 35, 36, 37, 38, 39, 40, 41, 42, 43, 44, 45, 46, 47, 48, 49, 50, 51, 52, 53, 54, 55, 56, 57, 58, 59, 60, 61, 62, 63, 9, 10, 11, 64, 65, 66, 67, 68, 69, 70, 71, 72, 73, 74, 75, 76, 77, 78, 79, 80, 81, 82, 83, 84, 85, 86, 87, 88] (by decide +kernel) (by decide +kernel)
set_option maxRecDepth 20000 in
theorem gX9_pass_X9_passNow : GoodIn wsX9_pass (wsV RX9 180 RX9 yX9_passNow wsX9_passNow) := goodIn_app (goodIn_of _ (by decide +kernel)) ggX9_pass_X9_passNow
theorem dX9_pass_0 : decode cX9_pass 0 = .ok (.aload_n 0, 1) := by decide +kernel
theorem dX9_pass_1 : decode cX9_pass 1 = .ok (.aload_n 0, 1) := by decide +kernel
theorem dX9_pass_2 : decode cX9_pass 2 = .ok (.iload_n 1, 1) := by decide +kernel
theorem dX9_pass_3 : decode cX9_pass 3 = .ok (.invokevirtual 177, 3) := by decide +kernel
theorem dX9_pass_6 : decode cX9_pass 6 = .ok (.putfield 35, 3) := by decide +kernel
theorem dX9_pass_9 : decode cX9_pass 9 = .ok (.aload_n 0, 1) := by decide +kernel
theorem dX9_pass_10 : decode cX9_pass 10 = .ok (.getfield 35, 3) := by decide +kernel
theorem dX9_pass_13 : decode cX9_pass 13 = .ok (.ifCond .le 5, 3) := by decide +kernel
theorem dX9_pass_16 : decode cX9_pass 16 = .ok (.iconst 0, 1) := by decide +kernel
theorem dX9_pass_17 : decode cX9_pass 17 = .ok (.ireturn, 1) := by decide +kernel
theorem dX9_pass_18 : decode cX9_pass 18 = .ok (.aload_n 0, 1) := by decide +kernel
theorem dX9_pass_19 : decode cX9_pass 19 = .ok (.invokevirtual 112, 3) := by decide +kernel
theorem dX9_pass_22 : decode cX9_pass 22 = .ok (.aload_n 0, 1) := by decide +kernel
theorem dX9_pass_23 : decode cX9_pass 23 = .ok (.iload_n 1, 1) := by decide +kernel
theorem dX9_pass_24 : decode cX9_pass 24 = .ok (.invokevirtual 180, 3) := by decide +kernel
theorem dX9_pass_27 : decode cX9_pass 27 = .ok (.ireturn, 1) := by decide +kernel
set_option maxRecDepth 20000 in
theorem ggX9_kind_X9_isKind : GoodIn wsX9_kind wsX9_isKind := goodIn_r _ [7, 2, 8, 9, 6, 10, 14, 15, 16, 17, 18, 19, 20, 21, 22, 23, 24, 25, 26] (by decide +kernel) (by decide +kernel)
set_option maxRecDepth 20000 in
theorem gX9_kind_X9_isKind : GoodIn wsX9_kind (wsV RX9 126 RX9 yX9_isKind wsX9_isKind) := goodIn_app (goodIn_of _ (by decide +kernel)) ggX9_kind_X9_isKind
set_option maxRecDepth 20000 in
theorem ggX9_kind_X9_in : GoodIn wsX9_kind wsX9_in := goodIn_r _ [10] (by decide +kernel) (by decide +kernel)
set_option maxRecDepth 20000 in
theorem gX9_kind_X9_in : GoodIn wsX9_kind (va_wsS RX9 49 yX9_in wsX9_in) := goodIn_app (goodIn_of _ (by decide +kernel)) ggX9_kind_X9_in
set_option maxRecDepth 20000 in
theorem ggX9_kind_X9_kindOf : GoodIn wsX9_kind wsX9_kindOf := goodIn_r _ [13] (by decide +kernel) (by decide +kernel)
set_option maxRecDepth 20000 in
theorem gX9_kind_X9_kindOf : GoodIn wsX9_kind (va_wsS RX9 46 yX9_kindOf wsX9_kindOf) := goodIn_app (goodIn_of _ (by decide +kernel)) ggX9_kind_X9_kindOf
theorem dX9_kind_0 : decode cX9_kind 0 = .ok (.aload_n 0, 1) := by decide +kernel
theorem dX9_kind_1 : decode cX9_kind 1 = .ok (.aload_n 0, 1) := by decide +kernel
theorem dX9_kind_2 : decode cX9_kind 2 = .ok (.iload_n 1, 1) := by decide +kernel
theorem dX9_kind_3 : decode cX9_kind 3 = .ok (.invokevirtual 126, 3) := by decide +kernel
theorem dX9_kind_6 : decode cX9_kind 6 = .ok (.ifCond .ne 7, 3) := by decide +kernel
theorem dX9_kind_9 : decode cX9_kind 9 = .ok (.iconst 1, 1) := by decide +kernel
theorem dX9_kind_10 : decode cX9_kind 10 = .ok (.goto 17, 3) := by decide +kernel
theorem dX9_kind_13 : decode cX9_kind 13 = .ok (.iload_n 2, 1) := by decide +kernel
theorem dX9_kind_14 : decode cX9_kind 14 = .ok (.iconst 0, 1) := by decide +kernel
theorem dX9_kind_15 : decode cX9_kind 15 = .ok (.iconst 4, 1) := by decide +kernel
theorem dX9_kind_16 : decode cX9_kind 16 = .ok (.invokestatic 49, 3) := by decide +kernel
theorem dX9_kind_19 : decode cX9_kind 19 = .ok (.ifCond .ne 7, 3) := by decide +kernel
theorem dX9_kind_22 : decode cX9_kind 22 = .ok (.iconst 2, 1) := by decide +kernel
theorem dX9_kind_23 : decode cX9_kind 23 = .ok (.goto 4, 3) := by decide +kernel
theorem dX9_kind_26 : decode cX9_kind 26 = .ok (.iconst 0, 1) := by decide +kernel
theorem dX9_kind_27 : decode cX9_kind 27 = .ok (.putfield 35, 3) := by decide +kernel
theorem dX9_kind_30 : decode cX9_kind 30 = .ok (.aload_n 0, 1) := by decide +kernel
theorem dX9_kind_31 : decode cX9_kind 31 = .ok (.getfield 35, 3) := by decide +kernel
theorem dX9_kind_34 : decode cX9_kind 34 = .ok (.ifCond .le 7, 3) := by decide +kernel
theorem dX9_kind_37 : decode cX9_kind 37 = .ok (.iconst 0, 1) := by decide +kernel
theorem dX9_kind_38 : decode cX9_kind 38 = .ok (.goto 12, 3) := by decide +kernel
theorem dX9_kind_41 : decode cX9_kind 41 = .ok (.aload_n 0, 1) := by decide +kernel
theorem dX9_kind_42 : decode cX9_kind 42 = .ok (.getfield 7, 3) := by decide +kernel
theorem dX9_kind_45 : decode cX9_kind 45 = .ok (.iload_n 1, 1) := by decide +kernel
theorem dX9_kind_46 : decode cX9_kind 46 = .ok (.iload_n 2, 1) := by decide +kernel
theorem dX9_kind_47 : decode cX9_kind 47 = .ok (.invokestatic 46, 3) := by decide +kernel
theorem dX9_kind_50 : decode cX9_kind 50 = .ok (.ireturn, 1) := by decide +kernel
set_option maxRecDepth 20000 in
theorem ggX9_doughsOf_X9_of : GoodIn wsX9_doughsOf wsX9_of := goodIn_r _ [5] (by decide +kernel) (by decide +kernel)
set_option maxRecDepth 20000 in
theorem gX9_doughsOf_X9_of : GoodIn wsX9_doughsOf (va_wsS RX9 42 yX9_of wsX9_of) := goodIn_app (goodIn_of _ (by decide +kernel)) ggX9_doughsOf_X9_of
theorem dX9_doughsOf_0 : decode cX9_doughsOf 0 = .ok (.iconst 0, 1) := by decide +kernel
theorem dX9_doughsOf_1 : decode cX9_doughsOf 1 = .ok (.istore_n 2, 1) := by decide +kernel
theorem dX9_doughsOf_2 : decode cX9_doughsOf 2 = .ok (.iconst 0, 1) := by decide +kernel
theorem dX9_doughsOf_3 : decode cX9_doughsOf 3 = .ok (.istore_n 3, 1) := by decide +kernel
theorem dX9_doughsOf_4 : decode cX9_doughsOf 4 = .ok (.iload_n 3, 1) := by decide +kernel
theorem dX9_doughsOf_5 : decode cX9_doughsOf 5 = .ok (.aload_n 0, 1) := by decide +kernel
theorem dX9_doughsOf_6 : decode cX9_doughsOf 6 = .ok (.getfield 7, 3) := by decide +kernel
theorem dX9_doughsOf_9 : decode cX9_doughsOf 9 = .ok (.iconst 4, 1) := by decide +kernel
theorem dX9_doughsOf_10 : decode cX9_doughsOf 10 = .ok (.iaload, 1) := by decide +kernel
theorem dX9_doughsOf_11 : decode cX9_doughsOf 11 = .ok (.if_icmp .ge 30, 3) := by decide +kernel
theorem dX9_doughsOf_14 : decode cX9_doughsOf 14 = .ok (.iload_n 2, 1) := by decide +kernel
theorem dX9_doughsOf_15 : decode cX9_doughsOf 15 = .ok (.aload_n 0, 1) := by decide +kernel
theorem dX9_doughsOf_16 : decode cX9_doughsOf 16 = .ok (.getfield 7, 3) := by decide +kernel
theorem dX9_doughsOf_19 : decode cX9_doughsOf 19 = .ok (.iload_n 3, 1) := by decide +kernel
theorem dX9_doughsOf_20 : decode cX9_doughsOf 20 = .ok (.iconst 0, 1) := by decide +kernel
theorem dX9_doughsOf_21 : decode cX9_doughsOf 21 = .ok (.invokestatic 42, 3) := by decide +kernel
theorem dX9_doughsOf_24 : decode cX9_doughsOf 24 = .ok (.iload_n 1, 1) := by decide +kernel
theorem dX9_doughsOf_25 : decode cX9_doughsOf 25 = .ok (.if_icmp .ne 7, 3) := by decide +kernel
theorem dX9_doughsOf_28 : decode cX9_doughsOf 28 = .ok (.iconst 1, 1) := by decide +kernel
theorem dX9_doughsOf_29 : decode cX9_doughsOf 29 = .ok (.goto 4, 3) := by decide +kernel
theorem dX9_doughsOf_32 : decode cX9_doughsOf 32 = .ok (.iconst 0, 1) := by decide +kernel
theorem dX9_doughsOf_33 : decode cX9_doughsOf 33 = .ok (.iadd, 1) := by decide +kernel
theorem dX9_doughsOf_34 : decode cX9_doughsOf 34 = .ok (.istore_n 2, 1) := by decide +kernel
theorem dX9_doughsOf_35 : decode cX9_doughsOf 35 = .ok (.iinc 3 1, 3) := by decide +kernel
theorem dX9_doughsOf_38 : decode cX9_doughsOf 38 = .ok (.goto (-34), 3) := by decide +kernel
theorem dX9_doughsOf_41 : decode cX9_doughsOf 41 = .ok (.iload_n 2, 1) := by decide +kernel
theorem dX9_doughsOf_42 : decode cX9_doughsOf 42 = .ok (.ireturn, 1) := by decide +kernel
set_option maxRecDepth 20000 in
theorem ggX9_houseValue_X9_doughsOf : GoodIn wsX9_houseValue wsX9_doughsOf := goodIn_r _ [6, 1, 7, 8, 5, 9, 10, 11, 12, 13, 14, 15, 16, 17, 18, 19, 20, 21, 22] (by decide +kernel) (by decide +kernel)
set_option maxRecDepth 20000 in
theorem gX9_houseValue_X9_doughsOf : GoodIn wsX9_houseValue (wsV RX9 183 RX9 yX9_doughsOf wsX9_doughsOf) := goodIn_app (goodIn_of _ (by decide +kernel)) ggX9_houseValue_X9_doughsOf
theorem dX9_houseValue_0 : decode cX9_houseValue 0 = .ok (.iload_n 2, 1) := by decide +kernel
theorem dX9_houseValue_1 : decode cX9_houseValue 1 = .ok (.iconst 4, 1) := by decide +kernel
theorem dX9_houseValue_2 : decode cX9_houseValue 2 = .ok (.if_icmp .ne 11, 3) := by decide +kernel
theorem dX9_houseValue_5 : decode cX9_houseValue 5 = .ok (.aload_n 0, 1) := by decide +kernel
theorem dX9_houseValue_6 : decode cX9_houseValue 6 = .ok (.iload_n 1, 1) := by decide +kernel
theorem dX9_houseValue_7 : decode cX9_houseValue 7 = .ok (.invokevirtual 183, 3) := by decide +kernel
theorem dX9_houseValue_10 : decode cX9_houseValue 10 = .ok (.goto 28, 3) := by decide +kernel
theorem dX9_houseValue_13 : decode cX9_houseValue 13 = .ok (.aload_n 0, 1) := by decide +kernel
theorem dX9_houseValue_14 : decode cX9_houseValue 14 = .ok (.getfield 7, 3) := by decide +kernel
theorem dX9_houseValue_17 : decode cX9_houseValue 17 = .ok (.bipush 37, 2) := by decide +kernel
theorem dX9_houseValue_19 : decode cX9_houseValue 19 = .ok (.bipush 6, 2) := by decide +kernel
theorem dX9_houseValue_21 : decode cX9_houseValue 21 = .ok (.iload_n 1, 1) := by decide +kernel
theorem dX9_houseValue_22 : decode cX9_houseValue 22 = .ok (.imul, 1) := by decide +kernel
theorem dX9_houseValue_23 : decode cX9_houseValue 23 = .ok (.iadd, 1) := by decide +kernel
theorem dX9_houseValue_24 : decode cX9_houseValue 24 = .ok (.iload_n 2, 1) := by decide +kernel
theorem dX9_houseValue_25 : decode cX9_houseValue 25 = .ok (.iconst 4, 1) := by decide +kernel
theorem dX9_houseValue_26 : decode cX9_houseValue 26 = .ok (.if_icmp .ge 7, 3) := by decide +kernel
theorem dX9_houseValue_29 : decode cX9_houseValue 29 = .ok (.iload_n 2, 1) := by decide +kernel
theorem dX9_houseValue_30 : decode cX9_houseValue 30 = .ok (.goto 6, 3) := by decide +kernel
theorem dX9_houseValue_33 : decode cX9_houseValue 33 = .ok (.iload_n 2, 1) := by decide +kernel
theorem dX9_houseValue_34 : decode cX9_houseValue 34 = .ok (.iconst 1, 1) := by decide +kernel
theorem dX9_houseValue_35 : decode cX9_houseValue 35 = .ok (.isub, 1) := by decide +kernel
theorem dX9_houseValue_36 : decode cX9_houseValue 36 = .ok (.iadd, 1) := by decide +kernel
theorem dX9_houseValue_37 : decode cX9_houseValue 37 = .ok (.iaload, 1) := by decide +kernel
theorem dX9_houseValue_38 : decode cX9_houseValue 38 = .ok (.ireturn, 1) := by decide +kernel
set_option maxRecDepth 20000 in
theorem ggX9_house_X9_isHouse : GoodIn wsX9_house wsX9_isHouse := goodIn_r _ [6, 7, 8, 9, 5, 10, 22, 23, 24, 25, 26, 27, 28, 29, 30, 31, 32, 33, 34] (by decide +kernel) (by decide +kernel)
set_option maxRecDepth 20000 in
theorem gX9_house_X9_isHouse : GoodIn wsX9_house (wsV RX9 122 RX9 yX9_isHouse wsX9_isHouse) := goodIn_app (goodIn_of _ (by decide +kernel)) ggX9_house_X9_isHouse
set_option maxRecDepth 20000 in
theorem ggX9_house_X9_in : GoodIn wsX9_house wsX9_in := goodIn_r _ [10] (by decide +kernel) (by decide +kernel)
set_option maxRecDepth 20000 in
theorem gX9_house_X9_in : GoodIn wsX9_house (va_wsS RX9 49 yX9_in wsX9_in) := goodIn_app (goodIn_of _ (by decide +kernel)) ggX9_house_X9_in
set_option maxRecDepth 20000 in
theorem ggX9_house_X9_houseValue : GoodIn wsX9_house wsX9_houseValue := goodIn_r _ [14, 7, 15, 16, 17, 5, 18, 19, 20, 21, 22, 23, 24, 25, 26, 27, 28, 29, 30, 31, 32, 33, 34] (by decide +kernel) (by decide +kernel)
set_option maxRecDepth 20000 in
theorem gX9_house_X9_houseValue : GoodIn wsX9_house (wsV RX9 186 RX9 yX9_houseValue wsX9_houseValue) := goodIn_app (goodIn_of _ (by decide +kernel)) ggX9_house_X9_houseValue
theorem dX9_house_0 : decode cX9_house 0 = .ok (.aload_n 0, 1) := by decide +kernel
theorem dX9_house_1 : decode cX9_house 1 = .ok (.aload_n 0, 1) := by decide +kernel
theorem dX9_house_2 : decode cX9_house 2 = .ok (.iload_n 1, 1) := by decide +kernel
theorem dX9_house_3 : decode cX9_house 3 = .ok (.invokevirtual 122, 3) := by decide +kernel
theorem dX9_house_6 : decode cX9_house 6 = .ok (.ifCond .ne 7, 3) := by decide +kernel
theorem dX9_house_9 : decode cX9_house 9 = .ok (.iconst 1, 1) := by decide +kernel
theorem dX9_house_10 : decode cX9_house 10 = .ok (.goto 18, 3) := by decide +kernel
theorem dX9_house_13 : decode cX9_house 13 = .ok (.iload_n 2, 1) := by decide +kernel
theorem dX9_house_14 : decode cX9_house 14 = .ok (.iconst 0, 1) := by decide +kernel
theorem dX9_house_15 : decode cX9_house 15 = .ok (.bipush 6, 2) := by decide +kernel
theorem dX9_house_17 : decode cX9_house 17 = .ok (.invokestatic 49, 3) := by decide +kernel
theorem dX9_house_20 : decode cX9_house 20 = .ok (.ifCond .ne 7, 3) := by decide +kernel
theorem dX9_house_23 : decode cX9_house 23 = .ok (.iconst 2, 1) := by decide +kernel
theorem dX9_house_24 : decode cX9_house 24 = .ok (.goto 4, 3) := by decide +kernel
theorem dX9_house_27 : decode cX9_house 27 = .ok (.iconst 0, 1) := by decide +kernel
theorem dX9_house_28 : decode cX9_house 28 = .ok (.putfield 35, 3) := by decide +kernel
theorem dX9_house_31 : decode cX9_house 31 = .ok (.aload_n 0, 1) := by decide +kernel
theorem dX9_house_32 : decode cX9_house 32 = .ok (.getfield 35, 3) := by decide +kernel
theorem dX9_house_35 : decode cX9_house 35 = .ok (.ifCond .le 7, 3) := by decide +kernel
theorem dX9_house_38 : decode cX9_house 38 = .ok (.iconst 0, 1) := by decide +kernel
theorem dX9_house_39 : decode cX9_house 39 = .ok (.goto 9, 3) := by decide +kernel
theorem dX9_house_42 : decode cX9_house 42 = .ok (.aload_n 0, 1) := by decide +kernel
theorem dX9_house_43 : decode cX9_house 43 = .ok (.iload_n 1, 1) := by decide +kernel
theorem dX9_house_44 : decode cX9_house 44 = .ok (.iload_n 2, 1) := by decide +kernel
theorem dX9_house_45 : decode cX9_house 45 = .ok (.invokevirtual 186, 3) := by decide +kernel
theorem dX9_house_48 : decode cX9_house 48 = .ok (.ireturn, 1) := by decide +kernel
set_option maxRecDepth 20000 in
theorem ggX9_placesOf_X9_at : GoodIn wsX9_placesOf wsX9_at := goodIn_r _ [5] (by decide +kernel) (by decide +kernel)
set_option maxRecDepth 20000 in
theorem gX9_placesOf_X9_at : GoodIn wsX9_placesOf (va_wsS RX9 68 yX9_at wsX9_at) := goodIn_app (goodIn_of _ (by decide +kernel)) ggX9_placesOf_X9_at
theorem dX9_placesOf_0 : decode cX9_placesOf 0 = .ok (.iconst 0, 1) := by decide +kernel
theorem dX9_placesOf_1 : decode cX9_placesOf 1 = .ok (.istore_n 2, 1) := by decide +kernel
theorem dX9_placesOf_2 : decode cX9_placesOf 2 = .ok (.iconst 0, 1) := by decide +kernel
theorem dX9_placesOf_3 : decode cX9_placesOf 3 = .ok (.istore_n 3, 1) := by decide +kernel
theorem dX9_placesOf_4 : decode cX9_placesOf 4 = .ok (.iload_n 3, 1) := by decide +kernel
theorem dX9_placesOf_5 : decode cX9_placesOf 5 = .ok (.bipush 12, 2) := by decide +kernel
theorem dX9_placesOf_7 : decode cX9_placesOf 7 = .ok (.if_icmp .ge 32, 3) := by decide +kernel
theorem dX9_placesOf_10 : decode cX9_placesOf 10 = .ok (.iload_n 2, 1) := by decide +kernel
theorem dX9_placesOf_11 : decode cX9_placesOf 11 = .ok (.aload_n 0, 1) := by decide +kernel
theorem dX9_placesOf_12 : decode cX9_placesOf 12 = .ok (.getfield 7, 3) := by decide +kernel
theorem dX9_placesOf_15 : decode cX9_placesOf 15 = .ok (.iload_n 3, 1) := by decide +kernel
theorem dX9_placesOf_16 : decode cX9_placesOf 16 = .ok (.iconst 0, 1) := by decide +kernel
theorem dX9_placesOf_17 : decode cX9_placesOf 17 = .ok (.invokestatic 68, 3) := by decide +kernel
theorem dX9_placesOf_20 : decode cX9_placesOf 20 = .ok (.iload_n 1, 1) := by decide +kernel
theorem dX9_placesOf_21 : decode cX9_placesOf 21 = .ok (.if_icmp .ne 9, 3) := by decide +kernel
theorem dX9_placesOf_24 : decode cX9_placesOf 24 = .ok (.iconst 1, 1) := by decide +kernel
theorem dX9_placesOf_25 : decode cX9_placesOf 25 = .ok (.iload_n 3, 1) := by decide +kernel
theorem dX9_placesOf_26 : decode cX9_placesOf 26 = .ok (.ishl, 1) := by decide +kernel
theorem dX9_placesOf_27 : decode cX9_placesOf 27 = .ok (.goto 4, 3) := by decide +kernel
theorem dX9_placesOf_30 : decode cX9_placesOf 30 = .ok (.iconst 0, 1) := by decide +kernel
theorem dX9_placesOf_31 : decode cX9_placesOf 31 = .ok (.ior, 1) := by decide +kernel
theorem dX9_placesOf_32 : decode cX9_placesOf 32 = .ok (.istore_n 2, 1) := by decide +kernel
theorem dX9_placesOf_33 : decode cX9_placesOf 33 = .ok (.iinc 3 1, 3) := by decide +kernel
theorem dX9_placesOf_36 : decode cX9_placesOf 36 = .ok (.goto (-32), 3) := by decide +kernel
theorem dX9_placesOf_39 : decode cX9_placesOf 39 = .ok (.iload_n 2, 1) := by decide +kernel
theorem dX9_placesOf_40 : decode cX9_placesOf 40 = .ok (.ireturn, 1) := by decide +kernel
set_option maxRecDepth 20000 in
theorem ggX9_doughValue_X9_of : GoodIn wsX9_doughValue wsX9_of := goodIn_r _ [5] (by decide +kernel) (by decide +kernel)
set_option maxRecDepth 20000 in
theorem gX9_doughValue_X9_of : GoodIn wsX9_doughValue (va_wsS RX9 42 yX9_of wsX9_of) := goodIn_app (goodIn_of _ (by decide +kernel)) ggX9_doughValue_X9_of
set_option maxRecDepth 20000 in
theorem ggX9_doughValue_X9_placeInLine : GoodIn wsX9_doughValue wsX9_placeInLine := goodIn_r _ [8] (by decide +kernel) (by decide +kernel)
set_option maxRecDepth 20000 in
theorem gX9_doughValue_X9_placeInLine : GoodIn wsX9_doughValue (va_wsS RX9 53 yX9_placeInLine wsX9_placeInLine) := goodIn_app (goodIn_of _ (by decide +kernel)) ggX9_doughValue_X9_placeInLine
set_option maxRecDepth 20000 in
theorem ggX9_doughValue_X9_placesOf : GoodIn wsX9_doughValue wsX9_placesOf := goodIn_r _ [12, 1, 13, 14, 4, 15, 16, 17, 18, 19, 20, 21, 22, 23, 24, 25, 26, 27, 28] (by decide +kernel) (by decide +kernel)
set_option maxRecDepth 20000 in
theorem gX9_doughValue_X9_placesOf : GoodIn wsX9_doughValue (wsV RX9 189 RX9 yX9_placesOf wsX9_placesOf) := goodIn_app (goodIn_of _ (by decide +kernel)) ggX9_doughValue_X9_placesOf
theorem dX9_doughValue_0 : decode cX9_doughValue 0 = .ok (.iload_n 2, 1) := by decide +kernel
theorem dX9_doughValue_1 : decode cX9_doughValue 1 = .ok (.bipush 7, 2) := by decide +kernel
theorem dX9_doughValue_3 : decode cX9_doughValue 3 = .ok (.if_icmp .ge 15, 3) := by decide +kernel
theorem dX9_doughValue_6 : decode cX9_doughValue 6 = .ok (.aload_n 0, 1) := by decide +kernel
theorem dX9_doughValue_7 : decode cX9_doughValue 7 = .ok (.getfield 7, 3) := by decide +kernel
theorem dX9_doughValue_10 : decode cX9_doughValue 10 = .ok (.iload_n 1, 1) := by decide +kernel
theorem dX9_doughValue_11 : decode cX9_doughValue 11 = .ok (.iload_n 2, 1) := by decide +kernel
theorem dX9_doughValue_12 : decode cX9_doughValue 12 = .ok (.invokestatic 42, 3) := by decide +kernel
theorem dX9_doughValue_15 : decode cX9_doughValue 15 = .ok (.goto 44, 3) := by decide +kernel
theorem dX9_doughValue_18 : decode cX9_doughValue 18 = .ok (.iload_n 2, 1) := by decide +kernel
theorem dX9_doughValue_19 : decode cX9_doughValue 19 = .ok (.bipush 7, 2) := by decide +kernel
theorem dX9_doughValue_21 : decode cX9_doughValue 21 = .ok (.if_icmp .ne 14, 3) := by decide +kernel
theorem dX9_doughValue_24 : decode cX9_doughValue 24 = .ok (.aload_n 0, 1) := by decide +kernel
theorem dX9_doughValue_25 : decode cX9_doughValue 25 = .ok (.getfield 7, 3) := by decide +kernel
theorem dX9_doughValue_28 : decode cX9_doughValue 28 = .ok (.iload_n 1, 1) := by decide +kernel
theorem dX9_doughValue_29 : decode cX9_doughValue 29 = .ok (.invokestatic 53, 3) := by decide +kernel
theorem dX9_doughValue_32 : decode cX9_doughValue 32 = .ok (.goto 27, 3) := by decide +kernel
theorem dX9_doughValue_35 : decode cX9_doughValue 35 = .ok (.iload_n 2, 1) := by decide +kernel
theorem dX9_doughValue_36 : decode cX9_doughValue 36 = .ok (.bipush 8, 2) := by decide +kernel
theorem dX9_doughValue_38 : decode cX9_doughValue 38 = .ok (.if_icmp .ne 11, 3) := by decide +kernel
theorem dX9_doughValue_41 : decode cX9_doughValue 41 = .ok (.aload_n 0, 1) := by decide +kernel
theorem dX9_doughValue_42 : decode cX9_doughValue 42 = .ok (.iload_n 1, 1) := by decide +kernel
theorem dX9_doughValue_43 : decode cX9_doughValue 43 = .ok (.invokevirtual 189, 3) := by decide +kernel
theorem dX9_doughValue_46 : decode cX9_doughValue 46 = .ok (.goto 13, 3) := by decide +kernel
theorem dX9_doughValue_49 : decode cX9_doughValue 49 = .ok (.aload_n 0, 1) := by decide +kernel
theorem dX9_doughValue_50 : decode cX9_doughValue 50 = .ok (.getfield 7, 3) := by decide +kernel
theorem dX9_doughValue_53 : decode cX9_doughValue 53 = .ok (.iload_n 1, 1) := by decide +kernel
theorem dX9_doughValue_54 : decode cX9_doughValue 54 = .ok (.bipush 7, 2) := by decide +kernel
theorem dX9_doughValue_56 : decode cX9_doughValue 56 = .ok (.invokestatic 42, 3) := by decide +kernel
theorem dX9_doughValue_59 : decode cX9_doughValue 59 = .ok (.ireturn, 1) := by decide +kernel
set_option maxRecDepth 20000 in
theorem ggX9_dough_X9_isDough : GoodIn wsX9_dough wsX9_isDough := goodIn_r _ [6, 7, 8, 9, 5, 10, 28, 29, 30, 31, 32, 33, 34, 35, 36, 37, 38, 39, 40] (by decide +kernel) (by decide +kernel)
set_option maxRecDepth 20000 in
theorem gX9_dough_X9_isDough : GoodIn wsX9_dough (wsV RX9 136 RX9 yX9_isDough wsX9_isDough) := goodIn_app (goodIn_of _ (by decide +kernel)) ggX9_dough_X9_isDough
set_option maxRecDepth 20000 in
theorem ggX9_dough_X9_in : GoodIn wsX9_dough wsX9_in := goodIn_r _ [10] (by decide +kernel) (by decide +kernel)
set_option maxRecDepth 20000 in
theorem gX9_dough_X9_in : GoodIn wsX9_dough (va_wsS RX9 49 yX9_in wsX9_in) := goodIn_app (goodIn_of _ (by decide +kernel)) ggX9_dough_X9_in
set_option maxRecDepth 20000 in
theorem ggX9_dough_X9_doughValue : GoodIn wsX9_dough wsX9_doughValue := goodIn_r _ [14, 7, 15, 16, 5, 17, 18, 19, 20, 21, 22, 23, 24, 25, 26, 27, 28, 29, 30, 31, 32, 33, 34, 35, 36, 37, 38, 39, 40] (by decide +kernel) (by decide +kernel)
set_option maxRecDepth 20000 in
theorem gX9_dough_X9_doughValue : GoodIn wsX9_dough (wsV RX9 192 RX9 yX9_doughValue wsX9_doughValue) := goodIn_app (goodIn_of _ (by decide +kernel)) ggX9_dough_X9_doughValue
theorem dX9_dough_0 : decode cX9_dough 0 = .ok (.aload_n 0, 1) := by decide +kernel
theorem dX9_dough_1 : decode cX9_dough 1 = .ok (.aload_n 0, 1) := by decide +kernel
theorem dX9_dough_2 : decode cX9_dough 2 = .ok (.iload_n 1, 1) := by decide +kernel
theorem dX9_dough_3 : decode cX9_dough 3 = .ok (.invokevirtual 136, 3) := by decide +kernel
theorem dX9_dough_6 : decode cX9_dough 6 = .ok (.ifCond .ne 7, 3) := by decide +kernel
theorem dX9_dough_9 : decode cX9_dough 9 = .ok (.iconst 1, 1) := by decide +kernel
theorem dX9_dough_10 : decode cX9_dough 10 = .ok (.goto 18, 3) := by decide +kernel
theorem dX9_dough_13 : decode cX9_dough 13 = .ok (.iload_n 2, 1) := by decide +kernel
theorem dX9_dough_14 : decode cX9_dough 14 = .ok (.iconst 0, 1) := by decide +kernel
theorem dX9_dough_15 : decode cX9_dough 15 = .ok (.bipush 9, 2) := by decide +kernel
theorem dX9_dough_17 : decode cX9_dough 17 = .ok (.invokestatic 49, 3) := by decide +kernel
theorem dX9_dough_20 : decode cX9_dough 20 = .ok (.ifCond .ne 7, 3) := by decide +kernel
theorem dX9_dough_23 : decode cX9_dough 23 = .ok (.iconst 2, 1) := by decide +kernel
theorem dX9_dough_24 : decode cX9_dough 24 = .ok (.goto 4, 3) := by decide +kernel
theorem dX9_dough_27 : decode cX9_dough 27 = .ok (.iconst 0, 1) := by decide +kernel
theorem dX9_dough_28 : decode cX9_dough 28 = .ok (.putfield 35, 3) := by decide +kernel
theorem dX9_dough_31 : decode cX9_dough 31 = .ok (.aload_n 0, 1) := by decide +kernel
theorem dX9_dough_32 : decode cX9_dough 32 = .ok (.getfield 35, 3) := by decide +kernel
theorem dX9_dough_35 : decode cX9_dough 35 = .ok (.ifCond .le 7, 3) := by decide +kernel
theorem dX9_dough_38 : decode cX9_dough 38 = .ok (.iconst 0, 1) := by decide +kernel
theorem dX9_dough_39 : decode cX9_dough 39 = .ok (.goto 9, 3) := by decide +kernel
theorem dX9_dough_42 : decode cX9_dough 42 = .ok (.aload_n 0, 1) := by decide +kernel
theorem dX9_dough_43 : decode cX9_dough 43 = .ok (.iload_n 1, 1) := by decide +kernel
theorem dX9_dough_44 : decode cX9_dough 44 = .ok (.iload_n 2, 1) := by decide +kernel
theorem dX9_dough_45 : decode cX9_dough 45 = .ok (.invokevirtual 192, 3) := by decide +kernel
theorem dX9_dough_48 : decode cX9_dough 48 = .ok (.ireturn, 1) := by decide +kernel
set_option maxRecDepth 20000 in
theorem ggX9_placeValue_X9_heatAt : GoodIn wsX9_placeValue wsX9_heatAt := goodIn_r _ [5] (by decide +kernel) (by decide +kernel)
set_option maxRecDepth 20000 in
theorem gX9_placeValue_X9_heatAt : GoodIn wsX9_placeValue (va_wsS RX9 71 yX9_heatAt wsX9_heatAt) := goodIn_app (goodIn_of _ (by decide +kernel)) ggX9_placeValue_X9_heatAt
set_option maxRecDepth 20000 in
theorem ggX9_placeValue_X9_at : GoodIn wsX9_placeValue wsX9_at := goodIn_r _ [8] (by decide +kernel) (by decide +kernel)
set_option maxRecDepth 20000 in
theorem gX9_placeValue_X9_at : GoodIn wsX9_placeValue (va_wsS RX9 68 yX9_at wsX9_at) := goodIn_app (goodIn_of _ (by decide +kernel)) ggX9_placeValue_X9_at
theorem dX9_placeValue_0 : decode cX9_placeValue 0 = .ok (.iload_n 2, 1) := by decide +kernel
theorem dX9_placeValue_1 : decode cX9_placeValue 1 = .ok (.ifCond .ne 12, 3) := by decide +kernel
theorem dX9_placeValue_4 : decode cX9_placeValue 4 = .ok (.aload_n 0, 1) := by decide +kernel
theorem dX9_placeValue_5 : decode cX9_placeValue 5 = .ok (.getfield 7, 3) := by decide +kernel
theorem dX9_placeValue_8 : decode cX9_placeValue 8 = .ok (.iload_n 1, 1) := by decide +kernel
theorem dX9_placeValue_9 : decode cX9_placeValue 9 = .ok (.invokestatic 71, 3) := by decide +kernel
theorem dX9_placeValue_12 : decode cX9_placeValue 12 = .ok (.ireturn, 1) := by decide +kernel
theorem dX9_placeValue_13 : decode cX9_placeValue 13 = .ok (.aload_n 0, 1) := by decide +kernel
theorem dX9_placeValue_14 : decode cX9_placeValue 14 = .ok (.getfield 7, 3) := by decide +kernel
theorem dX9_placeValue_17 : decode cX9_placeValue 17 = .ok (.iload_n 1, 1) := by decide +kernel
theorem dX9_placeValue_18 : decode cX9_placeValue 18 = .ok (.iconst 0, 1) := by decide +kernel
theorem dX9_placeValue_19 : decode cX9_placeValue 19 = .ok (.invokestatic 68, 3) := by decide +kernel
theorem dX9_placeValue_22 : decode cX9_placeValue 22 = .ok (.iconst (-1), 1) := by decide +kernel
theorem dX9_placeValue_23 : decode cX9_placeValue 23 = .ok (.if_icmp .ne 7, 3) := by decide +kernel
theorem dX9_placeValue_26 : decode cX9_placeValue 26 = .ok (.iconst (-1), 1) := by decide +kernel
theorem dX9_placeValue_27 : decode cX9_placeValue 27 = .ok (.goto 14, 3) := by decide +kernel
theorem dX9_placeValue_30 : decode cX9_placeValue 30 = .ok (.aload_n 0, 1) := by decide +kernel
theorem dX9_placeValue_31 : decode cX9_placeValue 31 = .ok (.getfield 7, 3) := by decide +kernel
theorem dX9_placeValue_34 : decode cX9_placeValue 34 = .ok (.iload_n 1, 1) := by decide +kernel
theorem dX9_placeValue_35 : decode cX9_placeValue 35 = .ok (.iload_n 2, 1) := by decide +kernel
theorem dX9_placeValue_36 : decode cX9_placeValue 36 = .ok (.iconst 1, 1) := by decide +kernel
theorem dX9_placeValue_37 : decode cX9_placeValue 37 = .ok (.isub, 1) := by decide +kernel
theorem dX9_placeValue_38 : decode cX9_placeValue 38 = .ok (.invokestatic 68, 3) := by decide +kernel
theorem dX9_placeValue_41 : decode cX9_placeValue 41 = .ok (.ireturn, 1) := by decide +kernel
set_option maxRecDepth 20000 in
theorem ggX9_place_X9_in : GoodIn wsX9_place wsX9_in := goodIn_r _ [5] (by decide +kernel) (by decide +kernel)
set_option maxRecDepth 20000 in
theorem gX9_place_X9_in : GoodIn wsX9_place (va_wsS RX9 49 yX9_in wsX9_in) := goodIn_app (goodIn_of _ (by decide +kernel)) ggX9_place_X9_in
set_option maxRecDepth 20000 in
theorem ggX9_place_X9_placeValue : GoodIn wsX9_place wsX9_placeValue := goodIn_r _ [9, 10, 11, 12, 4, 13, 14, 15, 16, 17, 18, 19, 20, 21, 22, 23, 24, 25, 26, 27, 28, 29] (by decide +kernel) (by decide +kernel)
set_option maxRecDepth 20000 in
theorem gX9_place_X9_placeValue : GoodIn wsX9_place (wsV RX9 195 RX9 yX9_placeValue wsX9_placeValue) := goodIn_app (goodIn_of _ (by decide +kernel)) ggX9_place_X9_placeValue
theorem dX9_place_0 : decode cX9_place 0 = .ok (.aload_n 0, 1) := by decide +kernel
theorem dX9_place_1 : decode cX9_place 1 = .ok (.iload_n 1, 1) := by decide +kernel
theorem dX9_place_2 : decode cX9_place 2 = .ok (.iconst 0, 1) := by decide +kernel
theorem dX9_place_3 : decode cX9_place 3 = .ok (.bipush 11, 2) := by decide +kernel
theorem dX9_place_5 : decode cX9_place 5 = .ok (.invokestatic 49, 3) := by decide +kernel
theorem dX9_place_8 : decode cX9_place 8 = .ok (.ifCond .ne 7, 3) := by decide +kernel
theorem dX9_place_11 : decode cX9_place 11 = .ok (.iconst 1, 1) := by decide +kernel
theorem dX9_place_12 : decode cX9_place 12 = .ok (.goto 17, 3) := by decide +kernel
theorem dX9_place_15 : decode cX9_place 15 = .ok (.iload_n 2, 1) := by decide +kernel
theorem dX9_place_16 : decode cX9_place 16 = .ok (.iconst 0, 1) := by decide +kernel
theorem dX9_place_17 : decode cX9_place 17 = .ok (.iconst 3, 1) := by decide +kernel
theorem dX9_place_18 : decode cX9_place 18 = .ok (.invokestatic 49, 3) := by decide +kernel
theorem dX9_place_21 : decode cX9_place 21 = .ok (.ifCond .ne 7, 3) := by decide +kernel
theorem dX9_place_24 : decode cX9_place 24 = .ok (.iconst 2, 1) := by decide +kernel
theorem dX9_place_25 : decode cX9_place 25 = .ok (.goto 4, 3) := by decide +kernel
theorem dX9_place_28 : decode cX9_place 28 = .ok (.iconst 0, 1) := by decide +kernel
theorem dX9_place_29 : decode cX9_place 29 = .ok (.putfield 35, 3) := by decide +kernel
theorem dX9_place_32 : decode cX9_place 32 = .ok (.aload_n 0, 1) := by decide +kernel
theorem dX9_place_33 : decode cX9_place 33 = .ok (.getfield 35, 3) := by decide +kernel
theorem dX9_place_36 : decode cX9_place 36 = .ok (.ifCond .le 7, 3) := by decide +kernel
theorem dX9_place_39 : decode cX9_place 39 = .ok (.iconst 0, 1) := by decide +kernel
theorem dX9_place_40 : decode cX9_place 40 = .ok (.goto 9, 3) := by decide +kernel
theorem dX9_place_43 : decode cX9_place 43 = .ok (.aload_n 0, 1) := by decide +kernel
theorem dX9_place_44 : decode cX9_place 44 = .ok (.iload_n 1, 1) := by decide +kernel
theorem dX9_place_45 : decode cX9_place 45 = .ok (.iload_n 2, 1) := by decide +kernel
theorem dX9_place_46 : decode cX9_place 46 = .ok (.invokevirtual 195, 3) := by decide +kernel
theorem dX9_place_49 : decode cX9_place 49 = .ok (.ireturn, 1) := by decide +kernel
set_option maxRecDepth 20000 in
theorem ggX9_wholeValue_X9_freeIn : GoodIn wsX9_wholeValue wsX9_freeIn := goodIn_r _ [6, 7, 8, 5, 9, 10, 11, 12, 13, 14, 15, 16, 17, 18] (by decide +kernel) (by decide +kernel)
set_option maxRecDepth 20000 in
theorem gX9_wholeValue_X9_freeIn : GoodIn wsX9_wholeValue (va_wsS RX9 78 yX9_freeIn wsX9_freeIn) := goodIn_app (goodIn_of _ (by decide +kernel)) ggX9_wholeValue_X9_freeIn
set_option maxRecDepth 20000 in
theorem ggX9_wholeValue_X9_useOfAll : GoodIn wsX9_wholeValue wsX9_useOfAll := goodIn_r _ [22, 1, 23, 24, 25, 26, 27, 28, 29, 30, 31, 32, 33, 34, 35] (by decide +kernel) (by decide +kernel)
set_option maxRecDepth 20000 in
theorem gX9_wholeValue_X9_useOfAll : GoodIn wsX9_wholeValue (wsV RX9 165 RX9 yX9_useOfAll wsX9_useOfAll) := goodIn_app (goodIn_of _ (by decide +kernel)) ggX9_wholeValue_X9_useOfAll
theorem dX9_wholeValue_0 : decode cX9_wholeValue 0 = .ok (.iload_n 1, 1) := by decide +kernel
theorem dX9_wholeValue_1 : decode cX9_wholeValue 1 = .ok (.tableswitch 178 0 13 #[71, 78, 85, 92, 99, 106, 113, 125, 133, 138, 146, 154, 162, 170], 71) := by decide +kernel
theorem dX9_wholeValue_72 : decode cX9_wholeValue 72 = .ok (.aload_n 0, 1) := by decide +kernel
theorem dX9_wholeValue_73 : decode cX9_wholeValue 73 = .ok (.getfield 7, 3) := by decide +kernel
theorem dX9_wholeValue_76 : decode cX9_wholeValue 76 = .ok (.iconst 2, 1) := by decide +kernel
theorem dX9_wholeValue_77 : decode cX9_wholeValue 77 = .ok (.iaload, 1) := by decide +kernel
theorem dX9_wholeValue_78 : decode cX9_wholeValue 78 = .ok (.ireturn, 1) := by decide +kernel
theorem dX9_wholeValue_79 : decode cX9_wholeValue 79 = .ok (.aload_n 0, 1) := by decide +kernel
theorem dX9_wholeValue_80 : decode cX9_wholeValue 80 = .ok (.getfield 7, 3) := by decide +kernel
theorem dX9_wholeValue_83 : decode cX9_wholeValue 83 = .ok (.iconst 3, 1) := by decide +kernel
theorem dX9_wholeValue_84 : decode cX9_wholeValue 84 = .ok (.iaload, 1) := by decide +kernel
theorem dX9_wholeValue_85 : decode cX9_wholeValue 85 = .ok (.ireturn, 1) := by decide +kernel
theorem dX9_wholeValue_86 : decode cX9_wholeValue 86 = .ok (.aload_n 0, 1) := by decide +kernel
theorem dX9_wholeValue_87 : decode cX9_wholeValue 87 = .ok (.getfield 7, 3) := by decide +kernel
theorem dX9_wholeValue_90 : decode cX9_wholeValue 90 = .ok (.iconst 4, 1) := by decide +kernel
theorem dX9_wholeValue_91 : decode cX9_wholeValue 91 = .ok (.iaload, 1) := by decide +kernel
theorem dX9_wholeValue_92 : decode cX9_wholeValue 92 = .ok (.ireturn, 1) := by decide +kernel
theorem dX9_wholeValue_93 : decode cX9_wholeValue 93 = .ok (.aload_n 0, 1) := by decide +kernel
theorem dX9_wholeValue_94 : decode cX9_wholeValue 94 = .ok (.getfield 7, 3) := by decide +kernel
theorem dX9_wholeValue_97 : decode cX9_wholeValue 97 = .ok (.iconst 0, 1) := by decide +kernel
theorem dX9_wholeValue_98 : decode cX9_wholeValue 98 = .ok (.iaload, 1) := by decide +kernel
theorem dX9_wholeValue_99 : decode cX9_wholeValue 99 = .ok (.ireturn, 1) := by decide +kernel
theorem dX9_wholeValue_100 : decode cX9_wholeValue 100 = .ok (.aload_n 0, 1) := by decide +kernel
theorem dX9_wholeValue_101 : decode cX9_wholeValue 101 = .ok (.getfield 7, 3) := by decide +kernel
theorem dX9_wholeValue_104 : decode cX9_wholeValue 104 = .ok (.iconst 1, 1) := by decide +kernel
theorem dX9_wholeValue_105 : decode cX9_wholeValue 105 = .ok (.iaload, 1) := by decide +kernel
theorem dX9_wholeValue_106 : decode cX9_wholeValue 106 = .ok (.ireturn, 1) := by decide +kernel
theorem dX9_wholeValue_107 : decode cX9_wholeValue 107 = .ok (.aload_n 0, 1) := by decide +kernel
theorem dX9_wholeValue_108 : decode cX9_wholeValue 108 = .ok (.getfield 7, 3) := by decide +kernel
theorem dX9_wholeValue_111 : decode cX9_wholeValue 111 = .ok (.iconst 5, 1) := by decide +kernel
theorem dX9_wholeValue_112 : decode cX9_wholeValue 112 = .ok (.iaload, 1) := by decide +kernel
theorem dX9_wholeValue_113 : decode cX9_wholeValue 113 = .ok (.ireturn, 1) := by decide +kernel
theorem dX9_wholeValue_114 : decode cX9_wholeValue 114 = .ok (.aload_n 0, 1) := by decide +kernel
theorem dX9_wholeValue_115 : decode cX9_wholeValue 115 = .ok (.getfield 7, 3) := by decide +kernel
theorem dX9_wholeValue_118 : decode cX9_wholeValue 118 = .ok (.iconst 0, 1) := by decide +kernel
theorem dX9_wholeValue_119 : decode cX9_wholeValue 119 = .ok (.sipush 400, 3) := by decide +kernel
theorem dX9_wholeValue_122 : decode cX9_wholeValue 122 = .ok (.invokestatic 78, 3) := by decide +kernel
theorem dX9_wholeValue_125 : decode cX9_wholeValue 125 = .ok (.ireturn, 1) := by decide +kernel
theorem dX9_wholeValue_126 : decode cX9_wholeValue 126 = .ok (.aload_n 0, 1) := by decide +kernel
theorem dX9_wholeValue_127 : decode cX9_wholeValue 127 = .ok (.getfield 7, 3) := by decide +kernel
theorem dX9_wholeValue_130 : decode cX9_wholeValue 130 = .ok (.bipush 6, 2) := by decide +kernel
theorem dX9_wholeValue_132 : decode cX9_wholeValue 132 = .ok (.iaload, 1) := by decide +kernel
theorem dX9_wholeValue_133 : decode cX9_wholeValue 133 = .ok (.ireturn, 1) := by decide +kernel
theorem dX9_wholeValue_134 : decode cX9_wholeValue 134 = .ok (.aload_n 0, 1) := by decide +kernel
theorem dX9_wholeValue_135 : decode cX9_wholeValue 135 = .ok (.invokevirtual 165, 3) := by decide +kernel
theorem dX9_wholeValue_138 : decode cX9_wholeValue 138 = .ok (.ireturn, 1) := by decide +kernel
theorem dX9_wholeValue_139 : decode cX9_wholeValue 139 = .ok (.aload_n 0, 1) := by decide +kernel
theorem dX9_wholeValue_140 : decode cX9_wholeValue 140 = .ok (.getfield 7, 3) := by decide +kernel
theorem dX9_wholeValue_143 : decode cX9_wholeValue 143 = .ok (.bipush 7, 2) := by decide +kernel
theorem dX9_wholeValue_145 : decode cX9_wholeValue 145 = .ok (.iaload, 1) := by decide +kernel
theorem dX9_wholeValue_146 : decode cX9_wholeValue 146 = .ok (.ireturn, 1) := by decide +kernel
theorem dX9_wholeValue_147 : decode cX9_wholeValue 147 = .ok (.aload_n 0, 1) := by decide +kernel
theorem dX9_wholeValue_148 : decode cX9_wholeValue 148 = .ok (.getfield 7, 3) := by decide +kernel
theorem dX9_wholeValue_151 : decode cX9_wholeValue 151 = .ok (.bipush 8, 2) := by decide +kernel
theorem dX9_wholeValue_153 : decode cX9_wholeValue 153 = .ok (.iaload, 1) := by decide +kernel
theorem dX9_wholeValue_154 : decode cX9_wholeValue 154 = .ok (.ireturn, 1) := by decide +kernel
theorem dX9_wholeValue_155 : decode cX9_wholeValue 155 = .ok (.aload_n 0, 1) := by decide +kernel
theorem dX9_wholeValue_156 : decode cX9_wholeValue 156 = .ok (.getfield 7, 3) := by decide +kernel
theorem dX9_wholeValue_159 : decode cX9_wholeValue 159 = .ok (.bipush 9, 2) := by decide +kernel
theorem dX9_wholeValue_161 : decode cX9_wholeValue 161 = .ok (.iaload, 1) := by decide +kernel
theorem dX9_wholeValue_162 : decode cX9_wholeValue 162 = .ok (.ireturn, 1) := by decide +kernel
theorem dX9_wholeValue_163 : decode cX9_wholeValue 163 = .ok (.aload_n 0, 1) := by decide +kernel
theorem dX9_wholeValue_164 : decode cX9_wholeValue 164 = .ok (.getfield 7, 3) := by decide +kernel
theorem dX9_wholeValue_167 : decode cX9_wholeValue 167 = .ok (.bipush 10, 2) := by decide +kernel
theorem dX9_wholeValue_169 : decode cX9_wholeValue 169 = .ok (.iaload, 1) := by decide +kernel
theorem dX9_wholeValue_170 : decode cX9_wholeValue 170 = .ok (.ireturn, 1) := by decide +kernel
theorem dX9_wholeValue_171 : decode cX9_wholeValue 171 = .ok (.aload_n 0, 1) := by decide +kernel
theorem dX9_wholeValue_172 : decode cX9_wholeValue 172 = .ok (.getfield 7, 3) := by decide +kernel
theorem dX9_wholeValue_175 : decode cX9_wholeValue 175 = .ok (.bipush 11, 2) := by decide +kernel
theorem dX9_wholeValue_177 : decode cX9_wholeValue 177 = .ok (.iaload, 1) := by decide +kernel
theorem dX9_wholeValue_178 : decode cX9_wholeValue 178 = .ok (.ireturn, 1) := by decide +kernel
theorem dX9_wholeValue_179 : decode cX9_wholeValue 179 = .ok (.aload_n 0, 1) := by decide +kernel
theorem dX9_wholeValue_180 : decode cX9_wholeValue 180 = .ok (.getfield 198, 3) := by decide +kernel
theorem dX9_wholeValue_183 : decode cX9_wholeValue 183 = .ok (.ireturn, 1) := by decide +kernel
set_option maxRecDepth 20000 in
theorem ggX9_whole_X9_in : GoodIn wsX9_whole wsX9_in := goodIn_r _ [5] (by decide +kernel) (by decide +kernel)
set_option maxRecDepth 20000 in
theorem gX9_whole_X9_in : GoodIn wsX9_whole (va_wsS RX9 49 yX9_in wsX9_in) := goodIn_app (goodIn_of _ (by decide +kernel)) ggX9_whole_X9_in
set_option maxRecDepth 20000 in
theorem ggX9_whole_X9_wholeValue : GoodIn wsX9_whole wsX9_wholeValue := goodIn_r _ [9, 10, 11, 12, 13, 4, 14, 15, 16, 17, 18, 19, 20, 21, 22, 23, 2, 3, 5, 24, 25, 26, 27, 28, 29, 30, 31, 32, 33, 34, 35, 36, 37, 38, 39, 40] (by decide +kernel) (by decide +kernel)
set_option maxRecDepth 20000 in
theorem gX9_whole_X9_wholeValue : GoodIn wsX9_whole (wsV RX9 201 RX9 yX9_wholeValue wsX9_wholeValue) := goodIn_app (goodIn_of _ (by decide +kernel)) ggX9_whole_X9_wholeValue
theorem dX9_whole_0 : decode cX9_whole 0 = .ok (.aload_n 0, 1) := by decide +kernel
theorem dX9_whole_1 : decode cX9_whole 1 = .ok (.iload_n 1, 1) := by decide +kernel
theorem dX9_whole_2 : decode cX9_whole 2 = .ok (.iconst 0, 1) := by decide +kernel
theorem dX9_whole_3 : decode cX9_whole 3 = .ok (.bipush 14, 2) := by decide +kernel
theorem dX9_whole_5 : decode cX9_whole 5 = .ok (.invokestatic 49, 3) := by decide +kernel
theorem dX9_whole_8 : decode cX9_whole 8 = .ok (.ifCond .eq 7, 3) := by decide +kernel
theorem dX9_whole_11 : decode cX9_whole 11 = .ok (.iconst 0, 1) := by decide +kernel
theorem dX9_whole_12 : decode cX9_whole 12 = .ok (.goto 4, 3) := by decide +kernel
theorem dX9_whole_15 : decode cX9_whole 15 = .ok (.iconst 1, 1) := by decide +kernel
theorem dX9_whole_16 : decode cX9_whole 16 = .ok (.putfield 35, 3) := by decide +kernel
theorem dX9_whole_19 : decode cX9_whole 19 = .ok (.aload_n 0, 1) := by decide +kernel
theorem dX9_whole_20 : decode cX9_whole 20 = .ok (.getfield 35, 3) := by decide +kernel
theorem dX9_whole_23 : decode cX9_whole 23 = .ok (.ifCond .le 7, 3) := by decide +kernel
theorem dX9_whole_26 : decode cX9_whole 26 = .ok (.iconst 0, 1) := by decide +kernel
theorem dX9_whole_27 : decode cX9_whole 27 = .ok (.goto 8, 3) := by decide +kernel
theorem dX9_whole_30 : decode cX9_whole 30 = .ok (.aload_n 0, 1) := by decide +kernel
theorem dX9_whole_31 : decode cX9_whole 31 = .ok (.iload_n 1, 1) := by decide +kernel
theorem dX9_whole_32 : decode cX9_whole 32 = .ok (.invokevirtual 201, 3) := by decide +kernel
theorem dX9_whole_35 : decode cX9_whole 35 = .ok (.ireturn, 1) := by decide +kernel
theorem dX9_line_0 : decode cX9_line 0 = .ok (.aload_n 0, 1) := by decide +kernel
theorem dX9_line_1 : decode cX9_line 1 = .ok (.iload_n 1, 1) := by decide +kernel
theorem dX9_line_2 : decode cX9_line 2 = .ok (.ifCond .ge 7, 3) := by decide +kernel
theorem dX9_line_5 : decode cX9_line 5 = .ok (.iconst 1, 1) := by decide +kernel
theorem dX9_line_6 : decode cX9_line 6 = .ok (.goto 4, 3) := by decide +kernel
theorem dX9_line_9 : decode cX9_line 9 = .ok (.iconst 0, 1) := by decide +kernel
theorem dX9_line_10 : decode cX9_line 10 = .ok (.putfield 35, 3) := by decide +kernel
theorem dX9_line_13 : decode cX9_line 13 = .ok (.aload_n 0, 1) := by decide +kernel
theorem dX9_line_14 : decode cX9_line 14 = .ok (.getfield 35, 3) := by decide +kernel
theorem dX9_line_17 : decode cX9_line 17 = .ok (.ifCond .le 7, 3) := by decide +kernel
theorem dX9_line_20 : decode cX9_line 20 = .ok (.iconst 0, 1) := by decide +kernel
theorem dX9_line_21 : decode cX9_line 21 = .ok (.goto 27, 3) := by decide +kernel
theorem dX9_line_24 : decode cX9_line 24 = .ok (.iload_n 1, 1) := by decide +kernel
theorem dX9_line_25 : decode cX9_line 25 = .ok (.aload_n 0, 1) := by decide +kernel
theorem dX9_line_26 : decode cX9_line 26 = .ok (.getfield 7, 3) := by decide +kernel
theorem dX9_line_29 : decode cX9_line 29 = .ok (.iconst 5, 1) := by decide +kernel
theorem dX9_line_30 : decode cX9_line 30 = .ok (.iaload, 1) := by decide +kernel
theorem dX9_line_31 : decode cX9_line 31 = .ok (.if_icmp .ge 16, 3) := by decide +kernel
theorem dX9_line_34 : decode cX9_line 34 = .ok (.aload_n 0, 1) := by decide +kernel
theorem dX9_line_35 : decode cX9_line 35 = .ok (.getfield 7, 3) := by decide +kernel
theorem dX9_line_38 : decode cX9_line 38 = .ok (.sipush 213, 3) := by decide +kernel
theorem dX9_line_41 : decode cX9_line 41 = .ok (.iload_n 1, 1) := by decide +kernel
theorem dX9_line_42 : decode cX9_line 42 = .ok (.iadd, 1) := by decide +kernel
theorem dX9_line_43 : decode cX9_line 43 = .ok (.iaload, 1) := by decide +kernel
theorem dX9_line_44 : decode cX9_line 44 = .ok (.goto 4, 3) := by decide +kernel
theorem dX9_line_47 : decode cX9_line 47 = .ok (.iconst (-1), 1) := by decide +kernel
theorem dX9_line_48 : decode cX9_line 48 = .ok (.ireturn, 1) := by decide +kernel
set_option maxRecDepth 20000 in
theorem ggX9_reasonNow_X9_of : GoodIn wsX9_reasonNow wsX9_of := goodIn_r _ [5] (by decide +kernel) (by decide +kernel)
set_option maxRecDepth 20000 in
theorem gX9_reasonNow_X9_of : GoodIn wsX9_reasonNow (va_wsS RX9 42 yX9_of wsX9_of) := goodIn_app (goodIn_of _ (by decide +kernel)) ggX9_reasonNow_X9_of
set_option maxRecDepth 20000 in
theorem ggX9_reasonNow_X9_reasonOf : GoodIn wsX9_reasonNow wsX9_reasonOf := goodIn_r _ [8, 2, 3, 4, 5, 9, 10, 11, 12, 13, 14, 15, 16, 17, 18, 19, 20, 21, 22, 23, 24, 25, 26, 27, 28, 29] (by decide +kernel) (by decide +kernel)
set_option maxRecDepth 20000 in
theorem gX9_reasonNow_X9_reasonOf : GoodIn wsX9_reasonNow (va_wsS RX9 81 yX9_reasonOf wsX9_reasonOf) := goodIn_app (goodIn_of _ (by decide +kernel)) ggX9_reasonNow_X9_reasonOf
theorem dX9_reasonNow_0 : decode cX9_reasonNow 0 = .ok (.aload_n 0, 1) := by decide +kernel
theorem dX9_reasonNow_1 : decode cX9_reasonNow 1 = .ok (.getfield 7, 3) := by decide +kernel
theorem dX9_reasonNow_4 : decode cX9_reasonNow 4 = .ok (.iload_n 1, 1) := by decide +kernel
theorem dX9_reasonNow_5 : decode cX9_reasonNow 5 = .ok (.iconst 4, 1) := by decide +kernel
theorem dX9_reasonNow_6 : decode cX9_reasonNow 6 = .ok (.invokestatic 42, 3) := by decide +kernel
theorem dX9_reasonNow_9 : decode cX9_reasonNow 9 = .ok (.ifCond .ne 14, 3) := by decide +kernel
theorem dX9_reasonNow_12 : decode cX9_reasonNow 12 = .ok (.aload_n 0, 1) := by decide +kernel
theorem dX9_reasonNow_13 : decode cX9_reasonNow 13 = .ok (.getfield 7, 3) := by decide +kernel
theorem dX9_reasonNow_16 : decode cX9_reasonNow 16 = .ok (.iload_n 1, 1) := by decide +kernel
theorem dX9_reasonNow_17 : decode cX9_reasonNow 17 = .ok (.invokestatic 81, 3) := by decide +kernel
theorem dX9_reasonNow_20 : decode cX9_reasonNow 20 = .ok (.goto 4, 3) := by decide +kernel
theorem dX9_reasonNow_23 : decode cX9_reasonNow 23 = .ok (.iconst (-1), 1) := by decide +kernel
theorem dX9_reasonNow_24 : decode cX9_reasonNow 24 = .ok (.ireturn, 1) := by decide +kernel
set_option maxRecDepth 20000 in
theorem ggX9_reason_X9_isDough : GoodIn wsX9_reason wsX9_isDough := goodIn_r _ [6, 7, 8, 9, 5, 10, 39, 40, 41, 42, 43, 44, 45, 46, 47, 48, 49, 50, 51] (by decide +kernel) (by decide +kernel)
set_option maxRecDepth 20000 in
theorem gX9_reason_X9_isDough : GoodIn wsX9_reason (wsV RX9 136 RX9 yX9_isDough wsX9_isDough) := goodIn_app (goodIn_of _ (by decide +kernel)) ggX9_reason_X9_isDough
set_option maxRecDepth 20000 in
theorem ggX9_reason_X9_reasonNow : GoodIn wsX9_reason wsX9_reasonNow := goodIn_r _ [14, 7, 15, 16, 5, 17, 18, 19, 20, 21, 22, 23, 24, 25, 26, 27, 28, 29, 30, 31, 32, 33, 34, 35, 36, 37, 38, 8, 9, 10, 39, 40, 41, 42, 43, 44, 45, 46, 47, 48, 49, 50, 51] (by decide +kernel) (by decide +kernel)
set_option maxRecDepth 20000 in
theorem gX9_reason_X9_reasonNow : GoodIn wsX9_reason (wsV RX9 204 RX9 yX9_reasonNow wsX9_reasonNow) := goodIn_app (goodIn_of _ (by decide +kernel)) ggX9_reason_X9_reasonNow
theorem dX9_reason_0 : decode cX9_reason 0 = .ok (.aload_n 0, 1) := by decide +kernel
theorem dX9_reason_1 : decode cX9_reason 1 = .ok (.aload_n 0, 1) := by decide +kernel
theorem dX9_reason_2 : decode cX9_reason 2 = .ok (.iload_n 1, 1) := by decide +kernel
theorem dX9_reason_3 : decode cX9_reason 3 = .ok (.invokevirtual 136, 3) := by decide +kernel
theorem dX9_reason_6 : decode cX9_reason 6 = .ok (.ifCond .eq 7, 3) := by decide +kernel
theorem dX9_reason_9 : decode cX9_reason 9 = .ok (.iconst 0, 1) := by decide +kernel
theorem dX9_reason_10 : decode cX9_reason 10 = .ok (.goto 4, 3) := by decide +kernel
theorem dX9_reason_13 : decode cX9_reason 13 = .ok (.iconst 1, 1) := by decide +kernel
theorem dX9_reason_14 : decode cX9_reason 14 = .ok (.putfield 35, 3) := by decide +kernel
theorem dX9_reason_17 : decode cX9_reason 17 = .ok (.aload_n 0, 1) := by decide +kernel
theorem dX9_reason_18 : decode cX9_reason 18 = .ok (.getfield 35, 3) := by decide +kernel
theorem dX9_reason_21 : decode cX9_reason 21 = .ok (.ifCond .le 7, 3) := by decide +kernel
theorem dX9_reason_24 : decode cX9_reason 24 = .ok (.iconst 0, 1) := by decide +kernel
theorem dX9_reason_25 : decode cX9_reason 25 = .ok (.goto 8, 3) := by decide +kernel
theorem dX9_reason_28 : decode cX9_reason 28 = .ok (.aload_n 0, 1) := by decide +kernel
theorem dX9_reason_29 : decode cX9_reason 29 = .ok (.iload_n 1, 1) := by decide +kernel
theorem dX9_reason_30 : decode cX9_reason 30 = .ok (.invokevirtual 204, 3) := by decide +kernel
theorem dX9_reason_33 : decode cX9_reason 33 = .ok (.ireturn, 1) := by decide +kernel
theorem dX9_tryNow_0 : decode cX9_tryNow 0 = .ok (.iconst 0, 1) := by decide +kernel
theorem dX9_tryNow_1 : decode cX9_tryNow 1 = .ok (.istore_n 1, 1) := by decide +kernel
theorem dX9_tryNow_2 : decode cX9_tryNow 2 = .ok (.iload_n 1, 1) := by decide +kernel
theorem dX9_tryNow_3 : decode cX9_tryNow 3 = .ok (.sipush 265, 3) := by decide +kernel
theorem dX9_tryNow_6 : decode cX9_tryNow 6 = .ok (.if_icmp .ge 21, 3) := by decide +kernel
theorem dX9_tryNow_9 : decode cX9_tryNow 9 = .ok (.aload_n 0, 1) := by decide +kernel
theorem dX9_tryNow_10 : decode cX9_tryNow 10 = .ok (.getfield 13, 3) := by decide +kernel
theorem dX9_tryNow_13 : decode cX9_tryNow 13 = .ok (.iload_n 1, 1) := by decide +kernel
theorem dX9_tryNow_14 : decode cX9_tryNow 14 = .ok (.aload_n 0, 1) := by decide +kernel
theorem dX9_tryNow_15 : decode cX9_tryNow 15 = .ok (.getfield 7, 3) := by decide +kernel
theorem dX9_tryNow_18 : decode cX9_tryNow 18 = .ok (.iload_n 1, 1) := by decide +kernel
theorem dX9_tryNow_19 : decode cX9_tryNow 19 = .ok (.iaload, 1) := by decide +kernel
theorem dX9_tryNow_20 : decode cX9_tryNow 20 = .ok (.iastore, 1) := by decide +kernel
theorem dX9_tryNow_21 : decode cX9_tryNow 21 = .ok (.iinc 1 1, 3) := by decide +kernel
theorem dX9_tryNow_24 : decode cX9_tryNow 24 = .ok (.goto (-22), 3) := by decide +kernel
theorem dX9_tryNow_27 : decode cX9_tryNow 27 = .ok (.return_, 1) := by decide +kernel
set_option maxRecDepth 20000 in
theorem ggX9_loadedIn_X9_isDough : GoodIn wsX9_loadedIn wsX9_isDough := goodIn_r _ [7, 8, 9, 10, 6, 11, 70, 71, 72, 73, 74, 75, 76, 77, 78, 79, 80, 81, 82] (by decide +kernel) (by decide +kernel)
set_option maxRecDepth 20000 in
theorem gX9_loadedIn_X9_isDough : GoodIn wsX9_loadedIn (wsV RX9 136 RX9 yX9_isDough wsX9_isDough) := goodIn_app (goodIn_of _ (by decide +kernel)) ggX9_loadedIn_X9_isDough
set_option maxRecDepth 20000 in
theorem ggX9_loadedIn_X9_tryNow : GoodIn wsX9_loadedIn wsX9_tryNow := goodIn_r _ [15, 2, 8, 70, 71, 72, 73, 74, 75, 76, 77, 78, 79, 80, 81, 82] (by decide +kernel) (by decide +kernel)
set_option maxRecDepth 20000 in
theorem gX9_loadedIn_X9_tryNow : GoodIn wsX9_loadedIn (wsV RX9 207 RX9 yX9_tryNow wsX9_tryNow) := goodIn_app (goodIn_of _ (by decide +kernel)) ggX9_loadedIn_X9_tryNow
set_option maxRecDepth 20000 in
theorem ggX9_loadedIn_X9_of : GoodIn wsX9_loadedIn wsX9_of := goodIn_r _ [18] (by decide +kernel) (by decide +kernel)
set_option maxRecDepth 20000 in
theorem gX9_loadedIn_X9_of : GoodIn wsX9_loadedIn (va_wsS RX9 42 yX9_of wsX9_of) := goodIn_app (goodIn_of _ (by decide +kernel)) ggX9_loadedIn_X9_of
set_option maxRecDepth 20000 in
theorem ggX9_loadedIn_X9_tick : GoodIn wsX9_loadedIn wsX9_tick := goodIn_r _ [21, 22, 23, 6, 24, 16, 17, 18, 25, 26, 27, 28, 29, 30, 31, 32, 33, 34, 35, 36, 37, 38, 39, 40, 41, 42, 43, 44, 45, 46, 47, 48, 49, 50, 51, 52, 53, 54, 55, 56, 57, 9, 10, 11, 58, 59, 60, 61, 62, 63, 64, 65, 66, 67, 68, 69] (by decide +kernel) (by decide +kernel)
set_option maxRecDepth 20000 in
theorem gX9_loadedIn_X9_tick : GoodIn wsX9_loadedIn (va_wsS RX9 105 yX9_tick wsX9_tick) := goodIn_app (goodIn_of _ (by decide +kernel)) ggX9_loadedIn_X9_tick
theorem dX9_loadedIn_0 : decode cX9_loadedIn 0 = .ok (.aload_n 0, 1) := by decide +kernel
theorem dX9_loadedIn_1 : decode cX9_loadedIn 1 = .ok (.aload_n 0, 1) := by decide +kernel
theorem dX9_loadedIn_2 : decode cX9_loadedIn 2 = .ok (.iload_n 1, 1) := by decide +kernel
theorem dX9_loadedIn_3 : decode cX9_loadedIn 3 = .ok (.invokevirtual 136, 3) := by decide +kernel
theorem dX9_loadedIn_6 : decode cX9_loadedIn 6 = .ok (.ifCond .eq 7, 3) := by decide +kernel
theorem dX9_loadedIn_9 : decode cX9_loadedIn 9 = .ok (.iconst 0, 1) := by decide +kernel
theorem dX9_loadedIn_10 : decode cX9_loadedIn 10 = .ok (.goto 4, 3) := by decide +kernel
theorem dX9_loadedIn_13 : decode cX9_loadedIn 13 = .ok (.iconst 1, 1) := by decide +kernel
theorem dX9_loadedIn_14 : decode cX9_loadedIn 14 = .ok (.putfield 35, 3) := by decide +kernel
theorem dX9_loadedIn_17 : decode cX9_loadedIn 17 = .ok (.aload_n 0, 1) := by decide +kernel
theorem dX9_loadedIn_18 : decode cX9_loadedIn 18 = .ok (.getfield 35, 3) := by decide +kernel
theorem dX9_loadedIn_21 : decode cX9_loadedIn 21 = .ok (.ifCond .le 5, 3) := by decide +kernel
theorem dX9_loadedIn_24 : decode cX9_loadedIn 24 = .ok (.iconst 0, 1) := by decide +kernel
theorem dX9_loadedIn_25 : decode cX9_loadedIn 25 = .ok (.ireturn, 1) := by decide +kernel
theorem dX9_loadedIn_26 : decode cX9_loadedIn 26 = .ok (.aload_n 0, 1) := by decide +kernel
theorem dX9_loadedIn_27 : decode cX9_loadedIn 27 = .ok (.invokevirtual 207, 3) := by decide +kernel
theorem dX9_loadedIn_30 : decode cX9_loadedIn 30 = .ok (.iconst 1, 1) := by decide +kernel
theorem dX9_loadedIn_31 : decode cX9_loadedIn 31 = .ok (.istore_n 2, 1) := by decide +kernel
theorem dX9_loadedIn_32 : decode cX9_loadedIn 32 = .ok (.iload_n 2, 1) := by decide +kernel
theorem dX9_loadedIn_33 : decode cX9_loadedIn 33 = .ok (.bipush 60, 2) := by decide +kernel
theorem dX9_loadedIn_35 : decode cX9_loadedIn 35 = .ok (.if_icmp .gt 45, 3) := by decide +kernel
theorem dX9_loadedIn_38 : decode cX9_loadedIn 38 = .ok (.aload_n 0, 1) := by decide +kernel
theorem dX9_loadedIn_39 : decode cX9_loadedIn 39 = .ok (.getfield 13, 3) := by decide +kernel
theorem dX9_loadedIn_42 : decode cX9_loadedIn 42 = .ok (.iload_n 1, 1) := by decide +kernel
theorem dX9_loadedIn_43 : decode cX9_loadedIn 43 = .ok (.iconst 4, 1) := by decide +kernel
theorem dX9_loadedIn_44 : decode cX9_loadedIn 44 = .ok (.invokestatic 42, 3) := by decide +kernel
theorem dX9_loadedIn_47 : decode cX9_loadedIn 47 = .ok (.ifCond .ne 33, 3) := by decide +kernel
theorem dX9_loadedIn_50 : decode cX9_loadedIn 50 = .ok (.aload_n 0, 1) := by decide +kernel
theorem dX9_loadedIn_51 : decode cX9_loadedIn 51 = .ok (.getfield 13, 3) := by decide +kernel
theorem dX9_loadedIn_54 : decode cX9_loadedIn 54 = .ok (.invokestatic 105, 3) := by decide +kernel
theorem dX9_loadedIn_57 : decode cX9_loadedIn 57 = .ok (.istore_n 3, 1) := by decide +kernel
theorem dX9_loadedIn_58 : decode cX9_loadedIn 58 = .ok (.aload_n 0, 1) := by decide +kernel
theorem dX9_loadedIn_59 : decode cX9_loadedIn 59 = .ok (.getfield 13, 3) := by decide +kernel
theorem dX9_loadedIn_62 : decode cX9_loadedIn 62 = .ok (.iload_n 1, 1) := by decide +kernel
theorem dX9_loadedIn_63 : decode cX9_loadedIn 63 = .ok (.bipush 6, 2) := by decide +kernel
theorem dX9_loadedIn_65 : decode cX9_loadedIn 65 = .ok (.invokestatic 42, 3) := by decide +kernel
theorem dX9_loadedIn_68 : decode cX9_loadedIn 68 = .ok (.iconst (-1), 1) := by decide +kernel
theorem dX9_loadedIn_69 : decode cX9_loadedIn 69 = .ok (.if_icmp .eq 5, 3) := by decide +kernel
theorem dX9_loadedIn_72 : decode cX9_loadedIn 72 = .ok (.iload_n 2, 1) := by decide +kernel
theorem dX9_loadedIn_73 : decode cX9_loadedIn 73 = .ok (.ireturn, 1) := by decide +kernel
theorem dX9_loadedIn_74 : decode cX9_loadedIn 74 = .ok (.iinc 2 1, 3) := by decide +kernel
theorem dX9_loadedIn_77 : decode cX9_loadedIn 77 = .ok (.goto (-45), 3) := by decide +kernel
theorem dX9_loadedIn_80 : decode cX9_loadedIn 80 = .ok (.iconst (-1), 1) := by decide +kernel
theorem dX9_loadedIn_81 : decode cX9_loadedIn 81 = .ok (.ireturn, 1) := by decide +kernel
set_option maxRecDepth 20000 in
theorem ggX9_neededLogs_X9_isDough : GoodIn wsX9_neededLogs wsX9_isDough := goodIn_r _ [8, 2, 9, 10, 7, 11, 40, 41, 42, 43, 44, 45, 46, 47, 48, 49, 50, 51, 52] (by decide +kernel) (by decide +kernel)
set_option maxRecDepth 20000 in
theorem gX9_neededLogs_X9_isDough : GoodIn wsX9_neededLogs (wsV RX9 136 RX9 yX9_isDough wsX9_isDough) := goodIn_app (goodIn_of _ (by decide +kernel)) ggX9_neededLogs_X9_isDough
set_option maxRecDepth 20000 in
theorem ggX9_neededLogs_X9_of : GoodIn wsX9_neededLogs wsX9_of := goodIn_r _ [14] (by decide +kernel) (by decide +kernel)
set_option maxRecDepth 20000 in
theorem gX9_neededLogs_X9_of : GoodIn wsX9_neededLogs (va_wsS RX9 42 yX9_of wsX9_of) := goodIn_app (goodIn_of _ (by decide +kernel)) ggX9_neededLogs_X9_of
set_option maxRecDepth 20000 in
theorem ggX9_neededLogs_X9_tryNow : GoodIn wsX9_neededLogs wsX9_tryNow := goodIn_r _ [18, 3, 2, 40, 41, 42, 43, 44, 45, 46, 47, 48, 49, 50, 51, 52] (by decide +kernel) (by decide +kernel)
set_option maxRecDepth 20000 in
theorem gX9_neededLogs_X9_tryNow : GoodIn wsX9_neededLogs (wsV RX9 207 RX9 yX9_tryNow wsX9_tryNow) := goodIn_app (goodIn_of _ (by decide +kernel)) ggX9_neededLogs_X9_tryNow
set_option maxRecDepth 20000 in
theorem ggX9_neededLogs_X9_reasonOf : GoodIn wsX9_neededLogs wsX9_reasonOf := goodIn_r _ [21, 12, 13, 7, 14, 22, 23, 24, 25, 26, 27, 28, 29, 30, 31, 32, 33, 34, 35, 36, 37, 38, 39, 9, 10, 11] (by decide +kernel) (by decide +kernel)
set_option maxRecDepth 20000 in
theorem gX9_neededLogs_X9_reasonOf : GoodIn wsX9_neededLogs (va_wsS RX9 81 yX9_reasonOf wsX9_reasonOf) := goodIn_app (goodIn_of _ (by decide +kernel)) ggX9_neededLogs_X9_reasonOf
theorem dX9_neededLogs_0 : decode cX9_neededLogs 0 = .ok (.aload_n 0, 1) := by decide +kernel
theorem dX9_neededLogs_1 : decode cX9_neededLogs 1 = .ok (.aload_n 0, 1) := by decide +kernel
theorem dX9_neededLogs_2 : decode cX9_neededLogs 2 = .ok (.iload_n 1, 1) := by decide +kernel
theorem dX9_neededLogs_3 : decode cX9_neededLogs 3 = .ok (.invokevirtual 136, 3) := by decide +kernel
theorem dX9_neededLogs_6 : decode cX9_neededLogs 6 = .ok (.ifCond .eq 7, 3) := by decide +kernel
theorem dX9_neededLogs_9 : decode cX9_neededLogs 9 = .ok (.iconst 0, 1) := by decide +kernel
theorem dX9_neededLogs_10 : decode cX9_neededLogs 10 = .ok (.goto 4, 3) := by decide +kernel
theorem dX9_neededLogs_13 : decode cX9_neededLogs 13 = .ok (.iconst 1, 1) := by decide +kernel
theorem dX9_neededLogs_14 : decode cX9_neededLogs 14 = .ok (.putfield 35, 3) := by decide +kernel
theorem dX9_neededLogs_17 : decode cX9_neededLogs 17 = .ok (.aload_n 0, 1) := by decide +kernel
theorem dX9_neededLogs_18 : decode cX9_neededLogs 18 = .ok (.getfield 35, 3) := by decide +kernel
theorem dX9_neededLogs_21 : decode cX9_neededLogs 21 = .ok (.ifCond .gt 15, 3) := by decide +kernel
theorem dX9_neededLogs_24 : decode cX9_neededLogs 24 = .ok (.aload_n 0, 1) := by decide +kernel
theorem dX9_neededLogs_25 : decode cX9_neededLogs 25 = .ok (.getfield 7, 3) := by decide +kernel
theorem dX9_neededLogs_28 : decode cX9_neededLogs 28 = .ok (.iload_n 1, 1) := by decide +kernel
theorem dX9_neededLogs_29 : decode cX9_neededLogs 29 = .ok (.iconst 4, 1) := by decide +kernel
theorem dX9_neededLogs_30 : decode cX9_neededLogs 30 = .ok (.invokestatic 42, 3) := by decide +kernel
theorem dX9_neededLogs_33 : decode cX9_neededLogs 33 = .ok (.ifCond .eq 16, 3) := by decide +kernel
theorem dX9_neededLogs_36 : decode cX9_neededLogs 36 = .ok (.aload_n 0, 1) := by decide +kernel
theorem dX9_neededLogs_37 : decode cX9_neededLogs 37 = .ok (.getfield 35, 3) := by decide +kernel
theorem dX9_neededLogs_40 : decode cX9_neededLogs 40 = .ok (.ifCond .le 7, 3) := by decide +kernel
theorem dX9_neededLogs_43 : decode cX9_neededLogs 43 = .ok (.iconst 0, 1) := by decide +kernel
theorem dX9_neededLogs_44 : decode cX9_neededLogs 44 = .ok (.goto 4, 3) := by decide +kernel
theorem dX9_neededLogs_47 : decode cX9_neededLogs 47 = .ok (.iconst (-1), 1) := by decide +kernel
theorem dX9_neededLogs_48 : decode cX9_neededLogs 48 = .ok (.ireturn, 1) := by decide +kernel
theorem dX9_neededLogs_49 : decode cX9_neededLogs 49 = .ok (.aload_n 0, 1) := by decide +kernel
theorem dX9_neededLogs_50 : decode cX9_neededLogs 50 = .ok (.invokevirtual 207, 3) := by decide +kernel
theorem dX9_neededLogs_53 : decode cX9_neededLogs 53 = .ok (.iconst 0, 1) := by decide +kernel
theorem dX9_neededLogs_54 : decode cX9_neededLogs 54 = .ok (.istore_n 2, 1) := by decide +kernel
theorem dX9_neededLogs_55 : decode cX9_neededLogs 55 = .ok (.iload_n 2, 1) := by decide +kernel
theorem dX9_neededLogs_56 : decode cX9_neededLogs 56 = .ok (.bipush 16, 2) := by decide +kernel
theorem dX9_neededLogs_58 : decode cX9_neededLogs 58 = .ok (.if_icmp .gt 56, 3) := by decide +kernel
theorem dX9_neededLogs_61 : decode cX9_neededLogs 61 = .ok (.aload_n 0, 1) := by decide +kernel
theorem dX9_neededLogs_62 : decode cX9_neededLogs 62 = .ok (.getfield 7, 3) := by decide +kernel
theorem dX9_neededLogs_65 : decode cX9_neededLogs 65 = .ok (.iconst 0, 1) := by decide +kernel
theorem dX9_neededLogs_66 : decode cX9_neededLogs 66 = .ok (.iaload, 1) := by decide +kernel
theorem dX9_neededLogs_67 : decode cX9_neededLogs 67 = .ok (.bipush 25, 2) := by decide +kernel
theorem dX9_neededLogs_69 : decode cX9_neededLogs 69 = .ok (.iload_n 2, 1) := by decide +kernel
theorem dX9_neededLogs_70 : decode cX9_neededLogs 70 = .ok (.imul, 1) := by decide +kernel
theorem dX9_neededLogs_71 : decode cX9_neededLogs 71 = .ok (.iadd, 1) := by decide +kernel
theorem dX9_neededLogs_72 : decode cX9_neededLogs 72 = .ok (.sipush 400, 3) := by decide +kernel
theorem dX9_neededLogs_75 : decode cX9_neededLogs 75 = .ok (.if_icmp .gt 39, 3) := by decide +kernel
theorem dX9_neededLogs_78 : decode cX9_neededLogs 78 = .ok (.aload_n 0, 1) := by decide +kernel
theorem dX9_neededLogs_79 : decode cX9_neededLogs 79 = .ok (.getfield 13, 3) := by decide +kernel
theorem dX9_neededLogs_82 : decode cX9_neededLogs 82 = .ok (.iconst 0, 1) := by decide +kernel
theorem dX9_neededLogs_83 : decode cX9_neededLogs 83 = .ok (.aload_n 0, 1) := by decide +kernel
theorem dX9_neededLogs_84 : decode cX9_neededLogs 84 = .ok (.getfield 7, 3) := by decide +kernel
theorem dX9_neededLogs_87 : decode cX9_neededLogs 87 = .ok (.iconst 0, 1) := by decide +kernel
theorem dX9_neededLogs_88 : decode cX9_neededLogs 88 = .ok (.iaload, 1) := by decide +kernel
theorem dX9_neededLogs_89 : decode cX9_neededLogs 89 = .ok (.bipush 25, 2) := by decide +kernel
theorem dX9_neededLogs_91 : decode cX9_neededLogs 91 = .ok (.iload_n 2, 1) := by decide +kernel
theorem dX9_neededLogs_92 : decode cX9_neededLogs 92 = .ok (.imul, 1) := by decide +kernel
theorem dX9_neededLogs_93 : decode cX9_neededLogs 93 = .ok (.iadd, 1) := by decide +kernel
theorem dX9_neededLogs_94 : decode cX9_neededLogs 94 = .ok (.iastore, 1) := by decide +kernel
theorem dX9_neededLogs_95 : decode cX9_neededLogs 95 = .ok (.aload_n 0, 1) := by decide +kernel
theorem dX9_neededLogs_96 : decode cX9_neededLogs 96 = .ok (.getfield 13, 3) := by decide +kernel
theorem dX9_neededLogs_99 : decode cX9_neededLogs 99 = .ok (.iload_n 1, 1) := by decide +kernel
theorem dX9_neededLogs_100 : decode cX9_neededLogs 100 = .ok (.invokestatic 81, 3) := by decide +kernel
theorem dX9_neededLogs_103 : decode cX9_neededLogs 103 = .ok (.ifCond .ne 5, 3) := by decide +kernel
theorem dX9_neededLogs_106 : decode cX9_neededLogs 106 = .ok (.iload_n 2, 1) := by decide +kernel
theorem dX9_neededLogs_107 : decode cX9_neededLogs 107 = .ok (.ireturn, 1) := by decide +kernel
theorem dX9_neededLogs_108 : decode cX9_neededLogs 108 = .ok (.iinc 2 1, 3) := by decide +kernel
theorem dX9_neededLogs_111 : decode cX9_neededLogs 111 = .ok (.goto (-56), 3) := by decide +kernel
theorem dX9_neededLogs_114 : decode cX9_neededLogs 114 = .ok (.iconst (-1), 1) := by decide +kernel
theorem dX9_neededLogs_115 : decode cX9_neededLogs 115 = .ok (.ireturn, 1) := by decide +kernel
set_option maxRecDepth 20000 in
theorem ggX9_tryTicks_X9_tryNow : GoodIn wsX9_tryTicks wsX9_tryNow := goodIn_r _ [6, 1, 7, 65, 66, 67, 68, 69, 70, 71, 72, 73, 74, 75, 76, 77] (by decide +kernel) (by decide +kernel)
set_option maxRecDepth 20000 in
theorem gX9_tryTicks_X9_tryNow : GoodIn wsX9_tryTicks (wsV RX9 207 RX9 yX9_tryNow wsX9_tryNow) := goodIn_app (goodIn_of _ (by decide +kernel)) ggX9_tryTicks_X9_tryNow
set_option maxRecDepth 20000 in
theorem ggX9_tryTicks_X9_tick : GoodIn wsX9_tryTicks wsX9_tick := goodIn_r _ [10, 11, 12, 5, 13, 14, 15, 16, 17, 18, 19, 20, 21, 22, 23, 24, 25, 26, 27, 28, 29, 30, 31, 32, 33, 34, 35, 36, 37, 38, 39, 40, 41, 42, 43, 44, 45, 46, 47, 48, 49, 50, 51, 52, 53, 54, 55, 56, 57, 58, 59, 60, 61, 62, 63, 64] (by decide +kernel) (by decide +kernel)
set_option maxRecDepth 20000 in
theorem gX9_tryTicks_X9_tick : GoodIn wsX9_tryTicks (va_wsS RX9 105 yX9_tick wsX9_tick) := goodIn_app (goodIn_of _ (by decide +kernel)) ggX9_tryTicks_X9_tick
theorem dX9_tryTicks_0 : decode cX9_tryTicks 0 = .ok (.aload_n 0, 1) := by decide +kernel
theorem dX9_tryTicks_1 : decode cX9_tryTicks 1 = .ok (.invokevirtual 207, 3) := by decide +kernel
theorem dX9_tryTicks_4 : decode cX9_tryTicks 4 = .ok (.iconst 0, 1) := by decide +kernel
theorem dX9_tryTicks_5 : decode cX9_tryTicks 5 = .ok (.istore_n 2, 1) := by decide +kernel
theorem dX9_tryTicks_6 : decode cX9_tryTicks 6 = .ok (.iconst 0, 1) := by decide +kernel
theorem dX9_tryTicks_7 : decode cX9_tryTicks 7 = .ok (.istore_n 3, 1) := by decide +kernel
theorem dX9_tryTicks_8 : decode cX9_tryTicks 8 = .ok (.iload_n 3, 1) := by decide +kernel
theorem dX9_tryTicks_9 : decode cX9_tryTicks 9 = .ok (.iload_n 1, 1) := by decide +kernel
theorem dX9_tryTicks_10 : decode cX9_tryTicks 10 = .ok (.if_icmp .ge 19, 3) := by decide +kernel
theorem dX9_tryTicks_13 : decode cX9_tryTicks 13 = .ok (.iload_n 2, 1) := by decide +kernel
theorem dX9_tryTicks_14 : decode cX9_tryTicks 14 = .ok (.aload_n 0, 1) := by decide +kernel
theorem dX9_tryTicks_15 : decode cX9_tryTicks 15 = .ok (.getfield 13, 3) := by decide +kernel
theorem dX9_tryTicks_18 : decode cX9_tryTicks 18 = .ok (.invokestatic 105, 3) := by decide +kernel
theorem dX9_tryTicks_21 : decode cX9_tryTicks 21 = .ok (.iadd, 1) := by decide +kernel
theorem dX9_tryTicks_22 : decode cX9_tryTicks 22 = .ok (.istore_n 2, 1) := by decide +kernel
theorem dX9_tryTicks_23 : decode cX9_tryTicks 23 = .ok (.iinc 3 1, 3) := by decide +kernel
theorem dX9_tryTicks_26 : decode cX9_tryTicks 26 = .ok (.goto (-18), 3) := by decide +kernel
theorem dX9_tryTicks_29 : decode cX9_tryTicks 29 = .ok (.return_, 1) := by decide +kernel
set_option maxRecDepth 20000 in
theorem ggX9_heatBehind_X9_tryTicks : GoodIn wsX9_heatBehind wsX9_tryTicks := goodIn_r _ [6, 1, 7, 8, 9, 5, 10, 11, 12, 13, 14, 15, 16, 17, 18, 19, 20, 21, 22, 23, 24, 25, 26, 27, 28, 29, 30, 31, 32, 33, 34, 35, 36, 37, 38, 39, 40, 41, 42, 43, 44, 45, 46, 47, 48, 49, 50, 51, 52, 53, 54, 55, 56, 57, 58, 59, 60, 61, 62, 63, 64, 65, 66, 67, 68, 69, 70, 71, 72, 73, 74, 75, 76, 77, 78, 79, 80, 81] (by decide +kernel) (by decide +kernel)
set_option maxRecDepth 20000 in
theorem gX9_heatBehind_X9_tryTicks : GoodIn wsX9_heatBehind (wsV RX9 210 RX9 yX9_tryTicks wsX9_tryTicks) := goodIn_app (goodIn_of _ (by decide +kernel)) ggX9_heatBehind_X9_tryTicks
theorem dX9_heatBehind_0 : decode cX9_heatBehind 0 = .ok (.aload_n 0, 1) := by decide +kernel
theorem dX9_heatBehind_1 : decode cX9_heatBehind 1 = .ok (.iload_n 1, 1) := by decide +kernel
theorem dX9_heatBehind_2 : decode cX9_heatBehind 2 = .ok (.invokevirtual 210, 3) := by decide +kernel
theorem dX9_heatBehind_5 : decode cX9_heatBehind 5 = .ok (.aload_n 0, 1) := by decide +kernel
theorem dX9_heatBehind_6 : decode cX9_heatBehind 6 = .ok (.getfield 13, 3) := by decide +kernel
theorem dX9_heatBehind_9 : decode cX9_heatBehind 9 = .ok (.iconst 0, 1) := by decide +kernel
theorem dX9_heatBehind_10 : decode cX9_heatBehind 10 = .ok (.iaload, 1) := by decide +kernel
theorem dX9_heatBehind_11 : decode cX9_heatBehind 11 = .ok (.ireturn, 1) := by decide +kernel
set_option maxRecDepth 20000 in
theorem ggX9_heatIn_X9_in : GoodIn wsX9_heatIn wsX9_in := goodIn_r _ [5] (by decide +kernel) (by decide +kernel)
set_option maxRecDepth 20000 in
theorem gX9_heatIn_X9_in : GoodIn wsX9_heatIn (va_wsS RX9 49 yX9_in wsX9_in) := goodIn_app (goodIn_of _ (by decide +kernel)) ggX9_heatIn_X9_in
set_option maxRecDepth 20000 in
theorem ggX9_heatIn_X9_heatBehind : GoodIn wsX9_heatIn wsX9_heatBehind := goodIn_r _ [9, 10, 11, 12, 13, 4, 14, 15, 16, 17, 18, 19, 20, 21, 22, 23, 24, 25, 26, 27, 28, 29, 30, 31, 32, 33, 34, 35, 36, 37, 38, 39, 40, 41, 42, 43, 44, 45, 46, 47, 48, 49, 50, 51, 52, 53, 54, 55, 56, 57, 58, 59, 60, 61, 2, 3, 5, 62, 63, 64, 65, 66, 67, 68, 69, 70, 71, 72, 73, 74, 75, 76, 77, 78, 79, 80, 81, 82, 83, 84, 85, 86] (by decide +kernel) (by decide +kernel)
set_option maxRecDepth 20000 in
theorem gX9_heatIn_X9_heatBehind : GoodIn wsX9_heatIn (wsV RX9 214 RX9 yX9_heatBehind wsX9_heatBehind) := goodIn_app (goodIn_of _ (by decide +kernel)) ggX9_heatIn_X9_heatBehind
theorem dX9_heatIn_0 : decode cX9_heatIn 0 = .ok (.aload_n 0, 1) := by decide +kernel
theorem dX9_heatIn_1 : decode cX9_heatIn 1 = .ok (.iload_n 1, 1) := by decide +kernel
theorem dX9_heatIn_2 : decode cX9_heatIn 2 = .ok (.iconst 0, 1) := by decide +kernel
theorem dX9_heatIn_3 : decode cX9_heatIn 3 = .ok (.bipush 100, 2) := by decide +kernel
theorem dX9_heatIn_5 : decode cX9_heatIn 5 = .ok (.invokestatic 49, 3) := by decide +kernel
theorem dX9_heatIn_8 : decode cX9_heatIn 8 = .ok (.ifCond .eq 7, 3) := by decide +kernel
theorem dX9_heatIn_11 : decode cX9_heatIn 11 = .ok (.iconst 0, 1) := by decide +kernel
theorem dX9_heatIn_12 : decode cX9_heatIn 12 = .ok (.goto 4, 3) := by decide +kernel
theorem dX9_heatIn_15 : decode cX9_heatIn 15 = .ok (.iconst 1, 1) := by decide +kernel
theorem dX9_heatIn_16 : decode cX9_heatIn 16 = .ok (.putfield 35, 3) := by decide +kernel
theorem dX9_heatIn_19 : decode cX9_heatIn 19 = .ok (.aload_n 0, 1) := by decide +kernel
theorem dX9_heatIn_20 : decode cX9_heatIn 20 = .ok (.getfield 35, 3) := by decide +kernel
theorem dX9_heatIn_23 : decode cX9_heatIn 23 = .ok (.ifCond .le 7, 3) := by decide +kernel
theorem dX9_heatIn_26 : decode cX9_heatIn 26 = .ok (.iconst 0, 1) := by decide +kernel
theorem dX9_heatIn_27 : decode cX9_heatIn 27 = .ok (.goto 8, 3) := by decide +kernel
theorem dX9_heatIn_30 : decode cX9_heatIn 30 = .ok (.aload_n 0, 1) := by decide +kernel
theorem dX9_heatIn_31 : decode cX9_heatIn 31 = .ok (.iload_n 1, 1) := by decide +kernel
theorem dX9_heatIn_32 : decode cX9_heatIn 32 = .ok (.invokevirtual 214, 3) := by decide +kernel
theorem dX9_heatIn_35 : decode cX9_heatIn 35 = .ok (.ireturn, 1) := by decide +kernel
set_option maxRecDepth 20000 in
theorem ggX9_spoiledIn_X9_in : GoodIn wsX9_spoiledIn wsX9_in := goodIn_r _ [7] (by decide +kernel) (by decide +kernel)
set_option maxRecDepth 20000 in
theorem gX9_spoiledIn_X9_in : GoodIn wsX9_spoiledIn (va_wsS RX9 49 yX9_in wsX9_in) := goodIn_app (goodIn_of _ (by decide +kernel)) ggX9_spoiledIn_X9_in
set_option maxRecDepth 20000 in
theorem ggX9_spoiledIn_X9_tryTicks : GoodIn wsX9_spoiledIn wsX9_tryTicks := goodIn_r _ [11, 3, 12, 13, 14, 6, 15, 2, 16, 17, 18, 19, 20, 21, 22, 23, 24, 25, 26, 27, 28, 29, 30, 31, 32, 33, 34, 35, 36, 37, 38, 39, 40, 41, 42, 43, 44, 45, 46, 47, 48, 49, 50, 51, 52, 53, 54, 55, 56, 57, 4, 5, 7, 58, 59, 60, 61, 62, 63, 64, 65, 66, 67, 68, 69, 70, 71, 72, 73, 74, 75, 76, 77, 78, 79, 80, 81, 82] (by decide +kernel) (by decide +kernel)
set_option maxRecDepth 20000 in
theorem gX9_spoiledIn_X9_tryTicks : GoodIn wsX9_spoiledIn (wsV RX9 210 RX9 yX9_tryTicks wsX9_tryTicks) := goodIn_app (goodIn_of _ (by decide +kernel)) ggX9_spoiledIn_X9_tryTicks
set_option maxRecDepth 20000 in
theorem ggX9_spoiledIn_X9_of : GoodIn wsX9_spoiledIn wsX9_of := goodIn_r _ [24] (by decide +kernel) (by decide +kernel)
set_option maxRecDepth 20000 in
theorem gX9_spoiledIn_X9_of : GoodIn wsX9_spoiledIn (va_wsS RX9 42 yX9_of wsX9_of) := goodIn_app (goodIn_of _ (by decide +kernel)) ggX9_spoiledIn_X9_of
theorem dX9_spoiledIn_0 : decode cX9_spoiledIn 0 = .ok (.aload_n 0, 1) := by decide +kernel
theorem dX9_spoiledIn_1 : decode cX9_spoiledIn 1 = .ok (.iload_n 1, 1) := by decide +kernel
theorem dX9_spoiledIn_2 : decode cX9_spoiledIn 2 = .ok (.iconst 0, 1) := by decide +kernel
theorem dX9_spoiledIn_3 : decode cX9_spoiledIn 3 = .ok (.bipush 100, 2) := by decide +kernel
theorem dX9_spoiledIn_5 : decode cX9_spoiledIn 5 = .ok (.invokestatic 49, 3) := by decide +kernel
theorem dX9_spoiledIn_8 : decode cX9_spoiledIn 8 = .ok (.ifCond .eq 7, 3) := by decide +kernel
theorem dX9_spoiledIn_11 : decode cX9_spoiledIn 11 = .ok (.iconst 0, 1) := by decide +kernel
theorem dX9_spoiledIn_12 : decode cX9_spoiledIn 12 = .ok (.goto 4, 3) := by decide +kernel
theorem dX9_spoiledIn_15 : decode cX9_spoiledIn 15 = .ok (.iconst 1, 1) := by decide +kernel
theorem dX9_spoiledIn_16 : decode cX9_spoiledIn 16 = .ok (.putfield 35, 3) := by decide +kernel
theorem dX9_spoiledIn_19 : decode cX9_spoiledIn 19 = .ok (.aload_n 0, 1) := by decide +kernel
theorem dX9_spoiledIn_20 : decode cX9_spoiledIn 20 = .ok (.getfield 35, 3) := by decide +kernel
theorem dX9_spoiledIn_23 : decode cX9_spoiledIn 23 = .ok (.ifCond .le 5, 3) := by decide +kernel
theorem dX9_spoiledIn_26 : decode cX9_spoiledIn 26 = .ok (.iconst 0, 1) := by decide +kernel
theorem dX9_spoiledIn_27 : decode cX9_spoiledIn 27 = .ok (.ireturn, 1) := by decide +kernel
theorem dX9_spoiledIn_28 : decode cX9_spoiledIn 28 = .ok (.aload_n 0, 1) := by decide +kernel
theorem dX9_spoiledIn_29 : decode cX9_spoiledIn 29 = .ok (.iload_n 1, 1) := by decide +kernel
theorem dX9_spoiledIn_30 : decode cX9_spoiledIn 30 = .ok (.invokevirtual 210, 3) := by decide +kernel
theorem dX9_spoiledIn_33 : decode cX9_spoiledIn 33 = .ok (.iconst 0, 1) := by decide +kernel
theorem dX9_spoiledIn_34 : decode cX9_spoiledIn 34 = .ok (.istore_n 2, 1) := by decide +kernel
theorem dX9_spoiledIn_35 : decode cX9_spoiledIn 35 = .ok (.iconst 0, 1) := by decide +kernel
theorem dX9_spoiledIn_36 : decode cX9_spoiledIn 36 = .ok (.istore_n 3, 1) := by decide +kernel
theorem dX9_spoiledIn_37 : decode cX9_spoiledIn 37 = .ok (.iload_n 3, 1) := by decide +kernel
theorem dX9_spoiledIn_38 : decode cX9_spoiledIn 38 = .ok (.aload_n 0, 1) := by decide +kernel
theorem dX9_spoiledIn_39 : decode cX9_spoiledIn 39 = .ok (.getfield 7, 3) := by decide +kernel
theorem dX9_spoiledIn_42 : decode cX9_spoiledIn 42 = .ok (.iconst 4, 1) := by decide +kernel
theorem dX9_spoiledIn_43 : decode cX9_spoiledIn 43 = .ok (.iaload, 1) := by decide +kernel
theorem dX9_spoiledIn_44 : decode cX9_spoiledIn 44 = .ok (.if_icmp .ge 44, 3) := by decide +kernel
theorem dX9_spoiledIn_47 : decode cX9_spoiledIn 47 = .ok (.iload_n 2, 1) := by decide +kernel
theorem dX9_spoiledIn_48 : decode cX9_spoiledIn 48 = .ok (.aload_n 0, 1) := by decide +kernel
theorem dX9_spoiledIn_49 : decode cX9_spoiledIn 49 = .ok (.getfield 7, 3) := by decide +kernel
theorem dX9_spoiledIn_52 : decode cX9_spoiledIn 52 = .ok (.iload_n 3, 1) := by decide +kernel
theorem dX9_spoiledIn_53 : decode cX9_spoiledIn 53 = .ok (.iconst 4, 1) := by decide +kernel
theorem dX9_spoiledIn_54 : decode cX9_spoiledIn 54 = .ok (.invokestatic 42, 3) := by decide +kernel
theorem dX9_spoiledIn_57 : decode cX9_spoiledIn 57 = .ok (.ifCond .ne 22, 3) := by decide +kernel
theorem dX9_spoiledIn_60 : decode cX9_spoiledIn 60 = .ok (.aload_n 0, 1) := by decide +kernel
theorem dX9_spoiledIn_61 : decode cX9_spoiledIn 61 = .ok (.getfield 13, 3) := by decide +kernel
theorem dX9_spoiledIn_64 : decode cX9_spoiledIn 64 = .ok (.iload_n 3, 1) := by decide +kernel
theorem dX9_spoiledIn_65 : decode cX9_spoiledIn 65 = .ok (.iconst 4, 1) := by decide +kernel
theorem dX9_spoiledIn_66 : decode cX9_spoiledIn 66 = .ok (.invokestatic 42, 3) := by decide +kernel
theorem dX9_spoiledIn_69 : decode cX9_spoiledIn 69 = .ok (.iconst 3, 1) := by decide +kernel
theorem dX9_spoiledIn_70 : decode cX9_spoiledIn 70 = .ok (.if_icmp .ne 9, 3) := by decide +kernel
theorem dX9_spoiledIn_73 : decode cX9_spoiledIn 73 = .ok (.iconst 1, 1) := by decide +kernel
theorem dX9_spoiledIn_74 : decode cX9_spoiledIn 74 = .ok (.iload_n 3, 1) := by decide +kernel
theorem dX9_spoiledIn_75 : decode cX9_spoiledIn 75 = .ok (.ishl, 1) := by decide +kernel
theorem dX9_spoiledIn_76 : decode cX9_spoiledIn 76 = .ok (.goto 4, 3) := by decide +kernel
theorem dX9_spoiledIn_79 : decode cX9_spoiledIn 79 = .ok (.iconst 0, 1) := by decide +kernel
theorem dX9_spoiledIn_80 : decode cX9_spoiledIn 80 = .ok (.ior, 1) := by decide +kernel
theorem dX9_spoiledIn_81 : decode cX9_spoiledIn 81 = .ok (.istore_n 2, 1) := by decide +kernel
theorem dX9_spoiledIn_82 : decode cX9_spoiledIn 82 = .ok (.iinc 3 1, 3) := by decide +kernel
theorem dX9_spoiledIn_85 : decode cX9_spoiledIn 85 = .ok (.goto (-48), 3) := by decide +kernel
theorem dX9_spoiledIn_88 : decode cX9_spoiledIn 88 = .ok (.iload_n 2, 1) := by decide +kernel
theorem dX9_spoiledIn_89 : decode cX9_spoiledIn 89 = .ok (.ireturn, 1) := by decide +kernel
set_option maxRecDepth 20000 in
theorem ggX9_owesNow_X9_share : GoodIn wsX9_owesNow wsX9_share := goodIn_r _ [6, 7, 1, 8, 9, 10, 11, 12, 5, 13, 14, 15, 16, 17, 18, 19, 20, 21, 22, 23, 24, 25, 26] (by decide +kernel) (by decide +kernel)
set_option maxRecDepth 20000 in
theorem gX9_owesNow_X9_share : GoodIn wsX9_owesNow (wsV RX9 170 RX9 yX9_share wsX9_share) := goodIn_app (goodIn_of _ (by decide +kernel)) ggX9_owesNow_X9_share
theorem dX9_owesNow_0 : decode cX9_owesNow 0 = .ok (.aload_n 0, 1) := by decide +kernel
theorem dX9_owesNow_1 : decode cX9_owesNow 1 = .ok (.invokevirtual 170, 3) := by decide +kernel
theorem dX9_owesNow_4 : decode cX9_owesNow 4 = .ok (.aload_n 0, 1) := by decide +kernel
theorem dX9_owesNow_5 : decode cX9_owesNow 5 = .ok (.getfield 22, 3) := by decide +kernel
theorem dX9_owesNow_8 : decode cX9_owesNow 8 = .ok (.iload_n 1, 1) := by decide +kernel
theorem dX9_owesNow_9 : decode cX9_owesNow 9 = .ok (.iaload, 1) := by decide +kernel
theorem dX9_owesNow_10 : decode cX9_owesNow 10 = .ok (.ireturn, 1) := by decide +kernel
set_option maxRecDepth 20000 in
theorem ggX9_owes_X9_isHouse : GoodIn wsX9_owes wsX9_isHouse := goodIn_r _ [6, 7, 8, 9, 5, 10, 26, 27, 28, 29, 30, 31, 32, 33, 34, 35, 36, 37, 38] (by decide +kernel) (by decide +kernel)
set_option maxRecDepth 20000 in
theorem gX9_owes_X9_isHouse : GoodIn wsX9_owes (wsV RX9 122 RX9 yX9_isHouse wsX9_isHouse) := goodIn_app (goodIn_of _ (by decide +kernel)) ggX9_owes_X9_isHouse
set_option maxRecDepth 20000 in
theorem ggX9_owes_X9_owesNow : GoodIn wsX9_owes wsX9_owesNow := goodIn_r _ [14, 15, 16, 17, 18, 5, 19, 7, 20, 21, 22, 23, 24, 25, 26, 27, 28, 29, 30, 31, 32, 33, 34, 35, 36, 37, 38] (by decide +kernel) (by decide +kernel)
set_option maxRecDepth 20000 in
theorem gX9_owes_X9_owesNow : GoodIn wsX9_owes (wsV RX9 217 RX9 yX9_owesNow wsX9_owesNow) := goodIn_app (goodIn_of _ (by decide +kernel)) ggX9_owes_X9_owesNow
theorem dX9_owes_0 : decode cX9_owes 0 = .ok (.aload_n 0, 1) := by decide +kernel
theorem dX9_owes_1 : decode cX9_owes 1 = .ok (.aload_n 0, 1) := by decide +kernel
theorem dX9_owes_2 : decode cX9_owes 2 = .ok (.iload_n 1, 1) := by decide +kernel
theorem dX9_owes_3 : decode cX9_owes 3 = .ok (.invokevirtual 122, 3) := by decide +kernel
theorem dX9_owes_6 : decode cX9_owes 6 = .ok (.ifCond .eq 7, 3) := by decide +kernel
theorem dX9_owes_9 : decode cX9_owes 9 = .ok (.iconst 0, 1) := by decide +kernel
theorem dX9_owes_10 : decode cX9_owes 10 = .ok (.goto 4, 3) := by decide +kernel
theorem dX9_owes_13 : decode cX9_owes 13 = .ok (.iconst 1, 1) := by decide +kernel
theorem dX9_owes_14 : decode cX9_owes 14 = .ok (.putfield 35, 3) := by decide +kernel
theorem dX9_owes_17 : decode cX9_owes 17 = .ok (.aload_n 0, 1) := by decide +kernel
theorem dX9_owes_18 : decode cX9_owes 18 = .ok (.getfield 35, 3) := by decide +kernel
theorem dX9_owes_21 : decode cX9_owes 21 = .ok (.ifCond .le 7, 3) := by decide +kernel
theorem dX9_owes_24 : decode cX9_owes 24 = .ok (.iconst 0, 1) := by decide +kernel
theorem dX9_owes_25 : decode cX9_owes 25 = .ok (.goto 8, 3) := by decide +kernel
theorem dX9_owes_28 : decode cX9_owes 28 = .ok (.aload_n 0, 1) := by decide +kernel
theorem dX9_owes_29 : decode cX9_owes 29 = .ok (.iload_n 1, 1) := by decide +kernel
theorem dX9_owes_30 : decode cX9_owes 30 = .ok (.invokevirtual 217, 3) := by decide +kernel
theorem dX9_owes_33 : decode cX9_owes 33 = .ok (.ireturn, 1) := by decide +kernel
set_option maxRecDepth 20000 in
theorem ggX9_type_X9_in : GoodIn wsX9_type wsX9_in := goodIn_r _ [7] (by decide +kernel) (by decide +kernel)
set_option maxRecDepth 20000 in
theorem gX9_type_X9_in : GoodIn wsX9_type (va_wsS RX9 49 yX9_in wsX9_in) := goodIn_app (goodIn_of _ (by decide +kernel)) ggX9_type_X9_in
theorem dX9_type_0 : decode cX9_type 0 = .ok (.aload_n 0, 1) := by decide +kernel
theorem dX9_type_1 : decode cX9_type 1 = .ok (.iload_n 1, 1) := by decide +kernel
theorem dX9_type_2 : decode cX9_type 2 = .ok (.iconst 0, 1) := by decide +kernel
theorem dX9_type_3 : decode cX9_type 3 = .ok (.bipush 127, 2) := by decide +kernel
theorem dX9_type_5 : decode cX9_type 5 = .ok (.invokestatic 49, 3) := by decide +kernel
theorem dX9_type_8 : decode cX9_type 8 = .ok (.ifCond .ne 7, 3) := by decide +kernel
theorem dX9_type_11 : decode cX9_type 11 = .ok (.iconst 1, 1) := by decide +kernel
theorem dX9_type_12 : decode cX9_type 12 = .ok (.goto 18, 3) := by decide +kernel
theorem dX9_type_15 : decode cX9_type 15 = .ok (.aload_n 0, 1) := by decide +kernel
theorem dX9_type_16 : decode cX9_type 16 = .ok (.getfield 198, 3) := by decide +kernel
theorem dX9_type_19 : decode cX9_type 19 = .ok (.sipush 150, 3) := by decide +kernel
theorem dX9_type_22 : decode cX9_type 22 = .ok (.if_icmp .ne 7, 3) := by decide +kernel
theorem dX9_type_25 : decode cX9_type 25 = .ok (.iconst 2, 1) := by decide +kernel
theorem dX9_type_26 : decode cX9_type 26 = .ok (.goto 4, 3) := by decide +kernel
theorem dX9_type_29 : decode cX9_type 29 = .ok (.iconst 0, 1) := by decide +kernel
theorem dX9_type_30 : decode cX9_type 30 = .ok (.putfield 35, 3) := by decide +kernel
theorem dX9_type_33 : decode cX9_type 33 = .ok (.aload_n 0, 1) := by decide +kernel
theorem dX9_type_34 : decode cX9_type 34 = .ok (.getfield 35, 3) := by decide +kernel
theorem dX9_type_37 : decode cX9_type 37 = .ok (.ifCond .le 5, 3) := by decide +kernel
theorem dX9_type_40 : decode cX9_type 40 = .ok (.iconst 0, 1) := by decide +kernel
theorem dX9_type_41 : decode cX9_type 41 = .ok (.ireturn, 1) := by decide +kernel
theorem dX9_type_42 : decode cX9_type 42 = .ok (.aload_n 0, 1) := by decide +kernel
theorem dX9_type_43 : decode cX9_type 43 = .ok (.getfield 19, 3) := by decide +kernel
theorem dX9_type_46 : decode cX9_type 46 = .ok (.aload_n 0, 1) := by decide +kernel
theorem dX9_type_47 : decode cX9_type 47 = .ok (.getfield 198, 3) := by decide +kernel
theorem dX9_type_50 : decode cX9_type 50 = .ok (.iload_n 1, 1) := by decide +kernel
theorem dX9_type_51 : decode cX9_type 51 = .ok (.iastore, 1) := by decide +kernel
theorem dX9_type_52 : decode cX9_type 52 = .ok (.aload_n 0, 1) := by decide +kernel
theorem dX9_type_53 : decode cX9_type 53 = .ok (.dup, 1) := by decide +kernel
theorem dX9_type_54 : decode cX9_type 54 = .ok (.getfield 198, 3) := by decide +kernel
theorem dX9_type_57 : decode cX9_type 57 = .ok (.iconst 1, 1) := by decide +kernel
theorem dX9_type_58 : decode cX9_type 58 = .ok (.iadd, 1) := by decide +kernel
theorem dX9_type_59 : decode cX9_type 59 = .ok (.putfield 198, 3) := by decide +kernel
theorem dX9_type_62 : decode cX9_type 62 = .ok (.aload_n 0, 1) := by decide +kernel
theorem dX9_type_63 : decode cX9_type 63 = .ok (.getfield 198, 3) := by decide +kernel
theorem dX9_type_66 : decode cX9_type 66 = .ok (.ireturn, 1) := by decide +kernel
theorem dX9_clearCommands_0 : decode cX9_clearCommands 0 = .ok (.aload_n 0, 1) := by decide +kernel
theorem dX9_clearCommands_1 : decode cX9_clearCommands 1 = .ok (.iconst 0, 1) := by decide +kernel
theorem dX9_clearCommands_2 : decode cX9_clearCommands 2 = .ok (.putfield 35, 3) := by decide +kernel
theorem dX9_clearCommands_5 : decode cX9_clearCommands 5 = .ok (.aload_n 0, 1) := by decide +kernel
theorem dX9_clearCommands_6 : decode cX9_clearCommands 6 = .ok (.getfield 198, 3) := by decide +kernel
theorem dX9_clearCommands_9 : decode cX9_clearCommands 9 = .ok (.istore_n 1, 1) := by decide +kernel
theorem dX9_clearCommands_10 : decode cX9_clearCommands 10 = .ok (.aload_n 0, 1) := by decide +kernel
theorem dX9_clearCommands_11 : decode cX9_clearCommands 11 = .ok (.iconst 0, 1) := by decide +kernel
theorem dX9_clearCommands_12 : decode cX9_clearCommands 12 = .ok (.putfield 198, 3) := by decide +kernel
theorem dX9_clearCommands_15 : decode cX9_clearCommands 15 = .ok (.iload_n 1, 1) := by decide +kernel
theorem dX9_clearCommands_16 : decode cX9_clearCommands 16 = .ok (.ireturn, 1) := by decide +kernel
theorem dX9_here_0 : decode cX9_here 0 = .ok (.aload_n 0, 1) := by decide +kernel
theorem dX9_here_1 : decode cX9_here 1 = .ok (.getfield 220, 3) := by decide +kernel
theorem dX9_here_4 : decode cX9_here 4 = .ok (.aload_n 0, 1) := by decide +kernel
theorem dX9_here_5 : decode cX9_here 5 = .ok (.getfield 198, 3) := by decide +kernel
theorem dX9_here_8 : decode cX9_here 8 = .ok (.if_icmp .ge 15, 3) := by decide +kernel
theorem dX9_here_11 : decode cX9_here 11 = .ok (.aload_n 0, 1) := by decide +kernel
theorem dX9_here_12 : decode cX9_here 12 = .ok (.getfield 19, 3) := by decide +kernel
theorem dX9_here_15 : decode cX9_here 15 = .ok (.aload_n 0, 1) := by decide +kernel
theorem dX9_here_16 : decode cX9_here 16 = .ok (.getfield 220, 3) := by decide +kernel
theorem dX9_here_19 : decode cX9_here 19 = .ok (.iaload, 1) := by decide +kernel
theorem dX9_here_20 : decode cX9_here 20 = .ok (.goto 4, 3) := by decide +kernel
theorem dX9_here_23 : decode cX9_here 23 = .ok (.iconst (-1), 1) := by decide +kernel
theorem dX9_here_24 : decode cX9_here 24 = .ok (.ireturn, 1) := by decide +kernel
set_option maxRecDepth 20000 in
theorem ggX9_isLetter_X9_here : GoodIn wsX9_isLetter wsX9_here := goodIn_r _ [5, 6, 7, 8, 12, 13, 14, 15, 16, 17, 18, 19, 20, 21, 22, 23, 24] (by decide +kernel) (by decide +kernel)
set_option maxRecDepth 20000 in
theorem gX9_isLetter_X9_here : GoodIn wsX9_isLetter (wsV RX9 223 RX9 yX9_here wsX9_here) := goodIn_app (goodIn_of _ (by decide +kernel)) ggX9_isLetter_X9_here
set_option maxRecDepth 20000 in
theorem ggX9_isLetter_X9_in : GoodIn wsX9_isLetter wsX9_in := goodIn_r _ [11] (by decide +kernel) (by decide +kernel)
set_option maxRecDepth 20000 in
theorem gX9_isLetter_X9_in : GoodIn wsX9_isLetter (va_wsS RX9 49 yX9_in wsX9_in) := goodIn_app (goodIn_of _ (by decide +kernel)) ggX9_isLetter_X9_in
theorem dX9_isLetter_0 : decode cX9_isLetter 0 = .ok (.aload_n 0, 1) := by decide +kernel
theorem dX9_isLetter_1 : decode cX9_isLetter 1 = .ok (.invokevirtual 223, 3) := by decide +kernel
theorem dX9_isLetter_4 : decode cX9_isLetter 4 = .ok (.bipush 97, 2) := by decide +kernel
theorem dX9_isLetter_6 : decode cX9_isLetter 6 = .ok (.bipush 122, 2) := by decide +kernel
theorem dX9_isLetter_8 : decode cX9_isLetter 8 = .ok (.invokestatic 49, 3) := by decide +kernel
theorem dX9_isLetter_11 : decode cX9_isLetter 11 = .ok (.ireturn, 1) := by decide +kernel
set_option maxRecDepth 20000 in
theorem ggX9_isDigit_X9_here : GoodIn wsX9_isDigit wsX9_here := goodIn_r _ [5, 6, 7, 8, 12, 13, 14, 15, 16, 17, 18, 19, 20, 21, 22, 23, 24] (by decide +kernel) (by decide +kernel)
set_option maxRecDepth 20000 in
theorem gX9_isDigit_X9_here : GoodIn wsX9_isDigit (wsV RX9 223 RX9 yX9_here wsX9_here) := goodIn_app (goodIn_of _ (by decide +kernel)) ggX9_isDigit_X9_here
set_option maxRecDepth 20000 in
theorem ggX9_isDigit_X9_in : GoodIn wsX9_isDigit wsX9_in := goodIn_r _ [11] (by decide +kernel) (by decide +kernel)
set_option maxRecDepth 20000 in
theorem gX9_isDigit_X9_in : GoodIn wsX9_isDigit (va_wsS RX9 49 yX9_in wsX9_in) := goodIn_app (goodIn_of _ (by decide +kernel)) ggX9_isDigit_X9_in
theorem dX9_isDigit_0 : decode cX9_isDigit 0 = .ok (.aload_n 0, 1) := by decide +kernel
theorem dX9_isDigit_1 : decode cX9_isDigit 1 = .ok (.invokevirtual 223, 3) := by decide +kernel
theorem dX9_isDigit_4 : decode cX9_isDigit 4 = .ok (.bipush 48, 2) := by decide +kernel
theorem dX9_isDigit_6 : decode cX9_isDigit 6 = .ok (.bipush 57, 2) := by decide +kernel
theorem dX9_isDigit_8 : decode cX9_isDigit 8 = .ok (.invokestatic 49, 3) := by decide +kernel
theorem dX9_isDigit_11 : decode cX9_isDigit 11 = .ok (.ireturn, 1) := by decide +kernel
set_option maxRecDepth 20000 in
theorem ggX9_skip_X9_here : GoodIn wsX9_skip wsX9_here := goodIn_r _ [6, 1, 7, 8, 9, 10, 11, 12, 13, 14, 15, 16, 17, 18, 19, 20, 21] (by decide +kernel) (by decide +kernel)
set_option maxRecDepth 20000 in
theorem gX9_skip_X9_here : GoodIn wsX9_skip (wsV RX9 223 RX9 yX9_here wsX9_here) := goodIn_app (goodIn_of _ (by decide +kernel)) ggX9_skip_X9_here
theorem dX9_skip_0 : decode cX9_skip 0 = .ok (.aload_n 0, 1) := by decide +kernel
theorem dX9_skip_1 : decode cX9_skip 1 = .ok (.invokevirtual 223, 3) := by decide +kernel
theorem dX9_skip_4 : decode cX9_skip 4 = .ok (.bipush 32, 2) := by decide +kernel
theorem dX9_skip_6 : decode cX9_skip 6 = .ok (.if_icmp .ne 16, 3) := by decide +kernel
theorem dX9_skip_9 : decode cX9_skip 9 = .ok (.aload_n 0, 1) := by decide +kernel
theorem dX9_skip_10 : decode cX9_skip 10 = .ok (.dup, 1) := by decide +kernel
theorem dX9_skip_11 : decode cX9_skip 11 = .ok (.getfield 220, 3) := by decide +kernel
theorem dX9_skip_14 : decode cX9_skip 14 = .ok (.iconst 1, 1) := by decide +kernel
theorem dX9_skip_15 : decode cX9_skip 15 = .ok (.iadd, 1) := by decide +kernel
theorem dX9_skip_16 : decode cX9_skip 16 = .ok (.putfield 220, 3) := by decide +kernel
theorem dX9_skip_19 : decode cX9_skip 19 = .ok (.goto (-19), 3) := by decide +kernel
theorem dX9_skip_22 : decode cX9_skip 22 = .ok (.return_, 1) := by decide +kernel
theorem dX9_letterOf_0 : decode cX9_letterOf 0 = .ok (.iload_n 0, 1) := by decide +kernel
theorem dX9_letterOf_1 : decode cX9_letterOf 1 = .ok (.ifCond .ne 7, 3) := by decide +kernel
theorem dX9_letterOf_4 : decode cX9_letterOf 4 = .ok (.iload_n 1, 1) := by decide +kernel
theorem dX9_letterOf_5 : decode cX9_letterOf 5 = .ok (.goto 52, 3) := by decide +kernel
theorem dX9_letterOf_8 : decode cX9_letterOf 8 = .ok (.iload_n 0, 1) := by decide +kernel
theorem dX9_letterOf_9 : decode cX9_letterOf 9 = .ok (.iconst 1, 1) := by decide +kernel
theorem dX9_letterOf_10 : decode cX9_letterOf 10 = .ok (.if_icmp .ne 7, 3) := by decide +kernel
theorem dX9_letterOf_13 : decode cX9_letterOf 13 = .ok (.iload_n 2, 1) := by decide +kernel
theorem dX9_letterOf_14 : decode cX9_letterOf 14 = .ok (.goto 43, 3) := by decide +kernel
theorem dX9_letterOf_17 : decode cX9_letterOf 17 = .ok (.iload_n 0, 1) := by decide +kernel
theorem dX9_letterOf_18 : decode cX9_letterOf 18 = .ok (.iconst 2, 1) := by decide +kernel
theorem dX9_letterOf_19 : decode cX9_letterOf 19 = .ok (.if_icmp .ne 7, 3) := by decide +kernel
theorem dX9_letterOf_22 : decode cX9_letterOf 22 = .ok (.iload_n 3, 1) := by decide +kernel
theorem dX9_letterOf_23 : decode cX9_letterOf 23 = .ok (.goto 34, 3) := by decide +kernel
theorem dX9_letterOf_26 : decode cX9_letterOf 26 = .ok (.iload_n 0, 1) := by decide +kernel
theorem dX9_letterOf_27 : decode cX9_letterOf 27 = .ok (.iconst 3, 1) := by decide +kernel
theorem dX9_letterOf_28 : decode cX9_letterOf 28 = .ok (.if_icmp .ne 8, 3) := by decide +kernel
theorem dX9_letterOf_31 : decode cX9_letterOf 31 = .ok (.iload 4, 2) := by decide +kernel
theorem dX9_letterOf_33 : decode cX9_letterOf 33 = .ok (.goto 24, 3) := by decide +kernel
theorem dX9_letterOf_36 : decode cX9_letterOf 36 = .ok (.iload_n 0, 1) := by decide +kernel
theorem dX9_letterOf_37 : decode cX9_letterOf 37 = .ok (.iconst 4, 1) := by decide +kernel
theorem dX9_letterOf_38 : decode cX9_letterOf 38 = .ok (.if_icmp .ne 8, 3) := by decide +kernel
theorem dX9_letterOf_41 : decode cX9_letterOf 41 = .ok (.iload 5, 2) := by decide +kernel
theorem dX9_letterOf_43 : decode cX9_letterOf 43 = .ok (.goto 14, 3) := by decide +kernel
theorem dX9_letterOf_46 : decode cX9_letterOf 46 = .ok (.iload_n 0, 1) := by decide +kernel
theorem dX9_letterOf_47 : decode cX9_letterOf 47 = .ok (.iconst 5, 1) := by decide +kernel
theorem dX9_letterOf_48 : decode cX9_letterOf 48 = .ok (.if_icmp .ne 8, 3) := by decide +kernel
theorem dX9_letterOf_51 : decode cX9_letterOf 51 = .ok (.iload 6, 2) := by decide +kernel
theorem dX9_letterOf_53 : decode cX9_letterOf 53 = .ok (.goto 4, 3) := by decide +kernel
theorem dX9_letterOf_56 : decode cX9_letterOf 56 = .ok (.iconst 0, 1) := by decide +kernel
theorem dX9_letterOf_57 : decode cX9_letterOf 57 = .ok (.ireturn, 1) := by decide +kernel
set_option maxRecDepth 20000 in
theorem ggX9_letterOfWord_X9_letterOf : GoodIn wsX9_letterOfWord wsX9_letterOf := goodIn_r _ [4] (by decide +kernel) (by decide +kernel)
set_option maxRecDepth 20000 in
theorem gX9_letterOfWord_X9_letterOf : GoodIn wsX9_letterOfWord (va_wsS RX9 226 yX9_letterOf wsX9_letterOf) := goodIn_app (goodIn_of _ (by decide +kernel)) ggX9_letterOfWord_X9_letterOf
theorem dX9_letterOfWord_0 : decode cX9_letterOfWord 0 = .ok (.iload_n 0, 1) := by decide +kernel
theorem dX9_letterOfWord_1 : decode cX9_letterOfWord 1 = .ok (.tableswitch 152 0 6 #[43, 58, 74, 90, 106, 122, 137], 43) := by decide +kernel
theorem dX9_letterOfWord_44 : decode cX9_letterOfWord 44 = .ok (.iload_n 1, 1) := by decide +kernel
theorem dX9_letterOfWord_45 : decode cX9_letterOfWord 45 = .ok (.bipush 107, 2) := by decide +kernel
theorem dX9_letterOfWord_47 : decode cX9_letterOfWord 47 = .ok (.bipush 105, 2) := by decide +kernel
theorem dX9_letterOfWord_49 : decode cX9_letterOfWord 49 = .ok (.bipush 110, 2) := by decide +kernel
theorem dX9_letterOfWord_51 : decode cX9_letterOfWord 51 = .ok (.bipush 100, 2) := by decide +kernel
theorem dX9_letterOfWord_53 : decode cX9_letterOfWord 53 = .ok (.iconst 0, 1) := by decide +kernel
theorem dX9_letterOfWord_54 : decode cX9_letterOfWord 54 = .ok (.iconst 0, 1) := by decide +kernel
theorem dX9_letterOfWord_55 : decode cX9_letterOfWord 55 = .ok (.invokestatic 226, 3) := by decide +kernel
theorem dX9_letterOfWord_58 : decode cX9_letterOfWord 58 = .ok (.ireturn, 1) := by decide +kernel
theorem dX9_letterOfWord_59 : decode cX9_letterOfWord 59 = .ok (.iload_n 1, 1) := by decide +kernel
theorem dX9_letterOfWord_60 : decode cX9_letterOfWord 60 = .ok (.bipush 104, 2) := by decide +kernel
theorem dX9_letterOfWord_62 : decode cX9_letterOfWord 62 = .ok (.bipush 111, 2) := by decide +kernel
theorem dX9_letterOfWord_64 : decode cX9_letterOfWord 64 = .ok (.bipush 117, 2) := by decide +kernel
theorem dX9_letterOfWord_66 : decode cX9_letterOfWord 66 = .ok (.bipush 115, 2) := by decide +kernel
theorem dX9_letterOfWord_68 : decode cX9_letterOfWord 68 = .ok (.bipush 101, 2) := by decide +kernel
theorem dX9_letterOfWord_70 : decode cX9_letterOfWord 70 = .ok (.iconst 0, 1) := by decide +kernel
theorem dX9_letterOfWord_71 : decode cX9_letterOfWord 71 = .ok (.invokestatic 226, 3) := by decide +kernel
theorem dX9_letterOfWord_74 : decode cX9_letterOfWord 74 = .ok (.ireturn, 1) := by decide +kernel
theorem dX9_letterOfWord_75 : decode cX9_letterOfWord 75 = .ok (.iload_n 1, 1) := by decide +kernel
theorem dX9_letterOfWord_76 : decode cX9_letterOfWord 76 = .ok (.bipush 100, 2) := by decide +kernel
theorem dX9_letterOfWord_78 : decode cX9_letterOfWord 78 = .ok (.bipush 111, 2) := by decide +kernel
theorem dX9_letterOfWord_80 : decode cX9_letterOfWord 80 = .ok (.bipush 117, 2) := by decide +kernel
theorem dX9_letterOfWord_82 : decode cX9_letterOfWord 82 = .ok (.bipush 103, 2) := by decide +kernel
theorem dX9_letterOfWord_84 : decode cX9_letterOfWord 84 = .ok (.bipush 104, 2) := by decide +kernel
theorem dX9_letterOfWord_86 : decode cX9_letterOfWord 86 = .ok (.iconst 0, 1) := by decide +kernel
theorem dX9_letterOfWord_87 : decode cX9_letterOfWord 87 = .ok (.invokestatic 226, 3) := by decide +kernel
theorem dX9_letterOfWord_90 : decode cX9_letterOfWord 90 = .ok (.ireturn, 1) := by decide +kernel
theorem dX9_letterOfWord_91 : decode cX9_letterOfWord 91 = .ok (.iload_n 1, 1) := by decide +kernel
theorem dX9_letterOfWord_92 : decode cX9_letterOfWord 92 = .ok (.bipush 98, 2) := by decide +kernel
theorem dX9_letterOfWord_94 : decode cX9_letterOfWord 94 = .ok (.bipush 114, 2) := by decide +kernel
theorem dX9_letterOfWord_96 : decode cX9_letterOfWord 96 = .ok (.bipush 105, 2) := by decide +kernel
theorem dX9_letterOfWord_98 : decode cX9_letterOfWord 98 = .ok (.bipush 110, 2) := by decide +kernel
theorem dX9_letterOfWord_100 : decode cX9_letterOfWord 100 = .ok (.bipush 103, 2) := by decide +kernel
theorem dX9_letterOfWord_102 : decode cX9_letterOfWord 102 = .ok (.iconst 0, 1) := by decide +kernel
theorem dX9_letterOfWord_103 : decode cX9_letterOfWord 103 = .ok (.invokestatic 226, 3) := by decide +kernel
theorem dX9_letterOfWord_106 : decode cX9_letterOfWord 106 = .ok (.ireturn, 1) := by decide +kernel
theorem dX9_letterOfWord_107 : decode cX9_letterOfWord 107 = .ok (.iload_n 1, 1) := by decide +kernel
theorem dX9_letterOfWord_108 : decode cX9_letterOfWord 108 = .ok (.bipush 115, 2) := by decide +kernel
theorem dX9_letterOfWord_110 : decode cX9_letterOfWord 110 = .ok (.bipush 116, 2) := by decide +kernel
theorem dX9_letterOfWord_112 : decode cX9_letterOfWord 112 = .ok (.bipush 111, 2) := by decide +kernel
theorem dX9_letterOfWord_114 : decode cX9_letterOfWord 114 = .ok (.bipush 107, 2) := by decide +kernel
theorem dX9_letterOfWord_116 : decode cX9_letterOfWord 116 = .ok (.bipush 101, 2) := by decide +kernel
theorem dX9_letterOfWord_118 : decode cX9_letterOfWord 118 = .ok (.iconst 0, 1) := by decide +kernel
theorem dX9_letterOfWord_119 : decode cX9_letterOfWord 119 = .ok (.invokestatic 226, 3) := by decide +kernel
theorem dX9_letterOfWord_122 : decode cX9_letterOfWord 122 = .ok (.ireturn, 1) := by decide +kernel
theorem dX9_letterOfWord_123 : decode cX9_letterOfWord 123 = .ok (.iload_n 1, 1) := by decide +kernel
theorem dX9_letterOfWord_124 : decode cX9_letterOfWord 124 = .ok (.bipush 112, 2) := by decide +kernel
theorem dX9_letterOfWord_126 : decode cX9_letterOfWord 126 = .ok (.bipush 97, 2) := by decide +kernel
theorem dX9_letterOfWord_128 : decode cX9_letterOfWord 128 = .ok (.bipush 115, 2) := by decide +kernel
theorem dX9_letterOfWord_130 : decode cX9_letterOfWord 130 = .ok (.bipush 115, 2) := by decide +kernel
theorem dX9_letterOfWord_132 : decode cX9_letterOfWord 132 = .ok (.iconst 0, 1) := by decide +kernel
theorem dX9_letterOfWord_133 : decode cX9_letterOfWord 133 = .ok (.iconst 0, 1) := by decide +kernel
theorem dX9_letterOfWord_134 : decode cX9_letterOfWord 134 = .ok (.invokestatic 226, 3) := by decide +kernel
theorem dX9_letterOfWord_137 : decode cX9_letterOfWord 137 = .ok (.ireturn, 1) := by decide +kernel
theorem dX9_letterOfWord_138 : decode cX9_letterOfWord 138 = .ok (.iload_n 1, 1) := by decide +kernel
theorem dX9_letterOfWord_139 : decode cX9_letterOfWord 139 = .ok (.bipush 115, 2) := by decide +kernel
theorem dX9_letterOfWord_141 : decode cX9_letterOfWord 141 = .ok (.bipush 119, 2) := by decide +kernel
theorem dX9_letterOfWord_143 : decode cX9_letterOfWord 143 = .ok (.bipush 97, 2) := by decide +kernel
theorem dX9_letterOfWord_145 : decode cX9_letterOfWord 145 = .ok (.bipush 112, 2) := by decide +kernel
theorem dX9_letterOfWord_147 : decode cX9_letterOfWord 147 = .ok (.iconst 0, 1) := by decide +kernel
theorem dX9_letterOfWord_148 : decode cX9_letterOfWord 148 = .ok (.iconst 0, 1) := by decide +kernel
theorem dX9_letterOfWord_149 : decode cX9_letterOfWord 149 = .ok (.invokestatic 226, 3) := by decide +kernel
theorem dX9_letterOfWord_152 : decode cX9_letterOfWord 152 = .ok (.ireturn, 1) := by decide +kernel
theorem dX9_letterOfWord_153 : decode cX9_letterOfWord 153 = .ok (.iload_n 1, 1) := by decide +kernel
theorem dX9_letterOfWord_154 : decode cX9_letterOfWord 154 = .ok (.bipush 115, 2) := by decide +kernel
theorem dX9_letterOfWord_156 : decode cX9_letterOfWord 156 = .ok (.bipush 101, 2) := by decide +kernel
theorem dX9_letterOfWord_158 : decode cX9_letterOfWord 158 = .ok (.bipush 116, 2) := by decide +kernel
theorem dX9_letterOfWord_160 : decode cX9_letterOfWord 160 = .ok (.bipush 116, 2) := by decide +kernel
theorem dX9_letterOfWord_162 : decode cX9_letterOfWord 162 = .ok (.bipush 108, 2) := by decide +kernel
theorem dX9_letterOfWord_164 : decode cX9_letterOfWord 164 = .ok (.bipush 101, 2) := by decide +kernel
theorem dX9_letterOfWord_166 : decode cX9_letterOfWord 166 = .ok (.invokestatic 226, 3) := by decide +kernel
theorem dX9_letterOfWord_169 : decode cX9_letterOfWord 169 = .ok (.ireturn, 1) := by decide +kernel
set_option maxRecDepth 20000 in
theorem ggX9_isWord_X9_letterOfWord : GoodIn wsX9_isWord wsX9_letterOfWord := goodIn_r _ [6, 7, 8, 5, 9] (by decide +kernel) (by decide +kernel)
set_option maxRecDepth 20000 in
theorem gX9_isWord_X9_letterOfWord : GoodIn wsX9_isWord (va_wsS RX9 230 yX9_letterOfWord wsX9_letterOfWord) := goodIn_app (goodIn_of _ (by decide +kernel)) ggX9_isWord_X9_letterOfWord
theorem dX9_isWord_0 : decode cX9_isWord 0 = .ok (.iconst 1, 1) := by decide +kernel
theorem dX9_isWord_1 : decode cX9_isWord 1 = .ok (.istore_n 3, 1) := by decide +kernel
theorem dX9_isWord_2 : decode cX9_isWord 2 = .ok (.iconst 0, 1) := by decide +kernel
theorem dX9_isWord_3 : decode cX9_isWord 3 = .ok (.istore 4, 2) := by decide +kernel
theorem dX9_isWord_5 : decode cX9_isWord 5 = .ok (.iload 4, 2) := by decide +kernel
theorem dX9_isWord_7 : decode cX9_isWord 7 = .ok (.aload_n 0, 1) := by decide +kernel
theorem dX9_isWord_8 : decode cX9_isWord 8 = .ok (.getfield 220, 3) := by decide +kernel
theorem dX9_isWord_11 : decode cX9_isWord 11 = .ok (.iload_n 2, 1) := by decide +kernel
