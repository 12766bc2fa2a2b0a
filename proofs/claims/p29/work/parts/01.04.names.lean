theorem dX7_takeOut_50 : decode cX7_takeOut 50 = .ok (.iload_n 3, 1) := by decide +kernel
theorem dX7_takeOut_51 : decode cX7_takeOut 51 = .ok (.iconst (-1), 1) := by decide +kernel
theorem dX7_takeOut_52 : decode cX7_takeOut 52 = .ok (.invokevirtual 127, 3) := by decide +kernel
theorem dX7_takeOut_55 : decode cX7_takeOut 55 = .ok (.iinc 3 1, 3) := by decide +kernel
theorem dX7_takeOut_58 : decode cX7_takeOut 58 = .ok (.goto (-54), 3) := by decide +kernel
theorem dX7_takeOut_61 : decode cX7_takeOut 61 = .ok (.aload_n 0, 1) := by decide +kernel
theorem dX7_takeOut_62 : decode cX7_takeOut 62 = .ok (.getfield 28, 3) := by decide +kernel
theorem dX7_takeOut_65 : decode cX7_takeOut 65 = .ok (.getfield 143, 3) := by decide +kernel
theorem dX7_takeOut_68 : decode cX7_takeOut 68 = .ok (.iload_n 1, 1) := by decide +kernel
theorem dX7_takeOut_69 : decode cX7_takeOut 69 = .ok (.invokevirtual 104, 3) := by decide +kernel
theorem dX7_takeOut_72 : decode cX7_takeOut 72 = .ok (.istore_n 3, 1) := by decide +kernel
theorem dX7_takeOut_73 : decode cX7_takeOut 73 = .ok (.aload_n 0, 1) := by decide +kernel
theorem dX7_takeOut_74 : decode cX7_takeOut 74 = .ok (.getfield 28, 3) := by decide +kernel
theorem dX7_takeOut_77 : decode cX7_takeOut 77 = .ok (.getfield 149, 3) := by decide +kernel
theorem dX7_takeOut_80 : decode cX7_takeOut 80 = .ok (.iload_n 1, 1) := by decide +kernel
theorem dX7_takeOut_81 : decode cX7_takeOut 81 = .ok (.invokevirtual 104, 3) := by decide +kernel
theorem dX7_takeOut_84 : decode cX7_takeOut 84 = .ok (.istore 4, 2) := by decide +kernel
theorem dX7_takeOut_86 : decode cX7_takeOut 86 = .ok (.aload_n 0, 1) := by decide +kernel
theorem dX7_takeOut_87 : decode cX7_takeOut 87 = .ok (.getfield 28, 3) := by decide +kernel
theorem dX7_takeOut_90 : decode cX7_takeOut 90 = .ok (.getfield 101, 3) := by decide +kernel
theorem dX7_takeOut_93 : decode cX7_takeOut 93 = .ok (.iload_n 1, 1) := by decide +kernel
theorem dX7_takeOut_94 : decode cX7_takeOut 94 = .ok (.iconst 2, 1) := by decide +kernel
theorem dX7_takeOut_95 : decode cX7_takeOut 95 = .ok (.invokevirtual 127, 3) := by decide +kernel
theorem dX7_takeOut_98 : decode cX7_takeOut 98 = .ok (.aload_n 0, 1) := by decide +kernel
theorem dX7_takeOut_99 : decode cX7_takeOut 99 = .ok (.getfield 28, 3) := by decide +kernel
theorem dX7_takeOut_102 : decode cX7_takeOut 102 = .ok (.getfield 158, 3) := by decide +kernel
theorem dX7_takeOut_105 : decode cX7_takeOut 105 = .ok (.iload_n 1, 1) := by decide +kernel
theorem dX7_takeOut_106 : decode cX7_takeOut 106 = .ok (.iload_n 2, 1) := by decide +kernel
theorem dX7_takeOut_107 : decode cX7_takeOut 107 = .ok (.invokevirtual 127, 3) := by decide +kernel
theorem dX7_takeOut_110 : decode cX7_takeOut 110 = .ok (.aload_n 0, 1) := by decide +kernel
theorem dX7_takeOut_111 : decode cX7_takeOut 111 = .ok (.getfield 21, 3) := by decide +kernel
theorem dX7_takeOut_114 : decode cX7_takeOut 114 = .ok (.getfield 238, 3) := by decide +kernel
theorem dX7_takeOut_117 : decode cX7_takeOut 117 = .ok (.iload_n 3, 1) := by decide +kernel
theorem dX7_takeOut_118 : decode cX7_takeOut 118 = .ok (.iload 4, 2) := by decide +kernel
theorem dX7_takeOut_120 : decode cX7_takeOut 120 = .ok (.invokevirtual 173, 3) := by decide +kernel
theorem dX7_takeOut_123 : decode cX7_takeOut 123 = .ok (.aload_n 0, 1) := by decide +kernel
theorem dX7_takeOut_124 : decode cX7_takeOut 124 = .ok (.getfield 21, 3) := by decide +kernel
theorem dX7_takeOut_127 : decode cX7_takeOut 127 = .ok (.getfield 240, 3) := by decide +kernel
theorem dX7_takeOut_130 : decode cX7_takeOut 130 = .ok (.iload_n 3, 1) := by decide +kernel
theorem dX7_takeOut_131 : decode cX7_takeOut 131 = .ok (.iload_n 2, 1) := by decide +kernel
theorem dX7_takeOut_132 : decode cX7_takeOut 132 = .ok (.invokevirtual 173, 3) := by decide +kernel
theorem dX7_takeOut_135 : decode cX7_takeOut 135 = .ok (.aload_n 0, 1) := by decide +kernel
theorem dX7_takeOut_136 : decode cX7_takeOut 136 = .ok (.dup, 1) := by decide +kernel
theorem dX7_takeOut_137 : decode cX7_takeOut 137 = .ok (.getfield 86, 3) := by decide +kernel
theorem dX7_takeOut_140 : decode cX7_takeOut 140 = .ok (.iload 4, 2) := by decide +kernel
theorem dX7_takeOut_142 : decode cX7_takeOut 142 = .ok (.iadd, 1) := by decide +kernel
theorem dX7_takeOut_143 : decode cX7_takeOut 143 = .ok (.putfield 86, 3) := by decide +kernel
theorem dX7_takeOut_146 : decode cX7_takeOut 146 = .ok (.return_, 1) := by decide +kernel
theorem dX7_coolDown_0 : decode cX7_coolDown 0 = .ok (.iload_n 2, 1) := by decide +kernel
theorem dX7_coolDown_1 : decode cX7_coolDown 1 = .ok (.iload_n 1, 1) := by decide +kernel
theorem dX7_coolDown_2 : decode cX7_coolDown 2 = .ok (.ifCond .le 7, 3) := by decide +kernel
theorem dX7_coolDown_5 : decode cX7_coolDown 5 = .ok (.iconst 1, 1) := by decide +kernel
theorem dX7_coolDown_6 : decode cX7_coolDown 6 = .ok (.goto 4, 3) := by decide +kernel
theorem dX7_coolDown_9 : decode cX7_coolDown 9 = .ok (.iconst 0, 1) := by decide +kernel
theorem dX7_coolDown_10 : decode cX7_coolDown 10 = .ok (.iadd, 1) := by decide +kernel
theorem dX7_coolDown_11 : decode cX7_coolDown 11 = .ok (.istore_n 3, 1) := by decide +kernel
theorem dX7_coolDown_12 : decode cX7_coolDown 12 = .ok (.iconst 2, 1) := by decide +kernel
theorem dX7_coolDown_13 : decode cX7_coolDown 13 = .ok (.iconst 4, 1) := by decide +kernel
theorem dX7_coolDown_14 : decode cX7_coolDown 14 = .ok (.iload_n 3, 1) := by decide +kernel
theorem dX7_coolDown_15 : decode cX7_coolDown 15 = .ok (.imul, 1) := by decide +kernel
theorem dX7_coolDown_16 : decode cX7_coolDown 16 = .ok (.iadd, 1) := by decide +kernel
theorem dX7_coolDown_17 : decode cX7_coolDown 17 = .ok (.iload_n 1, 1) := by decide +kernel
theorem dX7_coolDown_18 : decode cX7_coolDown 18 = .ok (.iconst 2, 1) := by decide +kernel
theorem dX7_coolDown_19 : decode cX7_coolDown 19 = .ok (.idiv, 1) := by decide +kernel
theorem dX7_coolDown_20 : decode cX7_coolDown 20 = .ok (.iadd, 1) := by decide +kernel
theorem dX7_coolDown_21 : decode cX7_coolDown 21 = .ok (.istore 4, 2) := by decide +kernel
theorem dX7_coolDown_23 : decode cX7_coolDown 23 = .ok (.aload_n 0, 1) := by decide +kernel
theorem dX7_coolDown_24 : decode cX7_coolDown 24 = .ok (.dup, 1) := by decide +kernel
theorem dX7_coolDown_25 : decode cX7_coolDown 25 = .ok (.getfield 83, 3) := by decide +kernel
theorem dX7_coolDown_28 : decode cX7_coolDown 28 = .ok (.iload_n 3, 1) := by decide +kernel
theorem dX7_coolDown_29 : decode cX7_coolDown 29 = .ok (.iadd, 1) := by decide +kernel
theorem dX7_coolDown_30 : decode cX7_coolDown 30 = .ok (.putfield 83, 3) := by decide +kernel
theorem dX7_coolDown_33 : decode cX7_coolDown 33 = .ok (.aload_n 0, 1) := by decide +kernel
theorem dX7_coolDown_34 : decode cX7_coolDown 34 = .ok (.aload_n 0, 1) := by decide +kernel
theorem dX7_coolDown_35 : decode cX7_coolDown 35 = .ok (.getfield 68, 3) := by decide +kernel
theorem dX7_coolDown_38 : decode cX7_coolDown 38 = .ok (.iload 4, 2) := by decide +kernel
theorem dX7_coolDown_40 : decode cX7_coolDown 40 = .ok (.isub, 1) := by decide +kernel
theorem dX7_coolDown_41 : decode cX7_coolDown 41 = .ok (.iconst 0, 1) := by decide +kernel
theorem dX7_coolDown_42 : decode cX7_coolDown 42 = .ok (.invokestatic 243, 3) := by decide +kernel
theorem dX7_coolDown_45 : decode cX7_coolDown 45 = .ok (.putfield 68, 3) := by decide +kernel
theorem dX7_coolDown_48 : decode cX7_coolDown 48 = .ok (.return_, 1) := by decide +kernel
theorem dX7_warmthOf_0 : decode cX7_warmthOf 0 = .ok (.iload_n 1, 1) := by decide +kernel
theorem dX7_warmthOf_1 : decode cX7_warmthOf 1 = .ok (.bipush 20, 2) := by decide +kernel
theorem dX7_warmthOf_3 : decode cX7_warmthOf 3 = .ok (.iload_n 0, 1) := by decide +kernel
theorem dX7_warmthOf_4 : decode cX7_warmthOf 4 = .ok (.iconst 4, 1) := by decide +kernel
theorem dX7_warmthOf_5 : decode cX7_warmthOf 5 = .ok (.idiv, 1) := by decide +kernel
theorem dX7_warmthOf_6 : decode cX7_warmthOf 6 = .ok (.imul, 1) := by decide +kernel
theorem dX7_warmthOf_7 : decode cX7_warmthOf 7 = .ok (.isub, 1) := by decide +kernel
theorem dX7_warmthOf_8 : decode cX7_warmthOf 8 = .ok (.iconst 0, 1) := by decide +kernel
theorem dX7_warmthOf_9 : decode cX7_warmthOf 9 = .ok (.invokestatic 243, 3) := by decide +kernel
theorem dX7_warmthOf_12 : decode cX7_warmthOf 12 = .ok (.ireturn, 1) := by decide +kernel
set_option maxRecDepth 20000 in
theorem ggX7_reasonAt_X6_at : GoodIn wsX7_reasonAt wsX6_at := goodIn_r _ [14, 15, 60] (by decide +kernel) (by decide +kernel)
set_option maxRecDepth 20000 in
theorem gX7_reasonAt_X6_at : GoodIn wsX7_reasonAt (wsV RX7 104 RX6 yX6_at wsX6_at) := goodIn_app (goodIn_of _ (by decide +kernel)) ggX7_reasonAt_X6_at
set_option maxRecDepth 20000 in
theorem ggX7_reasonAt_X5_isFree : GoodIn wsX7_reasonAt wsX5_isFree := goodIn_r _ [20, 21, 22, 11, 12, 13, 14, 15, 61, 62, 63, 60] (by decide +kernel) (by decide +kernel)
set_option maxRecDepth 20000 in
theorem gX7_reasonAt_X5_isFree : GoodIn wsX7_reasonAt (wsV RX7 220 RX5 yX5_isFree wsX5_isFree) := goodIn_app (goodIn_of _ (by decide +kernel)) ggX7_reasonAt_X5_isFree
set_option maxRecDepth 20000 in
theorem ggX7_reasonAt_X7_warmthOf : GoodIn wsX7_reasonAt wsX7_warmthOf := goodIn_r _ [26, 27, 28, 29, 30] (by decide +kernel) (by decide +kernel)
set_option maxRecDepth 20000 in
theorem gX7_reasonAt_X7_warmthOf : GoodIn wsX7_reasonAt (va_wsS RX7 217 yX7_warmthOf wsX7_warmthOf) := goodIn_app (goodIn_of _ (by decide +kernel)) ggX7_reasonAt_X7_warmthOf
theorem dX7_reasonAt_0 : decode cX7_reasonAt 0 = .ok (.aload_n 0, 1) := by decide +kernel
theorem dX7_reasonAt_1 : decode cX7_reasonAt 1 = .ok (.getfield 28, 3) := by decide +kernel
theorem dX7_reasonAt_4 : decode cX7_reasonAt 4 = .ok (.getfield 146, 3) := by decide +kernel
theorem dX7_reasonAt_7 : decode cX7_reasonAt 7 = .ok (.iload_n 1, 1) := by decide +kernel
theorem dX7_reasonAt_8 : decode cX7_reasonAt 8 = .ok (.invokevirtual 104, 3) := by decide +kernel
theorem dX7_reasonAt_11 : decode cX7_reasonAt 11 = .ok (.istore_n 3, 1) := by decide +kernel
theorem dX7_reasonAt_12 : decode cX7_reasonAt 12 = .ok (.iconst 0, 1) := by decide +kernel
theorem dX7_reasonAt_13 : decode cX7_reasonAt 13 = .ok (.istore 4, 2) := by decide +kernel
theorem dX7_reasonAt_15 : decode cX7_reasonAt 15 = .ok (.iconst 0, 1) := by decide +kernel
theorem dX7_reasonAt_16 : decode cX7_reasonAt 16 = .ok (.istore 5, 2) := by decide +kernel
theorem dX7_reasonAt_18 : decode cX7_reasonAt 18 = .ok (.iconst 0, 1) := by decide +kernel
theorem dX7_reasonAt_19 : decode cX7_reasonAt 19 = .ok (.istore 6, 2) := by decide +kernel
theorem dX7_reasonAt_21 : decode cX7_reasonAt 21 = .ok (.iconst 0, 1) := by decide +kernel
theorem dX7_reasonAt_22 : decode cX7_reasonAt 22 = .ok (.istore 7, 2) := by decide +kernel
theorem dX7_reasonAt_24 : decode cX7_reasonAt 24 = .ok (.iload 7, 2) := by decide +kernel
theorem dX7_reasonAt_26 : decode cX7_reasonAt 26 = .ok (.bipush 12, 2) := by decide +kernel
theorem dX7_reasonAt_28 : decode cX7_reasonAt 28 = .ok (.if_icmp .ge 101, 3) := by decide +kernel
theorem dX7_reasonAt_31 : decode cX7_reasonAt 31 = .ok (.aload_n 0, 1) := by decide +kernel
theorem dX7_reasonAt_32 : decode cX7_reasonAt 32 = .ok (.getfield 35, 3) := by decide +kernel
theorem dX7_reasonAt_35 : decode cX7_reasonAt 35 = .ok (.iload 7, 2) := by decide +kernel
theorem dX7_reasonAt_37 : decode cX7_reasonAt 37 = .ok (.invokevirtual 220, 3) := by decide +kernel
theorem dX7_reasonAt_40 : decode cX7_reasonAt 40 = .ok (.ifCond .eq 83, 3) := by decide +kernel
theorem dX7_reasonAt_43 : decode cX7_reasonAt 43 = .ok (.iload 7, 2) := by decide +kernel
theorem dX7_reasonAt_45 : decode cX7_reasonAt 45 = .ok (.iload_n 2, 1) := by decide +kernel
theorem dX7_reasonAt_46 : decode cX7_reasonAt 46 = .ok (.invokestatic 217, 3) := by decide +kernel
theorem dX7_reasonAt_49 : decode cX7_reasonAt 49 = .ok (.istore 8, 2) := by decide +kernel
theorem dX7_reasonAt_51 : decode cX7_reasonAt 51 = .ok (.iload 8, 2) := by decide +kernel
theorem dX7_reasonAt_53 : decode cX7_reasonAt 53 = .ok (.aload_n 0, 1) := by decide +kernel
theorem dX7_reasonAt_54 : decode cX7_reasonAt 54 = .ok (.getfield 12, 3) := by decide +kernel
theorem dX7_reasonAt_57 : decode cX7_reasonAt 57 = .ok (.getfield 124, 3) := by decide +kernel
theorem dX7_reasonAt_60 : decode cX7_reasonAt 60 = .ok (.iload_n 3, 1) := by decide +kernel
theorem dX7_reasonAt_61 : decode cX7_reasonAt 61 = .ok (.invokevirtual 104, 3) := by decide +kernel
theorem dX7_reasonAt_64 : decode cX7_reasonAt 64 = .ok (.if_icmp .lt 7, 3) := by decide +kernel
theorem dX7_reasonAt_67 : decode cX7_reasonAt 67 = .ok (.iconst 1, 1) := by decide +kernel
theorem dX7_reasonAt_68 : decode cX7_reasonAt 68 = .ok (.goto 4, 3) := by decide +kernel
theorem dX7_reasonAt_71 : decode cX7_reasonAt 71 = .ok (.iconst 0, 1) := by decide +kernel
theorem dX7_reasonAt_72 : decode cX7_reasonAt 72 = .ok (.istore 9, 2) := by decide +kernel
theorem dX7_reasonAt_74 : decode cX7_reasonAt 74 = .ok (.iinc 4 1, 3) := by decide +kernel
theorem dX7_reasonAt_77 : decode cX7_reasonAt 77 = .ok (.iload 5, 2) := by decide +kernel
theorem dX7_reasonAt_79 : decode cX7_reasonAt 79 = .ok (.iload 9, 2) := by decide +kernel
theorem dX7_reasonAt_81 : decode cX7_reasonAt 81 = .ok (.ifCond .eq 7, 3) := by decide +kernel
theorem dX7_reasonAt_84 : decode cX7_reasonAt 84 = .ok (.iconst 1, 1) := by decide +kernel
theorem dX7_reasonAt_85 : decode cX7_reasonAt 85 = .ok (.goto 4, 3) := by decide +kernel
theorem dX7_reasonAt_88 : decode cX7_reasonAt 88 = .ok (.iconst 0, 1) := by decide +kernel
theorem dX7_reasonAt_89 : decode cX7_reasonAt 89 = .ok (.iadd, 1) := by decide +kernel
theorem dX7_reasonAt_90 : decode cX7_reasonAt 90 = .ok (.istore 5, 2) := by decide +kernel
theorem dX7_reasonAt_92 : decode cX7_reasonAt 92 = .ok (.iload 6, 2) := by decide +kernel
theorem dX7_reasonAt_94 : decode cX7_reasonAt 94 = .ok (.iload 9, 2) := by decide +kernel
theorem dX7_reasonAt_96 : decode cX7_reasonAt 96 = .ok (.ifCond .eq 23, 3) := by decide +kernel
theorem dX7_reasonAt_99 : decode cX7_reasonAt 99 = .ok (.iload 8, 2) := by decide +kernel
theorem dX7_reasonAt_101 : decode cX7_reasonAt 101 = .ok (.aload_n 0, 1) := by decide +kernel
theorem dX7_reasonAt_102 : decode cX7_reasonAt 102 = .ok (.getfield 12, 3) := by decide +kernel
theorem dX7_reasonAt_105 : decode cX7_reasonAt 105 = .ok (.getfield 131, 3) := by decide +kernel
theorem dX7_reasonAt_108 : decode cX7_reasonAt 108 = .ok (.iload_n 3, 1) := by decide +kernel
theorem dX7_reasonAt_109 : decode cX7_reasonAt 109 = .ok (.invokevirtual 104, 3) := by decide +kernel
theorem dX7_reasonAt_112 : decode cX7_reasonAt 112 = .ok (.if_icmp .gt 7, 3) := by decide +kernel
theorem dX7_reasonAt_115 : decode cX7_reasonAt 115 = .ok (.iconst 1, 1) := by decide +kernel
theorem dX7_reasonAt_116 : decode cX7_reasonAt 116 = .ok (.goto 4, 3) := by decide +kernel
theorem dX7_reasonAt_119 : decode cX7_reasonAt 119 = .ok (.iconst 0, 1) := by decide +kernel
theorem dX7_reasonAt_120 : decode cX7_reasonAt 120 = .ok (.iadd, 1) := by decide +kernel
theorem dX7_reasonAt_121 : decode cX7_reasonAt 121 = .ok (.istore 6, 2) := by decide +kernel
theorem dX7_reasonAt_123 : decode cX7_reasonAt 123 = .ok (.iinc 7 1, 3) := by decide +kernel
theorem dX7_reasonAt_126 : decode cX7_reasonAt 126 = .ok (.goto (-102), 3) := by decide +kernel
theorem dX7_reasonAt_129 : decode cX7_reasonAt 129 = .ok (.aload_n 0, 1) := by decide +kernel
theorem dX7_reasonAt_130 : decode cX7_reasonAt 130 = .ok (.getfield 28, 3) := by decide +kernel
theorem dX7_reasonAt_133 : decode cX7_reasonAt 133 = .ok (.getfield 149, 3) := by decide +kernel
theorem dX7_reasonAt_136 : decode cX7_reasonAt 136 = .ok (.iload_n 1, 1) := by decide +kernel
theorem dX7_reasonAt_137 : decode cX7_reasonAt 137 = .ok (.invokevirtual 104, 3) := by decide +kernel
theorem dX7_reasonAt_140 : decode cX7_reasonAt 140 = .ok (.istore 7, 2) := by decide +kernel
theorem dX7_reasonAt_142 : decode cX7_reasonAt 142 = .ok (.aload_n 0, 1) := by decide +kernel
theorem dX7_reasonAt_143 : decode cX7_reasonAt 143 = .ok (.getfield 28, 3) := by decide +kernel
theorem dX7_reasonAt_146 : decode cX7_reasonAt 146 = .ok (.getfield 152, 3) := by decide +kernel
theorem dX7_reasonAt_149 : decode cX7_reasonAt 149 = .ok (.iload_n 1, 1) := by decide +kernel
theorem dX7_reasonAt_150 : decode cX7_reasonAt 150 = .ok (.invokevirtual 104, 3) := by decide +kernel
theorem dX7_reasonAt_153 : decode cX7_reasonAt 153 = .ok (.aload_n 0, 1) := by decide +kernel
theorem dX7_reasonAt_154 : decode cX7_reasonAt 154 = .ok (.getfield 12, 3) := by decide +kernel
theorem dX7_reasonAt_157 : decode cX7_reasonAt 157 = .ok (.getfield 137, 3) := by decide +kernel
theorem dX7_reasonAt_160 : decode cX7_reasonAt 160 = .ok (.iload_n 3, 1) := by decide +kernel
theorem dX7_reasonAt_161 : decode cX7_reasonAt 161 = .ok (.invokevirtual 104, 3) := by decide +kernel
theorem dX7_reasonAt_164 : decode cX7_reasonAt 164 = .ok (.if_icmp .ge 5, 3) := by decide +kernel
theorem dX7_reasonAt_167 : decode cX7_reasonAt 167 = .ok (.iconst 2, 1) := by decide +kernel
theorem dX7_reasonAt_168 : decode cX7_reasonAt 168 = .ok (.ireturn, 1) := by decide +kernel
theorem dX7_reasonAt_169 : decode cX7_reasonAt 169 = .ok (.iload 4, 2) := by decide +kernel
theorem dX7_reasonAt_171 : decode cX7_reasonAt 171 = .ok (.iload 7, 2) := by decide +kernel
theorem dX7_reasonAt_173 : decode cX7_reasonAt 173 = .ok (.if_icmp .ge 5, 3) := by decide +kernel
theorem dX7_reasonAt_176 : decode cX7_reasonAt 176 = .ok (.iconst 3, 1) := by decide +kernel
theorem dX7_reasonAt_177 : decode cX7_reasonAt 177 = .ok (.ireturn, 1) := by decide +kernel
theorem dX7_reasonAt_178 : decode cX7_reasonAt 178 = .ok (.iload 5, 2) := by decide +kernel
theorem dX7_reasonAt_180 : decode cX7_reasonAt 180 = .ok (.iload 7, 2) := by decide +kernel
theorem dX7_reasonAt_182 : decode cX7_reasonAt 182 = .ok (.if_icmp .ge 5, 3) := by decide +kernel
theorem dX7_reasonAt_185 : decode cX7_reasonAt 185 = .ok (.iconst 4, 1) := by decide +kernel
theorem dX7_reasonAt_186 : decode cX7_reasonAt 186 = .ok (.ireturn, 1) := by decide +kernel
theorem dX7_reasonAt_187 : decode cX7_reasonAt 187 = .ok (.iload 6, 2) := by decide +kernel
theorem dX7_reasonAt_189 : decode cX7_reasonAt 189 = .ok (.iload 7, 2) := by decide +kernel
theorem dX7_reasonAt_191 : decode cX7_reasonAt 191 = .ok (.if_icmp .ge 7, 3) := by decide +kernel
theorem dX7_reasonAt_194 : decode cX7_reasonAt 194 = .ok (.iconst 5, 1) := by decide +kernel
theorem dX7_reasonAt_195 : decode cX7_reasonAt 195 = .ok (.goto 4, 3) := by decide +kernel
theorem dX7_reasonAt_198 : decode cX7_reasonAt 198 = .ok (.iconst 0, 1) := by decide +kernel
theorem dX7_reasonAt_199 : decode cX7_reasonAt 199 = .ok (.ireturn, 1) := by decide +kernel
set_option maxRecDepth 20000 in
theorem ggX7_reasonNow_X7_isWaiting : GoodIn wsX7_reasonNow wsX7_isWaiting := goodIn_r _ [6, 7, 8, 9, 10, 11, 5, 12, 13, 14, 15, 16, 17, 18, 19, 46, 47, 48, 49, 50, 51, 52, 53, 54, 55, 56, 57, 58, 59, 60, 61, 62, 63, 64, 65, 66, 67, 68, 69] (by decide +kernel) (by decide +kernel)
set_option maxRecDepth 20000 in
theorem gX7_reasonNow_X7_isWaiting : GoodIn wsX7_reasonNow (wsV RX7 117 RX7 yX7_isWaiting wsX7_isWaiting) := goodIn_app (goodIn_of _ (by decide +kernel)) ggX7_reasonNow_X7_isWaiting
set_option maxRecDepth 20000 in
theorem ggX7_reasonNow_X7_reasonAt : GoodIn wsX7_reasonNow wsX7_reasonAt := goodIn_r _ [23, 7, 24, 25, 26, 27, 28, 29, 30, 31, 14, 15, 16, 17, 18, 19, 32, 33, 34, 35, 36, 37, 38, 39, 40, 5, 41, 42, 43, 44, 45, 46, 47, 48, 49, 50, 51, 52, 53, 54, 55, 56, 57, 58, 59, 60, 61, 62, 63, 64, 65, 66, 67, 68, 70, 71, 72, 73, 74, 75, 69, 76, 77, 78] (by decide +kernel) (by decide +kernel)
set_option maxRecDepth 20000 in
theorem gX7_reasonNow_X7_reasonAt : GoodIn wsX7_reasonNow (wsV RX7 210 RX7 yX7_reasonAt wsX7_reasonAt) := goodIn_app (goodIn_of _ (by decide +kernel)) ggX7_reasonNow_X7_reasonAt
theorem dX7_reasonNow_0 : decode cX7_reasonNow 0 = .ok (.aload_n 0, 1) := by decide +kernel
theorem dX7_reasonNow_1 : decode cX7_reasonNow 1 = .ok (.iload_n 1, 1) := by decide +kernel
theorem dX7_reasonNow_2 : decode cX7_reasonNow 2 = .ok (.invokevirtual 117, 3) := by decide +kernel
theorem dX7_reasonNow_5 : decode cX7_reasonNow 5 = .ok (.ifCond .eq 15, 3) := by decide +kernel
theorem dX7_reasonNow_8 : decode cX7_reasonNow 8 = .ok (.aload_n 0, 1) := by decide +kernel
theorem dX7_reasonNow_9 : decode cX7_reasonNow 9 = .ok (.iload_n 1, 1) := by decide +kernel
theorem dX7_reasonNow_10 : decode cX7_reasonNow 10 = .ok (.aload_n 0, 1) := by decide +kernel
theorem dX7_reasonNow_11 : decode cX7_reasonNow 11 = .ok (.getfield 68, 3) := by decide +kernel
theorem dX7_reasonNow_14 : decode cX7_reasonNow 14 = .ok (.invokevirtual 210, 3) := by decide +kernel
theorem dX7_reasonNow_17 : decode cX7_reasonNow 17 = .ok (.goto 4, 3) := by decide +kernel
theorem dX7_reasonNow_20 : decode cX7_reasonNow 20 = .ok (.iconst (-1), 1) := by decide +kernel
theorem dX7_reasonNow_21 : decode cX7_reasonNow 21 = .ok (.ireturn, 1) := by decide +kernel
set_option maxRecDepth 20000 in
theorem ggX7_fewestLogsFor_X7_isWaiting : GoodIn wsX7_fewestLogsFor wsX7_isWaiting := goodIn_r _ [6, 7, 8, 9, 10, 11, 5, 12, 13, 14, 15, 16, 17, 18, 19, 46, 47, 48, 49, 50, 51, 52, 53, 54, 55, 56, 57, 58, 59, 60, 61, 62, 63, 64, 65, 66, 67, 68, 69] (by decide +kernel) (by decide +kernel)
set_option maxRecDepth 20000 in
theorem gX7_fewestLogsFor_X7_isWaiting : GoodIn wsX7_fewestLogsFor (wsV RX7 117 RX7 yX7_isWaiting wsX7_isWaiting) := goodIn_app (goodIn_of _ (by decide +kernel)) ggX7_fewestLogsFor_X7_isWaiting
set_option maxRecDepth 20000 in
theorem ggX7_fewestLogsFor_X7_reasonAt : GoodIn wsX7_fewestLogsFor wsX7_reasonAt := goodIn_r _ [23, 7, 24, 25, 26, 27, 28, 29, 30, 31, 14, 15, 16, 17, 18, 19, 32, 33, 34, 35, 36, 37, 38, 39, 40, 5, 41, 42, 43, 44, 45, 46, 47, 48, 49, 50, 51, 52, 53, 54, 55, 56, 57, 58, 59, 60, 61, 62, 63, 64, 65, 66, 67, 68, 70, 71, 72, 73, 74, 75, 69, 76, 77, 78] (by decide +kernel) (by decide +kernel)
set_option maxRecDepth 20000 in
theorem gX7_fewestLogsFor_X7_reasonAt : GoodIn wsX7_fewestLogsFor (wsV RX7 210 RX7 yX7_reasonAt wsX7_reasonAt) := goodIn_app (goodIn_of _ (by decide +kernel)) ggX7_fewestLogsFor_X7_reasonAt
theorem dX7_fewestLogsFor_0 : decode cX7_fewestLogsFor 0 = .ok (.aload_n 0, 1) := by decide +kernel
theorem dX7_fewestLogsFor_1 : decode cX7_fewestLogsFor 1 = .ok (.iload_n 1, 1) := by decide +kernel
theorem dX7_fewestLogsFor_2 : decode cX7_fewestLogsFor 2 = .ok (.invokevirtual 117, 3) := by decide +kernel
theorem dX7_fewestLogsFor_5 : decode cX7_fewestLogsFor 5 = .ok (.ifCond .ne 5, 3) := by decide +kernel
theorem dX7_fewestLogsFor_8 : decode cX7_fewestLogsFor 8 = .ok (.iconst (-1), 1) := by decide +kernel
theorem dX7_fewestLogsFor_9 : decode cX7_fewestLogsFor 9 = .ok (.ireturn, 1) := by decide +kernel
theorem dX7_fewestLogsFor_10 : decode cX7_fewestLogsFor 10 = .ok (.iconst 0, 1) := by decide +kernel
theorem dX7_fewestLogsFor_11 : decode cX7_fewestLogsFor 11 = .ok (.istore_n 2, 1) := by decide +kernel
theorem dX7_fewestLogsFor_12 : decode cX7_fewestLogsFor 12 = .ok (.iload_n 2, 1) := by decide +kernel
theorem dX7_fewestLogsFor_13 : decode cX7_fewestLogsFor 13 = .ok (.bipush 16, 2) := by decide +kernel
theorem dX7_fewestLogsFor_15 : decode cX7_fewestLogsFor 15 = .ok (.if_icmp .gt 43, 3) := by decide +kernel
theorem dX7_fewestLogsFor_18 : decode cX7_fewestLogsFor 18 = .ok (.aload_n 0, 1) := by decide +kernel
theorem dX7_fewestLogsFor_19 : decode cX7_fewestLogsFor 19 = .ok (.getfield 68, 3) := by decide +kernel
theorem dX7_fewestLogsFor_22 : decode cX7_fewestLogsFor 22 = .ok (.bipush 25, 2) := by decide +kernel
theorem dX7_fewestLogsFor_24 : decode cX7_fewestLogsFor 24 = .ok (.iload_n 2, 1) := by decide +kernel
theorem dX7_fewestLogsFor_25 : decode cX7_fewestLogsFor 25 = .ok (.imul, 1) := by decide +kernel
theorem dX7_fewestLogsFor_26 : decode cX7_fewestLogsFor 26 = .ok (.iadd, 1) := by decide +kernel
theorem dX7_fewestLogsFor_27 : decode cX7_fewestLogsFor 27 = .ok (.sipush 400, 3) := by decide +kernel
theorem dX7_fewestLogsFor_30 : decode cX7_fewestLogsFor 30 = .ok (.if_icmp .gt 28, 3) := by decide +kernel
theorem dX7_fewestLogsFor_33 : decode cX7_fewestLogsFor 33 = .ok (.aload_n 0, 1) := by decide +kernel
theorem dX7_fewestLogsFor_34 : decode cX7_fewestLogsFor 34 = .ok (.iload_n 1, 1) := by decide +kernel
theorem dX7_fewestLogsFor_35 : decode cX7_fewestLogsFor 35 = .ok (.aload_n 0, 1) := by decide +kernel
theorem dX7_fewestLogsFor_36 : decode cX7_fewestLogsFor 36 = .ok (.getfield 68, 3) := by decide +kernel
theorem dX7_fewestLogsFor_39 : decode cX7_fewestLogsFor 39 = .ok (.bipush 25, 2) := by decide +kernel
theorem dX7_fewestLogsFor_41 : decode cX7_fewestLogsFor 41 = .ok (.iload_n 2, 1) := by decide +kernel
theorem dX7_fewestLogsFor_42 : decode cX7_fewestLogsFor 42 = .ok (.imul, 1) := by decide +kernel
theorem dX7_fewestLogsFor_43 : decode cX7_fewestLogsFor 43 = .ok (.iadd, 1) := by decide +kernel
theorem dX7_fewestLogsFor_44 : decode cX7_fewestLogsFor 44 = .ok (.invokevirtual 210, 3) := by decide +kernel
theorem dX7_fewestLogsFor_47 : decode cX7_fewestLogsFor 47 = .ok (.ifCond .ne 5, 3) := by decide +kernel
theorem dX7_fewestLogsFor_50 : decode cX7_fewestLogsFor 50 = .ok (.iload_n 2, 1) := by decide +kernel
theorem dX7_fewestLogsFor_51 : decode cX7_fewestLogsFor 51 = .ok (.ireturn, 1) := by decide +kernel
theorem dX7_fewestLogsFor_52 : decode cX7_fewestLogsFor 52 = .ok (.iinc 2 1, 3) := by decide +kernel
theorem dX7_fewestLogsFor_55 : decode cX7_fewestLogsFor 55 = .ok (.goto (-43), 3) := by decide +kernel
theorem dX7_fewestLogsFor_58 : decode cX7_fewestLogsFor 58 = .ok (.iconst (-1), 1) := by decide +kernel
theorem dX7_fewestLogsFor_59 : decode cX7_fewestLogsFor 59 = .ok (.ireturn, 1) := by decide +kernel
set_option maxRecDepth 20000 in
theorem ggX7_setOfSpoiled_X6_at : GoodIn wsX7_setOfSpoiled wsX6_at := goodIn_r _ [8, 9, 33] (by decide +kernel) (by decide +kernel)
set_option maxRecDepth 20000 in
theorem gX7_setOfSpoiled_X6_at : GoodIn wsX7_setOfSpoiled (wsV RX7 104 RX6 yX6_at wsX6_at) := goodIn_app (goodIn_of _ (by decide +kernel)) ggX7_setOfSpoiled_X6_at
theorem dX7_setOfSpoiled_0 : decode cX7_setOfSpoiled 0 = .ok (.iconst 0, 1) := by decide +kernel
theorem dX7_setOfSpoiled_1 : decode cX7_setOfSpoiled 1 = .ok (.istore_n 1, 1) := by decide +kernel
theorem dX7_setOfSpoiled_2 : decode cX7_setOfSpoiled 2 = .ok (.iconst 0, 1) := by decide +kernel
theorem dX7_setOfSpoiled_3 : decode cX7_setOfSpoiled 3 = .ok (.istore_n 2, 1) := by decide +kernel
theorem dX7_setOfSpoiled_4 : decode cX7_setOfSpoiled 4 = .ok (.iload_n 2, 1) := by decide +kernel
theorem dX7_setOfSpoiled_5 : decode cX7_setOfSpoiled 5 = .ok (.aload_n 0, 1) := by decide +kernel
theorem dX7_setOfSpoiled_6 : decode cX7_setOfSpoiled 6 = .ok (.getfield 28, 3) := by decide +kernel
theorem dX7_setOfSpoiled_9 : decode cX7_setOfSpoiled 9 = .ok (.getfield 96, 3) := by decide +kernel
theorem dX7_setOfSpoiled_12 : decode cX7_setOfSpoiled 12 = .ok (.if_icmp .ge 30, 3) := by decide +kernel
theorem dX7_setOfSpoiled_15 : decode cX7_setOfSpoiled 15 = .ok (.aload_n 0, 1) := by decide +kernel
theorem dX7_setOfSpoiled_16 : decode cX7_setOfSpoiled 16 = .ok (.getfield 28, 3) := by decide +kernel
theorem dX7_setOfSpoiled_19 : decode cX7_setOfSpoiled 19 = .ok (.getfield 101, 3) := by decide +kernel
theorem dX7_setOfSpoiled_22 : decode cX7_setOfSpoiled 22 = .ok (.iload_n 2, 1) := by decide +kernel
theorem dX7_setOfSpoiled_23 : decode cX7_setOfSpoiled 23 = .ok (.invokevirtual 104, 3) := by decide +kernel
theorem dX7_setOfSpoiled_26 : decode cX7_setOfSpoiled 26 = .ok (.iconst 3, 1) := by decide +kernel
theorem dX7_setOfSpoiled_27 : decode cX7_setOfSpoiled 27 = .ok (.if_icmp .ne 9, 3) := by decide +kernel
theorem dX7_setOfSpoiled_30 : decode cX7_setOfSpoiled 30 = .ok (.iload_n 1, 1) := by decide +kernel
theorem dX7_setOfSpoiled_31 : decode cX7_setOfSpoiled 31 = .ok (.iconst 1, 1) := by decide +kernel
theorem dX7_setOfSpoiled_32 : decode cX7_setOfSpoiled 32 = .ok (.iload_n 2, 1) := by decide +kernel
theorem dX7_setOfSpoiled_33 : decode cX7_setOfSpoiled 33 = .ok (.ishl, 1) := by decide +kernel
theorem dX7_setOfSpoiled_34 : decode cX7_setOfSpoiled 34 = .ok (.ior, 1) := by decide +kernel
theorem dX7_setOfSpoiled_35 : decode cX7_setOfSpoiled 35 = .ok (.istore_n 1, 1) := by decide +kernel
theorem dX7_setOfSpoiled_36 : decode cX7_setOfSpoiled 36 = .ok (.iinc 2 1, 3) := by decide +kernel
theorem dX7_setOfSpoiled_39 : decode cX7_setOfSpoiled 39 = .ok (.goto (-35), 3) := by decide +kernel
theorem dX7_setOfSpoiled_42 : decode cX7_setOfSpoiled 42 = .ok (.iload_n 1, 1) := by decide +kernel
theorem dX7_setOfSpoiled_43 : decode cX7_setOfSpoiled 43 = .ok (.ireturn, 1) := by decide +kernel
set_option maxRecDepth 20000 in
theorem ggX7_valueOfKind_X6_at : GoodIn wsX7_valueOfKind wsX6_at := goodIn_r _ [11, 12, 33] (by decide +kernel) (by decide +kernel)
set_option maxRecDepth 20000 in
theorem gX7_valueOfKind_X6_at : GoodIn wsX7_valueOfKind (wsV RX7 104 RX6 yX6_at wsX6_at) := goodIn_app (goodIn_of _ (by decide +kernel)) ggX7_valueOfKind_X6_at
theorem dX7_valueOfKind_0 : decode cX7_valueOfKind 0 = .ok (.iload_n 2, 1) := by decide +kernel
theorem dX7_valueOfKind_1 : decode cX7_valueOfKind 1 = .ok (.tableswitch 79 0 3 #[31, 43, 55, 67], 31) := by decide +kernel
theorem dX7_valueOfKind_32 : decode cX7_valueOfKind 32 = .ok (.aload_n 0, 1) := by decide +kernel
theorem dX7_valueOfKind_33 : decode cX7_valueOfKind 33 = .ok (.getfield 12, 3) := by decide +kernel
theorem dX7_valueOfKind_36 : decode cX7_valueOfKind 36 = .ok (.getfield 124, 3) := by decide +kernel
theorem dX7_valueOfKind_39 : decode cX7_valueOfKind 39 = .ok (.iload_n 1, 1) := by decide +kernel
theorem dX7_valueOfKind_40 : decode cX7_valueOfKind 40 = .ok (.invokevirtual 104, 3) := by decide +kernel
theorem dX7_valueOfKind_43 : decode cX7_valueOfKind 43 = .ok (.ireturn, 1) := by decide +kernel
theorem dX7_valueOfKind_44 : decode cX7_valueOfKind 44 = .ok (.aload_n 0, 1) := by decide +kernel
theorem dX7_valueOfKind_45 : decode cX7_valueOfKind 45 = .ok (.getfield 12, 3) := by decide +kernel
theorem dX7_valueOfKind_48 : decode cX7_valueOfKind 48 = .ok (.getfield 131, 3) := by decide +kernel
theorem dX7_valueOfKind_51 : decode cX7_valueOfKind 51 = .ok (.iload_n 1, 1) := by decide +kernel
theorem dX7_valueOfKind_52 : decode cX7_valueOfKind 52 = .ok (.invokevirtual 104, 3) := by decide +kernel
theorem dX7_valueOfKind_55 : decode cX7_valueOfKind 55 = .ok (.ireturn, 1) := by decide +kernel
theorem dX7_valueOfKind_56 : decode cX7_valueOfKind 56 = .ok (.aload_n 0, 1) := by decide +kernel
theorem dX7_valueOfKind_57 : decode cX7_valueOfKind 57 = .ok (.getfield 12, 3) := by decide +kernel
theorem dX7_valueOfKind_60 : decode cX7_valueOfKind 60 = .ok (.getfield 134, 3) := by decide +kernel
theorem dX7_valueOfKind_63 : decode cX7_valueOfKind 63 = .ok (.iload_n 1, 1) := by decide +kernel
theorem dX7_valueOfKind_64 : decode cX7_valueOfKind 64 = .ok (.invokevirtual 104, 3) := by decide +kernel
theorem dX7_valueOfKind_67 : decode cX7_valueOfKind 67 = .ok (.ireturn, 1) := by decide +kernel
theorem dX7_valueOfKind_68 : decode cX7_valueOfKind 68 = .ok (.aload_n 0, 1) := by decide +kernel
theorem dX7_valueOfKind_69 : decode cX7_valueOfKind 69 = .ok (.getfield 12, 3) := by decide +kernel
theorem dX7_valueOfKind_72 : decode cX7_valueOfKind 72 = .ok (.getfield 137, 3) := by decide +kernel
theorem dX7_valueOfKind_75 : decode cX7_valueOfKind 75 = .ok (.iload_n 1, 1) := by decide +kernel
theorem dX7_valueOfKind_76 : decode cX7_valueOfKind 76 = .ok (.invokevirtual 104, 3) := by decide +kernel
theorem dX7_valueOfKind_79 : decode cX7_valueOfKind 79 = .ok (.ireturn, 1) := by decide +kernel
theorem dX7_valueOfKind_80 : decode cX7_valueOfKind 80 = .ok (.aload_n 0, 1) := by decide +kernel
theorem dX7_valueOfKind_81 : decode cX7_valueOfKind 81 = .ok (.getfield 12, 3) := by decide +kernel
theorem dX7_valueOfKind_84 : decode cX7_valueOfKind 84 = .ok (.getfield 140, 3) := by decide +kernel
theorem dX7_valueOfKind_87 : decode cX7_valueOfKind 87 = .ok (.iload_n 1, 1) := by decide +kernel
theorem dX7_valueOfKind_88 : decode cX7_valueOfKind 88 = .ok (.invokevirtual 104, 3) := by decide +kernel
theorem dX7_valueOfKind_91 : decode cX7_valueOfKind 91 = .ok (.ireturn, 1) := by decide +kernel
set_option maxRecDepth 20000 in
theorem ggX7_valueOfHouse_X6_at : GoodIn wsX7_valueOfHouse wsX6_at := goodIn_r _ [12, 13, 43] (by decide +kernel) (by decide +kernel)
set_option maxRecDepth 20000 in
theorem gX7_valueOfHouse_X6_at : GoodIn wsX7_valueOfHouse (wsV RX7 104 RX6 yX6_at wsX6_at) := goodIn_app (goodIn_of _ (by decide +kernel)) ggX7_valueOfHouse_X6_at
set_option maxRecDepth 20000 in
theorem ggX7_valueOfHouse_X7_countDoughsOf : GoodIn wsX7_valueOfHouse wsX7_countDoughsOf := goodIn_r _ [18, 19, 20, 21, 8, 9, 10, 11, 12, 13, 22, 23, 24, 25, 26, 27, 28, 29, 30, 31, 32, 33, 34, 35, 44, 45, 46, 47, 48, 49, 50, 51, 52, 43] (by decide +kernel) (by decide +kernel)
set_option maxRecDepth 20000 in
theorem gX7_valueOfHouse_X7_countDoughsOf : GoodIn wsX7_valueOfHouse (wsV RX7 248 RX7 yX7_countDoughsOf wsX7_countDoughsOf) := goodIn_app (goodIn_of _ (by decide +kernel)) ggX7_valueOfHouse_X7_countDoughsOf
theorem dX7_valueOfHouse_0 : decode cX7_valueOfHouse 0 = .ok (.iload_n 2, 1) := by decide +kernel
theorem dX7_valueOfHouse_1 : decode cX7_valueOfHouse 1 = .ok (.tableswitch 105 0 5 #[39, 51, 63, 75, 87, 93], 39) := by decide +kernel
theorem dX7_valueOfHouse_40 : decode cX7_valueOfHouse 40 = .ok (.aload_n 0, 1) := by decide +kernel
theorem dX7_valueOfHouse_41 : decode cX7_valueOfHouse 41 = .ok (.getfield 21, 3) := by decide +kernel
theorem dX7_valueOfHouse_44 : decode cX7_valueOfHouse 44 = .ok (.getfield 120, 3) := by decide +kernel
theorem dX7_valueOfHouse_47 : decode cX7_valueOfHouse 47 = .ok (.iload_n 1, 1) := by decide +kernel
theorem dX7_valueOfHouse_48 : decode cX7_valueOfHouse 48 = .ok (.invokevirtual 104, 3) := by decide +kernel
theorem dX7_valueOfHouse_51 : decode cX7_valueOfHouse 51 = .ok (.ireturn, 1) := by decide +kernel
theorem dX7_valueOfHouse_52 : decode cX7_valueOfHouse 52 = .ok (.aload_n 0, 1) := by decide +kernel
theorem dX7_valueOfHouse_53 : decode cX7_valueOfHouse 53 = .ok (.getfield 21, 3) := by decide +kernel
theorem dX7_valueOfHouse_56 : decode cX7_valueOfHouse 56 = .ok (.getfield 189, 3) := by decide +kernel
theorem dX7_valueOfHouse_59 : decode cX7_valueOfHouse 59 = .ok (.iload_n 1, 1) := by decide +kernel
theorem dX7_valueOfHouse_60 : decode cX7_valueOfHouse 60 = .ok (.invokevirtual 104, 3) := by decide +kernel
theorem dX7_valueOfHouse_63 : decode cX7_valueOfHouse 63 = .ok (.ireturn, 1) := by decide +kernel
theorem dX7_valueOfHouse_64 : decode cX7_valueOfHouse 64 = .ok (.aload_n 0, 1) := by decide +kernel
theorem dX7_valueOfHouse_65 : decode cX7_valueOfHouse 65 = .ok (.getfield 21, 3) := by decide +kernel
theorem dX7_valueOfHouse_68 : decode cX7_valueOfHouse 68 = .ok (.getfield 179, 3) := by decide +kernel
theorem dX7_valueOfHouse_71 : decode cX7_valueOfHouse 71 = .ok (.iload_n 1, 1) := by decide +kernel
theorem dX7_valueOfHouse_72 : decode cX7_valueOfHouse 72 = .ok (.invokevirtual 104, 3) := by decide +kernel
theorem dX7_valueOfHouse_75 : decode cX7_valueOfHouse 75 = .ok (.ireturn, 1) := by decide +kernel
theorem dX7_valueOfHouse_76 : decode cX7_valueOfHouse 76 = .ok (.aload_n 0, 1) := by decide +kernel
theorem dX7_valueOfHouse_77 : decode cX7_valueOfHouse 77 = .ok (.getfield 21, 3) := by decide +kernel
theorem dX7_valueOfHouse_80 : decode cX7_valueOfHouse 80 = .ok (.getfield 176, 3) := by decide +kernel
theorem dX7_valueOfHouse_83 : decode cX7_valueOfHouse 83 = .ok (.iload_n 1, 1) := by decide +kernel
theorem dX7_valueOfHouse_84 : decode cX7_valueOfHouse 84 = .ok (.invokevirtual 104, 3) := by decide +kernel
theorem dX7_valueOfHouse_87 : decode cX7_valueOfHouse 87 = .ok (.ireturn, 1) := by decide +kernel
theorem dX7_valueOfHouse_88 : decode cX7_valueOfHouse 88 = .ok (.aload_n 0, 1) := by decide +kernel
theorem dX7_valueOfHouse_89 : decode cX7_valueOfHouse 89 = .ok (.iload_n 1, 1) := by decide +kernel
theorem dX7_valueOfHouse_90 : decode cX7_valueOfHouse 90 = .ok (.invokevirtual 248, 3) := by decide +kernel
theorem dX7_valueOfHouse_93 : decode cX7_valueOfHouse 93 = .ok (.ireturn, 1) := by decide +kernel
theorem dX7_valueOfHouse_94 : decode cX7_valueOfHouse 94 = .ok (.aload_n 0, 1) := by decide +kernel
theorem dX7_valueOfHouse_95 : decode cX7_valueOfHouse 95 = .ok (.getfield 21, 3) := by decide +kernel
theorem dX7_valueOfHouse_98 : decode cX7_valueOfHouse 98 = .ok (.getfield 238, 3) := by decide +kernel
theorem dX7_valueOfHouse_101 : decode cX7_valueOfHouse 101 = .ok (.iload_n 1, 1) := by decide +kernel
theorem dX7_valueOfHouse_102 : decode cX7_valueOfHouse 102 = .ok (.invokevirtual 104, 3) := by decide +kernel
theorem dX7_valueOfHouse_105 : decode cX7_valueOfHouse 105 = .ok (.ireturn, 1) := by decide +kernel
theorem dX7_valueOfHouse_106 : decode cX7_valueOfHouse 106 = .ok (.aload_n 0, 1) := by decide +kernel
theorem dX7_valueOfHouse_107 : decode cX7_valueOfHouse 107 = .ok (.getfield 21, 3) := by decide +kernel
theorem dX7_valueOfHouse_110 : decode cX7_valueOfHouse 110 = .ok (.getfield 240, 3) := by decide +kernel
theorem dX7_valueOfHouse_113 : decode cX7_valueOfHouse 113 = .ok (.iload_n 1, 1) := by decide +kernel
theorem dX7_valueOfHouse_114 : decode cX7_valueOfHouse 114 = .ok (.invokevirtual 104, 3) := by decide +kernel
theorem dX7_valueOfHouse_117 : decode cX7_valueOfHouse 117 = .ok (.ireturn, 1) := by decide +kernel
set_option maxRecDepth 20000 in
theorem ggX7_countDoughsOf_X6_at : GoodIn wsX7_countDoughsOf wsX6_at := goodIn_r _ [8, 9, 33] (by decide +kernel) (by decide +kernel)
set_option maxRecDepth 20000 in
theorem gX7_countDoughsOf_X6_at : GoodIn wsX7_countDoughsOf (wsV RX7 104 RX6 yX6_at wsX6_at) := goodIn_app (goodIn_of _ (by decide +kernel)) ggX7_countDoughsOf_X6_at
theorem dX7_countDoughsOf_0 : decode cX7_countDoughsOf 0 = .ok (.iconst 0, 1) := by decide +kernel
theorem dX7_countDoughsOf_1 : decode cX7_countDoughsOf 1 = .ok (.istore_n 2, 1) := by decide +kernel
theorem dX7_countDoughsOf_2 : decode cX7_countDoughsOf 2 = .ok (.iconst 0, 1) := by decide +kernel
theorem dX7_countDoughsOf_3 : decode cX7_countDoughsOf 3 = .ok (.istore_n 3, 1) := by decide +kernel
theorem dX7_countDoughsOf_4 : decode cX7_countDoughsOf 4 = .ok (.iload_n 3, 1) := by decide +kernel
theorem dX7_countDoughsOf_5 : decode cX7_countDoughsOf 5 = .ok (.aload_n 0, 1) := by decide +kernel
theorem dX7_countDoughsOf_6 : decode cX7_countDoughsOf 6 = .ok (.getfield 28, 3) := by decide +kernel
theorem dX7_countDoughsOf_9 : decode cX7_countDoughsOf 9 = .ok (.getfield 96, 3) := by decide +kernel
theorem dX7_countDoughsOf_12 : decode cX7_countDoughsOf 12 = .ok (.if_icmp .ge 27, 3) := by decide +kernel
theorem dX7_countDoughsOf_15 : decode cX7_countDoughsOf 15 = .ok (.aload_n 0, 1) := by decide +kernel
theorem dX7_countDoughsOf_16 : decode cX7_countDoughsOf 16 = .ok (.getfield 28, 3) := by decide +kernel
theorem dX7_countDoughsOf_19 : decode cX7_countDoughsOf 19 = .ok (.getfield 143, 3) := by decide +kernel
theorem dX7_countDoughsOf_22 : decode cX7_countDoughsOf 22 = .ok (.iload_n 3, 1) := by decide +kernel
theorem dX7_countDoughsOf_23 : decode cX7_countDoughsOf 23 = .ok (.invokevirtual 104, 3) := by decide +kernel
theorem dX7_countDoughsOf_26 : decode cX7_countDoughsOf 26 = .ok (.iload_n 1, 1) := by decide +kernel
theorem dX7_countDoughsOf_27 : decode cX7_countDoughsOf 27 = .ok (.if_icmp .ne 6, 3) := by decide +kernel
theorem dX7_countDoughsOf_30 : decode cX7_countDoughsOf 30 = .ok (.iinc 2 1, 3) := by decide +kernel
theorem dX7_countDoughsOf_33 : decode cX7_countDoughsOf 33 = .ok (.iinc 3 1, 3) := by decide +kernel
theorem dX7_countDoughsOf_36 : decode cX7_countDoughsOf 36 = .ok (.goto (-32), 3) := by decide +kernel
theorem dX7_countDoughsOf_39 : decode cX7_countDoughsOf 39 = .ok (.iload_n 2, 1) := by decide +kernel
theorem dX7_countDoughsOf_40 : decode cX7_countDoughsOf 40 = .ok (.ireturn, 1) := by decide +kernel
set_option maxRecDepth 20000 in
theorem ggX7_valueOfDough_X6_at : GoodIn wsX7_valueOfDough wsX6_at := goodIn_r _ [14, 15, 52] (by decide +kernel) (by decide +kernel)
set_option maxRecDepth 20000 in
theorem gX7_valueOfDough_X6_at : GoodIn wsX7_valueOfDough (wsV RX7 104 RX6 yX6_at wsX6_at) := goodIn_app (goodIn_of _ (by decide +kernel)) ggX7_valueOfDough_X6_at
set_option maxRecDepth 20000 in
theorem ggX7_valueOfDough_X7_placeInLine : GoodIn wsX7_valueOfDough wsX7_placeInLine := goodIn_r _ [20, 21, 22, 10, 11, 12, 13, 14, 15, 29, 30, 31, 32, 33, 34, 35, 36, 37, 38, 39, 40, 41, 42, 52] (by decide +kernel) (by decide +kernel)
set_option maxRecDepth 20000 in
theorem gX7_valueOfDough_X7_placeInLine : GoodIn wsX7_valueOfDough (wsV RX7 170 RX7 yX7_placeInLine wsX7_placeInLine) := goodIn_app (goodIn_of _ (by decide +kernel)) ggX7_valueOfDough_X7_placeInLine
set_option maxRecDepth 20000 in
theorem ggX7_valueOfDough_X7_setOfPlaces : GoodIn wsX7_valueOfDough wsX7_setOfPlaces := goodIn_r _ [26, 27, 28, 10, 11, 12, 13, 14, 15, 29, 30, 31, 32, 33, 34, 35, 36, 37, 38, 39, 40, 41, 42, 53, 54, 55, 52] (by decide +kernel) (by decide +kernel)
set_option maxRecDepth 20000 in
theorem gX7_valueOfDough_X7_setOfPlaces : GoodIn wsX7_valueOfDough (wsV RX7 251 RX7 yX7_setOfPlaces wsX7_setOfPlaces) := goodIn_app (goodIn_of _ (by decide +kernel)) ggX7_valueOfDough_X7_setOfPlaces
theorem dX7_valueOfDough_0 : decode cX7_valueOfDough 0 = .ok (.iload_n 2, 1) := by decide +kernel
theorem dX7_valueOfDough_1 : decode cX7_valueOfDough 1 = .ok (.tableswitch 147 0 8 #[51, 63, 75, 87, 99, 111, 123, 135, 141], 51) := by decide +kernel
theorem dX7_valueOfDough_52 : decode cX7_valueOfDough 52 = .ok (.aload_n 0, 1) := by decide +kernel
theorem dX7_valueOfDough_53 : decode cX7_valueOfDough 53 = .ok (.getfield 28, 3) := by decide +kernel
theorem dX7_valueOfDough_56 : decode cX7_valueOfDough 56 = .ok (.getfield 143, 3) := by decide +kernel
theorem dX7_valueOfDough_59 : decode cX7_valueOfDough 59 = .ok (.iload_n 1, 1) := by decide +kernel
theorem dX7_valueOfDough_60 : decode cX7_valueOfDough 60 = .ok (.invokevirtual 104, 3) := by decide +kernel
theorem dX7_valueOfDough_63 : decode cX7_valueOfDough 63 = .ok (.ireturn, 1) := by decide +kernel
theorem dX7_valueOfDough_64 : decode cX7_valueOfDough 64 = .ok (.aload_n 0, 1) := by decide +kernel
theorem dX7_valueOfDough_65 : decode cX7_valueOfDough 65 = .ok (.getfield 28, 3) := by decide +kernel
theorem dX7_valueOfDough_68 : decode cX7_valueOfDough 68 = .ok (.getfield 146, 3) := by decide +kernel
theorem dX7_valueOfDough_71 : decode cX7_valueOfDough 71 = .ok (.iload_n 1, 1) := by decide +kernel
theorem dX7_valueOfDough_72 : decode cX7_valueOfDough 72 = .ok (.invokevirtual 104, 3) := by decide +kernel
theorem dX7_valueOfDough_75 : decode cX7_valueOfDough 75 = .ok (.ireturn, 1) := by decide +kernel
theorem dX7_valueOfDough_76 : decode cX7_valueOfDough 76 = .ok (.aload_n 0, 1) := by decide +kernel
theorem dX7_valueOfDough_77 : decode cX7_valueOfDough 77 = .ok (.getfield 28, 3) := by decide +kernel
theorem dX7_valueOfDough_80 : decode cX7_valueOfDough 80 = .ok (.getfield 149, 3) := by decide +kernel
theorem dX7_valueOfDough_83 : decode cX7_valueOfDough 83 = .ok (.iload_n 1, 1) := by decide +kernel
theorem dX7_valueOfDough_84 : decode cX7_valueOfDough 84 = .ok (.invokevirtual 104, 3) := by decide +kernel
theorem dX7_valueOfDough_87 : decode cX7_valueOfDough 87 = .ok (.ireturn, 1) := by decide +kernel
theorem dX7_valueOfDough_88 : decode cX7_valueOfDough 88 = .ok (.aload_n 0, 1) := by decide +kernel
theorem dX7_valueOfDough_89 : decode cX7_valueOfDough 89 = .ok (.getfield 28, 3) := by decide +kernel
theorem dX7_valueOfDough_92 : decode cX7_valueOfDough 92 = .ok (.getfield 152, 3) := by decide +kernel
theorem dX7_valueOfDough_95 : decode cX7_valueOfDough 95 = .ok (.iload_n 1, 1) := by decide +kernel
theorem dX7_valueOfDough_96 : decode cX7_valueOfDough 96 = .ok (.invokevirtual 104, 3) := by decide +kernel
theorem dX7_valueOfDough_99 : decode cX7_valueOfDough 99 = .ok (.ireturn, 1) := by decide +kernel
theorem dX7_valueOfDough_100 : decode cX7_valueOfDough 100 = .ok (.aload_n 0, 1) := by decide +kernel
theorem dX7_valueOfDough_101 : decode cX7_valueOfDough 101 = .ok (.getfield 28, 3) := by decide +kernel
theorem dX7_valueOfDough_104 : decode cX7_valueOfDough 104 = .ok (.getfield 101, 3) := by decide +kernel
theorem dX7_valueOfDough_107 : decode cX7_valueOfDough 107 = .ok (.iload_n 1, 1) := by decide +kernel
theorem dX7_valueOfDough_108 : decode cX7_valueOfDough 108 = .ok (.invokevirtual 104, 3) := by decide +kernel
theorem dX7_valueOfDough_111 : decode cX7_valueOfDough 111 = .ok (.ireturn, 1) := by decide +kernel
theorem dX7_valueOfDough_112 : decode cX7_valueOfDough 112 = .ok (.aload_n 0, 1) := by decide +kernel
theorem dX7_valueOfDough_113 : decode cX7_valueOfDough 113 = .ok (.getfield 28, 3) := by decide +kernel
theorem dX7_valueOfDough_116 : decode cX7_valueOfDough 116 = .ok (.getfield 155, 3) := by decide +kernel
theorem dX7_valueOfDough_119 : decode cX7_valueOfDough 119 = .ok (.iload_n 1, 1) := by decide +kernel
theorem dX7_valueOfDough_120 : decode cX7_valueOfDough 120 = .ok (.invokevirtual 104, 3) := by decide +kernel
theorem dX7_valueOfDough_123 : decode cX7_valueOfDough 123 = .ok (.ireturn, 1) := by decide +kernel
theorem dX7_valueOfDough_124 : decode cX7_valueOfDough 124 = .ok (.aload_n 0, 1) := by decide +kernel
theorem dX7_valueOfDough_125 : decode cX7_valueOfDough 125 = .ok (.getfield 28, 3) := by decide +kernel
theorem dX7_valueOfDough_128 : decode cX7_valueOfDough 128 = .ok (.getfield 108, 3) := by decide +kernel
theorem dX7_valueOfDough_131 : decode cX7_valueOfDough 131 = .ok (.iload_n 1, 1) := by decide +kernel
theorem dX7_valueOfDough_132 : decode cX7_valueOfDough 132 = .ok (.invokevirtual 104, 3) := by decide +kernel
theorem dX7_valueOfDough_135 : decode cX7_valueOfDough 135 = .ok (.ireturn, 1) := by decide +kernel
theorem dX7_valueOfDough_136 : decode cX7_valueOfDough 136 = .ok (.aload_n 0, 1) := by decide +kernel
theorem dX7_valueOfDough_137 : decode cX7_valueOfDough 137 = .ok (.iload_n 1, 1) := by decide +kernel
theorem dX7_valueOfDough_138 : decode cX7_valueOfDough 138 = .ok (.invokevirtual 170, 3) := by decide +kernel
theorem dX7_valueOfDough_141 : decode cX7_valueOfDough 141 = .ok (.ireturn, 1) := by decide +kernel
theorem dX7_valueOfDough_142 : decode cX7_valueOfDough 142 = .ok (.aload_n 0, 1) := by decide +kernel
theorem dX7_valueOfDough_143 : decode cX7_valueOfDough 143 = .ok (.iload_n 1, 1) := by decide +kernel
theorem dX7_valueOfDough_144 : decode cX7_valueOfDough 144 = .ok (.invokevirtual 251, 3) := by decide +kernel
theorem dX7_valueOfDough_147 : decode cX7_valueOfDough 147 = .ok (.ireturn, 1) := by decide +kernel
theorem dX7_valueOfDough_148 : decode cX7_valueOfDough 148 = .ok (.aload_n 0, 1) := by decide +kernel
theorem dX7_valueOfDough_149 : decode cX7_valueOfDough 149 = .ok (.getfield 28, 3) := by decide +kernel
theorem dX7_valueOfDough_152 : decode cX7_valueOfDough 152 = .ok (.getfield 158, 3) := by decide +kernel
theorem dX7_valueOfDough_155 : decode cX7_valueOfDough 155 = .ok (.iload_n 1, 1) := by decide +kernel
theorem dX7_valueOfDough_156 : decode cX7_valueOfDough 156 = .ok (.invokevirtual 104, 3) := by decide +kernel
theorem dX7_valueOfDough_159 : decode cX7_valueOfDough 159 = .ok (.ireturn, 1) := by decide +kernel
set_option maxRecDepth 20000 in
theorem ggX7_placeInLine_X6_at : GoodIn wsX7_placeInLine wsX6_at := goodIn_r _ [7, 8, 23] (by decide +kernel) (by decide +kernel)
set_option maxRecDepth 20000 in
theorem gX7_placeInLine_X6_at : GoodIn wsX7_placeInLine (wsV RX7 104 RX6 yX6_at wsX6_at) := goodIn_app (goodIn_of _ (by decide +kernel)) ggX7_placeInLine_X6_at
theorem dX7_placeInLine_0 : decode cX7_placeInLine 0 = .ok (.iconst 0, 1) := by decide +kernel
theorem dX7_placeInLine_1 : decode cX7_placeInLine 1 = .ok (.istore_n 2, 1) := by decide +kernel
theorem dX7_placeInLine_2 : decode cX7_placeInLine 2 = .ok (.iload_n 2, 1) := by decide +kernel
theorem dX7_placeInLine_3 : decode cX7_placeInLine 3 = .ok (.aload_n 0, 1) := by decide +kernel
theorem dX7_placeInLine_4 : decode cX7_placeInLine 4 = .ok (.getfield 64, 3) := by decide +kernel
theorem dX7_placeInLine_7 : decode cX7_placeInLine 7 = .ok (.if_icmp .ge 23, 3) := by decide +kernel
theorem dX7_placeInLine_10 : decode cX7_placeInLine 10 = .ok (.aload_n 0, 1) := by decide +kernel
theorem dX7_placeInLine_11 : decode cX7_placeInLine 11 = .ok (.getfield 44, 3) := by decide +kernel
theorem dX7_placeInLine_14 : decode cX7_placeInLine 14 = .ok (.iload_n 2, 1) := by decide +kernel
theorem dX7_placeInLine_15 : decode cX7_placeInLine 15 = .ok (.invokevirtual 104, 3) := by decide +kernel
theorem dX7_placeInLine_18 : decode cX7_placeInLine 18 = .ok (.iload_n 1, 1) := by decide +kernel
theorem dX7_placeInLine_19 : decode cX7_placeInLine 19 = .ok (.if_icmp .ne 5, 3) := by decide +kernel
theorem dX7_placeInLine_22 : decode cX7_placeInLine 22 = .ok (.iload_n 2, 1) := by decide +kernel
theorem dX7_placeInLine_23 : decode cX7_placeInLine 23 = .ok (.ireturn, 1) := by decide +kernel
theorem dX7_placeInLine_24 : decode cX7_placeInLine 24 = .ok (.iinc 2 1, 3) := by decide +kernel
theorem dX7_placeInLine_27 : decode cX7_placeInLine 27 = .ok (.goto (-25), 3) := by decide +kernel
theorem dX7_placeInLine_30 : decode cX7_placeInLine 30 = .ok (.iconst (-1), 1) := by decide +kernel
theorem dX7_placeInLine_31 : decode cX7_placeInLine 31 = .ok (.ireturn, 1) := by decide +kernel
set_option maxRecDepth 20000 in
theorem ggX7_setOfPlaces_X6_at : GoodIn wsX7_setOfPlaces wsX6_at := goodIn_r _ [7, 8, 26] (by decide +kernel) (by decide +kernel)
set_option maxRecDepth 20000 in
theorem gX7_setOfPlaces_X6_at : GoodIn wsX7_setOfPlaces (wsV RX7 104 RX6 yX6_at wsX6_at) := goodIn_app (goodIn_of _ (by decide +kernel)) ggX7_setOfPlaces_X6_at
theorem dX7_setOfPlaces_0 : decode cX7_setOfPlaces 0 = .ok (.iconst 0, 1) := by decide +kernel
theorem dX7_setOfPlaces_1 : decode cX7_setOfPlaces 1 = .ok (.istore_n 2, 1) := by decide +kernel
theorem dX7_setOfPlaces_2 : decode cX7_setOfPlaces 2 = .ok (.iconst 0, 1) := by decide +kernel
theorem dX7_setOfPlaces_3 : decode cX7_setOfPlaces 3 = .ok (.istore_n 3, 1) := by decide +kernel
theorem dX7_setOfPlaces_4 : decode cX7_setOfPlaces 4 = .ok (.iload_n 3, 1) := by decide +kernel
theorem dX7_setOfPlaces_5 : decode cX7_setOfPlaces 5 = .ok (.bipush 12, 2) := by decide +kernel
theorem dX7_setOfPlaces_7 : decode cX7_setOfPlaces 7 = .ok (.if_icmp .ge 30, 3) := by decide +kernel
theorem dX7_setOfPlaces_10 : decode cX7_setOfPlaces 10 = .ok (.aload_n 0, 1) := by decide +kernel
theorem dX7_setOfPlaces_11 : decode cX7_setOfPlaces 11 = .ok (.getfield 35, 3) := by decide +kernel
theorem dX7_setOfPlaces_14 : decode cX7_setOfPlaces 14 = .ok (.getfield 167, 3) := by decide +kernel
theorem dX7_setOfPlaces_17 : decode cX7_setOfPlaces 17 = .ok (.iload_n 3, 1) := by decide +kernel
theorem dX7_setOfPlaces_18 : decode cX7_setOfPlaces 18 = .ok (.invokevirtual 104, 3) := by decide +kernel
theorem dX7_setOfPlaces_21 : decode cX7_setOfPlaces 21 = .ok (.iload_n 1, 1) := by decide +kernel
theorem dX7_setOfPlaces_22 : decode cX7_setOfPlaces 22 = .ok (.if_icmp .ne 9, 3) := by decide +kernel
theorem dX7_setOfPlaces_25 : decode cX7_setOfPlaces 25 = .ok (.iload_n 2, 1) := by decide +kernel
theorem dX7_setOfPlaces_26 : decode cX7_setOfPlaces 26 = .ok (.iconst 1, 1) := by decide +kernel
theorem dX7_setOfPlaces_27 : decode cX7_setOfPlaces 27 = .ok (.iload_n 3, 1) := by decide +kernel
theorem dX7_setOfPlaces_28 : decode cX7_setOfPlaces 28 = .ok (.ishl, 1) := by decide +kernel
theorem dX7_setOfPlaces_29 : decode cX7_setOfPlaces 29 = .ok (.ior, 1) := by decide +kernel
theorem dX7_setOfPlaces_30 : decode cX7_setOfPlaces 30 = .ok (.istore_n 2, 1) := by decide +kernel
theorem dX7_setOfPlaces_31 : decode cX7_setOfPlaces 31 = .ok (.iinc 3 1, 3) := by decide +kernel
theorem dX7_setOfPlaces_34 : decode cX7_setOfPlaces 34 = .ok (.goto (-30), 3) := by decide +kernel
theorem dX7_setOfPlaces_37 : decode cX7_setOfPlaces 37 = .ok (.iload_n 2, 1) := by decide +kernel
theorem dX7_setOfPlaces_38 : decode cX7_setOfPlaces 38 = .ok (.ireturn, 1) := by decide +kernel
set_option maxRecDepth 20000 in
theorem ggX7_valueOfPlace_X7_warmthOf : GoodIn wsX7_valueOfPlace wsX7_warmthOf := goodIn_r _ [9, 10, 11, 12, 13] (by decide +kernel) (by decide +kernel)
set_option maxRecDepth 20000 in
theorem gX7_valueOfPlace_X7_warmthOf : GoodIn wsX7_valueOfPlace (va_wsS RX7 217 yX7_warmthOf wsX7_warmthOf) := goodIn_app (goodIn_of _ (by decide +kernel)) ggX7_valueOfPlace_X7_warmthOf
set_option maxRecDepth 20000 in
theorem ggX7_valueOfPlace_X5_isFree : GoodIn wsX7_valueOfPlace wsX5_isFree := goodIn_r _ [18, 19, 20, 21, 22, 23, 24, 25, 41, 42, 43, 44] (by decide +kernel) (by decide +kernel)
set_option maxRecDepth 20000 in
theorem gX7_valueOfPlace_X5_isFree : GoodIn wsX7_valueOfPlace (wsV RX7 220 RX5 yX5_isFree wsX5_isFree) := goodIn_app (goodIn_of _ (by decide +kernel)) ggX7_valueOfPlace_X5_isFree
set_option maxRecDepth 20000 in
theorem ggX7_valueOfPlace_X6_at : GoodIn wsX7_valueOfPlace wsX6_at := goodIn_r _ [24, 25, 44] (by decide +kernel) (by decide +kernel)
set_option maxRecDepth 20000 in
theorem gX7_valueOfPlace_X6_at : GoodIn wsX7_valueOfPlace (wsV RX7 104 RX6 yX6_at wsX6_at) := goodIn_app (goodIn_of _ (by decide +kernel)) ggX7_valueOfPlace_X6_at
theorem dX7_valueOfPlace_0 : decode cX7_valueOfPlace 0 = .ok (.iload_n 2, 1) := by decide +kernel
theorem dX7_valueOfPlace_1 : decode cX7_valueOfPlace 1 = .ok (.ifCond .ne 12, 3) := by decide +kernel
theorem dX7_valueOfPlace_4 : decode cX7_valueOfPlace 4 = .ok (.iload_n 1, 1) := by decide +kernel
theorem dX7_valueOfPlace_5 : decode cX7_valueOfPlace 5 = .ok (.aload_n 0, 1) := by decide +kernel
theorem dX7_valueOfPlace_6 : decode cX7_valueOfPlace 6 = .ok (.getfield 68, 3) := by decide +kernel
theorem dX7_valueOfPlace_9 : decode cX7_valueOfPlace 9 = .ok (.invokestatic 217, 3) := by decide +kernel
theorem dX7_valueOfPlace_12 : decode cX7_valueOfPlace 12 = .ok (.ireturn, 1) := by decide +kernel
theorem dX7_valueOfPlace_13 : decode cX7_valueOfPlace 13 = .ok (.aload_n 0, 1) := by decide +kernel
theorem dX7_valueOfPlace_14 : decode cX7_valueOfPlace 14 = .ok (.getfield 35, 3) := by decide +kernel
theorem dX7_valueOfPlace_17 : decode cX7_valueOfPlace 17 = .ok (.iload_n 1, 1) := by decide +kernel
theorem dX7_valueOfPlace_18 : decode cX7_valueOfPlace 18 = .ok (.invokevirtual 220, 3) := by decide +kernel
theorem dX7_valueOfPlace_21 : decode cX7_valueOfPlace 21 = .ok (.ifCond .eq 5, 3) := by decide +kernel
theorem dX7_valueOfPlace_24 : decode cX7_valueOfPlace 24 = .ok (.iconst (-1), 1) := by decide +kernel
theorem dX7_valueOfPlace_25 : decode cX7_valueOfPlace 25 = .ok (.ireturn, 1) := by decide +kernel
theorem dX7_valueOfPlace_26 : decode cX7_valueOfPlace 26 = .ok (.iload_n 2, 1) := by decide +kernel
theorem dX7_valueOfPlace_27 : decode cX7_valueOfPlace 27 = .ok (.lookupswitch 49 #[(1, 25), (2, 37)], 25) := by decide +kernel
theorem dX7_valueOfPlace_52 : decode cX7_valueOfPlace 52 = .ok (.aload_n 0, 1) := by decide +kernel
theorem dX7_valueOfPlace_53 : decode cX7_valueOfPlace 53 = .ok (.getfield 35, 3) := by decide +kernel
theorem dX7_valueOfPlace_56 : decode cX7_valueOfPlace 56 = .ok (.getfield 167, 3) := by decide +kernel
theorem dX7_valueOfPlace_59 : decode cX7_valueOfPlace 59 = .ok (.iload_n 1, 1) := by decide +kernel
theorem dX7_valueOfPlace_60 : decode cX7_valueOfPlace 60 = .ok (.invokevirtual 104, 3) := by decide +kernel
theorem dX7_valueOfPlace_63 : decode cX7_valueOfPlace 63 = .ok (.ireturn, 1) := by decide +kernel
theorem dX7_valueOfPlace_64 : decode cX7_valueOfPlace 64 = .ok (.aload_n 0, 1) := by decide +kernel
theorem dX7_valueOfPlace_65 : decode cX7_valueOfPlace 65 = .ok (.getfield 35, 3) := by decide +kernel
theorem dX7_valueOfPlace_68 : decode cX7_valueOfPlace 68 = .ok (.getfield 226, 3) := by decide +kernel
theorem dX7_valueOfPlace_71 : decode cX7_valueOfPlace 71 = .ok (.iload_n 1, 1) := by decide +kernel
theorem dX7_valueOfPlace_72 : decode cX7_valueOfPlace 72 = .ok (.invokevirtual 104, 3) := by decide +kernel
theorem dX7_valueOfPlace_75 : decode cX7_valueOfPlace 75 = .ok (.ireturn, 1) := by decide +kernel
theorem dX7_valueOfPlace_76 : decode cX7_valueOfPlace 76 = .ok (.aload_n 0, 1) := by decide +kernel
theorem dX7_valueOfPlace_77 : decode cX7_valueOfPlace 77 = .ok (.getfield 35, 3) := by decide +kernel
theorem dX7_valueOfPlace_80 : decode cX7_valueOfPlace 80 = .ok (.getfield 229, 3) := by decide +kernel
theorem dX7_valueOfPlace_83 : decode cX7_valueOfPlace 83 = .ok (.iload_n 1, 1) := by decide +kernel
theorem dX7_valueOfPlace_84 : decode cX7_valueOfPlace 84 = .ok (.invokevirtual 104, 3) := by decide +kernel
theorem dX7_valueOfPlace_87 : decode cX7_valueOfPlace 87 = .ok (.ireturn, 1) := by decide +kernel
set_option maxRecDepth 20000 in
theorem ggX7_valueOfWholeHouse_X5_countFree : GoodIn wsX7_valueOfWholeHouse wsX5_countFree := goodIn_r _ [21, 22, 23, 24, 20, 25, 26, 27, 28, 29, 30, 31, 32, 76, 77, 78, 79] (by decide +kernel) (by decide +kernel)
set_option maxRecDepth 20000 in
theorem gX7_valueOfWholeHouse_X5_countFree : GoodIn wsX7_valueOfWholeHouse (wsV RX7 254 RX5 yX5_countFree wsX5_countFree) := goodIn_app (goodIn_of _ (by decide +kernel)) ggX7_valueOfWholeHouse_X5_countFree
set_option maxRecDepth 20000 in
theorem ggX7_valueOfWholeHouse_X7_useOfAll : GoodIn wsX7_valueOfWholeHouse wsX7_useOfAll := goodIn_r _ [37, 3, 4, 38, 39, 28, 29, 30, 31, 32, 40, 41, 42, 43, 44, 45, 46, 47, 48, 49, 50, 51, 52, 53, 60, 61, 62, 63, 64, 65, 66, 79] (by decide +kernel) (by decide +kernel)
set_option maxRecDepth 20000 in
theorem gX7_valueOfWholeHouse_X7_useOfAll : GoodIn wsX7_valueOfWholeHouse (wsV RX7 182 RX7 yX7_useOfAll wsX7_useOfAll) := goodIn_app (goodIn_of _ (by decide +kernel)) ggX7_valueOfWholeHouse_X7_useOfAll
theorem dX7_valueOfWholeHouse_0 : decode cX7_valueOfWholeHouse 0 = .ok (.iload_n 1, 1) := by decide +kernel
theorem dX7_valueOfWholeHouse_1 : decode cX7_valueOfWholeHouse 1 = .ok (.tableswitch 144 0 12 #[67, 75, 83, 91, 96, 101, 106, 114, 119, 124, 129, 134, 139], 67) := by decide +kernel
theorem dX7_valueOfWholeHouse_68 : decode cX7_valueOfWholeHouse 68 = .ok (.aload_n 0, 1) := by decide +kernel
theorem dX7_valueOfWholeHouse_69 : decode cX7_valueOfWholeHouse 69 = .ok (.getfield 12, 3) := by decide +kernel
theorem dX7_valueOfWholeHouse_72 : decode cX7_valueOfWholeHouse 72 = .ok (.getfield 92, 3) := by decide +kernel
theorem dX7_valueOfWholeHouse_75 : decode cX7_valueOfWholeHouse 75 = .ok (.ireturn, 1) := by decide +kernel
theorem dX7_valueOfWholeHouse_76 : decode cX7_valueOfWholeHouse 76 = .ok (.aload_n 0, 1) := by decide +kernel
theorem dX7_valueOfWholeHouse_77 : decode cX7_valueOfWholeHouse 77 = .ok (.getfield 21, 3) := by decide +kernel
theorem dX7_valueOfWholeHouse_80 : decode cX7_valueOfWholeHouse 80 = .ok (.getfield 95, 3) := by decide +kernel
theorem dX7_valueOfWholeHouse_83 : decode cX7_valueOfWholeHouse 83 = .ok (.ireturn, 1) := by decide +kernel
theorem dX7_valueOfWholeHouse_84 : decode cX7_valueOfWholeHouse 84 = .ok (.aload_n 0, 1) := by decide +kernel
theorem dX7_valueOfWholeHouse_85 : decode cX7_valueOfWholeHouse 85 = .ok (.getfield 28, 3) := by decide +kernel
theorem dX7_valueOfWholeHouse_88 : decode cX7_valueOfWholeHouse 88 = .ok (.getfield 96, 3) := by decide +kernel
theorem dX7_valueOfWholeHouse_91 : decode cX7_valueOfWholeHouse 91 = .ok (.ireturn, 1) := by decide +kernel
theorem dX7_valueOfWholeHouse_92 : decode cX7_valueOfWholeHouse 92 = .ok (.aload_n 0, 1) := by decide +kernel
theorem dX7_valueOfWholeHouse_93 : decode cX7_valueOfWholeHouse 93 = .ok (.getfield 68, 3) := by decide +kernel
theorem dX7_valueOfWholeHouse_96 : decode cX7_valueOfWholeHouse 96 = .ok (.ireturn, 1) := by decide +kernel
theorem dX7_valueOfWholeHouse_97 : decode cX7_valueOfWholeHouse 97 = .ok (.aload_n 0, 1) := by decide +kernel
theorem dX7_valueOfWholeHouse_98 : decode cX7_valueOfWholeHouse 98 = .ok (.getfield 71, 3) := by decide +kernel
theorem dX7_valueOfWholeHouse_101 : decode cX7_valueOfWholeHouse 101 = .ok (.ireturn, 1) := by decide +kernel
theorem dX7_valueOfWholeHouse_102 : decode cX7_valueOfWholeHouse 102 = .ok (.aload_n 0, 1) := by decide +kernel
theorem dX7_valueOfWholeHouse_103 : decode cX7_valueOfWholeHouse 103 = .ok (.getfield 64, 3) := by decide +kernel
theorem dX7_valueOfWholeHouse_106 : decode cX7_valueOfWholeHouse 106 = .ok (.ireturn, 1) := by decide +kernel
theorem dX7_valueOfWholeHouse_107 : decode cX7_valueOfWholeHouse 107 = .ok (.aload_n 0, 1) := by decide +kernel
theorem dX7_valueOfWholeHouse_108 : decode cX7_valueOfWholeHouse 108 = .ok (.getfield 35, 3) := by decide +kernel
theorem dX7_valueOfWholeHouse_111 : decode cX7_valueOfWholeHouse 111 = .ok (.invokevirtual 254, 3) := by decide +kernel
theorem dX7_valueOfWholeHouse_114 : decode cX7_valueOfWholeHouse 114 = .ok (.ireturn, 1) := by decide +kernel
theorem dX7_valueOfWholeHouse_115 : decode cX7_valueOfWholeHouse 115 = .ok (.aload_n 0, 1) := by decide +kernel
theorem dX7_valueOfWholeHouse_116 : decode cX7_valueOfWholeHouse 116 = .ok (.getfield 74, 3) := by decide +kernel
theorem dX7_valueOfWholeHouse_119 : decode cX7_valueOfWholeHouse 119 = .ok (.ireturn, 1) := by decide +kernel
theorem dX7_valueOfWholeHouse_120 : decode cX7_valueOfWholeHouse 120 = .ok (.aload_n 0, 1) := by decide +kernel
theorem dX7_valueOfWholeHouse_121 : decode cX7_valueOfWholeHouse 121 = .ok (.invokevirtual 182, 3) := by decide +kernel
theorem dX7_valueOfWholeHouse_124 : decode cX7_valueOfWholeHouse 124 = .ok (.ireturn, 1) := by decide +kernel
theorem dX7_valueOfWholeHouse_125 : decode cX7_valueOfWholeHouse 125 = .ok (.aload_n 0, 1) := by decide +kernel
theorem dX7_valueOfWholeHouse_126 : decode cX7_valueOfWholeHouse 126 = .ok (.getfield 77, 3) := by decide +kernel
theorem dX7_valueOfWholeHouse_129 : decode cX7_valueOfWholeHouse 129 = .ok (.ireturn, 1) := by decide +kernel
theorem dX7_valueOfWholeHouse_130 : decode cX7_valueOfWholeHouse 130 = .ok (.aload_n 0, 1) := by decide +kernel
theorem dX7_valueOfWholeHouse_131 : decode cX7_valueOfWholeHouse 131 = .ok (.getfield 80, 3) := by decide +kernel
theorem dX7_valueOfWholeHouse_134 : decode cX7_valueOfWholeHouse 134 = .ok (.ireturn, 1) := by decide +kernel
theorem dX7_valueOfWholeHouse_135 : decode cX7_valueOfWholeHouse 135 = .ok (.aload_n 0, 1) := by decide +kernel
theorem dX7_valueOfWholeHouse_136 : decode cX7_valueOfWholeHouse 136 = .ok (.getfield 83, 3) := by decide +kernel
theorem dX7_valueOfWholeHouse_139 : decode cX7_valueOfWholeHouse 139 = .ok (.ireturn, 1) := by decide +kernel
theorem dX7_valueOfWholeHouse_140 : decode cX7_valueOfWholeHouse 140 = .ok (.aload_n 0, 1) := by decide +kernel
theorem dX7_valueOfWholeHouse_141 : decode cX7_valueOfWholeHouse 141 = .ok (.getfield 86, 3) := by decide +kernel
theorem dX7_valueOfWholeHouse_144 : decode cX7_valueOfWholeHouse 144 = .ok (.ireturn, 1) := by decide +kernel
theorem dX7_valueOfWholeHouse_145 : decode cX7_valueOfWholeHouse 145 = .ok (.aload_n 0, 1) := by decide +kernel
theorem dX7_valueOfWholeHouse_146 : decode cX7_valueOfWholeHouse 146 = .ok (.getfield 89, 3) := by decide +kernel
theorem dX7_valueOfWholeHouse_149 : decode cX7_valueOfWholeHouse 149 = .ok (.ireturn, 1) := by decide +kernel
set_option maxRecDepth 20000 in
theorem ggX7_doughInLine_X6_at : GoodIn wsX7_doughInLine wsX6_at := goodIn_r _ [7, 8, 23] (by decide +kernel) (by decide +kernel)
set_option maxRecDepth 20000 in
theorem gX7_doughInLine_X6_at : GoodIn wsX7_doughInLine (wsV RX7 104 RX6 yX6_at wsX6_at) := goodIn_app (goodIn_of _ (by decide +kernel)) ggX7_doughInLine_X6_at
theorem dX7_doughInLine_0 : decode cX7_doughInLine 0 = .ok (.iload_n 1, 1) := by decide +kernel
theorem dX7_doughInLine_1 : decode cX7_doughInLine 1 = .ok (.ifCond .lt 22, 3) := by decide +kernel
theorem dX7_doughInLine_4 : decode cX7_doughInLine 4 = .ok (.iload_n 1, 1) := by decide +kernel
theorem dX7_doughInLine_5 : decode cX7_doughInLine 5 = .ok (.aload_n 0, 1) := by decide +kernel
theorem dX7_doughInLine_6 : decode cX7_doughInLine 6 = .ok (.getfield 64, 3) := by decide +kernel
theorem dX7_doughInLine_9 : decode cX7_doughInLine 9 = .ok (.if_icmp .ge 14, 3) := by decide +kernel
theorem dX7_doughInLine_12 : decode cX7_doughInLine 12 = .ok (.aload_n 0, 1) := by decide +kernel
theorem dX7_doughInLine_13 : decode cX7_doughInLine 13 = .ok (.getfield 44, 3) := by decide +kernel
theorem dX7_doughInLine_16 : decode cX7_doughInLine 16 = .ok (.iload_n 1, 1) := by decide +kernel
theorem dX7_doughInLine_17 : decode cX7_doughInLine 17 = .ok (.invokevirtual 104, 3) := by decide +kernel
theorem dX7_doughInLine_20 : decode cX7_doughInLine 20 = .ok (.goto 4, 3) := by decide +kernel
theorem dX7_doughInLine_23 : decode cX7_doughInLine 23 = .ok (.iconst (-1), 1) := by decide +kernel
theorem dX7_doughInLine_24 : decode cX7_doughInLine 24 = .ok (.ireturn, 1) := by decide +kernel
set_option maxRecDepth 20000 in
theorem ggX8_init_X7_init : GoodIn wsX8_init wsX7_init := goodIn_r _ [18, 19, 2, 3, 20, 21, 22, 23, 24, 25, 26, 27, 28, 29, 30, 31, 32, 33, 34, 35, 36, 37, 38, 39, 40, 41, 42, 43, 44, 45, 46, 47, 48, 49, 50, 51, 52, 53, 54, 55, 56, 57, 58, 59, 60, 61, 62, 63, 64, 65, 66, 67, 68, 69, 70, 71, 72, 73, 74, 75, 76, 77, 78, 79, 80, 81, 82, 83, 84, 85, 86, 87, 88, 89, 90, 91, 92, 134, 135, 136, 137, 138, 139, 107, 108, 109, 110, 111, 112, 113, 114, 115, 116, 117, 118, 119, 120, 140, 141, 142, 143, 144, 145, 146, 147, 148, 149, 150, 151, 152, 153, 154, 155, 156, 157, 158, 159] (by decide +kernel) (by decide +kernel)
set_option maxRecDepth 20000 in
theorem gX8_init_X7_init_n9 : GoodIn wsX8_init (wsX7_init) := ggX8_init_X7_init
set_option maxRecDepth 20000 in
theorem ggX8_init_X2_init : GoodIn wsX8_init wsX2_init := goodIn_r _ [95, 96, 2, 3, 97, 98, 5, 6, 17, 18, 19, 20, 21, 22, 23, 24, 25, 26, 27, 28, 29, 30, 31, 32, 33, 34, 35, 36, 37, 38, 39, 40, 41, 42, 43, 44, 45, 46, 47, 48, 49, 50, 51, 52, 53, 54, 55, 56, 57, 58, 59, 60, 61, 62, 63, 64, 65, 66, 67, 68, 69, 70, 71, 72, 73, 74, 75, 76, 77, 78, 79, 80, 81, 82, 83, 84, 85, 86, 87, 88, 89, 90, 91, 92, 125, 126, 127, 107, 108, 109, 110, 111, 112, 113, 114, 115, 116, 117, 118, 119, 120, 134, 135, 136, 137, 138, 139, 140, 141, 142, 143, 144, 145, 146, 147, 148, 149, 150, 151, 152, 153, 154, 155, 156, 157, 158, 159] (by decide +kernel) (by decide +kernel)
set_option maxRecDepth 20000 in
theorem gX8_init_X2_init : GoodIn wsX8_init (wsX2_init) := ggX8_init_X2_init
set_option maxRecDepth 20000 in
theorem ggX8_init_X0_init : GoodIn wsX8_init wsX0_init := goodIn_r _ [100, 101, 2, 3, 102, 37, 38, 103, 104, 105, 106, 50, 51, 52, 53, 54, 159, 128, 129, 130, 131, 132, 133] (by decide +kernel) (by decide +kernel)
set_option maxRecDepth 20000 in
theorem gX8_init_X0_init_n28 : GoodIn wsX8_init (wsX0_init) := ggX8_init_X0_init
theorem dX8_init_0 : decode cX8_init 0 = .ok (.aload_n 0, 1) := by decide +kernel
theorem dX8_init_1 : decode cX8_init 1 = .ok (.invokespecial 1, 3) := by decide +kernel
theorem dX8_init_4 : decode cX8_init 4 = .ok (.aload_n 0, 1) := by decide +kernel
theorem dX8_init_5 : decode cX8_init 5 = .ok (.new 7, 3) := by decide +kernel
theorem dX8_init_8 : decode cX8_init 8 = .ok (.dup, 1) := by decide +kernel
theorem dX8_init_9 : decode cX8_init 9 = .ok (.invokespecial 9, 3) := by decide +kernel
theorem dX8_init_12 : decode cX8_init 12 = .ok (.putfield 10, 3) := by decide +kernel
theorem dX8_init_15 : decode cX8_init 15 = .ok (.aload_n 0, 1) := by decide +kernel
theorem dX8_init_16 : decode cX8_init 16 = .ok (.new 7, 3) := by decide +kernel
theorem dX8_init_19 : decode cX8_init 19 = .ok (.dup, 1) := by decide +kernel
theorem dX8_init_20 : decode cX8_init 20 = .ok (.invokespecial 9, 3) := by decide +kernel
theorem dX8_init_23 : decode cX8_init 23 = .ok (.putfield 16, 3) := by decide +kernel
theorem dX8_init_26 : decode cX8_init 26 = .ok (.aload_n 0, 1) := by decide +kernel
theorem dX8_init_27 : decode cX8_init 27 = .ok (.new 19, 3) := by decide +kernel
theorem dX8_init_30 : decode cX8_init 30 = .ok (.dup, 1) := by decide +kernel
theorem dX8_init_31 : decode cX8_init 31 = .ok (.invokespecial 21, 3) := by decide +kernel
theorem dX8_init_34 : decode cX8_init 34 = .ok (.putfield 22, 3) := by decide +kernel
theorem dX8_init_37 : decode cX8_init 37 = .ok (.aload_n 0, 1) := by decide +kernel
theorem dX8_init_38 : decode cX8_init 38 = .ok (.new 26, 3) := by decide +kernel
theorem dX8_init_41 : decode cX8_init 41 = .ok (.dup, 1) := by decide +kernel
theorem dX8_init_42 : decode cX8_init 42 = .ok (.invokespecial 28, 3) := by decide +kernel
theorem dX8_init_45 : decode cX8_init 45 = .ok (.putfield 29, 3) := by decide +kernel
theorem dX8_init_48 : decode cX8_init 48 = .ok (.return_, 1) := by decide +kernel
set_option maxRecDepth 20000 in
theorem ggX8_addKind_X7_refusalOfKind : GoodIn wsX8_addKind wsX7_refusalOfKind := goodIn_r _ [7, 8, 9, 129, 130, 131, 132, 133, 134, 135, 136, 137, 138, 139, 140, 141, 142, 143, 144, 145, 146, 147, 148] (by decide +kernel) (by decide +kernel)
set_option maxRecDepth 20000 in
theorem gX8_addKind_X7_refusalOfKind : GoodIn wsX8_addKind (wsV RX8 33 RX7 yX7_refusalOfKind wsX7_refusalOfKind) := goodIn_app (goodIn_of _ (by decide +kernel)) ggX8_addKind_X7_refusalOfKind
set_option maxRecDepth 20000 in
theorem ggX8_addKind_X8_refuse : GoodIn wsX8_addKind wsX8_refuse := goodIn_ca (goodIn_ca (goodIn_ca (goodIn_r _ [13, 14, 15, 16, 17, 18, 19] (by decide +kernel) (by decide +kernel)) (goodIn_sub (fun _ h => List.mem_cons_of_mem _ (List.mem_append_left _ (List.mem_append_left _ (List.mem_append_right _ h)))) (by decide +kernel))) (goodIn_sub (fun _ h => List.mem_cons_of_mem _ (List.mem_append_left _ (List.mem_append_right _ h))) (by decide +kernel))) (goodIn_sub (fun _ h => List.mem_cons_of_mem _ (List.mem_append_right _ h)) (by decide +kernel))
set_option maxRecDepth 20000 in
theorem gX8_addKind_X8_refuse : GoodIn wsX8_addKind (va_wsS RX8 37 yX8_refuse wsX8_refuse) := goodIn_app (goodIn_of _ (by decide +kernel)) ggX8_addKind_X8_refuse
set_option maxRecDepth 20000 in
theorem ggX8_addKind_X2_save : GoodIn wsX8_addKind wsX2_save := goodIn_r _ [24, 25, 26, 27, 28, 29, 23, 30, 31, 32, 33, 34, 6, 35, 8, 36, 37, 38, 39, 40, 41, 42, 43, 44, 45, 46, 47, 48, 49, 50, 51, 52, 53, 54, 55, 56, 57, 58, 59, 60, 61, 62, 63, 64, 65, 66, 67, 68, 69, 70, 71, 72, 73, 74, 75, 76, 77, 78, 79, 80, 81, 82, 83, 84, 85, 86, 87, 88, 89, 90, 91, 92, 93, 94, 95, 96, 97, 98, 99, 100, 101, 102, 103, 104, 105, 106, 107, 108, 109, 110, 111, 149, 150, 151, 129, 130, 131, 132, 133, 134, 135, 136, 137, 138, 139, 140, 141, 142, 143, 144, 145, 146, 147, 148, 152, 153, 154, 155, 156, 157, 158, 159, 160, 161, 162, 163, 164, 165, 166, 167, 168, 169, 170, 171] (by decide +kernel) (by decide +kernel)
set_option maxRecDepth 20000 in
theorem gX8_addKind_X2_save : GoodIn wsX8_addKind (wsV RX8 41 RX2 yX2_save wsX2_save) := goodIn_app (goodIn_of _ (by decide +kernel)) ggX8_addKind_X2_save
set_option maxRecDepth 20000 in
theorem ggX8_addKind_X7_newKind : GoodIn wsX8_addKind wsX7_newKind := goodIn_r _ [115, 8, 9, 116, 117, 118, 119, 120, 121, 122, 123, 63, 124, 65, 129, 130, 131, 132, 133, 134, 135, 136, 137, 138, 139, 140, 141, 142, 143, 144, 145, 146, 147, 148, 152] (by decide +kernel) (by decide +kernel)
set_option maxRecDepth 20000 in
theorem gX8_addKind_X7_newKind : GoodIn wsX8_addKind (wsV RX8 45 RX7 yX7_newKind wsX7_newKind) := goodIn_app (goodIn_of _ (by decide +kernel)) ggX8_addKind_X7_newKind
theorem dX8_addKind_0 : decode cX8_addKind 0 = .ok (.aload_n 0, 1) := by decide +kernel
theorem dX8_addKind_1 : decode cX8_addKind 1 = .ok (.getfield 10, 3) := by decide +kernel
theorem dX8_addKind_4 : decode cX8_addKind 4 = .ok (.iload_n 1, 1) := by decide +kernel
theorem dX8_addKind_5 : decode cX8_addKind 5 = .ok (.iload_n 2, 1) := by decide +kernel
theorem dX8_addKind_6 : decode cX8_addKind 6 = .ok (.iload_n 3, 1) := by decide +kernel
theorem dX8_addKind_7 : decode cX8_addKind 7 = .ok (.iload 4, 2) := by decide +kernel
theorem dX8_addKind_9 : decode cX8_addKind 9 = .ok (.iload 5, 2) := by decide +kernel
theorem dX8_addKind_11 : decode cX8_addKind 11 = .ok (.invokevirtual 33, 3) := by decide +kernel
theorem dX8_addKind_14 : decode cX8_addKind 14 = .ok (.invokestatic 37, 3) := by decide +kernel
theorem dX8_addKind_17 : decode cX8_addKind 17 = .ok (.aload_n 0, 1) := by decide +kernel
theorem dX8_addKind_18 : decode cX8_addKind 18 = .ok (.getfield 22, 3) := by decide +kernel
theorem dX8_addKind_21 : decode cX8_addKind 21 = .ok (.aload_n 0, 1) := by decide +kernel
theorem dX8_addKind_22 : decode cX8_addKind 22 = .ok (.getfield 10, 3) := by decide +kernel
theorem dX8_addKind_25 : decode cX8_addKind 25 = .ok (.invokevirtual 41, 3) := by decide +kernel
theorem dX8_addKind_28 : decode cX8_addKind 28 = .ok (.aload_n 0, 1) := by decide +kernel
theorem dX8_addKind_29 : decode cX8_addKind 29 = .ok (.getfield 10, 3) := by decide +kernel
theorem dX8_addKind_32 : decode cX8_addKind 32 = .ok (.iload_n 1, 1) := by decide +kernel
theorem dX8_addKind_33 : decode cX8_addKind 33 = .ok (.iload_n 2, 1) := by decide +kernel
theorem dX8_addKind_34 : decode cX8_addKind 34 = .ok (.iload_n 3, 1) := by decide +kernel
theorem dX8_addKind_35 : decode cX8_addKind 35 = .ok (.iload 4, 2) := by decide +kernel
theorem dX8_addKind_37 : decode cX8_addKind 37 = .ok (.iload 5, 2) := by decide +kernel
theorem dX8_addKind_39 : decode cX8_addKind 39 = .ok (.invokevirtual 45, 3) := by decide +kernel
theorem dX8_addKind_42 : decode cX8_addKind 42 = .ok (.ireturn, 1) := by decide +kernel
set_option maxRecDepth 20000 in
theorem ggX8_addHouse_X7_refusalOfHouse : GoodIn wsX8_addHouse wsX7_refusalOfHouse := goodIn_r _ [7, 8, 9, 120, 121, 122, 123, 124, 125, 126, 127, 128, 129, 130, 131, 132, 133, 134, 135, 136, 137, 138, 139, 140] (by decide +kernel) (by decide +kernel)
set_option maxRecDepth 20000 in
theorem gX8_addHouse_X7_refusalOfHouse : GoodIn wsX8_addHouse (wsV RX8 48 RX7 yX7_refusalOfHouse wsX7_refusalOfHouse) := goodIn_app (goodIn_of _ (by decide +kernel)) ggX8_addHouse_X7_refusalOfHouse
set_option maxRecDepth 20000 in
theorem ggX8_addHouse_X8_refuse : GoodIn wsX8_addHouse wsX8_refuse := goodIn_ca (goodIn_ca (goodIn_ca (goodIn_r _ [13, 14, 15, 16, 17, 18, 19] (by decide +kernel) (by decide +kernel)) (goodIn_sub (fun _ h => List.mem_cons_of_mem _ (List.mem_append_left _ (List.mem_append_left _ (List.mem_append_right _ h)))) (by decide +kernel))) (goodIn_sub (fun _ h => List.mem_cons_of_mem _ (List.mem_append_left _ (List.mem_append_right _ h))) (by decide +kernel))) (goodIn_sub (fun _ h => List.mem_cons_of_mem _ (List.mem_append_right _ h)) (by decide +kernel))
set_option maxRecDepth 20000 in
theorem gX8_addHouse_X8_refuse : GoodIn wsX8_addHouse (va_wsS RX8 37 yX8_refuse wsX8_refuse) := goodIn_app (goodIn_of _ (by decide +kernel)) ggX8_addHouse_X8_refuse
set_option maxRecDepth 20000 in
theorem ggX8_addHouse_X2_save : GoodIn wsX8_addHouse wsX2_save := goodIn_r _ [24, 25, 26, 27, 28, 29, 23, 30, 31, 32, 33, 34, 6, 35, 36, 8, 37, 38, 39, 40, 41, 42, 43, 44, 45, 46, 47, 48, 49, 50, 51, 52, 53, 54, 55, 56, 57, 58, 59, 60, 61, 62, 63, 64, 65, 66, 67, 68, 69, 70, 71, 72, 73, 74, 75, 76, 77, 78, 79, 80, 81, 82, 83, 84, 85, 86, 87, 88, 89, 90, 91, 92, 93, 94, 95, 96, 97, 98, 99, 100, 101, 102, 103, 104, 105, 106, 107, 108, 109, 110, 111, 141, 142, 143, 120, 121, 122, 123, 124, 125, 126, 127, 128, 129, 130, 131, 132, 133, 144, 145, 146, 147, 148, 149, 150, 134, 135, 136, 137, 138, 139, 140, 151, 152, 153, 154, 155, 156, 157, 158, 159, 160, 161, 162] (by decide +kernel) (by decide +kernel)
set_option maxRecDepth 20000 in
theorem gX8_addHouse_X2_save : GoodIn wsX8_addHouse (wsV RX8 41 RX2 yX2_save wsX2_save) := goodIn_app (goodIn_of _ (by decide +kernel)) ggX8_addHouse_X2_save
set_option maxRecDepth 20000 in
theorem ggX8_addHouse_X7_newHouse : GoodIn wsX8_addHouse wsX7_newHouse := goodIn_r _ [115, 8, 9, 120, 121, 122, 123, 124, 125, 126, 127, 128, 129, 130, 131, 132, 133, 134, 135, 136, 137, 138, 139, 140] (by decide +kernel) (by decide +kernel)
set_option maxRecDepth 20000 in
theorem gX8_addHouse_X7_newHouse : GoodIn wsX8_addHouse (wsV RX8 52 RX7 yX7_newHouse wsX7_newHouse) := goodIn_app (goodIn_of _ (by decide +kernel)) ggX8_addHouse_X7_newHouse
theorem dX8_addHouse_0 : decode cX8_addHouse 0 = .ok (.aload_n 0, 1) := by decide +kernel
theorem dX8_addHouse_1 : decode cX8_addHouse 1 = .ok (.getfield 10, 3) := by decide +kernel
theorem dX8_addHouse_4 : decode cX8_addHouse 4 = .ok (.invokevirtual 48, 3) := by decide +kernel
theorem dX8_addHouse_7 : decode cX8_addHouse 7 = .ok (.invokestatic 37, 3) := by decide +kernel
theorem dX8_addHouse_10 : decode cX8_addHouse 10 = .ok (.aload_n 0, 1) := by decide +kernel
theorem dX8_addHouse_11 : decode cX8_addHouse 11 = .ok (.getfield 22, 3) := by decide +kernel
theorem dX8_addHouse_14 : decode cX8_addHouse 14 = .ok (.aload_n 0, 1) := by decide +kernel
theorem dX8_addHouse_15 : decode cX8_addHouse 15 = .ok (.getfield 10, 3) := by decide +kernel
theorem dX8_addHouse_18 : decode cX8_addHouse 18 = .ok (.invokevirtual 41, 3) := by decide +kernel
theorem dX8_addHouse_21 : decode cX8_addHouse 21 = .ok (.aload_n 0, 1) := by decide +kernel
theorem dX8_addHouse_22 : decode cX8_addHouse 22 = .ok (.getfield 10, 3) := by decide +kernel
theorem dX8_addHouse_25 : decode cX8_addHouse 25 = .ok (.invokevirtual 52, 3) := by decide +kernel
theorem dX8_addHouse_28 : decode cX8_addHouse 28 = .ok (.ireturn, 1) := by decide +kernel
set_option maxRecDepth 20000 in
theorem ggX8_addDough_X7_refusalOfDough : GoodIn wsX8_addDough wsX7_refusalOfDough := goodIn_r _ [7, 8, 9, 10, 11, 12, 6, 13, 14, 15, 16, 17, 18, 19, 20, 21, 142, 143, 144, 145, 146, 147, 148, 149, 150, 151, 152, 153, 154, 155, 156, 157, 158, 159, 160, 161, 162, 163, 164, 165, 166, 167, 168, 169, 170, 171, 172, 173, 174, 175, 176, 177] (by decide +kernel) (by decide +kernel)
set_option maxRecDepth 20000 in
theorem gX8_addDough_X7_refusalOfDough : GoodIn wsX8_addDough (wsV RX8 55 RX7 yX7_refusalOfDough wsX7_refusalOfDough) := goodIn_app (goodIn_of _ (by decide +kernel)) ggX8_addDough_X7_refusalOfDough
set_option maxRecDepth 20000 in
theorem ggX8_addDough_X8_refuse : GoodIn wsX8_addDough wsX8_refuse := goodIn_ca (goodIn_ca (goodIn_ca (goodIn_r _ [25, 26, 27, 28, 29, 30, 31] (by decide +kernel) (by decide +kernel)) (goodIn_sub (fun _ h => List.mem_cons_of_mem _ (List.mem_append_left _ (List.mem_append_left _ (List.mem_append_right _ h)))) (by decide +kernel))) (goodIn_sub (fun _ h => List.mem_cons_of_mem _ (List.mem_append_left _ (List.mem_append_right _ h))) (by decide +kernel))) (goodIn_sub (fun _ h => List.mem_cons_of_mem _ (List.mem_append_right _ h)) (by decide +kernel))
set_option maxRecDepth 20000 in
theorem gX8_addDough_X8_refuse : GoodIn wsX8_addDough (va_wsS RX8 37 yX8_refuse wsX8_refuse) := goodIn_app (goodIn_of _ (by decide +kernel)) ggX8_addDough_X8_refuse
set_option maxRecDepth 20000 in
theorem ggX8_addDough_X2_save : GoodIn wsX8_addDough wsX2_save := goodIn_r _ [36, 37, 38, 39, 40, 41, 35, 42, 43, 44, 45, 46, 6, 47, 20, 14, 8, 48, 49, 50, 51, 52, 53, 54, 55, 56, 57, 58, 59, 60, 61, 62, 63, 64, 65, 66, 67, 68, 69, 70, 71, 72, 73, 74, 75, 76, 77, 78, 79, 80, 81, 82, 83, 84, 85, 86, 87, 88, 89, 90, 91, 92, 93, 94, 95, 96, 97, 98, 99, 100, 101, 102, 103, 104, 105, 106, 107, 108, 109, 110, 111, 112, 113, 114, 115, 116, 117, 118, 119, 120, 121, 178, 179, 180, 142, 143, 144, 145, 146, 147, 148, 149, 150, 151, 152, 153, 154, 155, 172, 173, 174, 175, 176, 177, 181, 165, 166, 167, 168, 169, 170, 171, 156, 157, 158, 159, 160, 161, 162, 163, 164, 182, 183, 184] (by decide +kernel) (by decide +kernel)
set_option maxRecDepth 20000 in
theorem gX8_addDough_X2_save : GoodIn wsX8_addDough (wsV RX8 41 RX2 yX2_save wsX2_save) := goodIn_app (goodIn_of _ (by decide +kernel)) ggX8_addDough_X2_save
set_option maxRecDepth 20000 in
theorem ggX8_addDough_X7_newDough : GoodIn wsX8_addDough wsX7_newDough := goodIn_r _ [125, 8, 9, 126, 127, 128, 129, 130, 131, 132, 133, 49, 50, 134, 135, 136, 73, 137, 75, 142, 143, 144, 145, 146, 147, 148, 149, 150, 151, 152, 153, 154, 155, 156, 157, 158, 159, 160, 161, 162, 163, 164, 181] (by decide +kernel) (by decide +kernel)
set_option maxRecDepth 20000 in
theorem gX8_addDough_X7_newDough : GoodIn wsX8_addDough (wsV RX8 59 RX7 yX7_newDough wsX7_newDough) := goodIn_app (goodIn_of _ (by decide +kernel)) ggX8_addDough_X7_newDough
theorem dX8_addDough_0 : decode cX8_addDough 0 = .ok (.aload_n 0, 1) := by decide +kernel
theorem dX8_addDough_1 : decode cX8_addDough 1 = .ok (.getfield 10, 3) := by decide +kernel
theorem dX8_addDough_4 : decode cX8_addDough 4 = .ok (.iload_n 1, 1) := by decide +kernel
theorem dX8_addDough_5 : decode cX8_addDough 5 = .ok (.iload_n 2, 1) := by decide +kernel
theorem dX8_addDough_6 : decode cX8_addDough 6 = .ok (.iload_n 3, 1) := by decide +kernel
theorem dX8_addDough_7 : decode cX8_addDough 7 = .ok (.invokevirtual 55, 3) := by decide +kernel
theorem dX8_addDough_10 : decode cX8_addDough 10 = .ok (.invokestatic 37, 3) := by decide +kernel
theorem dX8_addDough_13 : decode cX8_addDough 13 = .ok (.aload_n 0, 1) := by decide +kernel
theorem dX8_addDough_14 : decode cX8_addDough 14 = .ok (.getfield 22, 3) := by decide +kernel
theorem dX8_addDough_17 : decode cX8_addDough 17 = .ok (.aload_n 0, 1) := by decide +kernel
theorem dX8_addDough_18 : decode cX8_addDough 18 = .ok (.getfield 10, 3) := by decide +kernel
theorem dX8_addDough_21 : decode cX8_addDough 21 = .ok (.invokevirtual 41, 3) := by decide +kernel
theorem dX8_addDough_24 : decode cX8_addDough 24 = .ok (.aload_n 0, 1) := by decide +kernel
theorem dX8_addDough_25 : decode cX8_addDough 25 = .ok (.getfield 10, 3) := by decide +kernel
theorem dX8_addDough_28 : decode cX8_addDough 28 = .ok (.iload_n 1, 1) := by decide +kernel
theorem dX8_addDough_29 : decode cX8_addDough 29 = .ok (.iload_n 2, 1) := by decide +kernel
theorem dX8_addDough_30 : decode cX8_addDough 30 = .ok (.iload_n 3, 1) := by decide +kernel
theorem dX8_addDough_31 : decode cX8_addDough 31 = .ok (.invokevirtual 59, 3) := by decide +kernel
theorem dX8_addDough_34 : decode cX8_addDough 34 = .ok (.ireturn, 1) := by decide +kernel
set_option maxRecDepth 20000 in
theorem ggX8_clearDoughs_X2_save : GoodIn wsX8_clearDoughs wsX2_save := goodIn_r _ [7, 8, 9, 10, 11, 12, 6, 13, 14, 15, 16, 17, 18, 19, 20, 21, 22, 23, 24, 25, 26, 27, 28, 29, 30, 31, 32, 33, 34, 35, 36, 37, 38, 39, 40, 41, 42, 43, 44, 45, 46, 47, 48, 49, 50, 51, 52, 53, 54, 55, 56, 57, 58, 59, 60, 61, 62, 63, 64, 65, 66, 67, 68, 69, 70, 71, 72, 73, 74, 75, 76, 77, 78, 79, 80, 81, 82, 83, 84, 85, 86, 87, 88, 89, 90, 91, 92, 93, 94, 95, 96, 126, 127, 128, 129, 130, 131, 132, 133, 134, 135, 136, 137, 138, 139, 140, 141, 142, 143, 144, 145, 146, 147, 148, 149, 150, 151, 152, 153, 154, 155, 156, 157, 158, 159, 160, 161, 162, 163, 164, 165, 166, 167, 168] (by decide +kernel) (by decide +kernel)
set_option maxRecDepth 20000 in
theorem gX8_clearDoughs_X2_save : GoodIn wsX8_clearDoughs (wsV RX8 41 RX2 yX2_save wsX2_save) := goodIn_app (goodIn_of _ (by decide +kernel)) ggX8_clearDoughs_X2_save
set_option maxRecDepth 20000 in
theorem ggX8_clearDoughs_X7_clearAway : GoodIn wsX8_clearDoughs wsX7_clearAway := goodIn_r _ [100, 22, 101, 102, 103, 104, 105, 48, 106, 50, 107, 108, 109, 75, 110, 78, 79, 80, 81, 82, 83, 84, 85, 111, 112, 113, 114, 115, 116, 117, 118, 18, 119, 25, 24, 23, 120, 121, 129, 130, 131, 132, 133, 134, 135, 136, 137, 138, 139, 140, 141, 142, 157, 158, 159, 160, 161, 162, 163, 164, 165, 149, 166, 167, 168] (by decide +kernel) (by decide +kernel)
set_option maxRecDepth 20000 in
theorem gX8_clearDoughs_X7_clearAway : GoodIn wsX8_clearDoughs (wsV RX8 62 RX7 yX7_clearAway wsX7_clearAway) := goodIn_app (goodIn_of _ (by decide +kernel)) ggX8_clearDoughs_X7_clearAway
theorem dX8_clearDoughs_0 : decode cX8_clearDoughs 0 = .ok (.aload_n 0, 1) := by decide +kernel
theorem dX8_clearDoughs_1 : decode cX8_clearDoughs 1 = .ok (.getfield 22, 3) := by decide +kernel
theorem dX8_clearDoughs_4 : decode cX8_clearDoughs 4 = .ok (.aload_n 0, 1) := by decide +kernel
theorem dX8_clearDoughs_5 : decode cX8_clearDoughs 5 = .ok (.getfield 10, 3) := by decide +kernel
theorem dX8_clearDoughs_8 : decode cX8_clearDoughs 8 = .ok (.invokevirtual 41, 3) := by decide +kernel
theorem dX8_clearDoughs_11 : decode cX8_clearDoughs 11 = .ok (.aload_n 0, 1) := by decide +kernel
theorem dX8_clearDoughs_12 : decode cX8_clearDoughs 12 = .ok (.getfield 10, 3) := by decide +kernel
theorem dX8_clearDoughs_15 : decode cX8_clearDoughs 15 = .ok (.invokevirtual 62, 3) := by decide +kernel
theorem dX8_clearDoughs_18 : decode cX8_clearDoughs 18 = .ok (.ireturn, 1) := by decide +kernel
set_option maxRecDepth 20000 in
theorem ggX8_swap_X7_refusalOfSwap : GoodIn wsX8_swap wsX7_refusalOfSwap := goodIn_r _ [7, 8, 9, 10, 6, 11, 12, 13, 14, 15, 16, 17, 18, 19, 20, 21, 22, 23, 24, 141, 142, 143, 144, 145, 146, 147, 148, 149, 150, 151, 152, 153, 154, 155, 156, 157, 158, 159, 160, 161, 162, 163, 164] (by decide +kernel) (by decide +kernel)
set_option maxRecDepth 20000 in
theorem gX8_swap_X7_refusalOfSwap : GoodIn wsX8_swap (wsV RX8 65 RX7 yX7_refusalOfSwap wsX7_refusalOfSwap) := goodIn_app (goodIn_of _ (by decide +kernel)) ggX8_swap_X7_refusalOfSwap
set_option maxRecDepth 20000 in
theorem ggX8_swap_X8_refuse : GoodIn wsX8_swap wsX8_refuse := goodIn_ca (goodIn_ca (goodIn_ca (goodIn_r _ [28, 29, 30, 31, 32, 33, 34] (by decide +kernel) (by decide +kernel)) (goodIn_sub (fun _ h => List.mem_cons_of_mem _ (List.mem_append_left _ (List.mem_append_left _ (List.mem_append_right _ h)))) (by decide +kernel))) (goodIn_sub (fun _ h => List.mem_cons_of_mem _ (List.mem_append_left _ (List.mem_append_right _ h))) (by decide +kernel))) (goodIn_sub (fun _ h => List.mem_cons_of_mem _ (List.mem_append_right _ h)) (by decide +kernel))
set_option maxRecDepth 20000 in
theorem gX8_swap_X8_refuse : GoodIn wsX8_swap (va_wsS RX8 37 yX8_refuse wsX8_refuse) := goodIn_app (goodIn_of _ (by decide +kernel)) ggX8_swap_X8_refuse
set_option maxRecDepth 20000 in
theorem ggX8_swap_X2_save : GoodIn wsX8_swap wsX2_save := goodIn_r _ [39, 40, 41, 42, 43, 44, 38, 45, 46, 47, 48, 49, 6, 50, 51, 52, 12, 53, 54, 55, 56, 57, 58, 59, 60, 61, 62, 63, 64, 65, 66, 67, 68, 69, 70, 71, 72, 73, 74, 75, 76, 77, 22, 78, 24, 79, 80, 81, 82, 83, 84, 85, 86, 87, 88, 89, 90, 91, 92, 93, 94, 95, 96, 97, 98, 99, 100, 101, 102, 103, 104, 105, 106, 107, 108, 109, 110, 111, 112, 113, 114, 115, 116, 117, 118, 119, 120, 121, 122, 123, 124, 165, 166, 167, 141, 142, 143, 144, 145, 146, 147, 148, 149, 150, 151, 152, 153, 154, 168, 169, 170, 171, 172, 173, 164, 174, 175, 176, 177, 178, 179, 180, 155, 156, 157, 158, 159, 160, 161, 162, 163, 181, 182, 183] (by decide +kernel) (by decide +kernel)
set_option maxRecDepth 20000 in
theorem gX8_swap_X2_save : GoodIn wsX8_swap (wsV RX8 41 RX2 yX2_save wsX2_save) := goodIn_app (goodIn_of _ (by decide +kernel)) ggX8_swap_X2_save
set_option maxRecDepth 20000 in
theorem ggX8_swap_X7_exchange : GoodIn wsX8_swap wsX7_exchange := goodIn_r _ [128, 54, 129, 130, 131, 6, 132, 55, 19, 20, 21, 22, 23, 24, 133, 134, 135, 136, 141, 142, 143, 144, 145, 146, 147, 148, 149, 150, 151, 152, 153, 154, 164] (by decide +kernel) (by decide +kernel)
set_option maxRecDepth 20000 in
theorem gX8_swap_X7_exchange : GoodIn wsX8_swap (wsV RX8 69 RX7 yX7_exchange wsX7_exchange) := goodIn_app (goodIn_of _ (by decide +kernel)) ggX8_swap_X7_exchange
theorem dX8_swap_0 : decode cX8_swap 0 = .ok (.aload_n 0, 1) := by decide +kernel
theorem dX8_swap_1 : decode cX8_swap 1 = .ok (.getfield 10, 3) := by decide +kernel
theorem dX8_swap_4 : decode cX8_swap 4 = .ok (.iload_n 1, 1) := by decide +kernel
theorem dX8_swap_5 : decode cX8_swap 5 = .ok (.iload_n 2, 1) := by decide +kernel
theorem dX8_swap_6 : decode cX8_swap 6 = .ok (.invokevirtual 65, 3) := by decide +kernel
theorem dX8_swap_9 : decode cX8_swap 9 = .ok (.invokestatic 37, 3) := by decide +kernel
theorem dX8_swap_12 : decode cX8_swap 12 = .ok (.aload_n 0, 1) := by decide +kernel
theorem dX8_swap_13 : decode cX8_swap 13 = .ok (.getfield 22, 3) := by decide +kernel
theorem dX8_swap_16 : decode cX8_swap 16 = .ok (.aload_n 0, 1) := by decide +kernel
theorem dX8_swap_17 : decode cX8_swap 17 = .ok (.getfield 10, 3) := by decide +kernel
theorem dX8_swap_20 : decode cX8_swap 20 = .ok (.invokevirtual 41, 3) := by decide +kernel
theorem dX8_swap_23 : decode cX8_swap 23 = .ok (.aload_n 0, 1) := by decide +kernel
theorem dX8_swap_24 : decode cX8_swap 24 = .ok (.getfield 10, 3) := by decide +kernel
theorem dX8_swap_27 : decode cX8_swap 27 = .ok (.iload_n 1, 1) := by decide +kernel
theorem dX8_swap_28 : decode cX8_swap 28 = .ok (.iload_n 2, 1) := by decide +kernel
theorem dX8_swap_29 : decode cX8_swap 29 = .ok (.invokevirtual 69, 3) := by decide +kernel
theorem dX8_swap_32 : decode cX8_swap 32 = .ok (.ireturn, 1) := by decide +kernel
set_option maxRecDepth 20000 in
theorem ggX8_bring_X7_refusalOfBring : GoodIn wsX8_bring wsX7_refusalOfBring := goodIn_r _ [7, 8, 9, 10, 11, 12, 6, 13, 14, 15, 16, 17, 18, 19, 20, 139, 140, 141, 142, 143, 144, 145, 146, 147, 148, 149, 150, 151, 152, 153, 154, 155, 156, 157, 158, 159, 160] (by decide +kernel) (by decide +kernel)
set_option maxRecDepth 20000 in
theorem gX8_bring_X7_refusalOfBring : GoodIn wsX8_bring (wsV RX8 72 RX7 yX7_refusalOfBring wsX7_refusalOfBring) := goodIn_app (goodIn_of _ (by decide +kernel)) ggX8_bring_X7_refusalOfBring
set_option maxRecDepth 20000 in
theorem ggX8_bring_X8_refuse : GoodIn wsX8_bring wsX8_refuse := goodIn_ca (goodIn_ca (goodIn_ca (goodIn_r _ [24, 25, 26, 27, 28, 29, 30] (by decide +kernel) (by decide +kernel)) (goodIn_sub (fun _ h => List.mem_cons_of_mem _ (List.mem_append_left _ (List.mem_append_left _ (List.mem_append_right _ h)))) (by decide +kernel))) (goodIn_sub (fun _ h => List.mem_cons_of_mem _ (List.mem_append_left _ (List.mem_append_right _ h))) (by decide +kernel))) (goodIn_sub (fun _ h => List.mem_cons_of_mem _ (List.mem_append_right _ h)) (by decide +kernel))
set_option maxRecDepth 20000 in
theorem gX8_bring_X8_refuse : GoodIn wsX8_bring (va_wsS RX8 37 yX8_refuse wsX8_refuse) := goodIn_app (goodIn_of _ (by decide +kernel)) ggX8_bring_X8_refuse
set_option maxRecDepth 20000 in
theorem ggX8_bring_X2_save : GoodIn wsX8_bring wsX2_save := goodIn_r _ [35, 36, 37, 38, 39, 40, 34, 41, 42, 43, 44, 45, 6, 46, 47, 8, 48, 49, 50, 51, 52, 53, 54, 55, 56, 57, 58, 59, 60, 61, 62, 63, 64, 65, 66, 67, 68, 69, 70, 71, 72, 73, 18, 74, 20, 75, 76, 77, 78, 79, 80, 81, 82, 83, 84, 85, 86, 87, 88, 89, 90, 91, 92, 93, 94, 95, 96, 97, 98, 99, 100, 101, 102, 103, 104, 105, 106, 107, 108, 109, 110, 111, 112, 113, 114, 115, 116, 117, 118, 119, 120, 161, 162, 163, 139, 140, 141, 142, 143, 144, 145, 146, 147, 148, 149, 150, 151, 152, 164, 165, 166, 167, 168, 169, 160, 153, 154, 155, 156, 157, 158, 159, 170, 171, 172, 173, 174, 175, 176, 177, 178, 179, 180, 181] (by decide +kernel) (by decide +kernel)
set_option maxRecDepth 20000 in
theorem gX8_bring_X2_save : GoodIn wsX8_bring (wsV RX8 41 RX2 yX2_save wsX2_save) := goodIn_app (goodIn_of _ (by decide +kernel)) ggX8_bring_X2_save
set_option maxRecDepth 20000 in
theorem ggX8_bring_X7_takeLogs : GoodIn wsX8_bring wsX7_takeLogs := goodIn_r _ [124, 8, 9, 125, 56, 126, 127, 128, 18, 129, 130, 16, 17, 19, 20, 131, 132, 133, 134, 15, 139, 140, 141, 142, 143, 144, 145, 146, 147, 148, 149, 150, 151, 152, 153, 154, 155, 156, 157, 158, 159, 160] (by decide +kernel) (by decide +kernel)
set_option maxRecDepth 20000 in
theorem gX8_bring_X7_takeLogs : GoodIn wsX8_bring (wsV RX8 75 RX7 yX7_takeLogs wsX7_takeLogs) := goodIn_app (goodIn_of _ (by decide +kernel)) ggX8_bring_X7_takeLogs
theorem dX8_bring_0 : decode cX8_bring 0 = .ok (.aload_n 0, 1) := by decide +kernel
theorem dX8_bring_1 : decode cX8_bring 1 = .ok (.getfield 10, 3) := by decide +kernel
theorem dX8_bring_4 : decode cX8_bring 4 = .ok (.iload_n 1, 1) := by decide +kernel
theorem dX8_bring_5 : decode cX8_bring 5 = .ok (.iload_n 2, 1) := by decide +kernel
theorem dX8_bring_6 : decode cX8_bring 6 = .ok (.invokevirtual 72, 3) := by decide +kernel
theorem dX8_bring_9 : decode cX8_bring 9 = .ok (.invokestatic 37, 3) := by decide +kernel
theorem dX8_bring_12 : decode cX8_bring 12 = .ok (.aload_n 0, 1) := by decide +kernel
theorem dX8_bring_13 : decode cX8_bring 13 = .ok (.getfield 22, 3) := by decide +kernel
theorem dX8_bring_16 : decode cX8_bring 16 = .ok (.aload_n 0, 1) := by decide +kernel
theorem dX8_bring_17 : decode cX8_bring 17 = .ok (.getfield 10, 3) := by decide +kernel
theorem dX8_bring_20 : decode cX8_bring 20 = .ok (.invokevirtual 41, 3) := by decide +kernel
theorem dX8_bring_23 : decode cX8_bring 23 = .ok (.aload_n 0, 1) := by decide +kernel
theorem dX8_bring_24 : decode cX8_bring 24 = .ok (.getfield 10, 3) := by decide +kernel
theorem dX8_bring_27 : decode cX8_bring 27 = .ok (.iload_n 1, 1) := by decide +kernel
theorem dX8_bring_28 : decode cX8_bring 28 = .ok (.iload_n 2, 1) := by decide +kernel
theorem dX8_bring_29 : decode cX8_bring 29 = .ok (.invokevirtual 75, 3) := by decide +kernel
theorem dX8_bring_32 : decode cX8_bring 32 = .ok (.ireturn, 1) := by decide +kernel
set_option maxRecDepth 20000 in
theorem ggX8_stoke_X7_refusalOfStoke : GoodIn wsX8_stoke wsX7_refusalOfStoke := goodIn_r _ [7, 8, 9, 10, 11, 12, 13, 6, 14, 15, 16, 17, 18, 19, 20, 21, 139, 140, 141, 142, 143, 144, 145, 146, 147, 148, 149, 150, 151, 152, 153, 154, 155, 156, 157, 158, 159, 160] (by decide +kernel) (by decide +kernel)
set_option maxRecDepth 20000 in
theorem gX8_stoke_X7_refusalOfStoke : GoodIn wsX8_stoke (wsV RX8 78 RX7 yX7_refusalOfStoke wsX7_refusalOfStoke) := goodIn_app (goodIn_of _ (by decide +kernel)) ggX8_stoke_X7_refusalOfStoke
set_option maxRecDepth 20000 in
theorem ggX8_stoke_X8_refuse : GoodIn wsX8_stoke wsX8_refuse := goodIn_ca (goodIn_ca (goodIn_ca (goodIn_r _ [25, 26, 27, 28, 29, 30, 31] (by decide +kernel) (by decide +kernel)) (goodIn_sub (fun _ h => List.mem_cons_of_mem _ (List.mem_append_left _ (List.mem_append_left _ (List.mem_append_right _ h)))) (by decide +kernel))) (goodIn_sub (fun _ h => List.mem_cons_of_mem _ (List.mem_append_left _ (List.mem_append_right _ h))) (by decide +kernel))) (goodIn_sub (fun _ h => List.mem_cons_of_mem _ (List.mem_append_right _ h)) (by decide +kernel))
set_option maxRecDepth 20000 in
theorem gX8_stoke_X8_refuse : GoodIn wsX8_stoke (va_wsS RX8 37 yX8_refuse wsX8_refuse) := goodIn_app (goodIn_of _ (by decide +kernel)) ggX8_stoke_X8_refuse
set_option maxRecDepth 20000 in
theorem ggX8_stoke_X2_save : GoodIn wsX8_stoke wsX2_save := goodIn_r _ [36, 37, 38, 39, 40, 41, 35, 42, 43, 44, 45, 46, 6, 47, 48, 8, 49, 50, 51, 52, 10, 53, 54, 55, 56, 57, 58, 59, 60, 61, 62, 63, 64, 65, 66, 67, 68, 69, 70, 71, 72, 73, 19, 74, 21, 75, 76, 77, 78, 79, 80, 81, 82, 83, 84, 85, 86, 87, 88, 89, 90, 91, 92, 93, 94, 95, 96, 97, 98, 99, 100, 101, 102, 103, 104, 105, 106, 107, 108, 109, 110, 111, 112, 113, 114, 115, 116, 117, 118, 119, 120, 161, 162, 163, 139, 140, 141, 142, 143, 144, 145, 146, 147, 148, 149, 150, 151, 152, 164, 165, 166, 167, 168, 169, 160, 153, 154, 155, 156, 157, 158, 159, 170, 171, 172, 173, 174, 175, 176, 177, 178, 179, 180, 181] (by decide +kernel) (by decide +kernel)
set_option maxRecDepth 20000 in
theorem gX8_stoke_X2_save : GoodIn wsX8_stoke (wsV RX8 41 RX2 yX2_save wsX2_save) := goodIn_app (goodIn_of _ (by decide +kernel)) ggX8_stoke_X2_save
set_option maxRecDepth 20000 in
theorem ggX8_stoke_X7_burnLogs : GoodIn wsX8_stoke wsX7_burnLogs := goodIn_r _ [124, 8, 9, 125, 54, 55, 10, 126, 127, 128, 19, 129, 130, 17, 18, 20, 21, 131, 132, 133, 134, 139, 140, 141, 142, 143, 144, 145, 146, 147, 148, 149, 150, 151, 152, 153, 154, 155, 156, 157, 158, 159, 160] (by decide +kernel) (by decide +kernel)
set_option maxRecDepth 20000 in
theorem gX8_stoke_X7_burnLogs : GoodIn wsX8_stoke (wsV RX8 81 RX7 yX7_burnLogs wsX7_burnLogs) := goodIn_app (goodIn_of _ (by decide +kernel)) ggX8_stoke_X7_burnLogs
theorem dX8_stoke_0 : decode cX8_stoke 0 = .ok (.aload_n 0, 1) := by decide +kernel
theorem dX8_stoke_1 : decode cX8_stoke 1 = .ok (.getfield 10, 3) := by decide +kernel
theorem dX8_stoke_4 : decode cX8_stoke 4 = .ok (.iload_n 1, 1) := by decide +kernel
theorem dX8_stoke_5 : decode cX8_stoke 5 = .ok (.iload_n 2, 1) := by decide +kernel
theorem dX8_stoke_6 : decode cX8_stoke 6 = .ok (.invokevirtual 78, 3) := by decide +kernel
theorem dX8_stoke_9 : decode cX8_stoke 9 = .ok (.invokestatic 37, 3) := by decide +kernel
theorem dX8_stoke_12 : decode cX8_stoke 12 = .ok (.aload_n 0, 1) := by decide +kernel
theorem dX8_stoke_13 : decode cX8_stoke 13 = .ok (.getfield 22, 3) := by decide +kernel
theorem dX8_stoke_16 : decode cX8_stoke 16 = .ok (.aload_n 0, 1) := by decide +kernel
theorem dX8_stoke_17 : decode cX8_stoke 17 = .ok (.getfield 10, 3) := by decide +kernel
theorem dX8_stoke_20 : decode cX8_stoke 20 = .ok (.invokevirtual 41, 3) := by decide +kernel
theorem dX8_stoke_23 : decode cX8_stoke 23 = .ok (.aload_n 0, 1) := by decide +kernel
theorem dX8_stoke_24 : decode cX8_stoke 24 = .ok (.getfield 10, 3) := by decide +kernel
theorem dX8_stoke_27 : decode cX8_stoke 27 = .ok (.iload_n 1, 1) := by decide +kernel
theorem dX8_stoke_28 : decode cX8_stoke 28 = .ok (.iload_n 2, 1) := by decide +kernel
theorem dX8_stoke_29 : decode cX8_stoke 29 = .ok (.invokevirtual 81, 3) := by decide +kernel
theorem dX8_stoke_32 : decode cX8_stoke 32 = .ok (.ireturn, 1) := by decide +kernel
set_option maxRecDepth 20000 in
theorem ggX8_settle_X2_save : GoodIn wsX8_settle wsX2_save := goodIn_r _ [7, 8, 9, 10, 11, 12, 6, 13, 14, 15, 16, 17, 18, 19, 20, 21, 22, 23, 24, 25, 26, 27, 28, 29, 30, 31, 32, 33, 34, 35, 36, 37, 38, 39, 40, 41, 42, 43, 44, 45, 46, 47, 48, 49, 50, 51, 52, 53, 54, 55, 56, 57, 58, 59, 60, 61, 62, 63, 64, 65, 66, 67, 68, 69, 70, 71, 72, 73, 74, 75, 76, 77, 78, 79, 80, 81, 82, 83, 84, 85, 86, 87, 88, 89, 90, 91, 92, 93, 94, 95, 96, 134, 135, 136, 137, 138, 139, 140, 141, 142, 143, 144, 145, 146, 147, 148, 149, 150, 151, 152, 153, 154, 155, 156, 157, 158, 159, 160, 161, 162, 163, 164, 165, 166, 167, 168, 169, 170, 171, 172, 173, 174, 175, 176] (by decide +kernel) (by decide +kernel)
set_option maxRecDepth 20000 in
theorem gX8_settle_X2_save : GoodIn wsX8_settle (wsV RX8 41 RX2 yX2_save wsX2_save) := goodIn_app (goodIn_of _ (by decide +kernel)) ggX8_settle_X2_save
set_option maxRecDepth 20000 in
theorem ggX8_settle_X7_settleLogs : GoodIn wsX8_settle wsX7_settleLogs := goodIn_r _ [100, 28, 21, 101, 102, 103, 104, 105, 106, 107, 18, 108, 109, 110, 111, 48, 112, 50, 113, 114, 115, 116, 117, 118, 119, 120, 121, 122, 123, 124, 125, 126, 127, 128, 129, 137, 138, 139, 140, 141, 142, 143, 144, 145, 146, 147, 148, 149, 150, 158, 159, 160, 161, 162, 163, 164, 157] (by decide +kernel) (by decide +kernel)
set_option maxRecDepth 20000 in
theorem gX8_settle_X7_settleLogs : GoodIn wsX8_settle (wsV RX8 84 RX7 yX7_settleLogs wsX7_settleLogs) := goodIn_app (goodIn_of _ (by decide +kernel)) ggX8_settle_X7_settleLogs
theorem dX8_settle_0 : decode cX8_settle 0 = .ok (.aload_n 0, 1) := by decide +kernel
theorem dX8_settle_1 : decode cX8_settle 1 = .ok (.getfield 22, 3) := by decide +kernel
theorem dX8_settle_4 : decode cX8_settle 4 = .ok (.aload_n 0, 1) := by decide +kernel
theorem dX8_settle_5 : decode cX8_settle 5 = .ok (.getfield 10, 3) := by decide +kernel
theorem dX8_settle_8 : decode cX8_settle 8 = .ok (.invokevirtual 41, 3) := by decide +kernel
theorem dX8_settle_11 : decode cX8_settle 11 = .ok (.aload_n 0, 1) := by decide +kernel
theorem dX8_settle_12 : decode cX8_settle 12 = .ok (.getfield 10, 3) := by decide +kernel
theorem dX8_settle_15 : decode cX8_settle 15 = .ok (.invokevirtual 84, 3) := by decide +kernel
theorem dX8_settle_18 : decode cX8_settle 18 = .ok (.ireturn, 1) := by decide +kernel
set_option maxRecDepth 20000 in
theorem ggX8_pass_X7_refusalOfPass : GoodIn wsX8_pass wsX7_refusalOfPass := goodIn_r _ [7, 8, 9, 206, 207, 208, 209, 210, 211, 212, 213, 214, 215, 216, 217, 218, 219] (by decide +kernel) (by decide +kernel)
set_option maxRecDepth 20000 in
theorem gX8_pass_X7_refusalOfPass : GoodIn wsX8_pass (wsV RX8 87 RX7 yX7_refusalOfPass wsX7_refusalOfPass) := goodIn_app (goodIn_of _ (by decide +kernel)) ggX8_pass_X7_refusalOfPass
set_option maxRecDepth 20000 in
theorem ggX8_pass_X8_refuse : GoodIn wsX8_pass wsX8_refuse := goodIn_ca (goodIn_ca (goodIn_ca (goodIn_r _ [13, 14, 15, 16, 17, 18, 19] (by decide +kernel) (by decide +kernel)) (goodIn_sub (fun _ h => List.mem_cons_of_mem _ (List.mem_append_left _ (List.mem_append_left _ (List.mem_append_right _ h)))) (by decide +kernel))) (goodIn_sub (fun _ h => List.mem_cons_of_mem _ (List.mem_append_left _ (List.mem_append_right _ h))) (by decide +kernel))) (goodIn_sub (fun _ h => List.mem_cons_of_mem _ (List.mem_append_right _ h)) (by decide +kernel))
set_option maxRecDepth 20000 in
theorem gX8_pass_X8_refuse : GoodIn wsX8_pass (va_wsS RX8 37 yX8_refuse wsX8_refuse) := goodIn_app (goodIn_of _ (by decide +kernel)) ggX8_pass_X8_refuse
set_option maxRecDepth 20000 in
theorem ggX8_pass_X2_save : GoodIn wsX8_pass wsX2_save := goodIn_r _ [24, 25, 26, 27, 28, 29, 23, 30, 31, 32, 33, 34, 6, 35, 36, 37, 38, 39, 40, 41, 42, 8, 43, 44, 45, 46, 47, 48, 49, 50, 51, 52, 53, 54, 55, 56, 57, 58, 59, 60, 61, 62, 63, 64, 65, 66, 67, 68, 69, 70, 71, 72, 73, 74, 75, 76, 77, 78, 79, 80, 81, 82, 83, 84, 85, 86, 87, 88, 89, 90, 91, 92, 93, 94, 95, 96, 97, 98, 99, 100, 101, 102, 103, 104, 105, 106, 107, 108, 109, 110, 111, 220, 221, 222, 206, 207, 208, 209, 210, 211, 212, 213, 214, 215, 216, 217, 218, 219, 223, 224, 225, 226, 227, 228, 229, 230, 231, 232, 233, 234, 235, 236, 237, 238, 239, 240, 241, 242, 243, 244, 245, 246, 247, 248] (by decide +kernel) (by decide +kernel)
set_option maxRecDepth 20000 in
theorem gX8_pass_X2_save : GoodIn wsX8_pass (wsV RX8 41 RX2 yX2_save wsX2_save) := goodIn_app (goodIn_of _ (by decide +kernel)) ggX8_pass_X2_save
set_option maxRecDepth 20000 in
theorem ggX8_pass_X7_passTicks : GoodIn wsX8_pass wsX7_passTicks := goodIn_r _ [115, 8, 116, 117, 118, 6, 119, 41, 40, 38, 120, 121, 36, 122, 123, 124, 48, 125, 126, 127, 63, 128, 65, 129, 130, 131, 132, 133, 134, 135, 136, 137, 138, 139, 140, 141, 142, 42, 143, 144, 145, 146, 147, 148, 39, 149, 150, 151, 152, 153, 105, 154, 107, 155, 156, 157, 158, 159, 160, 68, 161, 162, 163, 164, 165, 166, 167, 168, 169, 170, 108, 109, 171, 172, 173, 174, 175, 176, 177, 178, 37, 179, 180, 181, 182, 183, 184, 185, 186, 187, 188, 189, 190, 191, 192, 193, 194, 195, 196, 197, 47, 198, 199, 200, 201, 46, 206, 207, 208, 209, 210, 211, 212, 213, 214, 215, 216, 217, 218, 219, 237, 238, 239, 240, 241, 242, 243, 244, 245, 223, 224, 225, 226, 227, 228, 229, 246, 247, 248, 230, 231, 232, 233, 234, 235, 236] (by decide +kernel) (by decide +kernel)
set_option maxRecDepth 20000 in
theorem gX8_pass_X7_passTicks : GoodIn wsX8_pass (wsV RX8 91 RX7 yX7_passTicks wsX7_passTicks) := goodIn_app (goodIn_of _ (by decide +kernel)) ggX8_pass_X7_passTicks
theorem dX8_pass_0 : decode cX8_pass 0 = .ok (.aload_n 0, 1) := by decide +kernel
theorem dX8_pass_1 : decode cX8_pass 1 = .ok (.getfield 10, 3) := by decide +kernel
theorem dX8_pass_4 : decode cX8_pass 4 = .ok (.iload_n 1, 1) := by decide +kernel
theorem dX8_pass_5 : decode cX8_pass 5 = .ok (.invokevirtual 87, 3) := by decide +kernel
theorem dX8_pass_8 : decode cX8_pass 8 = .ok (.invokestatic 37, 3) := by decide +kernel
theorem dX8_pass_11 : decode cX8_pass 11 = .ok (.aload_n 0, 1) := by decide +kernel
theorem dX8_pass_12 : decode cX8_pass 12 = .ok (.getfield 22, 3) := by decide +kernel
theorem dX8_pass_15 : decode cX8_pass 15 = .ok (.aload_n 0, 1) := by decide +kernel
theorem dX8_pass_16 : decode cX8_pass 16 = .ok (.getfield 10, 3) := by decide +kernel
theorem dX8_pass_19 : decode cX8_pass 19 = .ok (.invokevirtual 41, 3) := by decide +kernel
theorem dX8_pass_22 : decode cX8_pass 22 = .ok (.aload_n 0, 1) := by decide +kernel
theorem dX8_pass_23 : decode cX8_pass 23 = .ok (.getfield 10, 3) := by decide +kernel
theorem dX8_pass_26 : decode cX8_pass 26 = .ok (.iload_n 1, 1) := by decide +kernel
theorem dX8_pass_27 : decode cX8_pass 27 = .ok (.invokevirtual 91, 3) := by decide +kernel
theorem dX8_pass_30 : decode cX8_pass 30 = .ok (.ireturn, 1) := by decide +kernel
set_option maxRecDepth 20000 in
theorem ggX8_house_X7_isHouse : GoodIn wsX8_house wsX7_isHouse := goodIn_r _ [6, 7, 8, 49, 50, 51, 52, 53, 54, 55, 56, 57, 58, 59, 60, 61, 62, 63, 64, 65, 66, 67, 68, 69] (by decide +kernel) (by decide +kernel)
set_option maxRecDepth 20000 in
theorem gX8_house_X7_isHouse : GoodIn wsX8_house (wsV RX8 105 RX7 yX7_isHouse wsX7_isHouse) := goodIn_app (goodIn_of _ (by decide +kernel)) ggX8_house_X7_isHouse
set_option maxRecDepth 20000 in
theorem ggX8_house_X8_refusalOfValue : GoodIn wsX8_house wsX8_refusalOfValue := goodIn_r _ [12] (by decide +kernel) (by decide +kernel)
set_option maxRecDepth 20000 in
theorem gX8_house_X8_refusalOfValue : GoodIn wsX8_house (va_wsS RX8 98 yX8_refusalOfValue wsX8_refusalOfValue) := goodIn_app (goodIn_of _ (by decide +kernel)) ggX8_house_X8_refusalOfValue
set_option maxRecDepth 20000 in
theorem ggX8_house_X8_refuse : GoodIn wsX8_house wsX8_refuse := goodIn_ca (goodIn_ca (goodIn_ca (goodIn_r _ [15, 16, 17, 18, 19, 20, 21] (by decide +kernel) (by decide +kernel)) (goodIn_sub (fun _ h => List.mem_cons_of_mem _ (List.mem_append_left _ (List.mem_append_left _ (List.mem_append_right _ h)))) (by decide +kernel))) (goodIn_sub (fun _ h => List.mem_cons_of_mem _ (List.mem_append_left _ (List.mem_append_right _ h))) (by decide +kernel))) (goodIn_sub (fun _ h => List.mem_cons_of_mem _ (List.mem_append_right _ h)) (by decide +kernel))
set_option maxRecDepth 20000 in
theorem gX8_house_X8_refuse : GoodIn wsX8_house (va_wsS RX8 37 yX8_refuse wsX8_refuse) := goodIn_app (goodIn_of _ (by decide +kernel)) ggX8_house_X8_refuse
set_option maxRecDepth 20000 in
theorem ggX8_house_X7_valueOfHouse : GoodIn wsX8_house wsX7_valueOfHouse := goodIn_r _ [25, 7, 26, 27, 28, 29, 30, 31, 32, 33, 34, 35, 36, 37, 38, 39, 40, 5, 41, 42, 43, 44, 49, 50, 51, 52, 53, 54, 55, 56, 57, 58, 59, 60, 61, 62, 63, 64, 65, 66, 67, 68, 69, 70, 71, 72, 73, 74, 75, 76, 77, 78, 79] (by decide +kernel) (by decide +kernel)
set_option maxRecDepth 20000 in
theorem gX8_house_X7_valueOfHouse : GoodIn wsX8_house (wsV RX8 108 RX7 yX7_valueOfHouse wsX7_valueOfHouse) := goodIn_app (goodIn_of _ (by decide +kernel)) ggX8_house_X7_valueOfHouse
theorem dX8_house_0 : decode cX8_house 0 = .ok (.aload_n 0, 1) := by decide +kernel
theorem dX8_house_1 : decode cX8_house 1 = .ok (.getfield 10, 3) := by decide +kernel
theorem dX8_house_4 : decode cX8_house 4 = .ok (.iload_n 1, 1) := by decide +kernel
theorem dX8_house_5 : decode cX8_house 5 = .ok (.invokevirtual 105, 3) := by decide +kernel
theorem dX8_house_8 : decode cX8_house 8 = .ok (.iload_n 2, 1) := by decide +kernel
theorem dX8_house_9 : decode cX8_house 9 = .ok (.bipush 7, 2) := by decide +kernel
theorem dX8_house_11 : decode cX8_house 11 = .ok (.invokestatic 98, 3) := by decide +kernel
theorem dX8_house_14 : decode cX8_house 14 = .ok (.invokestatic 37, 3) := by decide +kernel
theorem dX8_house_17 : decode cX8_house 17 = .ok (.aload_n 0, 1) := by decide +kernel
theorem dX8_house_18 : decode cX8_house 18 = .ok (.getfield 10, 3) := by decide +kernel
theorem dX8_house_21 : decode cX8_house 21 = .ok (.iload_n 1, 1) := by decide +kernel
theorem dX8_house_22 : decode cX8_house 22 = .ok (.iload_n 2, 1) := by decide +kernel
theorem dX8_house_23 : decode cX8_house 23 = .ok (.invokevirtual 108, 3) := by decide +kernel
theorem dX8_house_26 : decode cX8_house 26 = .ok (.ireturn, 1) := by decide +kernel
set_option maxRecDepth 20000 in
theorem ggX8_dough_X7_isDough : GoodIn wsX8_dough wsX7_isDough := goodIn_r _ [6, 7, 8, 56, 57, 58, 59, 60, 61, 62, 63, 64, 65, 66, 67, 68, 69, 70, 71, 72, 73, 74, 75, 76, 77, 78] (by decide +kernel) (by decide +kernel)
set_option maxRecDepth 20000 in
theorem gX8_dough_X7_isDough : GoodIn wsX8_dough (wsV RX8 111 RX7 yX7_isDough wsX7_isDough) := goodIn_app (goodIn_of _ (by decide +kernel)) ggX8_dough_X7_isDough
set_option maxRecDepth 20000 in
theorem ggX8_dough_X8_refusalOfValue : GoodIn wsX8_dough wsX8_refusalOfValue := goodIn_r _ [12] (by decide +kernel) (by decide +kernel)
set_option maxRecDepth 20000 in
theorem gX8_dough_X8_refusalOfValue : GoodIn wsX8_dough (va_wsS RX8 98 yX8_refusalOfValue wsX8_refusalOfValue) := goodIn_app (goodIn_of _ (by decide +kernel)) ggX8_dough_X8_refusalOfValue
set_option maxRecDepth 20000 in
theorem ggX8_dough_X8_refuse : GoodIn wsX8_dough wsX8_refuse := goodIn_ca (goodIn_ca (goodIn_ca (goodIn_r _ [15, 16, 17, 18, 19, 20, 21] (by decide +kernel) (by decide +kernel)) (goodIn_sub (fun _ h => List.mem_cons_of_mem _ (List.mem_append_left _ (List.mem_append_left _ (List.mem_append_right _ h)))) (by decide +kernel))) (goodIn_sub (fun _ h => List.mem_cons_of_mem _ (List.mem_append_left _ (List.mem_append_right _ h))) (by decide +kernel))) (goodIn_sub (fun _ h => List.mem_cons_of_mem _ (List.mem_append_right _ h)) (by decide +kernel))
set_option maxRecDepth 20000 in
theorem gX8_dough_X8_refuse : GoodIn wsX8_dough (va_wsS RX8 37 yX8_refuse wsX8_refuse) := goodIn_app (goodIn_of _ (by decide +kernel)) ggX8_dough_X8_refuse
set_option maxRecDepth 20000 in
theorem ggX8_dough_X7_valueOfDough : GoodIn wsX8_dough wsX7_valueOfDough := goodIn_r _ [25, 7, 26, 27, 28, 29, 30, 31, 32, 33, 34, 35, 36, 37, 38, 39, 40, 41, 42, 5, 43, 44, 45, 46, 47, 48, 49, 50, 51, 56, 57, 58, 59, 60, 61, 62, 63, 64, 65, 66, 67, 68, 69, 70, 71, 72, 73, 74, 75, 76, 77, 78, 79, 80, 81, 82] (by decide +kernel) (by decide +kernel)
set_option maxRecDepth 20000 in
theorem gX8_dough_X7_valueOfDough : GoodIn wsX8_dough (wsV RX8 114 RX7 yX7_valueOfDough wsX7_valueOfDough) := goodIn_app (goodIn_of _ (by decide +kernel)) ggX8_dough_X7_valueOfDough
theorem dX8_dough_0 : decode cX8_dough 0 = .ok (.aload_n 0, 1) := by decide +kernel
theorem dX8_dough_1 : decode cX8_dough 1 = .ok (.getfield 10, 3) := by decide +kernel
theorem dX8_dough_4 : decode cX8_dough 4 = .ok (.iload_n 1, 1) := by decide +kernel
theorem dX8_dough_5 : decode cX8_dough 5 = .ok (.invokevirtual 111, 3) := by decide +kernel
theorem dX8_dough_8 : decode cX8_dough 8 = .ok (.iload_n 2, 1) := by decide +kernel
theorem dX8_dough_9 : decode cX8_dough 9 = .ok (.bipush 10, 2) := by decide +kernel
theorem dX8_dough_11 : decode cX8_dough 11 = .ok (.invokestatic 98, 3) := by decide +kernel
