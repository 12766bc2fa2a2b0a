theorem dX9_lookAlong_28 : decode cX9_lookAlong 28 = .ok (.iload_n 3, 1) := by decide +kernel
theorem dX9_lookAlong_29 : decode cX9_lookAlong 29 = .ok (.invokestatic 81, 3) := by decide +kernel
theorem dX9_lookAlong_32 : decode cX9_lookAlong 32 = .ok (.istore 4, 2) := by decide +kernel
theorem dX9_lookAlong_34 : decode cX9_lookAlong 34 = .ok (.iload 4, 2) := by decide +kernel
theorem dX9_lookAlong_36 : decode cX9_lookAlong 36 = .ok (.ifCond .ne 18, 3) := by decide +kernel
theorem dX9_lookAlong_39 : decode cX9_lookAlong 39 = .ok (.aload_n 0, 1) := by decide +kernel
theorem dX9_lookAlong_40 : decode cX9_lookAlong 40 = .ok (.iload_n 3, 1) := by decide +kernel
theorem dX9_lookAlong_41 : decode cX9_lookAlong 41 = .ok (.iconst 2, 1) := by decide +kernel
theorem dX9_lookAlong_42 : decode cX9_lookAlong 42 = .ok (.invokestatic 42, 3) := by decide +kernel
theorem dX9_lookAlong_45 : decode cX9_lookAlong 45 = .ok (.istore_n 1, 1) := by decide +kernel
theorem dX9_lookAlong_46 : decode cX9_lookAlong 46 = .ok (.aload_n 0, 1) := by decide +kernel
theorem dX9_lookAlong_47 : decode cX9_lookAlong 47 = .ok (.iload_n 3, 1) := by decide +kernel
theorem dX9_lookAlong_48 : decode cX9_lookAlong 48 = .ok (.invokestatic 84, 3) := by decide +kernel
theorem dX9_lookAlong_51 : decode cX9_lookAlong 51 = .ok (.goto 14, 3) := by decide +kernel
theorem dX9_lookAlong_54 : decode cX9_lookAlong 54 = .ok (.aload_n 0, 1) := by decide +kernel
theorem dX9_lookAlong_55 : decode cX9_lookAlong 55 = .ok (.iload_n 3, 1) := by decide +kernel
theorem dX9_lookAlong_56 : decode cX9_lookAlong 56 = .ok (.iconst 5, 1) := by decide +kernel
theorem dX9_lookAlong_57 : decode cX9_lookAlong 57 = .ok (.iload 4, 2) := by decide +kernel
theorem dX9_lookAlong_59 : decode cX9_lookAlong 59 = .ok (.invokestatic 57, 3) := by decide +kernel
theorem dX9_lookAlong_62 : decode cX9_lookAlong 62 = .ok (.iinc 2 1, 3) := by decide +kernel
theorem dX9_lookAlong_65 : decode cX9_lookAlong 65 = .ok (.goto (-61), 3) := by decide +kernel
theorem dX9_lookAlong_68 : decode cX9_lookAlong 68 = .ok (.iload_n 1, 1) := by decide +kernel
theorem dX9_lookAlong_69 : decode cX9_lookAlong 69 = .ok (.ireturn, 1) := by decide +kernel
set_option maxRecDepth 20000 in
theorem ggX9_warm_X9_at : GoodIn wsX9_warm wsX9_at := goodIn_r _ [4] (by decide +kernel) (by decide +kernel)
set_option maxRecDepth 20000 in
theorem gX9_warm_X9_at : GoodIn wsX9_warm (va_wsS RX9 68 yX9_at wsX9_at) := goodIn_app (goodIn_of _ (by decide +kernel)) ggX9_warm_X9_at
set_option maxRecDepth 20000 in
theorem ggX9_warm_X9_heatAt : GoodIn wsX9_warm wsX9_heatAt := goodIn_r _ [7] (by decide +kernel) (by decide +kernel)
set_option maxRecDepth 20000 in
theorem gX9_warm_X9_heatAt : GoodIn wsX9_warm (va_wsS RX9 71 yX9_heatAt wsX9_heatAt) := goodIn_app (goodIn_of _ (by decide +kernel)) ggX9_warm_X9_heatAt
set_option maxRecDepth 20000 in
theorem ggX9_warm_X9_byKind : GoodIn wsX9_warm wsX9_byKind := goodIn_r _ [10, 11, 12, 3, 13, 14, 15, 16] (by decide +kernel) (by decide +kernel)
set_option maxRecDepth 20000 in
theorem gX9_warm_X9_byKind : GoodIn wsX9_warm (va_wsS RX9 61 yX9_byKind wsX9_byKind) := goodIn_app (goodIn_of _ (by decide +kernel)) ggX9_warm_X9_byKind
set_option maxRecDepth 20000 in
theorem ggX9_warm_X9_of : GoodIn wsX9_warm wsX9_of := goodIn_r _ [13] (by decide +kernel) (by decide +kernel)
set_option maxRecDepth 20000 in
theorem gX9_warm_X9_of : GoodIn wsX9_warm (va_wsS RX9 42 yX9_of wsX9_of) := goodIn_app (goodIn_of _ (by decide +kernel)) ggX9_warm_X9_of
theorem dX9_warm_0 : decode cX9_warm 0 = .ok (.iconst 0, 1) := by decide +kernel
theorem dX9_warm_1 : decode cX9_warm 1 = .ok (.istore_n 1, 1) := by decide +kernel
theorem dX9_warm_2 : decode cX9_warm 2 = .ok (.iload_n 1, 1) := by decide +kernel
theorem dX9_warm_3 : decode cX9_warm 3 = .ok (.bipush 12, 2) := by decide +kernel
theorem dX9_warm_5 : decode cX9_warm 5 = .ok (.if_icmp .ge 107, 3) := by decide +kernel
theorem dX9_warm_8 : decode cX9_warm 8 = .ok (.aload_n 0, 1) := by decide +kernel
theorem dX9_warm_9 : decode cX9_warm 9 = .ok (.iload_n 1, 1) := by decide +kernel
theorem dX9_warm_10 : decode cX9_warm 10 = .ok (.iconst 0, 1) := by decide +kernel
theorem dX9_warm_11 : decode cX9_warm 11 = .ok (.invokestatic 68, 3) := by decide +kernel
theorem dX9_warm_14 : decode cX9_warm 14 = .ok (.istore_n 2, 1) := by decide +kernel
theorem dX9_warm_15 : decode cX9_warm 15 = .ok (.iload_n 2, 1) := by decide +kernel
theorem dX9_warm_16 : decode cX9_warm 16 = .ok (.iconst (-1), 1) := by decide +kernel
theorem dX9_warm_17 : decode cX9_warm 17 = .ok (.if_icmp .eq 89, 3) := by decide +kernel
theorem dX9_warm_20 : decode cX9_warm 20 = .ok (.aload_n 0, 1) := by decide +kernel
theorem dX9_warm_21 : decode cX9_warm 21 = .ok (.sipush 229, 3) := by decide +kernel
theorem dX9_warm_24 : decode cX9_warm 24 = .ok (.iconst 3, 1) := by decide +kernel
theorem dX9_warm_25 : decode cX9_warm 25 = .ok (.iload_n 1, 1) := by decide +kernel
theorem dX9_warm_26 : decode cX9_warm 26 = .ok (.imul, 1) := by decide +kernel
theorem dX9_warm_27 : decode cX9_warm 27 = .ok (.iadd, 1) := by decide +kernel
theorem dX9_warm_28 : decode cX9_warm 28 = .ok (.iconst 1, 1) := by decide +kernel
theorem dX9_warm_29 : decode cX9_warm 29 = .ok (.iadd, 1) := by decide +kernel
theorem dX9_warm_30 : decode cX9_warm 30 = .ok (.dup2, 1) := by decide +kernel
theorem dX9_warm_31 : decode cX9_warm 31 = .ok (.iaload, 1) := by decide +kernel
theorem dX9_warm_32 : decode cX9_warm 32 = .ok (.aload_n 0, 1) := by decide +kernel
theorem dX9_warm_33 : decode cX9_warm 33 = .ok (.iload_n 1, 1) := by decide +kernel
theorem dX9_warm_34 : decode cX9_warm 34 = .ok (.invokestatic 71, 3) := by decide +kernel
theorem dX9_warm_37 : decode cX9_warm 37 = .ok (.aload_n 0, 1) := by decide +kernel
theorem dX9_warm_38 : decode cX9_warm 38 = .ok (.iload_n 2, 1) := by decide +kernel
theorem dX9_warm_39 : decode cX9_warm 39 = .ok (.iconst 0, 1) := by decide +kernel
theorem dX9_warm_40 : decode cX9_warm 40 = .ok (.invokestatic 61, 3) := by decide +kernel
theorem dX9_warm_43 : decode cX9_warm 43 = .ok (.if_icmp .lt 7, 3) := by decide +kernel
theorem dX9_warm_46 : decode cX9_warm 46 = .ok (.iconst 1, 1) := by decide +kernel
theorem dX9_warm_47 : decode cX9_warm 47 = .ok (.goto 4, 3) := by decide +kernel
theorem dX9_warm_50 : decode cX9_warm 50 = .ok (.iconst 0, 1) := by decide +kernel
theorem dX9_warm_51 : decode cX9_warm 51 = .ok (.iadd, 1) := by decide +kernel
theorem dX9_warm_52 : decode cX9_warm 52 = .ok (.iastore, 1) := by decide +kernel
theorem dX9_warm_53 : decode cX9_warm 53 = .ok (.aload_n 0, 1) := by decide +kernel
theorem dX9_warm_54 : decode cX9_warm 54 = .ok (.sipush 229, 3) := by decide +kernel
theorem dX9_warm_57 : decode cX9_warm 57 = .ok (.iconst 3, 1) := by decide +kernel
theorem dX9_warm_58 : decode cX9_warm 58 = .ok (.iload_n 1, 1) := by decide +kernel
theorem dX9_warm_59 : decode cX9_warm 59 = .ok (.imul, 1) := by decide +kernel
theorem dX9_warm_60 : decode cX9_warm 60 = .ok (.iadd, 1) := by decide +kernel
theorem dX9_warm_61 : decode cX9_warm 61 = .ok (.iconst 2, 1) := by decide +kernel
theorem dX9_warm_62 : decode cX9_warm 62 = .ok (.iadd, 1) := by decide +kernel
theorem dX9_warm_63 : decode cX9_warm 63 = .ok (.dup2, 1) := by decide +kernel
theorem dX9_warm_64 : decode cX9_warm 64 = .ok (.iaload, 1) := by decide +kernel
theorem dX9_warm_65 : decode cX9_warm 65 = .ok (.aload_n 0, 1) := by decide +kernel
theorem dX9_warm_66 : decode cX9_warm 66 = .ok (.iload_n 1, 1) := by decide +kernel
theorem dX9_warm_67 : decode cX9_warm 67 = .ok (.invokestatic 71, 3) := by decide +kernel
theorem dX9_warm_70 : decode cX9_warm 70 = .ok (.aload_n 0, 1) := by decide +kernel
theorem dX9_warm_71 : decode cX9_warm 71 = .ok (.iload_n 2, 1) := by decide +kernel
theorem dX9_warm_72 : decode cX9_warm 72 = .ok (.iconst 1, 1) := by decide +kernel
theorem dX9_warm_73 : decode cX9_warm 73 = .ok (.invokestatic 61, 3) := by decide +kernel
theorem dX9_warm_76 : decode cX9_warm 76 = .ok (.if_icmp .le 7, 3) := by decide +kernel
theorem dX9_warm_79 : decode cX9_warm 79 = .ok (.iconst 1, 1) := by decide +kernel
theorem dX9_warm_80 : decode cX9_warm 80 = .ok (.goto 4, 3) := by decide +kernel
theorem dX9_warm_83 : decode cX9_warm 83 = .ok (.iconst 0, 1) := by decide +kernel
theorem dX9_warm_84 : decode cX9_warm 84 = .ok (.iadd, 1) := by decide +kernel
theorem dX9_warm_85 : decode cX9_warm 85 = .ok (.iastore, 1) := by decide +kernel
theorem dX9_warm_86 : decode cX9_warm 86 = .ok (.aload_n 0, 1) := by decide +kernel
theorem dX9_warm_87 : decode cX9_warm 87 = .ok (.bipush 37, 2) := by decide +kernel
theorem dX9_warm_89 : decode cX9_warm 89 = .ok (.bipush 6, 2) := by decide +kernel
theorem dX9_warm_91 : decode cX9_warm 91 = .ok (.aload_n 0, 1) := by decide +kernel
theorem dX9_warm_92 : decode cX9_warm 92 = .ok (.iload_n 2, 1) := by decide +kernel
theorem dX9_warm_93 : decode cX9_warm 93 = .ok (.iconst 0, 1) := by decide +kernel
theorem dX9_warm_94 : decode cX9_warm 94 = .ok (.invokestatic 42, 3) := by decide +kernel
theorem dX9_warm_97 : decode cX9_warm 97 = .ok (.imul, 1) := by decide +kernel
theorem dX9_warm_98 : decode cX9_warm 98 = .ok (.iadd, 1) := by decide +kernel
theorem dX9_warm_99 : decode cX9_warm 99 = .ok (.iconst 1, 1) := by decide +kernel
theorem dX9_warm_100 : decode cX9_warm 100 = .ok (.iadd, 1) := by decide +kernel
theorem dX9_warm_101 : decode cX9_warm 101 = .ok (.dup2, 1) := by decide +kernel
theorem dX9_warm_102 : decode cX9_warm 102 = .ok (.iaload, 1) := by decide +kernel
theorem dX9_warm_103 : decode cX9_warm 103 = .ok (.iconst 1, 1) := by decide +kernel
theorem dX9_warm_104 : decode cX9_warm 104 = .ok (.iadd, 1) := by decide +kernel
theorem dX9_warm_105 : decode cX9_warm 105 = .ok (.iastore, 1) := by decide +kernel
theorem dX9_warm_106 : decode cX9_warm 106 = .ok (.iinc 1 1, 3) := by decide +kernel
theorem dX9_warm_109 : decode cX9_warm 109 = .ok (.goto (-107), 3) := by decide +kernel
theorem dX9_warm_112 : decode cX9_warm 112 = .ok (.return_, 1) := by decide +kernel
set_option maxRecDepth 20000 in
theorem ggX9_isBaked_X9_of : GoodIn wsX9_isBaked wsX9_of := goodIn_r _ [4] (by decide +kernel) (by decide +kernel)
set_option maxRecDepth 20000 in
theorem gX9_isBaked_X9_of : GoodIn wsX9_isBaked (va_wsS RX9 42 yX9_of wsX9_of) := goodIn_app (goodIn_of _ (by decide +kernel)) ggX9_isBaked_X9_of
set_option maxRecDepth 20000 in
theorem ggX9_isBaked_X9_at : GoodIn wsX9_isBaked wsX9_at := goodIn_r _ [7] (by decide +kernel) (by decide +kernel)
set_option maxRecDepth 20000 in
theorem gX9_isBaked_X9_at : GoodIn wsX9_isBaked (va_wsS RX9 68 yX9_at wsX9_at) := goodIn_app (goodIn_of _ (by decide +kernel)) ggX9_isBaked_X9_at
set_option maxRecDepth 20000 in
theorem ggX9_isBaked_X9_byKind : GoodIn wsX9_isBaked wsX9_byKind := goodIn_r _ [10, 1, 2, 3, 4, 11, 12, 13] (by decide +kernel) (by decide +kernel)
set_option maxRecDepth 20000 in
theorem gX9_isBaked_X9_byKind : GoodIn wsX9_isBaked (va_wsS RX9 61 yX9_byKind wsX9_byKind) := goodIn_app (goodIn_of _ (by decide +kernel)) ggX9_isBaked_X9_byKind
theorem dX9_isBaked_0 : decode cX9_isBaked 0 = .ok (.aload_n 0, 1) := by decide +kernel
theorem dX9_isBaked_1 : decode cX9_isBaked 1 = .ok (.iload_n 1, 1) := by decide +kernel
theorem dX9_isBaked_2 : decode cX9_isBaked 2 = .ok (.iconst 4, 1) := by decide +kernel
theorem dX9_isBaked_3 : decode cX9_isBaked 3 = .ok (.invokestatic 42, 3) := by decide +kernel
theorem dX9_isBaked_6 : decode cX9_isBaked 6 = .ok (.iconst 1, 1) := by decide +kernel
theorem dX9_isBaked_7 : decode cX9_isBaked 7 = .ok (.if_icmp .ne 7, 3) := by decide +kernel
theorem dX9_isBaked_10 : decode cX9_isBaked 10 = .ok (.iconst 1, 1) := by decide +kernel
theorem dX9_isBaked_11 : decode cX9_isBaked 11 = .ok (.goto 4, 3) := by decide +kernel
theorem dX9_isBaked_14 : decode cX9_isBaked 14 = .ok (.iconst 0, 1) := by decide +kernel
theorem dX9_isBaked_15 : decode cX9_isBaked 15 = .ok (.istore_n 2, 1) := by decide +kernel
theorem dX9_isBaked_16 : decode cX9_isBaked 16 = .ok (.iconst 0, 1) := by decide +kernel
theorem dX9_isBaked_17 : decode cX9_isBaked 17 = .ok (.istore_n 3, 1) := by decide +kernel
theorem dX9_isBaked_18 : decode cX9_isBaked 18 = .ok (.iload_n 3, 1) := by decide +kernel
theorem dX9_isBaked_19 : decode cX9_isBaked 19 = .ok (.bipush 12, 2) := by decide +kernel
theorem dX9_isBaked_21 : decode cX9_isBaked 21 = .ok (.if_icmp .ge 44, 3) := by decide +kernel
theorem dX9_isBaked_24 : decode cX9_isBaked 24 = .ok (.iload_n 2, 1) := by decide +kernel
theorem dX9_isBaked_25 : decode cX9_isBaked 25 = .ok (.ifCond .eq 32, 3) := by decide +kernel
theorem dX9_isBaked_28 : decode cX9_isBaked 28 = .ok (.aload_n 0, 1) := by decide +kernel
theorem dX9_isBaked_29 : decode cX9_isBaked 29 = .ok (.iload_n 3, 1) := by decide +kernel
theorem dX9_isBaked_30 : decode cX9_isBaked 30 = .ok (.iconst 0, 1) := by decide +kernel
theorem dX9_isBaked_31 : decode cX9_isBaked 31 = .ok (.invokestatic 68, 3) := by decide +kernel
theorem dX9_isBaked_34 : decode cX9_isBaked 34 = .ok (.iload_n 1, 1) := by decide +kernel
theorem dX9_isBaked_35 : decode cX9_isBaked 35 = .ok (.if_icmp .ne 18, 3) := by decide +kernel
theorem dX9_isBaked_38 : decode cX9_isBaked 38 = .ok (.aload_n 0, 1) := by decide +kernel
theorem dX9_isBaked_39 : decode cX9_isBaked 39 = .ok (.iload_n 3, 1) := by decide +kernel
theorem dX9_isBaked_40 : decode cX9_isBaked 40 = .ok (.iconst 1, 1) := by decide +kernel
theorem dX9_isBaked_41 : decode cX9_isBaked 41 = .ok (.invokestatic 68, 3) := by decide +kernel
theorem dX9_isBaked_44 : decode cX9_isBaked 44 = .ok (.aload_n 0, 1) := by decide +kernel
theorem dX9_isBaked_45 : decode cX9_isBaked 45 = .ok (.iload_n 1, 1) := by decide +kernel
theorem dX9_isBaked_46 : decode cX9_isBaked 46 = .ok (.iconst 2, 1) := by decide +kernel
theorem dX9_isBaked_47 : decode cX9_isBaked 47 = .ok (.invokestatic 61, 3) := by decide +kernel
theorem dX9_isBaked_50 : decode cX9_isBaked 50 = .ok (.if_icmp .lt 7, 3) := by decide +kernel
theorem dX9_isBaked_53 : decode cX9_isBaked 53 = .ok (.iconst 1, 1) := by decide +kernel
theorem dX9_isBaked_54 : decode cX9_isBaked 54 = .ok (.goto 4, 3) := by decide +kernel
theorem dX9_isBaked_57 : decode cX9_isBaked 57 = .ok (.iconst 0, 1) := by decide +kernel
theorem dX9_isBaked_58 : decode cX9_isBaked 58 = .ok (.istore_n 2, 1) := by decide +kernel
theorem dX9_isBaked_59 : decode cX9_isBaked 59 = .ok (.iinc 3 1, 3) := by decide +kernel
theorem dX9_isBaked_62 : decode cX9_isBaked 62 = .ok (.goto (-44), 3) := by decide +kernel
theorem dX9_isBaked_65 : decode cX9_isBaked 65 = .ok (.iload_n 2, 1) := by decide +kernel
theorem dX9_isBaked_66 : decode cX9_isBaked 66 = .ok (.ireturn, 1) := by decide +kernel
set_option maxRecDepth 20000 in
theorem ggX9_takeOut_X9_at : GoodIn wsX9_takeOut wsX9_at := goodIn_r _ [4] (by decide +kernel) (by decide +kernel)
set_option maxRecDepth 20000 in
theorem gX9_takeOut_X9_at : GoodIn wsX9_takeOut (va_wsS RX9 68 yX9_at wsX9_at) := goodIn_app (goodIn_of _ (by decide +kernel)) ggX9_takeOut_X9_at
set_option maxRecDepth 20000 in
theorem ggX9_takeOut_X9_put : GoodIn wsX9_takeOut wsX9_put := goodIn_r _ [7] (by decide +kernel) (by decide +kernel)
set_option maxRecDepth 20000 in
theorem gX9_takeOut_X9_put : GoodIn wsX9_takeOut (va_wsS RX9 57 yX9_put wsX9_put) := goodIn_app (goodIn_of _ (by decide +kernel)) ggX9_takeOut_X9_put
set_option maxRecDepth 20000 in
theorem ggX9_takeOut_X9_of : GoodIn wsX9_takeOut wsX9_of := goodIn_r _ [10] (by decide +kernel) (by decide +kernel)
set_option maxRecDepth 20000 in
theorem gX9_takeOut_X9_of : GoodIn wsX9_takeOut (va_wsS RX9 42 yX9_of wsX9_of) := goodIn_app (goodIn_of _ (by decide +kernel)) ggX9_takeOut_X9_of
theorem dX9_takeOut_0 : decode cX9_takeOut 0 = .ok (.iconst 0, 1) := by decide +kernel
theorem dX9_takeOut_1 : decode cX9_takeOut 1 = .ok (.istore_n 2, 1) := by decide +kernel
theorem dX9_takeOut_2 : decode cX9_takeOut 2 = .ok (.iconst 0, 1) := by decide +kernel
theorem dX9_takeOut_3 : decode cX9_takeOut 3 = .ok (.istore_n 3, 1) := by decide +kernel
theorem dX9_takeOut_4 : decode cX9_takeOut 4 = .ok (.iload_n 3, 1) := by decide +kernel
theorem dX9_takeOut_5 : decode cX9_takeOut 5 = .ok (.bipush 12, 2) := by decide +kernel
theorem dX9_takeOut_7 : decode cX9_takeOut 7 = .ok (.if_icmp .ge 73, 3) := by decide +kernel
theorem dX9_takeOut_10 : decode cX9_takeOut 10 = .ok (.aload_n 0, 1) := by decide +kernel
theorem dX9_takeOut_11 : decode cX9_takeOut 11 = .ok (.iload_n 3, 1) := by decide +kernel
theorem dX9_takeOut_12 : decode cX9_takeOut 12 = .ok (.iconst 0, 1) := by decide +kernel
theorem dX9_takeOut_13 : decode cX9_takeOut 13 = .ok (.invokestatic 68, 3) := by decide +kernel
theorem dX9_takeOut_16 : decode cX9_takeOut 16 = .ok (.iload_n 1, 1) := by decide +kernel
theorem dX9_takeOut_17 : decode cX9_takeOut 17 = .ok (.if_icmp .ne 57, 3) := by decide +kernel
theorem dX9_takeOut_20 : decode cX9_takeOut 20 = .ok (.iload_n 2, 1) := by decide +kernel
theorem dX9_takeOut_21 : decode cX9_takeOut 21 = .ok (.aload_n 0, 1) := by decide +kernel
theorem dX9_takeOut_22 : decode cX9_takeOut 22 = .ok (.iload_n 3, 1) := by decide +kernel
theorem dX9_takeOut_23 : decode cX9_takeOut 23 = .ok (.iconst 2, 1) := by decide +kernel
theorem dX9_takeOut_24 : decode cX9_takeOut 24 = .ok (.invokestatic 68, 3) := by decide +kernel
theorem dX9_takeOut_27 : decode cX9_takeOut 27 = .ok (.iconst 3, 1) := by decide +kernel
theorem dX9_takeOut_28 : decode cX9_takeOut 28 = .ok (.if_icmp .lt 7, 3) := by decide +kernel
theorem dX9_takeOut_31 : decode cX9_takeOut 31 = .ok (.iconst 1, 1) := by decide +kernel
theorem dX9_takeOut_32 : decode cX9_takeOut 32 = .ok (.goto 4, 3) := by decide +kernel
theorem dX9_takeOut_35 : decode cX9_takeOut 35 = .ok (.iconst 0, 1) := by decide +kernel
theorem dX9_takeOut_36 : decode cX9_takeOut 36 = .ok (.iadd, 1) := by decide +kernel
theorem dX9_takeOut_37 : decode cX9_takeOut 37 = .ok (.istore_n 2, 1) := by decide +kernel
theorem dX9_takeOut_38 : decode cX9_takeOut 38 = .ok (.aload_n 0, 1) := by decide +kernel
theorem dX9_takeOut_39 : decode cX9_takeOut 39 = .ok (.sipush 229, 3) := by decide +kernel
theorem dX9_takeOut_42 : decode cX9_takeOut 42 = .ok (.iconst 3, 1) := by decide +kernel
theorem dX9_takeOut_43 : decode cX9_takeOut 43 = .ok (.iload_n 3, 1) := by decide +kernel
theorem dX9_takeOut_44 : decode cX9_takeOut 44 = .ok (.imul, 1) := by decide +kernel
theorem dX9_takeOut_45 : decode cX9_takeOut 45 = .ok (.iadd, 1) := by decide +kernel
theorem dX9_takeOut_46 : decode cX9_takeOut 46 = .ok (.iconst 0, 1) := by decide +kernel
theorem dX9_takeOut_47 : decode cX9_takeOut 47 = .ok (.iadd, 1) := by decide +kernel
theorem dX9_takeOut_48 : decode cX9_takeOut 48 = .ok (.iconst (-1), 1) := by decide +kernel
theorem dX9_takeOut_49 : decode cX9_takeOut 49 = .ok (.iastore, 1) := by decide +kernel
theorem dX9_takeOut_50 : decode cX9_takeOut 50 = .ok (.aload_n 0, 1) := by decide +kernel
theorem dX9_takeOut_51 : decode cX9_takeOut 51 = .ok (.sipush 229, 3) := by decide +kernel
theorem dX9_takeOut_54 : decode cX9_takeOut 54 = .ok (.iconst 3, 1) := by decide +kernel
theorem dX9_takeOut_55 : decode cX9_takeOut 55 = .ok (.iload_n 3, 1) := by decide +kernel
theorem dX9_takeOut_56 : decode cX9_takeOut 56 = .ok (.imul, 1) := by decide +kernel
theorem dX9_takeOut_57 : decode cX9_takeOut 57 = .ok (.iadd, 1) := by decide +kernel
theorem dX9_takeOut_58 : decode cX9_takeOut 58 = .ok (.iconst 1, 1) := by decide +kernel
theorem dX9_takeOut_59 : decode cX9_takeOut 59 = .ok (.iadd, 1) := by decide +kernel
theorem dX9_takeOut_60 : decode cX9_takeOut 60 = .ok (.iconst 0, 1) := by decide +kernel
theorem dX9_takeOut_61 : decode cX9_takeOut 61 = .ok (.iastore, 1) := by decide +kernel
theorem dX9_takeOut_62 : decode cX9_takeOut 62 = .ok (.aload_n 0, 1) := by decide +kernel
theorem dX9_takeOut_63 : decode cX9_takeOut 63 = .ok (.sipush 229, 3) := by decide +kernel
theorem dX9_takeOut_66 : decode cX9_takeOut 66 = .ok (.iconst 3, 1) := by decide +kernel
theorem dX9_takeOut_67 : decode cX9_takeOut 67 = .ok (.iload_n 3, 1) := by decide +kernel
theorem dX9_takeOut_68 : decode cX9_takeOut 68 = .ok (.imul, 1) := by decide +kernel
theorem dX9_takeOut_69 : decode cX9_takeOut 69 = .ok (.iadd, 1) := by decide +kernel
theorem dX9_takeOut_70 : decode cX9_takeOut 70 = .ok (.iconst 2, 1) := by decide +kernel
theorem dX9_takeOut_71 : decode cX9_takeOut 71 = .ok (.iadd, 1) := by decide +kernel
theorem dX9_takeOut_72 : decode cX9_takeOut 72 = .ok (.iconst 0, 1) := by decide +kernel
theorem dX9_takeOut_73 : decode cX9_takeOut 73 = .ok (.iastore, 1) := by decide +kernel
theorem dX9_takeOut_74 : decode cX9_takeOut 74 = .ok (.iinc 3 1, 3) := by decide +kernel
theorem dX9_takeOut_77 : decode cX9_takeOut 77 = .ok (.goto (-73), 3) := by decide +kernel
theorem dX9_takeOut_80 : decode cX9_takeOut 80 = .ok (.aload_n 0, 1) := by decide +kernel
theorem dX9_takeOut_81 : decode cX9_takeOut 81 = .ok (.iload_n 1, 1) := by decide +kernel
theorem dX9_takeOut_82 : decode cX9_takeOut 82 = .ok (.iconst 4, 1) := by decide +kernel
theorem dX9_takeOut_83 : decode cX9_takeOut 83 = .ok (.iconst 2, 1) := by decide +kernel
theorem dX9_takeOut_84 : decode cX9_takeOut 84 = .ok (.invokestatic 57, 3) := by decide +kernel
theorem dX9_takeOut_87 : decode cX9_takeOut 87 = .ok (.aload_n 0, 1) := by decide +kernel
theorem dX9_takeOut_88 : decode cX9_takeOut 88 = .ok (.iload_n 1, 1) := by decide +kernel
theorem dX9_takeOut_89 : decode cX9_takeOut 89 = .ok (.bipush 7, 2) := by decide +kernel
theorem dX9_takeOut_91 : decode cX9_takeOut 91 = .ok (.iload_n 2, 1) := by decide +kernel
theorem dX9_takeOut_92 : decode cX9_takeOut 92 = .ok (.invokestatic 57, 3) := by decide +kernel
theorem dX9_takeOut_95 : decode cX9_takeOut 95 = .ok (.bipush 37, 2) := by decide +kernel
theorem dX9_takeOut_97 : decode cX9_takeOut 97 = .ok (.bipush 6, 2) := by decide +kernel
theorem dX9_takeOut_99 : decode cX9_takeOut 99 = .ok (.aload_n 0, 1) := by decide +kernel
theorem dX9_takeOut_100 : decode cX9_takeOut 100 = .ok (.iload_n 1, 1) := by decide +kernel
theorem dX9_takeOut_101 : decode cX9_takeOut 101 = .ok (.iconst 0, 1) := by decide +kernel
theorem dX9_takeOut_102 : decode cX9_takeOut 102 = .ok (.invokestatic 42, 3) := by decide +kernel
theorem dX9_takeOut_105 : decode cX9_takeOut 105 = .ok (.imul, 1) := by decide +kernel
theorem dX9_takeOut_106 : decode cX9_takeOut 106 = .ok (.iadd, 1) := by decide +kernel
theorem dX9_takeOut_107 : decode cX9_takeOut 107 = .ok (.istore_n 3, 1) := by decide +kernel
theorem dX9_takeOut_108 : decode cX9_takeOut 108 = .ok (.aload_n 0, 1) := by decide +kernel
theorem dX9_takeOut_109 : decode cX9_takeOut 109 = .ok (.iload_n 3, 1) := by decide +kernel
theorem dX9_takeOut_110 : decode cX9_takeOut 110 = .ok (.iconst 4, 1) := by decide +kernel
theorem dX9_takeOut_111 : decode cX9_takeOut 111 = .ok (.iadd, 1) := by decide +kernel
theorem dX9_takeOut_112 : decode cX9_takeOut 112 = .ok (.dup2, 1) := by decide +kernel
theorem dX9_takeOut_113 : decode cX9_takeOut 113 = .ok (.iaload, 1) := by decide +kernel
theorem dX9_takeOut_114 : decode cX9_takeOut 114 = .ok (.aload_n 0, 1) := by decide +kernel
theorem dX9_takeOut_115 : decode cX9_takeOut 115 = .ok (.iload_n 1, 1) := by decide +kernel
theorem dX9_takeOut_116 : decode cX9_takeOut 116 = .ok (.iconst 2, 1) := by decide +kernel
theorem dX9_takeOut_117 : decode cX9_takeOut 117 = .ok (.invokestatic 42, 3) := by decide +kernel
theorem dX9_takeOut_120 : decode cX9_takeOut 120 = .ok (.iadd, 1) := by decide +kernel
theorem dX9_takeOut_121 : decode cX9_takeOut 121 = .ok (.iastore, 1) := by decide +kernel
theorem dX9_takeOut_122 : decode cX9_takeOut 122 = .ok (.aload_n 0, 1) := by decide +kernel
theorem dX9_takeOut_123 : decode cX9_takeOut 123 = .ok (.iload_n 3, 1) := by decide +kernel
theorem dX9_takeOut_124 : decode cX9_takeOut 124 = .ok (.iconst 5, 1) := by decide +kernel
theorem dX9_takeOut_125 : decode cX9_takeOut 125 = .ok (.iadd, 1) := by decide +kernel
theorem dX9_takeOut_126 : decode cX9_takeOut 126 = .ok (.dup2, 1) := by decide +kernel
theorem dX9_takeOut_127 : decode cX9_takeOut 127 = .ok (.iaload, 1) := by decide +kernel
theorem dX9_takeOut_128 : decode cX9_takeOut 128 = .ok (.iload_n 2, 1) := by decide +kernel
theorem dX9_takeOut_129 : decode cX9_takeOut 129 = .ok (.iadd, 1) := by decide +kernel
theorem dX9_takeOut_130 : decode cX9_takeOut 130 = .ok (.iastore, 1) := by decide +kernel
theorem dX9_takeOut_131 : decode cX9_takeOut 131 = .ok (.aload_n 0, 1) := by decide +kernel
theorem dX9_takeOut_132 : decode cX9_takeOut 132 = .ok (.bipush 10, 2) := by decide +kernel
theorem dX9_takeOut_134 : decode cX9_takeOut 134 = .ok (.dup2, 1) := by decide +kernel
theorem dX9_takeOut_135 : decode cX9_takeOut 135 = .ok (.iaload, 1) := by decide +kernel
theorem dX9_takeOut_136 : decode cX9_takeOut 136 = .ok (.aload_n 0, 1) := by decide +kernel
theorem dX9_takeOut_137 : decode cX9_takeOut 137 = .ok (.iload_n 1, 1) := by decide +kernel
theorem dX9_takeOut_138 : decode cX9_takeOut 138 = .ok (.iconst 2, 1) := by decide +kernel
theorem dX9_takeOut_139 : decode cX9_takeOut 139 = .ok (.invokestatic 42, 3) := by decide +kernel
theorem dX9_takeOut_142 : decode cX9_takeOut 142 = .ok (.iadd, 1) := by decide +kernel
theorem dX9_takeOut_143 : decode cX9_takeOut 143 = .ok (.iastore, 1) := by decide +kernel
theorem dX9_takeOut_144 : decode cX9_takeOut 144 = .ok (.aload_n 0, 1) := by decide +kernel
theorem dX9_takeOut_145 : decode cX9_takeOut 145 = .ok (.bipush 9, 2) := by decide +kernel
theorem dX9_takeOut_147 : decode cX9_takeOut 147 = .ok (.dup2, 1) := by decide +kernel
theorem dX9_takeOut_148 : decode cX9_takeOut 148 = .ok (.iaload, 1) := by decide +kernel
theorem dX9_takeOut_149 : decode cX9_takeOut 149 = .ok (.iconst 1, 1) := by decide +kernel
theorem dX9_takeOut_150 : decode cX9_takeOut 150 = .ok (.iadd, 1) := by decide +kernel
theorem dX9_takeOut_151 : decode cX9_takeOut 151 = .ok (.iastore, 1) := by decide +kernel
theorem dX9_takeOut_152 : decode cX9_takeOut 152 = .ok (.return_, 1) := by decide +kernel
set_option maxRecDepth 20000 in
theorem ggX9_tick_X9_age : GoodIn wsX9_tick wsX9_age := goodIn_r _ [4, 5, 6, 3, 7, 8, 9, 10, 11, 12, 13, 14, 15, 16, 17, 18, 19, 20, 21, 22] (by decide +kernel) (by decide +kernel)
set_option maxRecDepth 20000 in
theorem gX9_tick_X9_age : GoodIn wsX9_tick (va_wsS RX9 87 yX9_age wsX9_age) := goodIn_app (goodIn_of _ (by decide +kernel)) ggX9_tick_X9_age
set_option maxRecDepth 20000 in
theorem ggX9_tick_X9_lookAlong : GoodIn wsX9_tick wsX9_lookAlong := goodIn_r _ [25, 26, 27, 3, 28, 5, 6, 7, 11, 12, 13, 14, 15, 16, 29, 30, 31, 32, 33, 34, 35, 36, 37, 38, 39, 40, 41, 42, 43, 44, 45, 46, 17, 18, 19, 20, 21, 22, 8, 9, 10] (by decide +kernel) (by decide +kernel)
set_option maxRecDepth 20000 in
theorem gX9_tick_X9_lookAlong : GoodIn wsX9_tick (va_wsS RX9 91 yX9_lookAlong wsX9_lookAlong) := goodIn_app (goodIn_of _ (by decide +kernel)) ggX9_tick_X9_lookAlong
set_option maxRecDepth 20000 in
theorem ggX9_tick_X9_warm : GoodIn wsX9_tick wsX9_warm := goodIn_r _ [49, 35, 36, 3, 37, 38, 39, 40, 11, 12, 13, 5, 6, 7, 14, 15, 16] (by decide +kernel) (by decide +kernel)
set_option maxRecDepth 20000 in
theorem gX9_tick_X9_warm : GoodIn wsX9_tick (va_wsS RX9 95 yX9_warm wsX9_warm) := goodIn_app (goodIn_of _ (by decide +kernel)) ggX9_tick_X9_warm
set_option maxRecDepth 20000 in
theorem ggX9_tick_X9_isBaked : GoodIn wsX9_tick wsX9_isBaked := goodIn_r _ [52, 5, 6, 3, 7, 35, 36, 37, 11, 12, 13, 14, 15, 16] (by decide +kernel) (by decide +kernel)
set_option maxRecDepth 20000 in
theorem gX9_tick_X9_isBaked : GoodIn wsX9_tick (va_wsS RX9 98 yX9_isBaked wsX9_isBaked) := goodIn_app (goodIn_of _ (by decide +kernel)) ggX9_tick_X9_isBaked
set_option maxRecDepth 20000 in
theorem ggX9_tick_X9_takeOut : GoodIn wsX9_tick wsX9_takeOut := goodIn_r _ [55, 35, 36, 3, 37, 8, 9, 10, 5, 6, 7] (by decide +kernel) (by decide +kernel)
set_option maxRecDepth 20000 in
theorem gX9_tick_X9_takeOut : GoodIn wsX9_tick (va_wsS RX9 102 yX9_takeOut wsX9_takeOut) := goodIn_app (goodIn_of _ (by decide +kernel)) ggX9_tick_X9_takeOut
theorem dX9_tick_0 : decode cX9_tick 0 = .ok (.aload_n 0, 1) := by decide +kernel
theorem dX9_tick_1 : decode cX9_tick 1 = .ok (.invokestatic 87, 3) := by decide +kernel
theorem dX9_tick_4 : decode cX9_tick 4 = .ok (.aload_n 0, 1) := by decide +kernel
theorem dX9_tick_5 : decode cX9_tick 5 = .ok (.bipush 9, 2) := by decide +kernel
theorem dX9_tick_7 : decode cX9_tick 7 = .ok (.iaload, 1) := by decide +kernel
theorem dX9_tick_8 : decode cX9_tick 8 = .ok (.istore_n 1, 1) := by decide +kernel
theorem dX9_tick_9 : decode cX9_tick 9 = .ok (.aload_n 0, 1) := by decide +kernel
theorem dX9_tick_10 : decode cX9_tick 10 = .ok (.invokestatic 91, 3) := by decide +kernel
theorem dX9_tick_13 : decode cX9_tick 13 = .ok (.istore_n 2, 1) := by decide +kernel
theorem dX9_tick_14 : decode cX9_tick 14 = .ok (.aload_n 0, 1) := by decide +kernel
theorem dX9_tick_15 : decode cX9_tick 15 = .ok (.invokestatic 95, 3) := by decide +kernel
theorem dX9_tick_18 : decode cX9_tick 18 = .ok (.iconst 0, 1) := by decide +kernel
theorem dX9_tick_19 : decode cX9_tick 19 = .ok (.istore_n 3, 1) := by decide +kernel
theorem dX9_tick_20 : decode cX9_tick 20 = .ok (.iconst 0, 1) := by decide +kernel
theorem dX9_tick_21 : decode cX9_tick 21 = .ok (.istore 4, 2) := by decide +kernel
theorem dX9_tick_23 : decode cX9_tick 23 = .ok (.iload 4, 2) := by decide +kernel
theorem dX9_tick_25 : decode cX9_tick 25 = .ok (.aload_n 0, 1) := by decide +kernel
theorem dX9_tick_26 : decode cX9_tick 26 = .ok (.iconst 4, 1) := by decide +kernel
theorem dX9_tick_27 : decode cX9_tick 27 = .ok (.iaload, 1) := by decide +kernel
theorem dX9_tick_28 : decode cX9_tick 28 = .ok (.if_icmp .ge 27, 3) := by decide +kernel
theorem dX9_tick_31 : decode cX9_tick 31 = .ok (.aload_n 0, 1) := by decide +kernel
theorem dX9_tick_32 : decode cX9_tick 32 = .ok (.iload 4, 2) := by decide +kernel
theorem dX9_tick_34 : decode cX9_tick 34 = .ok (.invokestatic 98, 3) := by decide +kernel
theorem dX9_tick_37 : decode cX9_tick 37 = .ok (.ifCond .eq 12, 3) := by decide +kernel
theorem dX9_tick_40 : decode cX9_tick 40 = .ok (.aload_n 0, 1) := by decide +kernel
theorem dX9_tick_41 : decode cX9_tick 41 = .ok (.iload 4, 2) := by decide +kernel
theorem dX9_tick_43 : decode cX9_tick 43 = .ok (.invokestatic 102, 3) := by decide +kernel
theorem dX9_tick_46 : decode cX9_tick 46 = .ok (.iinc 3 1, 3) := by decide +kernel
theorem dX9_tick_49 : decode cX9_tick 49 = .ok (.iinc 4 1, 3) := by decide +kernel
theorem dX9_tick_52 : decode cX9_tick 52 = .ok (.goto (-29), 3) := by decide +kernel
theorem dX9_tick_55 : decode cX9_tick 55 = .ok (.aload_n 0, 1) := by decide +kernel
theorem dX9_tick_56 : decode cX9_tick 56 = .ok (.iconst 0, 1) := by decide +kernel
theorem dX9_tick_57 : decode cX9_tick 57 = .ok (.dup2, 1) := by decide +kernel
theorem dX9_tick_58 : decode cX9_tick 58 = .ok (.iaload, 1) := by decide +kernel
theorem dX9_tick_59 : decode cX9_tick 59 = .ok (.iconst 2, 1) := by decide +kernel
theorem dX9_tick_60 : decode cX9_tick 60 = .ok (.iconst 4, 1) := by decide +kernel
theorem dX9_tick_61 : decode cX9_tick 61 = .ok (.aload_n 0, 1) := by decide +kernel
theorem dX9_tick_62 : decode cX9_tick 62 = .ok (.bipush 9, 2) := by decide +kernel
theorem dX9_tick_64 : decode cX9_tick 64 = .ok (.iaload, 1) := by decide +kernel
theorem dX9_tick_65 : decode cX9_tick 65 = .ok (.iload_n 1, 1) := by decide +kernel
theorem dX9_tick_66 : decode cX9_tick 66 = .ok (.isub, 1) := by decide +kernel
theorem dX9_tick_67 : decode cX9_tick 67 = .ok (.imul, 1) := by decide +kernel
theorem dX9_tick_68 : decode cX9_tick 68 = .ok (.iadd, 1) := by decide +kernel
theorem dX9_tick_69 : decode cX9_tick 69 = .ok (.iload_n 2, 1) := by decide +kernel
theorem dX9_tick_70 : decode cX9_tick 70 = .ok (.iconst 2, 1) := by decide +kernel
theorem dX9_tick_71 : decode cX9_tick 71 = .ok (.idiv, 1) := by decide +kernel
theorem dX9_tick_72 : decode cX9_tick 72 = .ok (.iadd, 1) := by decide +kernel
theorem dX9_tick_73 : decode cX9_tick 73 = .ok (.isub, 1) := by decide +kernel
theorem dX9_tick_74 : decode cX9_tick 74 = .ok (.iastore, 1) := by decide +kernel
theorem dX9_tick_75 : decode cX9_tick 75 = .ok (.aload_n 0, 1) := by decide +kernel
theorem dX9_tick_76 : decode cX9_tick 76 = .ok (.iconst 0, 1) := by decide +kernel
theorem dX9_tick_77 : decode cX9_tick 77 = .ok (.aload_n 0, 1) := by decide +kernel
theorem dX9_tick_78 : decode cX9_tick 78 = .ok (.iconst 0, 1) := by decide +kernel
theorem dX9_tick_79 : decode cX9_tick 79 = .ok (.iaload, 1) := by decide +kernel
theorem dX9_tick_80 : decode cX9_tick 80 = .ok (.ifCond .ge 7, 3) := by decide +kernel
theorem dX9_tick_83 : decode cX9_tick 83 = .ok (.iconst 0, 1) := by decide +kernel
theorem dX9_tick_84 : decode cX9_tick 84 = .ok (.goto 6, 3) := by decide +kernel
theorem dX9_tick_87 : decode cX9_tick 87 = .ok (.aload_n 0, 1) := by decide +kernel
theorem dX9_tick_88 : decode cX9_tick 88 = .ok (.iconst 0, 1) := by decide +kernel
theorem dX9_tick_89 : decode cX9_tick 89 = .ok (.iaload, 1) := by decide +kernel
theorem dX9_tick_90 : decode cX9_tick 90 = .ok (.iastore, 1) := by decide +kernel
theorem dX9_tick_91 : decode cX9_tick 91 = .ok (.aload_n 0, 1) := by decide +kernel
theorem dX9_tick_92 : decode cX9_tick 92 = .ok (.iconst 1, 1) := by decide +kernel
theorem dX9_tick_93 : decode cX9_tick 93 = .ok (.dup2, 1) := by decide +kernel
theorem dX9_tick_94 : decode cX9_tick 94 = .ok (.iaload, 1) := by decide +kernel
theorem dX9_tick_95 : decode cX9_tick 95 = .ok (.iconst 1, 1) := by decide +kernel
theorem dX9_tick_96 : decode cX9_tick 96 = .ok (.iadd, 1) := by decide +kernel
theorem dX9_tick_97 : decode cX9_tick 97 = .ok (.iastore, 1) := by decide +kernel
theorem dX9_tick_98 : decode cX9_tick 98 = .ok (.iload_n 3, 1) := by decide +kernel
theorem dX9_tick_99 : decode cX9_tick 99 = .ok (.ireturn, 1) := by decide +kernel
set_option maxRecDepth 20000 in
theorem ggX9_passNow_X9_tick : GoodIn wsX9_passNow wsX9_tick := goodIn_r _ [5, 6, 7, 4, 8, 9, 10, 11, 12, 13, 14, 15, 16, 17, 18, 19, 20, 21, 22, 23, 24, 25, 26, 27, 28, 29, 30, 31, 32, 33, 34, 35, 36, 37, 38, 39, 40, 41, 42, 43, 44, 45, 46, 47, 48, 49, 50, 51, 52, 53, 54, 55, 56, 57, 58, 59] (by decide +kernel) (by decide +kernel)
set_option maxRecDepth 20000 in
theorem gX9_passNow_X9_tick : GoodIn wsX9_passNow (va_wsS RX9 105 yX9_tick wsX9_tick) := goodIn_app (goodIn_of _ (by decide +kernel)) ggX9_passNow_X9_tick
theorem dX9_passNow_0 : decode cX9_passNow 0 = .ok (.iconst 0, 1) := by decide +kernel
theorem dX9_passNow_1 : decode cX9_passNow 1 = .ok (.istore_n 2, 1) := by decide +kernel
theorem dX9_passNow_2 : decode cX9_passNow 2 = .ok (.iconst 0, 1) := by decide +kernel
theorem dX9_passNow_3 : decode cX9_passNow 3 = .ok (.istore_n 3, 1) := by decide +kernel
theorem dX9_passNow_4 : decode cX9_passNow 4 = .ok (.iload_n 3, 1) := by decide +kernel
theorem dX9_passNow_5 : decode cX9_passNow 5 = .ok (.iload_n 1, 1) := by decide +kernel
theorem dX9_passNow_6 : decode cX9_passNow 6 = .ok (.if_icmp .ge 19, 3) := by decide +kernel
theorem dX9_passNow_9 : decode cX9_passNow 9 = .ok (.iload_n 2, 1) := by decide +kernel
theorem dX9_passNow_10 : decode cX9_passNow 10 = .ok (.aload_n 0, 1) := by decide +kernel
theorem dX9_passNow_11 : decode cX9_passNow 11 = .ok (.getfield 7, 3) := by decide +kernel
theorem dX9_passNow_14 : decode cX9_passNow 14 = .ok (.invokestatic 105, 3) := by decide +kernel
theorem dX9_passNow_17 : decode cX9_passNow 17 = .ok (.iadd, 1) := by decide +kernel
theorem dX9_passNow_18 : decode cX9_passNow 18 = .ok (.istore_n 2, 1) := by decide +kernel
theorem dX9_passNow_19 : decode cX9_passNow 19 = .ok (.iinc 3 1, 3) := by decide +kernel
theorem dX9_passNow_22 : decode cX9_passNow 22 = .ok (.goto (-18), 3) := by decide +kernel
theorem dX9_passNow_25 : decode cX9_passNow 25 = .ok (.iload_n 2, 1) := by decide +kernel
theorem dX9_passNow_26 : decode cX9_passNow 26 = .ok (.ireturn, 1) := by decide +kernel
set_option maxRecDepth 20000 in
theorem ggX9_kindCode_X9_in : GoodIn wsX9_kindCode wsX9_in := goodIn_r _ [5] (by decide +kernel) (by decide +kernel)
set_option maxRecDepth 20000 in
theorem gX9_kindCode_X9_in : GoodIn wsX9_kindCode (va_wsS RX9 49 yX9_in wsX9_in) := goodIn_app (goodIn_of _ (by decide +kernel)) ggX9_kindCode_X9_in
theorem dX9_kindCode_0 : decode cX9_kindCode 0 = .ok (.iload_n 1, 1) := by decide +kernel
theorem dX9_kindCode_1 : decode cX9_kindCode 1 = .ok (.bipush 50, 2) := by decide +kernel
theorem dX9_kindCode_3 : decode cX9_kindCode 3 = .ok (.sipush 350, 3) := by decide +kernel
theorem dX9_kindCode_6 : decode cX9_kindCode 6 = .ok (.invokestatic 49, 3) := by decide +kernel
theorem dX9_kindCode_9 : decode cX9_kindCode 9 = .ok (.ifCond .eq 46, 3) := by decide +kernel
theorem dX9_kindCode_12 : decode cX9_kindCode 12 = .ok (.iload_n 2, 1) := by decide +kernel
theorem dX9_kindCode_13 : decode cX9_kindCode 13 = .ok (.iload_n 1, 1) := by decide +kernel
theorem dX9_kindCode_14 : decode cX9_kindCode 14 = .ok (.sipush 400, 3) := by decide +kernel
theorem dX9_kindCode_17 : decode cX9_kindCode 17 = .ok (.invokestatic 49, 3) := by decide +kernel
theorem dX9_kindCode_20 : decode cX9_kindCode 20 = .ok (.ifCond .eq 35, 3) := by decide +kernel
theorem dX9_kindCode_23 : decode cX9_kindCode 23 = .ok (.iload_n 3, 1) := by decide +kernel
theorem dX9_kindCode_24 : decode cX9_kindCode 24 = .ok (.iconst 1, 1) := by decide +kernel
theorem dX9_kindCode_25 : decode cX9_kindCode 25 = .ok (.bipush 20, 2) := by decide +kernel
theorem dX9_kindCode_27 : decode cX9_kindCode 27 = .ok (.invokestatic 49, 3) := by decide +kernel
theorem dX9_kindCode_30 : decode cX9_kindCode 30 = .ok (.ifCond .eq 25, 3) := by decide +kernel
theorem dX9_kindCode_33 : decode cX9_kindCode 33 = .ok (.iload 4, 2) := by decide +kernel
theorem dX9_kindCode_35 : decode cX9_kindCode 35 = .ok (.iconst 0, 1) := by decide +kernel
theorem dX9_kindCode_36 : decode cX9_kindCode 36 = .ok (.bipush 30, 2) := by decide +kernel
theorem dX9_kindCode_38 : decode cX9_kindCode 38 = .ok (.invokestatic 49, 3) := by decide +kernel
theorem dX9_kindCode_41 : decode cX9_kindCode 41 = .ok (.ifCond .eq 14, 3) := by decide +kernel
theorem dX9_kindCode_44 : decode cX9_kindCode 44 = .ok (.iload 5, 2) := by decide +kernel
theorem dX9_kindCode_46 : decode cX9_kindCode 46 = .ok (.iconst 1, 1) := by decide +kernel
theorem dX9_kindCode_47 : decode cX9_kindCode 47 = .ok (.bipush 40, 2) := by decide +kernel
theorem dX9_kindCode_49 : decode cX9_kindCode 49 = .ok (.invokestatic 49, 3) := by decide +kernel
theorem dX9_kindCode_52 : decode cX9_kindCode 52 = .ok (.ifCond .ne 5, 3) := by decide +kernel
theorem dX9_kindCode_55 : decode cX9_kindCode 55 = .ok (.iconst 1, 1) := by decide +kernel
theorem dX9_kindCode_56 : decode cX9_kindCode 56 = .ok (.ireturn, 1) := by decide +kernel
theorem dX9_kindCode_57 : decode cX9_kindCode 57 = .ok (.aload_n 0, 1) := by decide +kernel
theorem dX9_kindCode_58 : decode cX9_kindCode 58 = .ok (.getfield 7, 3) := by decide +kernel
theorem dX9_kindCode_61 : decode cX9_kindCode 61 = .ok (.iconst 2, 1) := by decide +kernel
theorem dX9_kindCode_62 : decode cX9_kindCode 62 = .ok (.iaload, 1) := by decide +kernel
theorem dX9_kindCode_63 : decode cX9_kindCode 63 = .ok (.iconst 5, 1) := by decide +kernel
theorem dX9_kindCode_64 : decode cX9_kindCode 64 = .ok (.if_icmp .ne 7, 3) := by decide +kernel
theorem dX9_kindCode_67 : decode cX9_kindCode 67 = .ok (.iconst 2, 1) := by decide +kernel
theorem dX9_kindCode_68 : decode cX9_kindCode 68 = .ok (.goto 4, 3) := by decide +kernel
theorem dX9_kindCode_71 : decode cX9_kindCode 71 = .ok (.iconst 0, 1) := by decide +kernel
theorem dX9_kindCode_72 : decode cX9_kindCode 72 = .ok (.ireturn, 1) := by decide +kernel
theorem dX9_addKindNow_0 : decode cX9_addKindNow 0 = .ok (.bipush 12, 2) := by decide +kernel
theorem dX9_addKindNow_2 : decode cX9_addKindNow 2 = .ok (.iconst 5, 1) := by decide +kernel
theorem dX9_addKindNow_3 : decode cX9_addKindNow 3 = .ok (.aload_n 0, 1) := by decide +kernel
theorem dX9_addKindNow_4 : decode cX9_addKindNow 4 = .ok (.getfield 7, 3) := by decide +kernel
theorem dX9_addKindNow_7 : decode cX9_addKindNow 7 = .ok (.iconst 2, 1) := by decide +kernel
theorem dX9_addKindNow_8 : decode cX9_addKindNow 8 = .ok (.iaload, 1) := by decide +kernel
theorem dX9_addKindNow_9 : decode cX9_addKindNow 9 = .ok (.imul, 1) := by decide +kernel
theorem dX9_addKindNow_10 : decode cX9_addKindNow 10 = .ok (.iadd, 1) := by decide +kernel
theorem dX9_addKindNow_11 : decode cX9_addKindNow 11 = .ok (.istore 6, 2) := by decide +kernel
theorem dX9_addKindNow_13 : decode cX9_addKindNow 13 = .ok (.aload_n 0, 1) := by decide +kernel
theorem dX9_addKindNow_14 : decode cX9_addKindNow 14 = .ok (.getfield 7, 3) := by decide +kernel
theorem dX9_addKindNow_17 : decode cX9_addKindNow 17 = .ok (.iload 6, 2) := by decide +kernel
theorem dX9_addKindNow_19 : decode cX9_addKindNow 19 = .ok (.iconst 0, 1) := by decide +kernel
theorem dX9_addKindNow_20 : decode cX9_addKindNow 20 = .ok (.iadd, 1) := by decide +kernel
theorem dX9_addKindNow_21 : decode cX9_addKindNow 21 = .ok (.iload_n 1, 1) := by decide +kernel
theorem dX9_addKindNow_22 : decode cX9_addKindNow 22 = .ok (.iastore, 1) := by decide +kernel
theorem dX9_addKindNow_23 : decode cX9_addKindNow 23 = .ok (.aload_n 0, 1) := by decide +kernel
theorem dX9_addKindNow_24 : decode cX9_addKindNow 24 = .ok (.getfield 7, 3) := by decide +kernel
theorem dX9_addKindNow_27 : decode cX9_addKindNow 27 = .ok (.iload 6, 2) := by decide +kernel
theorem dX9_addKindNow_29 : decode cX9_addKindNow 29 = .ok (.iconst 1, 1) := by decide +kernel
theorem dX9_addKindNow_30 : decode cX9_addKindNow 30 = .ok (.iadd, 1) := by decide +kernel
theorem dX9_addKindNow_31 : decode cX9_addKindNow 31 = .ok (.iload_n 2, 1) := by decide +kernel
theorem dX9_addKindNow_32 : decode cX9_addKindNow 32 = .ok (.iastore, 1) := by decide +kernel
theorem dX9_addKindNow_33 : decode cX9_addKindNow 33 = .ok (.aload_n 0, 1) := by decide +kernel
theorem dX9_addKindNow_34 : decode cX9_addKindNow 34 = .ok (.getfield 7, 3) := by decide +kernel
theorem dX9_addKindNow_37 : decode cX9_addKindNow 37 = .ok (.iload 6, 2) := by decide +kernel
theorem dX9_addKindNow_39 : decode cX9_addKindNow 39 = .ok (.iconst 2, 1) := by decide +kernel
theorem dX9_addKindNow_40 : decode cX9_addKindNow 40 = .ok (.iadd, 1) := by decide +kernel
theorem dX9_addKindNow_41 : decode cX9_addKindNow 41 = .ok (.iload_n 3, 1) := by decide +kernel
theorem dX9_addKindNow_42 : decode cX9_addKindNow 42 = .ok (.iastore, 1) := by decide +kernel
theorem dX9_addKindNow_43 : decode cX9_addKindNow 43 = .ok (.aload_n 0, 1) := by decide +kernel
theorem dX9_addKindNow_44 : decode cX9_addKindNow 44 = .ok (.getfield 7, 3) := by decide +kernel
theorem dX9_addKindNow_47 : decode cX9_addKindNow 47 = .ok (.iload 6, 2) := by decide +kernel
theorem dX9_addKindNow_49 : decode cX9_addKindNow 49 = .ok (.iconst 3, 1) := by decide +kernel
theorem dX9_addKindNow_50 : decode cX9_addKindNow 50 = .ok (.iadd, 1) := by decide +kernel
theorem dX9_addKindNow_51 : decode cX9_addKindNow 51 = .ok (.iload 4, 2) := by decide +kernel
theorem dX9_addKindNow_53 : decode cX9_addKindNow 53 = .ok (.iastore, 1) := by decide +kernel
theorem dX9_addKindNow_54 : decode cX9_addKindNow 54 = .ok (.aload_n 0, 1) := by decide +kernel
theorem dX9_addKindNow_55 : decode cX9_addKindNow 55 = .ok (.getfield 7, 3) := by decide +kernel
theorem dX9_addKindNow_58 : decode cX9_addKindNow 58 = .ok (.iload 6, 2) := by decide +kernel
theorem dX9_addKindNow_60 : decode cX9_addKindNow 60 = .ok (.iconst 4, 1) := by decide +kernel
theorem dX9_addKindNow_61 : decode cX9_addKindNow 61 = .ok (.iadd, 1) := by decide +kernel
theorem dX9_addKindNow_62 : decode cX9_addKindNow 62 = .ok (.iload 5, 2) := by decide +kernel
theorem dX9_addKindNow_64 : decode cX9_addKindNow 64 = .ok (.iastore, 1) := by decide +kernel
theorem dX9_addKindNow_65 : decode cX9_addKindNow 65 = .ok (.aload_n 0, 1) := by decide +kernel
theorem dX9_addKindNow_66 : decode cX9_addKindNow 66 = .ok (.getfield 7, 3) := by decide +kernel
theorem dX9_addKindNow_69 : decode cX9_addKindNow 69 = .ok (.iconst 2, 1) := by decide +kernel
theorem dX9_addKindNow_70 : decode cX9_addKindNow 70 = .ok (.dup2, 1) := by decide +kernel
theorem dX9_addKindNow_71 : decode cX9_addKindNow 71 = .ok (.iaload, 1) := by decide +kernel
theorem dX9_addKindNow_72 : decode cX9_addKindNow 72 = .ok (.iconst 1, 1) := by decide +kernel
theorem dX9_addKindNow_73 : decode cX9_addKindNow 73 = .ok (.iadd, 1) := by decide +kernel
theorem dX9_addKindNow_74 : decode cX9_addKindNow 74 = .ok (.iastore, 1) := by decide +kernel
theorem dX9_addKindNow_75 : decode cX9_addKindNow 75 = .ok (.aload_n 0, 1) := by decide +kernel
theorem dX9_addKindNow_76 : decode cX9_addKindNow 76 = .ok (.getfield 7, 3) := by decide +kernel
theorem dX9_addKindNow_79 : decode cX9_addKindNow 79 = .ok (.iconst 2, 1) := by decide +kernel
theorem dX9_addKindNow_80 : decode cX9_addKindNow 80 = .ok (.iaload, 1) := by decide +kernel
theorem dX9_addKindNow_81 : decode cX9_addKindNow 81 = .ok (.iconst 1, 1) := by decide +kernel
theorem dX9_addKindNow_82 : decode cX9_addKindNow 82 = .ok (.isub, 1) := by decide +kernel
theorem dX9_addKindNow_83 : decode cX9_addKindNow 83 = .ok (.ireturn, 1) := by decide +kernel
set_option maxRecDepth 20000 in
theorem ggX9_addKind_X9_kindCode : GoodIn wsX9_addKind wsX9_kindCode := goodIn_r _ [6, 7, 8, 9, 5, 10, 21, 22, 23, 24, 25, 26, 27, 28, 29, 30, 31, 32, 33] (by decide +kernel) (by decide +kernel)
set_option maxRecDepth 20000 in
theorem gX9_addKind_X9_kindCode : GoodIn wsX9_addKind (wsV RX9 108 RX9 yX9_kindCode wsX9_kindCode) := goodIn_app (goodIn_of _ (by decide +kernel)) ggX9_addKind_X9_kindCode
set_option maxRecDepth 20000 in
theorem ggX9_addKind_X9_save : GoodIn wsX9_addKind wsX9_save := goodIn_r _ [14, 15, 16, 7, 21, 22, 23, 24, 25, 26, 27, 28, 29, 30, 31, 32, 33] (by decide +kernel) (by decide +kernel)
set_option maxRecDepth 20000 in
theorem gX9_addKind_X9_save : GoodIn wsX9_addKind (wsV RX9 112 RX9 yX9_save wsX9_save) := goodIn_app (goodIn_of _ (by decide +kernel)) ggX9_addKind_X9_save
set_option maxRecDepth 20000 in
theorem ggX9_addKind_X9_addKindNow : GoodIn wsX9_addKind wsX9_addKindNow := goodIn_r _ [20, 7, 21, 22, 23, 24, 25, 26, 27, 28, 29, 30, 31, 32, 33] (by decide +kernel) (by decide +kernel)
set_option maxRecDepth 20000 in
theorem gX9_addKind_X9_addKindNow : GoodIn wsX9_addKind (wsV RX9 115 RX9 yX9_addKindNow wsX9_addKindNow) := goodIn_app (goodIn_of _ (by decide +kernel)) ggX9_addKind_X9_addKindNow
theorem dX9_addKind_0 : decode cX9_addKind 0 = .ok (.aload_n 0, 1) := by decide +kernel
theorem dX9_addKind_1 : decode cX9_addKind 1 = .ok (.aload_n 0, 1) := by decide +kernel
theorem dX9_addKind_2 : decode cX9_addKind 2 = .ok (.iload_n 1, 1) := by decide +kernel
theorem dX9_addKind_3 : decode cX9_addKind 3 = .ok (.iload_n 2, 1) := by decide +kernel
theorem dX9_addKind_4 : decode cX9_addKind 4 = .ok (.iload_n 3, 1) := by decide +kernel
theorem dX9_addKind_5 : decode cX9_addKind 5 = .ok (.iload 4, 2) := by decide +kernel
theorem dX9_addKind_7 : decode cX9_addKind 7 = .ok (.iload 5, 2) := by decide +kernel
theorem dX9_addKind_9 : decode cX9_addKind 9 = .ok (.invokevirtual 108, 3) := by decide +kernel
theorem dX9_addKind_12 : decode cX9_addKind 12 = .ok (.putfield 35, 3) := by decide +kernel
theorem dX9_addKind_15 : decode cX9_addKind 15 = .ok (.aload_n 0, 1) := by decide +kernel
theorem dX9_addKind_16 : decode cX9_addKind 16 = .ok (.getfield 35, 3) := by decide +kernel
theorem dX9_addKind_19 : decode cX9_addKind 19 = .ok (.ifCond .le 5, 3) := by decide +kernel
theorem dX9_addKind_22 : decode cX9_addKind 22 = .ok (.iconst 0, 1) := by decide +kernel
theorem dX9_addKind_23 : decode cX9_addKind 23 = .ok (.ireturn, 1) := by decide +kernel
theorem dX9_addKind_24 : decode cX9_addKind 24 = .ok (.aload_n 0, 1) := by decide +kernel
theorem dX9_addKind_25 : decode cX9_addKind 25 = .ok (.invokevirtual 112, 3) := by decide +kernel
theorem dX9_addKind_28 : decode cX9_addKind 28 = .ok (.aload_n 0, 1) := by decide +kernel
theorem dX9_addKind_29 : decode cX9_addKind 29 = .ok (.iload_n 1, 1) := by decide +kernel
theorem dX9_addKind_30 : decode cX9_addKind 30 = .ok (.iload_n 2, 1) := by decide +kernel
theorem dX9_addKind_31 : decode cX9_addKind 31 = .ok (.iload_n 3, 1) := by decide +kernel
theorem dX9_addKind_32 : decode cX9_addKind 32 = .ok (.iload 4, 2) := by decide +kernel
theorem dX9_addKind_34 : decode cX9_addKind 34 = .ok (.iload 5, 2) := by decide +kernel
theorem dX9_addKind_36 : decode cX9_addKind 36 = .ok (.invokevirtual 115, 3) := by decide +kernel
theorem dX9_addKind_39 : decode cX9_addKind 39 = .ok (.ireturn, 1) := by decide +kernel
theorem dX9_addHouseNow_0 : decode cX9_addHouseNow 0 = .ok (.iconst 0, 1) := by decide +kernel
theorem dX9_addHouseNow_1 : decode cX9_addHouseNow 1 = .ok (.istore_n 1, 1) := by decide +kernel
theorem dX9_addHouseNow_2 : decode cX9_addHouseNow 2 = .ok (.iload_n 1, 1) := by decide +kernel
theorem dX9_addHouseNow_3 : decode cX9_addHouseNow 3 = .ok (.bipush 6, 2) := by decide +kernel
theorem dX9_addHouseNow_5 : decode cX9_addHouseNow 5 = .ok (.if_icmp .ge 29, 3) := by decide +kernel
theorem dX9_addHouseNow_8 : decode cX9_addHouseNow 8 = .ok (.aload_n 0, 1) := by decide +kernel
theorem dX9_addHouseNow_9 : decode cX9_addHouseNow 9 = .ok (.getfield 7, 3) := by decide +kernel
theorem dX9_addHouseNow_12 : decode cX9_addHouseNow 12 = .ok (.bipush 37, 2) := by decide +kernel
theorem dX9_addHouseNow_14 : decode cX9_addHouseNow 14 = .ok (.bipush 6, 2) := by decide +kernel
theorem dX9_addHouseNow_16 : decode cX9_addHouseNow 16 = .ok (.aload_n 0, 1) := by decide +kernel
theorem dX9_addHouseNow_17 : decode cX9_addHouseNow 17 = .ok (.getfield 7, 3) := by decide +kernel
theorem dX9_addHouseNow_20 : decode cX9_addHouseNow 20 = .ok (.iconst 3, 1) := by decide +kernel
theorem dX9_addHouseNow_21 : decode cX9_addHouseNow 21 = .ok (.iaload, 1) := by decide +kernel
theorem dX9_addHouseNow_22 : decode cX9_addHouseNow 22 = .ok (.imul, 1) := by decide +kernel
theorem dX9_addHouseNow_23 : decode cX9_addHouseNow 23 = .ok (.iadd, 1) := by decide +kernel
theorem dX9_addHouseNow_24 : decode cX9_addHouseNow 24 = .ok (.iload_n 1, 1) := by decide +kernel
theorem dX9_addHouseNow_25 : decode cX9_addHouseNow 25 = .ok (.iadd, 1) := by decide +kernel
theorem dX9_addHouseNow_26 : decode cX9_addHouseNow 26 = .ok (.iconst 0, 1) := by decide +kernel
theorem dX9_addHouseNow_27 : decode cX9_addHouseNow 27 = .ok (.iastore, 1) := by decide +kernel
theorem dX9_addHouseNow_28 : decode cX9_addHouseNow 28 = .ok (.iinc 1 1, 3) := by decide +kernel
theorem dX9_addHouseNow_31 : decode cX9_addHouseNow 31 = .ok (.goto (-29), 3) := by decide +kernel
theorem dX9_addHouseNow_34 : decode cX9_addHouseNow 34 = .ok (.aload_n 0, 1) := by decide +kernel
theorem dX9_addHouseNow_35 : decode cX9_addHouseNow 35 = .ok (.getfield 7, 3) := by decide +kernel
theorem dX9_addHouseNow_38 : decode cX9_addHouseNow 38 = .ok (.iconst 3, 1) := by decide +kernel
theorem dX9_addHouseNow_39 : decode cX9_addHouseNow 39 = .ok (.dup2, 1) := by decide +kernel
theorem dX9_addHouseNow_40 : decode cX9_addHouseNow 40 = .ok (.iaload, 1) := by decide +kernel
theorem dX9_addHouseNow_41 : decode cX9_addHouseNow 41 = .ok (.iconst 1, 1) := by decide +kernel
theorem dX9_addHouseNow_42 : decode cX9_addHouseNow 42 = .ok (.iadd, 1) := by decide +kernel
theorem dX9_addHouseNow_43 : decode cX9_addHouseNow 43 = .ok (.iastore, 1) := by decide +kernel
theorem dX9_addHouseNow_44 : decode cX9_addHouseNow 44 = .ok (.aload_n 0, 1) := by decide +kernel
theorem dX9_addHouseNow_45 : decode cX9_addHouseNow 45 = .ok (.getfield 7, 3) := by decide +kernel
theorem dX9_addHouseNow_48 : decode cX9_addHouseNow 48 = .ok (.iconst 3, 1) := by decide +kernel
theorem dX9_addHouseNow_49 : decode cX9_addHouseNow 49 = .ok (.iaload, 1) := by decide +kernel
theorem dX9_addHouseNow_50 : decode cX9_addHouseNow 50 = .ok (.iconst 1, 1) := by decide +kernel
theorem dX9_addHouseNow_51 : decode cX9_addHouseNow 51 = .ok (.isub, 1) := by decide +kernel
theorem dX9_addHouseNow_52 : decode cX9_addHouseNow 52 = .ok (.ireturn, 1) := by decide +kernel
set_option maxRecDepth 20000 in
theorem ggX9_addHouse_X9_save : GoodIn wsX9_addHouse wsX9_save := goodIn_r _ [7, 8, 9, 1, 14, 15, 16, 17, 18, 19, 20, 21, 22, 23, 24, 25, 26] (by decide +kernel) (by decide +kernel)
set_option maxRecDepth 20000 in
theorem gX9_addHouse_X9_save : GoodIn wsX9_addHouse (wsV RX9 112 RX9 yX9_save wsX9_save) := goodIn_app (goodIn_of _ (by decide +kernel)) ggX9_addHouse_X9_save
set_option maxRecDepth 20000 in
theorem ggX9_addHouse_X9_addHouseNow : GoodIn wsX9_addHouse wsX9_addHouseNow := goodIn_r _ [13, 1, 14, 15, 16, 17, 18, 19, 20, 21, 22, 23, 24, 25, 26] (by decide +kernel) (by decide +kernel)
set_option maxRecDepth 20000 in
theorem gX9_addHouse_X9_addHouseNow : GoodIn wsX9_addHouse (wsV RX9 118 RX9 yX9_addHouseNow wsX9_addHouseNow) := goodIn_app (goodIn_of _ (by decide +kernel)) ggX9_addHouse_X9_addHouseNow
theorem dX9_addHouse_0 : decode cX9_addHouse 0 = .ok (.aload_n 0, 1) := by decide +kernel
theorem dX9_addHouse_1 : decode cX9_addHouse 1 = .ok (.aload_n 0, 1) := by decide +kernel
theorem dX9_addHouse_2 : decode cX9_addHouse 2 = .ok (.getfield 7, 3) := by decide +kernel
theorem dX9_addHouse_5 : decode cX9_addHouse 5 = .ok (.iconst 3, 1) := by decide +kernel
theorem dX9_addHouse_6 : decode cX9_addHouse 6 = .ok (.iaload, 1) := by decide +kernel
theorem dX9_addHouse_7 : decode cX9_addHouse 7 = .ok (.bipush 8, 2) := by decide +kernel
theorem dX9_addHouse_9 : decode cX9_addHouse 9 = .ok (.if_icmp .ne 7, 3) := by decide +kernel
theorem dX9_addHouse_12 : decode cX9_addHouse 12 = .ok (.iconst 1, 1) := by decide +kernel
theorem dX9_addHouse_13 : decode cX9_addHouse 13 = .ok (.goto 4, 3) := by decide +kernel
theorem dX9_addHouse_16 : decode cX9_addHouse 16 = .ok (.iconst 0, 1) := by decide +kernel
theorem dX9_addHouse_17 : decode cX9_addHouse 17 = .ok (.putfield 35, 3) := by decide +kernel
theorem dX9_addHouse_20 : decode cX9_addHouse 20 = .ok (.aload_n 0, 1) := by decide +kernel
theorem dX9_addHouse_21 : decode cX9_addHouse 21 = .ok (.getfield 35, 3) := by decide +kernel
theorem dX9_addHouse_24 : decode cX9_addHouse 24 = .ok (.ifCond .le 5, 3) := by decide +kernel
theorem dX9_addHouse_27 : decode cX9_addHouse 27 = .ok (.iconst 0, 1) := by decide +kernel
theorem dX9_addHouse_28 : decode cX9_addHouse 28 = .ok (.ireturn, 1) := by decide +kernel
theorem dX9_addHouse_29 : decode cX9_addHouse 29 = .ok (.aload_n 0, 1) := by decide +kernel
theorem dX9_addHouse_30 : decode cX9_addHouse 30 = .ok (.invokevirtual 112, 3) := by decide +kernel
theorem dX9_addHouse_33 : decode cX9_addHouse 33 = .ok (.aload_n 0, 1) := by decide +kernel
theorem dX9_addHouse_34 : decode cX9_addHouse 34 = .ok (.invokevirtual 118, 3) := by decide +kernel
theorem dX9_addHouse_37 : decode cX9_addHouse 37 = .ok (.ireturn, 1) := by decide +kernel
set_option maxRecDepth 20000 in
theorem ggX9_doughCode_X9_isHouse : GoodIn wsX9_doughCode wsX9_isHouse := goodIn_r _ [6, 1, 7, 8, 5, 9, 14, 15, 16, 17, 18, 19, 20, 21, 22, 23, 24, 25, 26] (by decide +kernel) (by decide +kernel)
set_option maxRecDepth 20000 in
theorem gX9_doughCode_X9_isHouse : GoodIn wsX9_doughCode (wsV RX9 122 RX9 yX9_isHouse wsX9_isHouse) := goodIn_app (goodIn_of _ (by decide +kernel)) ggX9_doughCode_X9_isHouse
set_option maxRecDepth 20000 in
theorem ggX9_doughCode_X9_isKind : GoodIn wsX9_doughCode wsX9_isKind := goodIn_r _ [13, 1, 7, 8, 5, 9, 14, 15, 16, 17, 18, 19, 20, 21, 22, 23, 24, 25, 26] (by decide +kernel) (by decide +kernel)
set_option maxRecDepth 20000 in
theorem gX9_doughCode_X9_isKind : GoodIn wsX9_doughCode (wsV RX9 126 RX9 yX9_isKind wsX9_isKind) := goodIn_app (goodIn_of _ (by decide +kernel)) ggX9_doughCode_X9_isKind
set_option maxRecDepth 20000 in
theorem ggX9_doughCode_X9_in : GoodIn wsX9_doughCode wsX9_in := goodIn_r _ [9] (by decide +kernel) (by decide +kernel)
set_option maxRecDepth 20000 in
theorem gX9_doughCode_X9_in : GoodIn wsX9_doughCode (va_wsS RX9 49 yX9_in wsX9_in) := goodIn_app (goodIn_of _ (by decide +kernel)) ggX9_doughCode_X9_in
theorem dX9_doughCode_0 : decode cX9_doughCode 0 = .ok (.aload_n 0, 1) := by decide +kernel
theorem dX9_doughCode_1 : decode cX9_doughCode 1 = .ok (.iload_n 1, 1) := by decide +kernel
theorem dX9_doughCode_2 : decode cX9_doughCode 2 = .ok (.invokevirtual 122, 3) := by decide +kernel
theorem dX9_doughCode_5 : decode cX9_doughCode 5 = .ok (.ifCond .eq 11, 3) := by decide +kernel
theorem dX9_doughCode_8 : decode cX9_doughCode 8 = .ok (.aload_n 0, 1) := by decide +kernel
theorem dX9_doughCode_9 : decode cX9_doughCode 9 = .ok (.iload_n 2, 1) := by decide +kernel
theorem dX9_doughCode_10 : decode cX9_doughCode 10 = .ok (.invokevirtual 126, 3) := by decide +kernel
theorem dX9_doughCode_13 : decode cX9_doughCode 13 = .ok (.ifCond .ne 5, 3) := by decide +kernel
theorem dX9_doughCode_16 : decode cX9_doughCode 16 = .ok (.iconst 1, 1) := by decide +kernel
theorem dX9_doughCode_17 : decode cX9_doughCode 17 = .ok (.ireturn, 1) := by decide +kernel
theorem dX9_doughCode_18 : decode cX9_doughCode 18 = .ok (.iload_n 3, 1) := by decide +kernel
theorem dX9_doughCode_19 : decode cX9_doughCode 19 = .ok (.iconst 1, 1) := by decide +kernel
theorem dX9_doughCode_20 : decode cX9_doughCode 20 = .ok (.iconst 4, 1) := by decide +kernel
theorem dX9_doughCode_21 : decode cX9_doughCode 21 = .ok (.invokestatic 49, 3) := by decide +kernel
theorem dX9_doughCode_24 : decode cX9_doughCode 24 = .ok (.ifCond .ne 7, 3) := by decide +kernel
theorem dX9_doughCode_27 : decode cX9_doughCode 27 = .ok (.iconst 2, 1) := by decide +kernel
theorem dX9_doughCode_28 : decode cX9_doughCode 28 = .ok (.goto 19, 3) := by decide +kernel
theorem dX9_doughCode_31 : decode cX9_doughCode 31 = .ok (.aload_n 0, 1) := by decide +kernel
theorem dX9_doughCode_32 : decode cX9_doughCode 32 = .ok (.getfield 7, 3) := by decide +kernel
theorem dX9_doughCode_35 : decode cX9_doughCode 35 = .ok (.iconst 4, 1) := by decide +kernel
theorem dX9_doughCode_36 : decode cX9_doughCode 36 = .ok (.iaload, 1) := by decide +kernel
theorem dX9_doughCode_37 : decode cX9_doughCode 37 = .ok (.bipush 16, 2) := by decide +kernel
theorem dX9_doughCode_39 : decode cX9_doughCode 39 = .ok (.if_icmp .ne 7, 3) := by decide +kernel
theorem dX9_doughCode_42 : decode cX9_doughCode 42 = .ok (.iconst 3, 1) := by decide +kernel
theorem dX9_doughCode_43 : decode cX9_doughCode 43 = .ok (.goto 4, 3) := by decide +kernel
theorem dX9_doughCode_46 : decode cX9_doughCode 46 = .ok (.iconst 0, 1) := by decide +kernel
theorem dX9_doughCode_47 : decode cX9_doughCode 47 = .ok (.ireturn, 1) := by decide +kernel
set_option maxRecDepth 20000 in
theorem ggX9_addDoughNow_X9_put : GoodIn wsX9_addDoughNow wsX9_put := goodIn_r _ [5] (by decide +kernel) (by decide +kernel)
set_option maxRecDepth 20000 in
theorem gX9_addDoughNow_X9_put : GoodIn wsX9_addDoughNow (va_wsS RX9 57 yX9_put wsX9_put) := goodIn_app (goodIn_of _ (by decide +kernel)) ggX9_addDoughNow_X9_put
theorem dX9_addDoughNow_0 : decode cX9_addDoughNow 0 = .ok (.aload_n 0, 1) := by decide +kernel
theorem dX9_addDoughNow_1 : decode cX9_addDoughNow 1 = .ok (.getfield 7, 3) := by decide +kernel
theorem dX9_addDoughNow_4 : decode cX9_addDoughNow 4 = .ok (.iconst 4, 1) := by decide +kernel
theorem dX9_addDoughNow_5 : decode cX9_addDoughNow 5 = .ok (.iaload, 1) := by decide +kernel
theorem dX9_addDoughNow_6 : decode cX9_addDoughNow 6 = .ok (.istore 4, 2) := by decide +kernel
theorem dX9_addDoughNow_8 : decode cX9_addDoughNow 8 = .ok (.aload_n 0, 1) := by decide +kernel
theorem dX9_addDoughNow_9 : decode cX9_addDoughNow 9 = .ok (.getfield 7, 3) := by decide +kernel
theorem dX9_addDoughNow_12 : decode cX9_addDoughNow 12 = .ok (.iconst 4, 1) := by decide +kernel
theorem dX9_addDoughNow_13 : decode cX9_addDoughNow 13 = .ok (.dup2, 1) := by decide +kernel
theorem dX9_addDoughNow_14 : decode cX9_addDoughNow 14 = .ok (.iaload, 1) := by decide +kernel
theorem dX9_addDoughNow_15 : decode cX9_addDoughNow 15 = .ok (.iconst 1, 1) := by decide +kernel
theorem dX9_addDoughNow_16 : decode cX9_addDoughNow 16 = .ok (.iadd, 1) := by decide +kernel
theorem dX9_addDoughNow_17 : decode cX9_addDoughNow 17 = .ok (.iastore, 1) := by decide +kernel
theorem dX9_addDoughNow_18 : decode cX9_addDoughNow 18 = .ok (.aload_n 0, 1) := by decide +kernel
theorem dX9_addDoughNow_19 : decode cX9_addDoughNow 19 = .ok (.getfield 7, 3) := by decide +kernel
theorem dX9_addDoughNow_22 : decode cX9_addDoughNow 22 = .ok (.iload 4, 2) := by decide +kernel
theorem dX9_addDoughNow_24 : decode cX9_addDoughNow 24 = .ok (.iconst 0, 1) := by decide +kernel
theorem dX9_addDoughNow_25 : decode cX9_addDoughNow 25 = .ok (.iload_n 1, 1) := by decide +kernel
theorem dX9_addDoughNow_26 : decode cX9_addDoughNow 26 = .ok (.invokestatic 57, 3) := by decide +kernel
theorem dX9_addDoughNow_29 : decode cX9_addDoughNow 29 = .ok (.aload_n 0, 1) := by decide +kernel
theorem dX9_addDoughNow_30 : decode cX9_addDoughNow 30 = .ok (.getfield 7, 3) := by decide +kernel
theorem dX9_addDoughNow_33 : decode cX9_addDoughNow 33 = .ok (.iload 4, 2) := by decide +kernel
theorem dX9_addDoughNow_35 : decode cX9_addDoughNow 35 = .ok (.iconst 1, 1) := by decide +kernel
theorem dX9_addDoughNow_36 : decode cX9_addDoughNow 36 = .ok (.iload_n 2, 1) := by decide +kernel
theorem dX9_addDoughNow_37 : decode cX9_addDoughNow 37 = .ok (.invokestatic 57, 3) := by decide +kernel
theorem dX9_addDoughNow_40 : decode cX9_addDoughNow 40 = .ok (.aload_n 0, 1) := by decide +kernel
theorem dX9_addDoughNow_41 : decode cX9_addDoughNow 41 = .ok (.getfield 7, 3) := by decide +kernel
theorem dX9_addDoughNow_44 : decode cX9_addDoughNow 44 = .ok (.iload 4, 2) := by decide +kernel
theorem dX9_addDoughNow_46 : decode cX9_addDoughNow 46 = .ok (.iconst 2, 1) := by decide +kernel
theorem dX9_addDoughNow_47 : decode cX9_addDoughNow 47 = .ok (.iload_n 3, 1) := by decide +kernel
theorem dX9_addDoughNow_48 : decode cX9_addDoughNow 48 = .ok (.invokestatic 57, 3) := by decide +kernel
theorem dX9_addDoughNow_51 : decode cX9_addDoughNow 51 = .ok (.aload_n 0, 1) := by decide +kernel
theorem dX9_addDoughNow_52 : decode cX9_addDoughNow 52 = .ok (.getfield 7, 3) := by decide +kernel
theorem dX9_addDoughNow_55 : decode cX9_addDoughNow 55 = .ok (.iload 4, 2) := by decide +kernel
theorem dX9_addDoughNow_57 : decode cX9_addDoughNow 57 = .ok (.iconst 3, 1) := by decide +kernel
theorem dX9_addDoughNow_58 : decode cX9_addDoughNow 58 = .ok (.iconst 0, 1) := by decide +kernel
theorem dX9_addDoughNow_59 : decode cX9_addDoughNow 59 = .ok (.invokestatic 57, 3) := by decide +kernel
theorem dX9_addDoughNow_62 : decode cX9_addDoughNow 62 = .ok (.aload_n 0, 1) := by decide +kernel
theorem dX9_addDoughNow_63 : decode cX9_addDoughNow 63 = .ok (.getfield 7, 3) := by decide +kernel
theorem dX9_addDoughNow_66 : decode cX9_addDoughNow 66 = .ok (.iload 4, 2) := by decide +kernel
theorem dX9_addDoughNow_68 : decode cX9_addDoughNow 68 = .ok (.iconst 4, 1) := by decide +kernel
theorem dX9_addDoughNow_69 : decode cX9_addDoughNow 69 = .ok (.iconst 0, 1) := by decide +kernel
theorem dX9_addDoughNow_70 : decode cX9_addDoughNow 70 = .ok (.invokestatic 57, 3) := by decide +kernel
theorem dX9_addDoughNow_73 : decode cX9_addDoughNow 73 = .ok (.aload_n 0, 1) := by decide +kernel
theorem dX9_addDoughNow_74 : decode cX9_addDoughNow 74 = .ok (.getfield 7, 3) := by decide +kernel
theorem dX9_addDoughNow_77 : decode cX9_addDoughNow 77 = .ok (.iload 4, 2) := by decide +kernel
theorem dX9_addDoughNow_79 : decode cX9_addDoughNow 79 = .ok (.iconst 5, 1) := by decide +kernel
theorem dX9_addDoughNow_80 : decode cX9_addDoughNow 80 = .ok (.iconst 0, 1) := by decide +kernel
theorem dX9_addDoughNow_81 : decode cX9_addDoughNow 81 = .ok (.invokestatic 57, 3) := by decide +kernel
theorem dX9_addDoughNow_84 : decode cX9_addDoughNow 84 = .ok (.aload_n 0, 1) := by decide +kernel
theorem dX9_addDoughNow_85 : decode cX9_addDoughNow 85 = .ok (.getfield 7, 3) := by decide +kernel
theorem dX9_addDoughNow_88 : decode cX9_addDoughNow 88 = .ok (.iload 4, 2) := by decide +kernel
theorem dX9_addDoughNow_90 : decode cX9_addDoughNow 90 = .ok (.bipush 6, 2) := by decide +kernel
theorem dX9_addDoughNow_92 : decode cX9_addDoughNow 92 = .ok (.iconst (-1), 1) := by decide +kernel
theorem dX9_addDoughNow_93 : decode cX9_addDoughNow 93 = .ok (.invokestatic 57, 3) := by decide +kernel
theorem dX9_addDoughNow_96 : decode cX9_addDoughNow 96 = .ok (.aload_n 0, 1) := by decide +kernel
theorem dX9_addDoughNow_97 : decode cX9_addDoughNow 97 = .ok (.getfield 7, 3) := by decide +kernel
theorem dX9_addDoughNow_100 : decode cX9_addDoughNow 100 = .ok (.iload 4, 2) := by decide +kernel
theorem dX9_addDoughNow_102 : decode cX9_addDoughNow 102 = .ok (.bipush 7, 2) := by decide +kernel
theorem dX9_addDoughNow_104 : decode cX9_addDoughNow 104 = .ok (.iconst 0, 1) := by decide +kernel
theorem dX9_addDoughNow_105 : decode cX9_addDoughNow 105 = .ok (.invokestatic 57, 3) := by decide +kernel
theorem dX9_addDoughNow_108 : decode cX9_addDoughNow 108 = .ok (.aload_n 0, 1) := by decide +kernel
theorem dX9_addDoughNow_109 : decode cX9_addDoughNow 109 = .ok (.getfield 7, 3) := by decide +kernel
theorem dX9_addDoughNow_112 : decode cX9_addDoughNow 112 = .ok (.sipush 213, 3) := by decide +kernel
theorem dX9_addDoughNow_115 : decode cX9_addDoughNow 115 = .ok (.aload_n 0, 1) := by decide +kernel
theorem dX9_addDoughNow_116 : decode cX9_addDoughNow 116 = .ok (.getfield 7, 3) := by decide +kernel
theorem dX9_addDoughNow_119 : decode cX9_addDoughNow 119 = .ok (.iconst 5, 1) := by decide +kernel
theorem dX9_addDoughNow_120 : decode cX9_addDoughNow 120 = .ok (.iaload, 1) := by decide +kernel
theorem dX9_addDoughNow_121 : decode cX9_addDoughNow 121 = .ok (.iadd, 1) := by decide +kernel
theorem dX9_addDoughNow_122 : decode cX9_addDoughNow 122 = .ok (.iload 4, 2) := by decide +kernel
theorem dX9_addDoughNow_124 : decode cX9_addDoughNow 124 = .ok (.iastore, 1) := by decide +kernel
theorem dX9_addDoughNow_125 : decode cX9_addDoughNow 125 = .ok (.aload_n 0, 1) := by decide +kernel
theorem dX9_addDoughNow_126 : decode cX9_addDoughNow 126 = .ok (.getfield 7, 3) := by decide +kernel
theorem dX9_addDoughNow_129 : decode cX9_addDoughNow 129 = .ok (.iconst 5, 1) := by decide +kernel
theorem dX9_addDoughNow_130 : decode cX9_addDoughNow 130 = .ok (.dup2, 1) := by decide +kernel
theorem dX9_addDoughNow_131 : decode cX9_addDoughNow 131 = .ok (.iaload, 1) := by decide +kernel
theorem dX9_addDoughNow_132 : decode cX9_addDoughNow 132 = .ok (.iconst 1, 1) := by decide +kernel
theorem dX9_addDoughNow_133 : decode cX9_addDoughNow 133 = .ok (.iadd, 1) := by decide +kernel
theorem dX9_addDoughNow_134 : decode cX9_addDoughNow 134 = .ok (.iastore, 1) := by decide +kernel
theorem dX9_addDoughNow_135 : decode cX9_addDoughNow 135 = .ok (.iload 4, 2) := by decide +kernel
theorem dX9_addDoughNow_137 : decode cX9_addDoughNow 137 = .ok (.ireturn, 1) := by decide +kernel
set_option maxRecDepth 20000 in
theorem ggX9_addDough_X9_doughCode : GoodIn wsX9_addDough wsX9_doughCode := goodIn_r _ [6, 7, 8, 9, 10, 5, 11, 12, 13, 14, 15, 16, 17, 18, 32, 33, 34, 35, 36, 37, 38, 39, 40, 41, 42, 43, 44] (by decide +kernel) (by decide +kernel)
set_option maxRecDepth 20000 in
theorem gX9_addDough_X9_doughCode : GoodIn wsX9_addDough (wsV RX9 129 RX9 yX9_doughCode wsX9_doughCode) := goodIn_app (goodIn_of _ (by decide +kernel)) ggX9_addDough_X9_doughCode
set_option maxRecDepth 20000 in
theorem ggX9_addDough_X9_save : GoodIn wsX9_addDough wsX9_save := goodIn_r _ [22, 23, 24, 7, 32, 33, 34, 35, 36, 37, 38, 39, 40, 41, 42, 43, 44] (by decide +kernel) (by decide +kernel)
set_option maxRecDepth 20000 in
theorem gX9_addDough_X9_save : GoodIn wsX9_addDough (wsV RX9 112 RX9 yX9_save wsX9_save) := goodIn_app (goodIn_of _ (by decide +kernel)) ggX9_addDough_X9_save
set_option maxRecDepth 20000 in
theorem ggX9_addDough_X9_addDoughNow : GoodIn wsX9_addDough wsX9_addDoughNow := goodIn_r _ [28, 7, 29, 30, 5, 31, 32, 33, 34, 35, 36, 37, 38, 39, 40, 41, 42, 43, 44] (by decide +kernel) (by decide +kernel)
set_option maxRecDepth 20000 in
theorem gX9_addDough_X9_addDoughNow : GoodIn wsX9_addDough (wsV RX9 133 RX9 yX9_addDoughNow wsX9_addDoughNow) := goodIn_app (goodIn_of _ (by decide +kernel)) ggX9_addDough_X9_addDoughNow
theorem dX9_addDough_0 : decode cX9_addDough 0 = .ok (.aload_n 0, 1) := by decide +kernel
theorem dX9_addDough_1 : decode cX9_addDough 1 = .ok (.aload_n 0, 1) := by decide +kernel
theorem dX9_addDough_2 : decode cX9_addDough 2 = .ok (.iload_n 1, 1) := by decide +kernel
theorem dX9_addDough_3 : decode cX9_addDough 3 = .ok (.iload_n 2, 1) := by decide +kernel
theorem dX9_addDough_4 : decode cX9_addDough 4 = .ok (.iload_n 3, 1) := by decide +kernel
theorem dX9_addDough_5 : decode cX9_addDough 5 = .ok (.invokevirtual 129, 3) := by decide +kernel
theorem dX9_addDough_8 : decode cX9_addDough 8 = .ok (.putfield 35, 3) := by decide +kernel
theorem dX9_addDough_11 : decode cX9_addDough 11 = .ok (.aload_n 0, 1) := by decide +kernel
theorem dX9_addDough_12 : decode cX9_addDough 12 = .ok (.getfield 35, 3) := by decide +kernel
theorem dX9_addDough_15 : decode cX9_addDough 15 = .ok (.ifCond .le 5, 3) := by decide +kernel
theorem dX9_addDough_18 : decode cX9_addDough 18 = .ok (.iconst 0, 1) := by decide +kernel
theorem dX9_addDough_19 : decode cX9_addDough 19 = .ok (.ireturn, 1) := by decide +kernel
theorem dX9_addDough_20 : decode cX9_addDough 20 = .ok (.aload_n 0, 1) := by decide +kernel
theorem dX9_addDough_21 : decode cX9_addDough 21 = .ok (.invokevirtual 112, 3) := by decide +kernel
theorem dX9_addDough_24 : decode cX9_addDough 24 = .ok (.aload_n 0, 1) := by decide +kernel
theorem dX9_addDough_25 : decode cX9_addDough 25 = .ok (.iload_n 1, 1) := by decide +kernel
theorem dX9_addDough_26 : decode cX9_addDough 26 = .ok (.iload_n 2, 1) := by decide +kernel
theorem dX9_addDough_27 : decode cX9_addDough 27 = .ok (.iload_n 3, 1) := by decide +kernel
theorem dX9_addDough_28 : decode cX9_addDough 28 = .ok (.invokevirtual 133, 3) := by decide +kernel
theorem dX9_addDough_31 : decode cX9_addDough 31 = .ok (.ireturn, 1) := by decide +kernel
set_option maxRecDepth 20000 in
theorem ggX9_clearDoughs_X9_save : GoodIn wsX9_clearDoughs wsX9_save := goodIn_r _ [8, 9, 10, 2, 20, 21, 22, 23, 24, 25, 26, 27, 28, 29, 30, 31, 32] (by decide +kernel) (by decide +kernel)
set_option maxRecDepth 20000 in
theorem gX9_clearDoughs_X9_save : GoodIn wsX9_clearDoughs (wsV RX9 112 RX9 yX9_save wsX9_save) := goodIn_app (goodIn_of _ (by decide +kernel)) ggX9_clearDoughs_X9_save
set_option maxRecDepth 20000 in
theorem ggX9_clearDoughs_X9_of : GoodIn wsX9_clearDoughs wsX9_of := goodIn_r _ [13] (by decide +kernel) (by decide +kernel)
set_option maxRecDepth 20000 in
theorem gX9_clearDoughs_X9_of : GoodIn wsX9_clearDoughs (va_wsS RX9 42 yX9_of wsX9_of) := goodIn_app (goodIn_of _ (by decide +kernel)) ggX9_clearDoughs_X9_of
set_option maxRecDepth 20000 in
theorem ggX9_clearDoughs_X9_put : GoodIn wsX9_clearDoughs wsX9_put := goodIn_r _ [16] (by decide +kernel) (by decide +kernel)
set_option maxRecDepth 20000 in
theorem gX9_clearDoughs_X9_put : GoodIn wsX9_clearDoughs (va_wsS RX9 57 yX9_put wsX9_put) := goodIn_app (goodIn_of _ (by decide +kernel)) ggX9_clearDoughs_X9_put
set_option maxRecDepth 20000 in
theorem ggX9_clearDoughs_X9_at : GoodIn wsX9_clearDoughs wsX9_at := goodIn_r _ [19] (by decide +kernel) (by decide +kernel)
set_option maxRecDepth 20000 in
theorem gX9_clearDoughs_X9_at : GoodIn wsX9_clearDoughs (va_wsS RX9 68 yX9_at wsX9_at) := goodIn_app (goodIn_of _ (by decide +kernel)) ggX9_clearDoughs_X9_at
theorem dX9_clearDoughs_0 : decode cX9_clearDoughs 0 = .ok (.aload_n 0, 1) := by decide +kernel
theorem dX9_clearDoughs_1 : decode cX9_clearDoughs 1 = .ok (.iconst 0, 1) := by decide +kernel
theorem dX9_clearDoughs_2 : decode cX9_clearDoughs 2 = .ok (.putfield 35, 3) := by decide +kernel
theorem dX9_clearDoughs_5 : decode cX9_clearDoughs 5 = .ok (.aload_n 0, 1) := by decide +kernel
theorem dX9_clearDoughs_6 : decode cX9_clearDoughs 6 = .ok (.invokevirtual 112, 3) := by decide +kernel
theorem dX9_clearDoughs_9 : decode cX9_clearDoughs 9 = .ok (.iconst 0, 1) := by decide +kernel
theorem dX9_clearDoughs_10 : decode cX9_clearDoughs 10 = .ok (.istore_n 1, 1) := by decide +kernel
theorem dX9_clearDoughs_11 : decode cX9_clearDoughs 11 = .ok (.iconst 0, 1) := by decide +kernel
theorem dX9_clearDoughs_12 : decode cX9_clearDoughs 12 = .ok (.istore_n 2, 1) := by decide +kernel
theorem dX9_clearDoughs_13 : decode cX9_clearDoughs 13 = .ok (.iload_n 2, 1) := by decide +kernel
theorem dX9_clearDoughs_14 : decode cX9_clearDoughs 14 = .ok (.aload_n 0, 1) := by decide +kernel
theorem dX9_clearDoughs_15 : decode cX9_clearDoughs 15 = .ok (.getfield 7, 3) := by decide +kernel
theorem dX9_clearDoughs_18 : decode cX9_clearDoughs 18 = .ok (.iconst 4, 1) := by decide +kernel
theorem dX9_clearDoughs_19 : decode cX9_clearDoughs 19 = .ok (.iaload, 1) := by decide +kernel
theorem dX9_clearDoughs_20 : decode cX9_clearDoughs 20 = .ok (.if_icmp .ge 95, 3) := by decide +kernel
theorem dX9_clearDoughs_23 : decode cX9_clearDoughs 23 = .ok (.aload_n 0, 1) := by decide +kernel
theorem dX9_clearDoughs_24 : decode cX9_clearDoughs 24 = .ok (.getfield 7, 3) := by decide +kernel
theorem dX9_clearDoughs_27 : decode cX9_clearDoughs 27 = .ok (.iload_n 2, 1) := by decide +kernel
theorem dX9_clearDoughs_28 : decode cX9_clearDoughs 28 = .ok (.iconst 4, 1) := by decide +kernel
theorem dX9_clearDoughs_29 : decode cX9_clearDoughs 29 = .ok (.invokestatic 42, 3) := by decide +kernel
theorem dX9_clearDoughs_32 : decode cX9_clearDoughs 32 = .ok (.iconst 2, 1) := by decide +kernel
theorem dX9_clearDoughs_33 : decode cX9_clearDoughs 33 = .ok (.if_icmp .ge 7, 3) := by decide +kernel
theorem dX9_clearDoughs_36 : decode cX9_clearDoughs 36 = .ok (.iconst 1, 1) := by decide +kernel
theorem dX9_clearDoughs_37 : decode cX9_clearDoughs 37 = .ok (.goto 4, 3) := by decide +kernel
theorem dX9_clearDoughs_40 : decode cX9_clearDoughs 40 = .ok (.iconst 0, 1) := by decide +kernel
theorem dX9_clearDoughs_41 : decode cX9_clearDoughs 41 = .ok (.istore_n 3, 1) := by decide +kernel
theorem dX9_clearDoughs_42 : decode cX9_clearDoughs 42 = .ok (.aload_n 0, 1) := by decide +kernel
theorem dX9_clearDoughs_43 : decode cX9_clearDoughs 43 = .ok (.getfield 29, 3) := by decide +kernel
theorem dX9_clearDoughs_46 : decode cX9_clearDoughs 46 = .ok (.iload_n 2, 1) := by decide +kernel
theorem dX9_clearDoughs_47 : decode cX9_clearDoughs 47 = .ok (.iload_n 3, 1) := by decide +kernel
theorem dX9_clearDoughs_48 : decode cX9_clearDoughs 48 = .ok (.ifCond .eq 7, 3) := by decide +kernel
theorem dX9_clearDoughs_51 : decode cX9_clearDoughs 51 = .ok (.iload_n 1, 1) := by decide +kernel
theorem dX9_clearDoughs_52 : decode cX9_clearDoughs 52 = .ok (.goto 4, 3) := by decide +kernel
theorem dX9_clearDoughs_55 : decode cX9_clearDoughs 55 = .ok (.iconst (-1), 1) := by decide +kernel
theorem dX9_clearDoughs_56 : decode cX9_clearDoughs 56 = .ok (.iastore, 1) := by decide +kernel
theorem dX9_clearDoughs_57 : decode cX9_clearDoughs 57 = .ok (.iconst 0, 1) := by decide +kernel
theorem dX9_clearDoughs_58 : decode cX9_clearDoughs 58 = .ok (.istore 4, 2) := by decide +kernel
theorem dX9_clearDoughs_60 : decode cX9_clearDoughs 60 = .ok (.iload 4, 2) := by decide +kernel
theorem dX9_clearDoughs_62 : decode cX9_clearDoughs 62 = .ok (.bipush 8, 2) := by decide +kernel
theorem dX9_clearDoughs_64 : decode cX9_clearDoughs 64 = .ok (.if_icmp .ge 33, 3) := by decide +kernel
theorem dX9_clearDoughs_67 : decode cX9_clearDoughs 67 = .ok (.iload_n 3, 1) := by decide +kernel
theorem dX9_clearDoughs_68 : decode cX9_clearDoughs 68 = .ok (.ifCond .eq 29, 3) := by decide +kernel
theorem dX9_clearDoughs_71 : decode cX9_clearDoughs 71 = .ok (.aload_n 0, 1) := by decide +kernel
theorem dX9_clearDoughs_72 : decode cX9_clearDoughs 72 = .ok (.getfield 7, 3) := by decide +kernel
theorem dX9_clearDoughs_75 : decode cX9_clearDoughs 75 = .ok (.iload_n 1, 1) := by decide +kernel
theorem dX9_clearDoughs_76 : decode cX9_clearDoughs 76 = .ok (.iload 4, 2) := by decide +kernel
theorem dX9_clearDoughs_78 : decode cX9_clearDoughs 78 = .ok (.aload_n 0, 1) := by decide +kernel
theorem dX9_clearDoughs_79 : decode cX9_clearDoughs 79 = .ok (.getfield 7, 3) := by decide +kernel
theorem dX9_clearDoughs_82 : decode cX9_clearDoughs 82 = .ok (.iload_n 2, 1) := by decide +kernel
theorem dX9_clearDoughs_83 : decode cX9_clearDoughs 83 = .ok (.iload 4, 2) := by decide +kernel
theorem dX9_clearDoughs_85 : decode cX9_clearDoughs 85 = .ok (.invokestatic 42, 3) := by decide +kernel
theorem dX9_clearDoughs_88 : decode cX9_clearDoughs 88 = .ok (.invokestatic 57, 3) := by decide +kernel
theorem dX9_clearDoughs_91 : decode cX9_clearDoughs 91 = .ok (.iinc 4 1, 3) := by decide +kernel
theorem dX9_clearDoughs_94 : decode cX9_clearDoughs 94 = .ok (.goto (-34), 3) := by decide +kernel
theorem dX9_clearDoughs_97 : decode cX9_clearDoughs 97 = .ok (.iload_n 1, 1) := by decide +kernel
theorem dX9_clearDoughs_98 : decode cX9_clearDoughs 98 = .ok (.iload_n 3, 1) := by decide +kernel
theorem dX9_clearDoughs_99 : decode cX9_clearDoughs 99 = .ok (.ifCond .eq 7, 3) := by decide +kernel
theorem dX9_clearDoughs_102 : decode cX9_clearDoughs 102 = .ok (.iconst 1, 1) := by decide +kernel
theorem dX9_clearDoughs_103 : decode cX9_clearDoughs 103 = .ok (.goto 4, 3) := by decide +kernel
theorem dX9_clearDoughs_106 : decode cX9_clearDoughs 106 = .ok (.iconst 0, 1) := by decide +kernel
theorem dX9_clearDoughs_107 : decode cX9_clearDoughs 107 = .ok (.iadd, 1) := by decide +kernel
theorem dX9_clearDoughs_108 : decode cX9_clearDoughs 108 = .ok (.istore_n 1, 1) := by decide +kernel
theorem dX9_clearDoughs_109 : decode cX9_clearDoughs 109 = .ok (.iinc 2 1, 3) := by decide +kernel
theorem dX9_clearDoughs_112 : decode cX9_clearDoughs 112 = .ok (.goto (-99), 3) := by decide +kernel
theorem dX9_clearDoughs_115 : decode cX9_clearDoughs 115 = .ok (.iconst 0, 1) := by decide +kernel
theorem dX9_clearDoughs_116 : decode cX9_clearDoughs 116 = .ok (.istore_n 2, 1) := by decide +kernel
theorem dX9_clearDoughs_117 : decode cX9_clearDoughs 117 = .ok (.iload_n 2, 1) := by decide +kernel
theorem dX9_clearDoughs_118 : decode cX9_clearDoughs 118 = .ok (.aload_n 0, 1) := by decide +kernel
theorem dX9_clearDoughs_119 : decode cX9_clearDoughs 119 = .ok (.getfield 7, 3) := by decide +kernel
theorem dX9_clearDoughs_122 : decode cX9_clearDoughs 122 = .ok (.iconst 5, 1) := by decide +kernel
theorem dX9_clearDoughs_123 : decode cX9_clearDoughs 123 = .ok (.iaload, 1) := by decide +kernel
theorem dX9_clearDoughs_124 : decode cX9_clearDoughs 124 = .ok (.if_icmp .ge 34, 3) := by decide +kernel
theorem dX9_clearDoughs_127 : decode cX9_clearDoughs 127 = .ok (.aload_n 0, 1) := by decide +kernel
theorem dX9_clearDoughs_128 : decode cX9_clearDoughs 128 = .ok (.getfield 7, 3) := by decide +kernel
theorem dX9_clearDoughs_131 : decode cX9_clearDoughs 131 = .ok (.sipush 213, 3) := by decide +kernel
theorem dX9_clearDoughs_134 : decode cX9_clearDoughs 134 = .ok (.iload_n 2, 1) := by decide +kernel
theorem dX9_clearDoughs_135 : decode cX9_clearDoughs 135 = .ok (.iadd, 1) := by decide +kernel
theorem dX9_clearDoughs_136 : decode cX9_clearDoughs 136 = .ok (.aload_n 0, 1) := by decide +kernel
theorem dX9_clearDoughs_137 : decode cX9_clearDoughs 137 = .ok (.getfield 29, 3) := by decide +kernel
theorem dX9_clearDoughs_140 : decode cX9_clearDoughs 140 = .ok (.aload_n 0, 1) := by decide +kernel
theorem dX9_clearDoughs_141 : decode cX9_clearDoughs 141 = .ok (.getfield 7, 3) := by decide +kernel
theorem dX9_clearDoughs_144 : decode cX9_clearDoughs 144 = .ok (.sipush 213, 3) := by decide +kernel
theorem dX9_clearDoughs_147 : decode cX9_clearDoughs 147 = .ok (.iload_n 2, 1) := by decide +kernel
theorem dX9_clearDoughs_148 : decode cX9_clearDoughs 148 = .ok (.iadd, 1) := by decide +kernel
theorem dX9_clearDoughs_149 : decode cX9_clearDoughs 149 = .ok (.iaload, 1) := by decide +kernel
theorem dX9_clearDoughs_150 : decode cX9_clearDoughs 150 = .ok (.iaload, 1) := by decide +kernel
theorem dX9_clearDoughs_151 : decode cX9_clearDoughs 151 = .ok (.iastore, 1) := by decide +kernel
theorem dX9_clearDoughs_152 : decode cX9_clearDoughs 152 = .ok (.iinc 2 1, 3) := by decide +kernel
theorem dX9_clearDoughs_155 : decode cX9_clearDoughs 155 = .ok (.goto (-38), 3) := by decide +kernel
theorem dX9_clearDoughs_158 : decode cX9_clearDoughs 158 = .ok (.iconst 0, 1) := by decide +kernel
theorem dX9_clearDoughs_159 : decode cX9_clearDoughs 159 = .ok (.istore_n 2, 1) := by decide +kernel
theorem dX9_clearDoughs_160 : decode cX9_clearDoughs 160 = .ok (.iload_n 2, 1) := by decide +kernel
theorem dX9_clearDoughs_161 : decode cX9_clearDoughs 161 = .ok (.bipush 12, 2) := by decide +kernel
theorem dX9_clearDoughs_163 : decode cX9_clearDoughs 163 = .ok (.if_icmp .ge 48, 3) := by decide +kernel
theorem dX9_clearDoughs_166 : decode cX9_clearDoughs 166 = .ok (.aload_n 0, 1) := by decide +kernel
theorem dX9_clearDoughs_167 : decode cX9_clearDoughs 167 = .ok (.getfield 7, 3) := by decide +kernel
theorem dX9_clearDoughs_170 : decode cX9_clearDoughs 170 = .ok (.iload_n 2, 1) := by decide +kernel
theorem dX9_clearDoughs_171 : decode cX9_clearDoughs 171 = .ok (.iconst 0, 1) := by decide +kernel
theorem dX9_clearDoughs_172 : decode cX9_clearDoughs 172 = .ok (.invokestatic 68, 3) := by decide +kernel
theorem dX9_clearDoughs_175 : decode cX9_clearDoughs 175 = .ok (.istore_n 3, 1) := by decide +kernel
theorem dX9_clearDoughs_176 : decode cX9_clearDoughs 176 = .ok (.aload_n 0, 1) := by decide +kernel
theorem dX9_clearDoughs_177 : decode cX9_clearDoughs 177 = .ok (.getfield 7, 3) := by decide +kernel
theorem dX9_clearDoughs_180 : decode cX9_clearDoughs 180 = .ok (.sipush 229, 3) := by decide +kernel
theorem dX9_clearDoughs_183 : decode cX9_clearDoughs 183 = .ok (.iconst 3, 1) := by decide +kernel
theorem dX9_clearDoughs_184 : decode cX9_clearDoughs 184 = .ok (.iload_n 2, 1) := by decide +kernel
theorem dX9_clearDoughs_185 : decode cX9_clearDoughs 185 = .ok (.imul, 1) := by decide +kernel
theorem dX9_clearDoughs_186 : decode cX9_clearDoughs 186 = .ok (.iadd, 1) := by decide +kernel
theorem dX9_clearDoughs_187 : decode cX9_clearDoughs 187 = .ok (.iconst 0, 1) := by decide +kernel
theorem dX9_clearDoughs_188 : decode cX9_clearDoughs 188 = .ok (.iadd, 1) := by decide +kernel
theorem dX9_clearDoughs_189 : decode cX9_clearDoughs 189 = .ok (.iload_n 3, 1) := by decide +kernel
theorem dX9_clearDoughs_190 : decode cX9_clearDoughs 190 = .ok (.iconst (-1), 1) := by decide +kernel
theorem dX9_clearDoughs_191 : decode cX9_clearDoughs 191 = .ok (.if_icmp .ne 7, 3) := by decide +kernel
theorem dX9_clearDoughs_194 : decode cX9_clearDoughs 194 = .ok (.iconst (-1), 1) := by decide +kernel
theorem dX9_clearDoughs_195 : decode cX9_clearDoughs 195 = .ok (.goto 9, 3) := by decide +kernel
theorem dX9_clearDoughs_198 : decode cX9_clearDoughs 198 = .ok (.aload_n 0, 1) := by decide +kernel
theorem dX9_clearDoughs_199 : decode cX9_clearDoughs 199 = .ok (.getfield 29, 3) := by decide +kernel
theorem dX9_clearDoughs_202 : decode cX9_clearDoughs 202 = .ok (.iload_n 3, 1) := by decide +kernel
theorem dX9_clearDoughs_203 : decode cX9_clearDoughs 203 = .ok (.iaload, 1) := by decide +kernel
theorem dX9_clearDoughs_204 : decode cX9_clearDoughs 204 = .ok (.iastore, 1) := by decide +kernel
theorem dX9_clearDoughs_205 : decode cX9_clearDoughs 205 = .ok (.iinc 2 1, 3) := by decide +kernel
theorem dX9_clearDoughs_208 : decode cX9_clearDoughs 208 = .ok (.goto (-48), 3) := by decide +kernel
theorem dX9_clearDoughs_211 : decode cX9_clearDoughs 211 = .ok (.aload_n 0, 1) := by decide +kernel
theorem dX9_clearDoughs_212 : decode cX9_clearDoughs 212 = .ok (.getfield 7, 3) := by decide +kernel
theorem dX9_clearDoughs_215 : decode cX9_clearDoughs 215 = .ok (.iconst 4, 1) := by decide +kernel
theorem dX9_clearDoughs_216 : decode cX9_clearDoughs 216 = .ok (.iload_n 1, 1) := by decide +kernel
theorem dX9_clearDoughs_217 : decode cX9_clearDoughs 217 = .ok (.iastore, 1) := by decide +kernel
theorem dX9_clearDoughs_218 : decode cX9_clearDoughs 218 = .ok (.iload_n 1, 1) := by decide +kernel
theorem dX9_clearDoughs_219 : decode cX9_clearDoughs 219 = .ok (.ireturn, 1) := by decide +kernel
set_option maxRecDepth 20000 in
theorem ggX9_swapCode_X9_isDough : GoodIn wsX9_swapCode wsX9_isDough := goodIn_r _ [6, 1, 7, 8, 5, 9, 13, 14, 15, 16, 17, 18, 19, 20, 21, 22, 23, 24, 25] (by decide +kernel) (by decide +kernel)
set_option maxRecDepth 20000 in
theorem gX9_swapCode_X9_isDough : GoodIn wsX9_swapCode (wsV RX9 136 RX9 yX9_isDough wsX9_isDough) := goodIn_app (goodIn_of _ (by decide +kernel)) ggX9_swapCode_X9_isDough
set_option maxRecDepth 20000 in
theorem ggX9_swapCode_X9_of : GoodIn wsX9_swapCode wsX9_of := goodIn_r _ [12] (by decide +kernel) (by decide +kernel)
set_option maxRecDepth 20000 in
theorem gX9_swapCode_X9_of : GoodIn wsX9_swapCode (va_wsS RX9 42 yX9_of wsX9_of) := goodIn_app (goodIn_of _ (by decide +kernel)) ggX9_swapCode_X9_of
theorem dX9_swapCode_0 : decode cX9_swapCode 0 = .ok (.aload_n 0, 1) := by decide +kernel
theorem dX9_swapCode_1 : decode cX9_swapCode 1 = .ok (.iload_n 1, 1) := by decide +kernel
theorem dX9_swapCode_2 : decode cX9_swapCode 2 = .ok (.invokevirtual 136, 3) := by decide +kernel
theorem dX9_swapCode_5 : decode cX9_swapCode 5 = .ok (.ifCond .eq 11, 3) := by decide +kernel
theorem dX9_swapCode_8 : decode cX9_swapCode 8 = .ok (.aload_n 0, 1) := by decide +kernel
theorem dX9_swapCode_9 : decode cX9_swapCode 9 = .ok (.iload_n 2, 1) := by decide +kernel
theorem dX9_swapCode_10 : decode cX9_swapCode 10 = .ok (.invokevirtual 136, 3) := by decide +kernel
theorem dX9_swapCode_13 : decode cX9_swapCode 13 = .ok (.ifCond .ne 5, 3) := by decide +kernel
theorem dX9_swapCode_16 : decode cX9_swapCode 16 = .ok (.iconst 1, 1) := by decide +kernel
theorem dX9_swapCode_17 : decode cX9_swapCode 17 = .ok (.ireturn, 1) := by decide +kernel
theorem dX9_swapCode_18 : decode cX9_swapCode 18 = .ok (.iload_n 1, 1) := by decide +kernel
theorem dX9_swapCode_19 : decode cX9_swapCode 19 = .ok (.iload_n 2, 1) := by decide +kernel
theorem dX9_swapCode_20 : decode cX9_swapCode 20 = .ok (.if_icmp .ne 7, 3) := by decide +kernel
theorem dX9_swapCode_23 : decode cX9_swapCode 23 = .ok (.iconst 2, 1) := by decide +kernel
theorem dX9_swapCode_24 : decode cX9_swapCode 24 = .ok (.goto 32, 3) := by decide +kernel
theorem dX9_swapCode_27 : decode cX9_swapCode 27 = .ok (.aload_n 0, 1) := by decide +kernel
theorem dX9_swapCode_28 : decode cX9_swapCode 28 = .ok (.getfield 7, 3) := by decide +kernel
theorem dX9_swapCode_31 : decode cX9_swapCode 31 = .ok (.iload_n 1, 1) := by decide +kernel
theorem dX9_swapCode_32 : decode cX9_swapCode 32 = .ok (.iconst 4, 1) := by decide +kernel
theorem dX9_swapCode_33 : decode cX9_swapCode 33 = .ok (.invokestatic 42, 3) := by decide +kernel
theorem dX9_swapCode_36 : decode cX9_swapCode 36 = .ok (.ifCond .ne 15, 3) := by decide +kernel
theorem dX9_swapCode_39 : decode cX9_swapCode 39 = .ok (.aload_n 0, 1) := by decide +kernel
theorem dX9_swapCode_40 : decode cX9_swapCode 40 = .ok (.getfield 7, 3) := by decide +kernel
theorem dX9_swapCode_43 : decode cX9_swapCode 43 = .ok (.iload_n 2, 1) := by decide +kernel
theorem dX9_swapCode_44 : decode cX9_swapCode 44 = .ok (.iconst 4, 1) := by decide +kernel
theorem dX9_swapCode_45 : decode cX9_swapCode 45 = .ok (.invokestatic 42, 3) := by decide +kernel
theorem dX9_swapCode_48 : decode cX9_swapCode 48 = .ok (.ifCond .eq 7, 3) := by decide +kernel
theorem dX9_swapCode_51 : decode cX9_swapCode 51 = .ok (.iconst 3, 1) := by decide +kernel
theorem dX9_swapCode_52 : decode cX9_swapCode 52 = .ok (.goto 4, 3) := by decide +kernel
theorem dX9_swapCode_55 : decode cX9_swapCode 55 = .ok (.iconst 0, 1) := by decide +kernel
theorem dX9_swapCode_56 : decode cX9_swapCode 56 = .ok (.ireturn, 1) := by decide +kernel
set_option maxRecDepth 20000 in
theorem ggX9_swapNow_X9_placeInLine : GoodIn wsX9_swapNow wsX9_placeInLine := goodIn_r _ [5] (by decide +kernel) (by decide +kernel)
set_option maxRecDepth 20000 in
theorem gX9_swapNow_X9_placeInLine : GoodIn wsX9_swapNow (va_wsS RX9 53 yX9_placeInLine wsX9_placeInLine) := goodIn_app (goodIn_of _ (by decide +kernel)) ggX9_swapNow_X9_placeInLine
theorem dX9_swapNow_0 : decode cX9_swapNow 0 = .ok (.aload_n 0, 1) := by decide +kernel
theorem dX9_swapNow_1 : decode cX9_swapNow 1 = .ok (.getfield 7, 3) := by decide +kernel
theorem dX9_swapNow_4 : decode cX9_swapNow 4 = .ok (.iload_n 1, 1) := by decide +kernel
theorem dX9_swapNow_5 : decode cX9_swapNow 5 = .ok (.invokestatic 53, 3) := by decide +kernel
theorem dX9_swapNow_8 : decode cX9_swapNow 8 = .ok (.istore_n 3, 1) := by decide +kernel
theorem dX9_swapNow_9 : decode cX9_swapNow 9 = .ok (.aload_n 0, 1) := by decide +kernel
theorem dX9_swapNow_10 : decode cX9_swapNow 10 = .ok (.getfield 7, 3) := by decide +kernel
theorem dX9_swapNow_13 : decode cX9_swapNow 13 = .ok (.iload_n 2, 1) := by decide +kernel
theorem dX9_swapNow_14 : decode cX9_swapNow 14 = .ok (.invokestatic 53, 3) := by decide +kernel
theorem dX9_swapNow_17 : decode cX9_swapNow 17 = .ok (.istore 4, 2) := by decide +kernel
theorem dX9_swapNow_19 : decode cX9_swapNow 19 = .ok (.aload_n 0, 1) := by decide +kernel
theorem dX9_swapNow_20 : decode cX9_swapNow 20 = .ok (.getfield 7, 3) := by decide +kernel
theorem dX9_swapNow_23 : decode cX9_swapNow 23 = .ok (.sipush 213, 3) := by decide +kernel
theorem dX9_swapNow_26 : decode cX9_swapNow 26 = .ok (.iload_n 3, 1) := by decide +kernel
theorem dX9_swapNow_27 : decode cX9_swapNow 27 = .ok (.iadd, 1) := by decide +kernel
theorem dX9_swapNow_28 : decode cX9_swapNow 28 = .ok (.iload_n 2, 1) := by decide +kernel
theorem dX9_swapNow_29 : decode cX9_swapNow 29 = .ok (.iastore, 1) := by decide +kernel
theorem dX9_swapNow_30 : decode cX9_swapNow 30 = .ok (.aload_n 0, 1) := by decide +kernel
theorem dX9_swapNow_31 : decode cX9_swapNow 31 = .ok (.getfield 7, 3) := by decide +kernel
theorem dX9_swapNow_34 : decode cX9_swapNow 34 = .ok (.sipush 213, 3) := by decide +kernel
theorem dX9_swapNow_37 : decode cX9_swapNow 37 = .ok (.iload 4, 2) := by decide +kernel
theorem dX9_swapNow_39 : decode cX9_swapNow 39 = .ok (.iadd, 1) := by decide +kernel
theorem dX9_swapNow_40 : decode cX9_swapNow 40 = .ok (.iload_n 1, 1) := by decide +kernel
theorem dX9_swapNow_41 : decode cX9_swapNow 41 = .ok (.iastore, 1) := by decide +kernel
theorem dX9_swapNow_42 : decode cX9_swapNow 42 = .ok (.iload 4, 2) := by decide +kernel
theorem dX9_swapNow_44 : decode cX9_swapNow 44 = .ok (.ireturn, 1) := by decide +kernel
set_option maxRecDepth 20000 in
theorem ggX9_swap_X9_swapCode : GoodIn wsX9_swap wsX9_swapCode := goodIn_r _ [6, 7, 8, 9, 10, 5, 11, 12, 13, 14, 15, 16, 17, 31, 32, 33, 34, 35, 36, 37, 38, 39, 40, 41, 42, 43] (by decide +kernel) (by decide +kernel)
set_option maxRecDepth 20000 in
theorem gX9_swap_X9_swapCode : GoodIn wsX9_swap (wsV RX9 139 RX9 yX9_swapCode wsX9_swapCode) := goodIn_app (goodIn_of _ (by decide +kernel)) ggX9_swap_X9_swapCode
set_option maxRecDepth 20000 in
theorem ggX9_swap_X9_save : GoodIn wsX9_swap wsX9_save := goodIn_r _ [21, 22, 23, 7, 31, 32, 33, 34, 35, 36, 37, 38, 39, 40, 41, 42, 43] (by decide +kernel) (by decide +kernel)
set_option maxRecDepth 20000 in
theorem gX9_swap_X9_save : GoodIn wsX9_swap (wsV RX9 112 RX9 yX9_save wsX9_save) := goodIn_app (goodIn_of _ (by decide +kernel)) ggX9_swap_X9_save
set_option maxRecDepth 20000 in
theorem ggX9_swap_X9_swapNow : GoodIn wsX9_swap wsX9_swapNow := goodIn_r _ [27, 7, 28, 29, 5, 30, 31, 32, 33, 34, 35, 36, 37, 38, 39, 40, 41, 42, 43] (by decide +kernel) (by decide +kernel)
set_option maxRecDepth 20000 in
theorem gX9_swap_X9_swapNow : GoodIn wsX9_swap (wsV RX9 143 RX9 yX9_swapNow wsX9_swapNow) := goodIn_app (goodIn_of _ (by decide +kernel)) ggX9_swap_X9_swapNow
theorem dX9_swap_0 : decode cX9_swap 0 = .ok (.aload_n 0, 1) := by decide +kernel
theorem dX9_swap_1 : decode cX9_swap 1 = .ok (.aload_n 0, 1) := by decide +kernel
theorem dX9_swap_2 : decode cX9_swap 2 = .ok (.iload_n 1, 1) := by decide +kernel
theorem dX9_swap_3 : decode cX9_swap 3 = .ok (.iload_n 2, 1) := by decide +kernel
theorem dX9_swap_4 : decode cX9_swap 4 = .ok (.invokevirtual 139, 3) := by decide +kernel
theorem dX9_swap_7 : decode cX9_swap 7 = .ok (.putfield 35, 3) := by decide +kernel
theorem dX9_swap_10 : decode cX9_swap 10 = .ok (.aload_n 0, 1) := by decide +kernel
theorem dX9_swap_11 : decode cX9_swap 11 = .ok (.getfield 35, 3) := by decide +kernel
theorem dX9_swap_14 : decode cX9_swap 14 = .ok (.ifCond .le 5, 3) := by decide +kernel
theorem dX9_swap_17 : decode cX9_swap 17 = .ok (.iconst 0, 1) := by decide +kernel
theorem dX9_swap_18 : decode cX9_swap 18 = .ok (.ireturn, 1) := by decide +kernel
theorem dX9_swap_19 : decode cX9_swap 19 = .ok (.aload_n 0, 1) := by decide +kernel
theorem dX9_swap_20 : decode cX9_swap 20 = .ok (.invokevirtual 112, 3) := by decide +kernel
theorem dX9_swap_23 : decode cX9_swap 23 = .ok (.aload_n 0, 1) := by decide +kernel
theorem dX9_swap_24 : decode cX9_swap 24 = .ok (.iload_n 1, 1) := by decide +kernel
theorem dX9_swap_25 : decode cX9_swap 25 = .ok (.iload_n 2, 1) := by decide +kernel
theorem dX9_swap_26 : decode cX9_swap 26 = .ok (.invokevirtual 143, 3) := by decide +kernel
theorem dX9_swap_29 : decode cX9_swap 29 = .ok (.ireturn, 1) := by decide +kernel
theorem dX9_grow_0 : decode cX9_grow 0 = .ok (.bipush 37, 2) := by decide +kernel
theorem dX9_grow_2 : decode cX9_grow 2 = .ok (.bipush 6, 2) := by decide +kernel
theorem dX9_grow_4 : decode cX9_grow 4 = .ok (.iload_n 1, 1) := by decide +kernel
theorem dX9_grow_5 : decode cX9_grow 5 = .ok (.imul, 1) := by decide +kernel
theorem dX9_grow_6 : decode cX9_grow 6 = .ok (.iadd, 1) := by decide +kernel
theorem dX9_grow_7 : decode cX9_grow 7 = .ok (.iload_n 2, 1) := by decide +kernel
theorem dX9_grow_8 : decode cX9_grow 8 = .ok (.iadd, 1) := by decide +kernel
theorem dX9_grow_9 : decode cX9_grow 9 = .ok (.istore 4, 2) := by decide +kernel
theorem dX9_grow_11 : decode cX9_grow 11 = .ok (.aload_n 0, 1) := by decide +kernel
theorem dX9_grow_12 : decode cX9_grow 12 = .ok (.getfield 7, 3) := by decide +kernel
theorem dX9_grow_15 : decode cX9_grow 15 = .ok (.iload 4, 2) := by decide +kernel
theorem dX9_grow_17 : decode cX9_grow 17 = .ok (.dup2, 1) := by decide +kernel
theorem dX9_grow_18 : decode cX9_grow 18 = .ok (.iaload, 1) := by decide +kernel
theorem dX9_grow_19 : decode cX9_grow 19 = .ok (.iload_n 3, 1) := by decide +kernel
theorem dX9_grow_20 : decode cX9_grow 20 = .ok (.iadd, 1) := by decide +kernel
theorem dX9_grow_21 : decode cX9_grow 21 = .ok (.iastore, 1) := by decide +kernel
theorem dX9_grow_22 : decode cX9_grow 22 = .ok (.aload_n 0, 1) := by decide +kernel
theorem dX9_grow_23 : decode cX9_grow 23 = .ok (.getfield 7, 3) := by decide +kernel
theorem dX9_grow_26 : decode cX9_grow 26 = .ok (.iload 4, 2) := by decide +kernel
theorem dX9_grow_28 : decode cX9_grow 28 = .ok (.iaload, 1) := by decide +kernel
theorem dX9_grow_29 : decode cX9_grow 29 = .ok (.ireturn, 1) := by decide +kernel
theorem dX9_balance_0 : decode cX9_balance 0 = .ok (.aload_n 0, 1) := by decide +kernel
theorem dX9_balance_1 : decode cX9_balance 1 = .ok (.getfield 7, 3) := by decide +kernel
theorem dX9_balance_4 : decode cX9_balance 4 = .ok (.bipush 37, 2) := by decide +kernel
theorem dX9_balance_6 : decode cX9_balance 6 = .ok (.bipush 6, 2) := by decide +kernel
theorem dX9_balance_8 : decode cX9_balance 8 = .ok (.iload_n 1, 1) := by decide +kernel
theorem dX9_balance_9 : decode cX9_balance 9 = .ok (.imul, 1) := by decide +kernel
theorem dX9_balance_10 : decode cX9_balance 10 = .ok (.iadd, 1) := by decide +kernel
theorem dX9_balance_11 : decode cX9_balance 11 = .ok (.iconst 0, 1) := by decide +kernel
theorem dX9_balance_12 : decode cX9_balance 12 = .ok (.iadd, 1) := by decide +kernel
theorem dX9_balance_13 : decode cX9_balance 13 = .ok (.iaload, 1) := by decide +kernel
theorem dX9_balance_14 : decode cX9_balance 14 = .ok (.ireturn, 1) := by decide +kernel
set_option maxRecDepth 20000 in
theorem ggX9_bringCode_X9_isHouse : GoodIn wsX9_bringCode wsX9_isHouse := goodIn_r _ [5, 6, 7, 8, 4, 9, 14, 15, 16, 17, 18, 19, 20, 21, 22, 23, 24, 25, 26] (by decide +kernel) (by decide +kernel)
set_option maxRecDepth 20000 in
theorem gX9_bringCode_X9_isHouse : GoodIn wsX9_bringCode (wsV RX9 122 RX9 yX9_isHouse wsX9_isHouse) := goodIn_app (goodIn_of _ (by decide +kernel)) ggX9_bringCode_X9_isHouse
set_option maxRecDepth 20000 in
theorem ggX9_bringCode_X9_in : GoodIn wsX9_bringCode wsX9_in := goodIn_r _ [9] (by decide +kernel) (by decide +kernel)
set_option maxRecDepth 20000 in
theorem gX9_bringCode_X9_in : GoodIn wsX9_bringCode (va_wsS RX9 49 yX9_in wsX9_in) := goodIn_app (goodIn_of _ (by decide +kernel)) ggX9_bringCode_X9_in
set_option maxRecDepth 20000 in
theorem ggX9_bringCode_X9_balance : GoodIn wsX9_bringCode wsX9_balance := goodIn_r _ [13, 6, 14, 15, 16, 17, 18, 19, 20, 21, 22, 23, 24, 25, 26] (by decide +kernel) (by decide +kernel)
set_option maxRecDepth 20000 in
theorem gX9_bringCode_X9_balance : GoodIn wsX9_bringCode (wsV RX9 146 RX9 yX9_balance wsX9_balance) := goodIn_app (goodIn_of _ (by decide +kernel)) ggX9_bringCode_X9_balance
theorem dX9_bringCode_0 : decode cX9_bringCode 0 = .ok (.aload_n 0, 1) := by decide +kernel
theorem dX9_bringCode_1 : decode cX9_bringCode 1 = .ok (.iload_n 1, 1) := by decide +kernel
theorem dX9_bringCode_2 : decode cX9_bringCode 2 = .ok (.invokevirtual 122, 3) := by decide +kernel
theorem dX9_bringCode_5 : decode cX9_bringCode 5 = .ok (.ifCond .ne 5, 3) := by decide +kernel
theorem dX9_bringCode_8 : decode cX9_bringCode 8 = .ok (.iconst 1, 1) := by decide +kernel
theorem dX9_bringCode_9 : decode cX9_bringCode 9 = .ok (.ireturn, 1) := by decide +kernel
theorem dX9_bringCode_10 : decode cX9_bringCode 10 = .ok (.iload_n 2, 1) := by decide +kernel
theorem dX9_bringCode_11 : decode cX9_bringCode 11 = .ok (.iconst 1, 1) := by decide +kernel
theorem dX9_bringCode_12 : decode cX9_bringCode 12 = .ok (.bipush 99, 2) := by decide +kernel
theorem dX9_bringCode_14 : decode cX9_bringCode 14 = .ok (.invokestatic 49, 3) := by decide +kernel
theorem dX9_bringCode_17 : decode cX9_bringCode 17 = .ok (.ifCond .ne 7, 3) := by decide +kernel
theorem dX9_bringCode_20 : decode cX9_bringCode 20 = .ok (.iconst 2, 1) := by decide +kernel
theorem dX9_bringCode_21 : decode cX9_bringCode 21 = .ok (.goto 21, 3) := by decide +kernel
theorem dX9_bringCode_24 : decode cX9_bringCode 24 = .ok (.aload_n 0, 1) := by decide +kernel
theorem dX9_bringCode_25 : decode cX9_bringCode 25 = .ok (.iload_n 1, 1) := by decide +kernel
theorem dX9_bringCode_26 : decode cX9_bringCode 26 = .ok (.invokevirtual 146, 3) := by decide +kernel
theorem dX9_bringCode_29 : decode cX9_bringCode 29 = .ok (.iload_n 2, 1) := by decide +kernel
theorem dX9_bringCode_30 : decode cX9_bringCode 30 = .ok (.iadd, 1) := by decide +kernel
theorem dX9_bringCode_31 : decode cX9_bringCode 31 = .ok (.sipush 999, 3) := by decide +kernel
theorem dX9_bringCode_34 : decode cX9_bringCode 34 = .ok (.if_icmp .le 7, 3) := by decide +kernel
theorem dX9_bringCode_37 : decode cX9_bringCode 37 = .ok (.iconst 3, 1) := by decide +kernel
theorem dX9_bringCode_38 : decode cX9_bringCode 38 = .ok (.goto 4, 3) := by decide +kernel
theorem dX9_bringCode_41 : decode cX9_bringCode 41 = .ok (.iconst 0, 1) := by decide +kernel
theorem dX9_bringCode_42 : decode cX9_bringCode 42 = .ok (.ireturn, 1) := by decide +kernel
set_option maxRecDepth 20000 in
theorem ggX9_bringNow_X9_grow : GoodIn wsX9_bringNow wsX9_grow := goodIn_r _ [6, 1, 7, 8, 9, 10, 11, 12, 13, 14, 15, 16, 17, 18, 19] (by decide +kernel) (by decide +kernel)
set_option maxRecDepth 20000 in
theorem gX9_bringNow_X9_grow : GoodIn wsX9_bringNow (wsV RX9 150 RX9 yX9_grow wsX9_grow) := goodIn_app (goodIn_of _ (by decide +kernel)) ggX9_bringNow_X9_grow
theorem dX9_bringNow_0 : decode cX9_bringNow 0 = .ok (.aload_n 0, 1) := by decide +kernel
theorem dX9_bringNow_1 : decode cX9_bringNow 1 = .ok (.iload_n 1, 1) := by decide +kernel
theorem dX9_bringNow_2 : decode cX9_bringNow 2 = .ok (.iconst 3, 1) := by decide +kernel
theorem dX9_bringNow_3 : decode cX9_bringNow 3 = .ok (.iload_n 2, 1) := by decide +kernel
theorem dX9_bringNow_4 : decode cX9_bringNow 4 = .ok (.invokevirtual 150, 3) := by decide +kernel
theorem dX9_bringNow_7 : decode cX9_bringNow 7 = .ok (.pop, 1) := by decide +kernel
theorem dX9_bringNow_8 : decode cX9_bringNow 8 = .ok (.aload_n 0, 1) := by decide +kernel
theorem dX9_bringNow_9 : decode cX9_bringNow 9 = .ok (.getfield 7, 3) := by decide +kernel
theorem dX9_bringNow_12 : decode cX9_bringNow 12 = .ok (.bipush 8, 2) := by decide +kernel
theorem dX9_bringNow_14 : decode cX9_bringNow 14 = .ok (.dup2, 1) := by decide +kernel
theorem dX9_bringNow_15 : decode cX9_bringNow 15 = .ok (.iaload, 1) := by decide +kernel
theorem dX9_bringNow_16 : decode cX9_bringNow 16 = .ok (.iload_n 2, 1) := by decide +kernel
theorem dX9_bringNow_17 : decode cX9_bringNow 17 = .ok (.iadd, 1) := by decide +kernel
theorem dX9_bringNow_18 : decode cX9_bringNow 18 = .ok (.iastore, 1) := by decide +kernel
theorem dX9_bringNow_19 : decode cX9_bringNow 19 = .ok (.aload_n 0, 1) := by decide +kernel
theorem dX9_bringNow_20 : decode cX9_bringNow 20 = .ok (.iload_n 1, 1) := by decide +kernel
theorem dX9_bringNow_21 : decode cX9_bringNow 21 = .ok (.iconst 0, 1) := by decide +kernel
theorem dX9_bringNow_22 : decode cX9_bringNow 22 = .ok (.iload_n 2, 1) := by decide +kernel
theorem dX9_bringNow_23 : decode cX9_bringNow 23 = .ok (.invokevirtual 150, 3) := by decide +kernel
theorem dX9_bringNow_26 : decode cX9_bringNow 26 = .ok (.ireturn, 1) := by decide +kernel
set_option maxRecDepth 20000 in
theorem ggX9_bring_X9_bringCode : GoodIn wsX9_bring wsX9_bringCode := goodIn_r _ [6, 7, 8, 9, 5, 10, 11, 12, 13, 14, 15, 16, 17, 18, 33, 34, 35, 36, 37, 38, 39, 40, 41, 42, 43, 44, 45] (by decide +kernel) (by decide +kernel)
set_option maxRecDepth 20000 in
theorem gX9_bring_X9_bringCode : GoodIn wsX9_bring (wsV RX9 153 RX9 yX9_bringCode wsX9_bringCode) := goodIn_app (goodIn_of _ (by decide +kernel)) ggX9_bring_X9_bringCode
set_option maxRecDepth 20000 in
theorem ggX9_bring_X9_save : GoodIn wsX9_bring wsX9_save := goodIn_r _ [22, 23, 24, 11, 33, 34, 35, 36, 37, 38, 39, 40, 41, 42, 43, 44, 45] (by decide +kernel) (by decide +kernel)
set_option maxRecDepth 20000 in
theorem gX9_bring_X9_save : GoodIn wsX9_bring (wsV RX9 112 RX9 yX9_save wsX9_save) := goodIn_app (goodIn_of _ (by decide +kernel)) ggX9_bring_X9_save
set_option maxRecDepth 20000 in
theorem ggX9_bring_X9_bringNow : GoodIn wsX9_bring wsX9_bringNow := goodIn_r _ [28, 11, 29, 30, 31, 5, 32, 33, 34, 35, 36, 37, 38, 39, 40, 41, 42, 43, 44, 45] (by decide +kernel) (by decide +kernel)
set_option maxRecDepth 20000 in
theorem gX9_bring_X9_bringNow : GoodIn wsX9_bring (wsV RX9 156 RX9 yX9_bringNow wsX9_bringNow) := goodIn_app (goodIn_of _ (by decide +kernel)) ggX9_bring_X9_bringNow
theorem dX9_bring_0 : decode cX9_bring 0 = .ok (.aload_n 0, 1) := by decide +kernel
theorem dX9_bring_1 : decode cX9_bring 1 = .ok (.aload_n 0, 1) := by decide +kernel
theorem dX9_bring_2 : decode cX9_bring 2 = .ok (.iload_n 1, 1) := by decide +kernel
theorem dX9_bring_3 : decode cX9_bring 3 = .ok (.iload_n 2, 1) := by decide +kernel
theorem dX9_bring_4 : decode cX9_bring 4 = .ok (.invokevirtual 153, 3) := by decide +kernel
theorem dX9_bring_7 : decode cX9_bring 7 = .ok (.putfield 35, 3) := by decide +kernel
theorem dX9_bring_10 : decode cX9_bring 10 = .ok (.aload_n 0, 1) := by decide +kernel
theorem dX9_bring_11 : decode cX9_bring 11 = .ok (.getfield 35, 3) := by decide +kernel
theorem dX9_bring_14 : decode cX9_bring 14 = .ok (.ifCond .le 5, 3) := by decide +kernel
theorem dX9_bring_17 : decode cX9_bring 17 = .ok (.iconst 0, 1) := by decide +kernel
theorem dX9_bring_18 : decode cX9_bring 18 = .ok (.ireturn, 1) := by decide +kernel
theorem dX9_bring_19 : decode cX9_bring 19 = .ok (.aload_n 0, 1) := by decide +kernel
theorem dX9_bring_20 : decode cX9_bring 20 = .ok (.invokevirtual 112, 3) := by decide +kernel
theorem dX9_bring_23 : decode cX9_bring 23 = .ok (.aload_n 0, 1) := by decide +kernel
theorem dX9_bring_24 : decode cX9_bring 24 = .ok (.iload_n 1, 1) := by decide +kernel
theorem dX9_bring_25 : decode cX9_bring 25 = .ok (.iload_n 2, 1) := by decide +kernel
theorem dX9_bring_26 : decode cX9_bring 26 = .ok (.invokevirtual 156, 3) := by decide +kernel
theorem dX9_bring_29 : decode cX9_bring 29 = .ok (.ireturn, 1) := by decide +kernel
set_option maxRecDepth 20000 in
theorem ggX9_stokeCode_X9_isHouse : GoodIn wsX9_stokeCode wsX9_isHouse := goodIn_r _ [6, 1, 7, 8, 5, 9, 14, 15, 16, 17, 18, 19, 20, 21, 22, 23, 24, 25, 26] (by decide +kernel) (by decide +kernel)
set_option maxRecDepth 20000 in
theorem gX9_stokeCode_X9_isHouse : GoodIn wsX9_stokeCode (wsV RX9 122 RX9 yX9_isHouse wsX9_isHouse) := goodIn_app (goodIn_of _ (by decide +kernel)) ggX9_stokeCode_X9_isHouse
set_option maxRecDepth 20000 in
theorem ggX9_stokeCode_X9_in : GoodIn wsX9_stokeCode wsX9_in := goodIn_r _ [9] (by decide +kernel) (by decide +kernel)
set_option maxRecDepth 20000 in
theorem gX9_stokeCode_X9_in : GoodIn wsX9_stokeCode (va_wsS RX9 49 yX9_in wsX9_in) := goodIn_app (goodIn_of _ (by decide +kernel)) ggX9_stokeCode_X9_in
set_option maxRecDepth 20000 in
theorem ggX9_stokeCode_X9_balance : GoodIn wsX9_stokeCode wsX9_balance := goodIn_r _ [13, 1, 14, 15, 16, 17, 18, 19, 20, 21, 22, 23, 24, 25, 26] (by decide +kernel) (by decide +kernel)
set_option maxRecDepth 20000 in
theorem gX9_stokeCode_X9_balance : GoodIn wsX9_stokeCode (wsV RX9 146 RX9 yX9_balance wsX9_balance) := goodIn_app (goodIn_of _ (by decide +kernel)) ggX9_stokeCode_X9_balance
theorem dX9_stokeCode_0 : decode cX9_stokeCode 0 = .ok (.aload_n 0, 1) := by decide +kernel
theorem dX9_stokeCode_1 : decode cX9_stokeCode 1 = .ok (.iload_n 1, 1) := by decide +kernel
theorem dX9_stokeCode_2 : decode cX9_stokeCode 2 = .ok (.invokevirtual 122, 3) := by decide +kernel
theorem dX9_stokeCode_5 : decode cX9_stokeCode 5 = .ok (.ifCond .ne 5, 3) := by decide +kernel
theorem dX9_stokeCode_8 : decode cX9_stokeCode 8 = .ok (.iconst 1, 1) := by decide +kernel
theorem dX9_stokeCode_9 : decode cX9_stokeCode 9 = .ok (.ireturn, 1) := by decide +kernel
theorem dX9_stokeCode_10 : decode cX9_stokeCode 10 = .ok (.iload_n 2, 1) := by decide +kernel
theorem dX9_stokeCode_11 : decode cX9_stokeCode 11 = .ok (.iconst 1, 1) := by decide +kernel
theorem dX9_stokeCode_12 : decode cX9_stokeCode 12 = .ok (.bipush 16, 2) := by decide +kernel
theorem dX9_stokeCode_14 : decode cX9_stokeCode 14 = .ok (.invokestatic 49, 3) := by decide +kernel
theorem dX9_stokeCode_17 : decode cX9_stokeCode 17 = .ok (.ifCond .ne 7, 3) := by decide +kernel
theorem dX9_stokeCode_20 : decode cX9_stokeCode 20 = .ok (.iconst 2, 1) := by decide +kernel
theorem dX9_stokeCode_21 : decode cX9_stokeCode 21 = .ok (.goto 37, 3) := by decide +kernel
theorem dX9_stokeCode_24 : decode cX9_stokeCode 24 = .ok (.aload_n 0, 1) := by decide +kernel
theorem dX9_stokeCode_25 : decode cX9_stokeCode 25 = .ok (.iload_n 1, 1) := by decide +kernel
theorem dX9_stokeCode_26 : decode cX9_stokeCode 26 = .ok (.invokevirtual 146, 3) := by decide +kernel
theorem dX9_stokeCode_29 : decode cX9_stokeCode 29 = .ok (.iload_n 2, 1) := by decide +kernel
theorem dX9_stokeCode_30 : decode cX9_stokeCode 30 = .ok (.isub, 1) := by decide +kernel
theorem dX9_stokeCode_31 : decode cX9_stokeCode 31 = .ok (.bipush (-20), 2) := by decide +kernel
theorem dX9_stokeCode_33 : decode cX9_stokeCode 33 = .ok (.if_icmp .lt 20, 3) := by decide +kernel
theorem dX9_stokeCode_36 : decode cX9_stokeCode 36 = .ok (.aload_n 0, 1) := by decide +kernel
theorem dX9_stokeCode_37 : decode cX9_stokeCode 37 = .ok (.getfield 7, 3) := by decide +kernel
theorem dX9_stokeCode_40 : decode cX9_stokeCode 40 = .ok (.iconst 0, 1) := by decide +kernel
theorem dX9_stokeCode_41 : decode cX9_stokeCode 41 = .ok (.iaload, 1) := by decide +kernel
theorem dX9_stokeCode_42 : decode cX9_stokeCode 42 = .ok (.bipush 25, 2) := by decide +kernel
theorem dX9_stokeCode_44 : decode cX9_stokeCode 44 = .ok (.iload_n 2, 1) := by decide +kernel
theorem dX9_stokeCode_45 : decode cX9_stokeCode 45 = .ok (.imul, 1) := by decide +kernel
theorem dX9_stokeCode_46 : decode cX9_stokeCode 46 = .ok (.iadd, 1) := by decide +kernel
theorem dX9_stokeCode_47 : decode cX9_stokeCode 47 = .ok (.sipush 400, 3) := by decide +kernel
theorem dX9_stokeCode_50 : decode cX9_stokeCode 50 = .ok (.if_icmp .le 7, 3) := by decide +kernel
theorem dX9_stokeCode_53 : decode cX9_stokeCode 53 = .ok (.iconst 3, 1) := by decide +kernel
theorem dX9_stokeCode_54 : decode cX9_stokeCode 54 = .ok (.goto 4, 3) := by decide +kernel
theorem dX9_stokeCode_57 : decode cX9_stokeCode 57 = .ok (.iconst 0, 1) := by decide +kernel
theorem dX9_stokeCode_58 : decode cX9_stokeCode 58 = .ok (.ireturn, 1) := by decide +kernel
set_option maxRecDepth 20000 in
theorem ggX9_stokeNow_X9_grow : GoodIn wsX9_stokeNow wsX9_grow := goodIn_r _ [6, 1, 7, 8, 9, 10, 11, 12, 13, 14, 15, 16, 17, 18, 19] (by decide +kernel) (by decide +kernel)
set_option maxRecDepth 20000 in
theorem gX9_stokeNow_X9_grow : GoodIn wsX9_stokeNow (wsV RX9 150 RX9 yX9_grow wsX9_grow) := goodIn_app (goodIn_of _ (by decide +kernel)) ggX9_stokeNow_X9_grow
theorem dX9_stokeNow_0 : decode cX9_stokeNow 0 = .ok (.aload_n 0, 1) := by decide +kernel
theorem dX9_stokeNow_1 : decode cX9_stokeNow 1 = .ok (.iload_n 1, 1) := by decide +kernel
theorem dX9_stokeNow_2 : decode cX9_stokeNow 2 = .ok (.iconst 0, 1) := by decide +kernel
theorem dX9_stokeNow_3 : decode cX9_stokeNow 3 = .ok (.iload_n 2, 1) := by decide +kernel
theorem dX9_stokeNow_4 : decode cX9_stokeNow 4 = .ok (.ineg, 1) := by decide +kernel
theorem dX9_stokeNow_5 : decode cX9_stokeNow 5 = .ok (.invokevirtual 150, 3) := by decide +kernel
theorem dX9_stokeNow_8 : decode cX9_stokeNow 8 = .ok (.pop, 1) := by decide +kernel
theorem dX9_stokeNow_9 : decode cX9_stokeNow 9 = .ok (.aload_n 0, 1) := by decide +kernel
theorem dX9_stokeNow_10 : decode cX9_stokeNow 10 = .ok (.iload_n 1, 1) := by decide +kernel
theorem dX9_stokeNow_11 : decode cX9_stokeNow 11 = .ok (.iconst 2, 1) := by decide +kernel
theorem dX9_stokeNow_12 : decode cX9_stokeNow 12 = .ok (.iload_n 2, 1) := by decide +kernel
theorem dX9_stokeNow_13 : decode cX9_stokeNow 13 = .ok (.invokevirtual 150, 3) := by decide +kernel
theorem dX9_stokeNow_16 : decode cX9_stokeNow 16 = .ok (.pop, 1) := by decide +kernel
theorem dX9_stokeNow_17 : decode cX9_stokeNow 17 = .ok (.aload_n 0, 1) := by decide +kernel
theorem dX9_stokeNow_18 : decode cX9_stokeNow 18 = .ok (.getfield 7, 3) := by decide +kernel
theorem dX9_stokeNow_21 : decode cX9_stokeNow 21 = .ok (.bipush 6, 2) := by decide +kernel
theorem dX9_stokeNow_23 : decode cX9_stokeNow 23 = .ok (.dup2, 1) := by decide +kernel
theorem dX9_stokeNow_24 : decode cX9_stokeNow 24 = .ok (.iaload, 1) := by decide +kernel
theorem dX9_stokeNow_25 : decode cX9_stokeNow 25 = .ok (.iload_n 2, 1) := by decide +kernel
theorem dX9_stokeNow_26 : decode cX9_stokeNow 26 = .ok (.iadd, 1) := by decide +kernel
theorem dX9_stokeNow_27 : decode cX9_stokeNow 27 = .ok (.iastore, 1) := by decide +kernel
theorem dX9_stokeNow_28 : decode cX9_stokeNow 28 = .ok (.aload_n 0, 1) := by decide +kernel
theorem dX9_stokeNow_29 : decode cX9_stokeNow 29 = .ok (.getfield 7, 3) := by decide +kernel
theorem dX9_stokeNow_32 : decode cX9_stokeNow 32 = .ok (.bipush 7, 2) := by decide +kernel
theorem dX9_stokeNow_34 : decode cX9_stokeNow 34 = .ok (.dup2, 1) := by decide +kernel
theorem dX9_stokeNow_35 : decode cX9_stokeNow 35 = .ok (.iaload, 1) := by decide +kernel
theorem dX9_stokeNow_36 : decode cX9_stokeNow 36 = .ok (.iload_n 2, 1) := by decide +kernel
theorem dX9_stokeNow_37 : decode cX9_stokeNow 37 = .ok (.iadd, 1) := by decide +kernel
theorem dX9_stokeNow_38 : decode cX9_stokeNow 38 = .ok (.iastore, 1) := by decide +kernel
theorem dX9_stokeNow_39 : decode cX9_stokeNow 39 = .ok (.aload_n 0, 1) := by decide +kernel
theorem dX9_stokeNow_40 : decode cX9_stokeNow 40 = .ok (.getfield 7, 3) := by decide +kernel
theorem dX9_stokeNow_43 : decode cX9_stokeNow 43 = .ok (.iconst 0, 1) := by decide +kernel
theorem dX9_stokeNow_44 : decode cX9_stokeNow 44 = .ok (.dup2, 1) := by decide +kernel
theorem dX9_stokeNow_45 : decode cX9_stokeNow 45 = .ok (.iaload, 1) := by decide +kernel
theorem dX9_stokeNow_46 : decode cX9_stokeNow 46 = .ok (.bipush 25, 2) := by decide +kernel
theorem dX9_stokeNow_48 : decode cX9_stokeNow 48 = .ok (.iload_n 2, 1) := by decide +kernel
theorem dX9_stokeNow_49 : decode cX9_stokeNow 49 = .ok (.imul, 1) := by decide +kernel
theorem dX9_stokeNow_50 : decode cX9_stokeNow 50 = .ok (.iadd, 1) := by decide +kernel
theorem dX9_stokeNow_51 : decode cX9_stokeNow 51 = .ok (.iastore, 1) := by decide +kernel
theorem dX9_stokeNow_52 : decode cX9_stokeNow 52 = .ok (.aload_n 0, 1) := by decide +kernel
theorem dX9_stokeNow_53 : decode cX9_stokeNow 53 = .ok (.getfield 7, 3) := by decide +kernel
theorem dX9_stokeNow_56 : decode cX9_stokeNow 56 = .ok (.iconst 0, 1) := by decide +kernel
theorem dX9_stokeNow_57 : decode cX9_stokeNow 57 = .ok (.iaload, 1) := by decide +kernel
theorem dX9_stokeNow_58 : decode cX9_stokeNow 58 = .ok (.ireturn, 1) := by decide +kernel
set_option maxRecDepth 20000 in
theorem ggX9_stoke_X9_stokeCode : GoodIn wsX9_stoke wsX9_stokeCode := goodIn_r _ [6, 7, 8, 9, 10, 5, 11, 12, 13, 14, 15, 16, 17, 18, 33, 34, 35, 36, 37, 38, 39, 40, 41, 42, 43, 44, 45] (by decide +kernel) (by decide +kernel)
set_option maxRecDepth 20000 in
theorem gX9_stoke_X9_stokeCode : GoodIn wsX9_stoke (wsV RX9 159 RX9 yX9_stokeCode wsX9_stokeCode) := goodIn_app (goodIn_of _ (by decide +kernel)) ggX9_stoke_X9_stokeCode
set_option maxRecDepth 20000 in
theorem ggX9_stoke_X9_save : GoodIn wsX9_stoke wsX9_save := goodIn_r _ [22, 23, 24, 7, 33, 34, 35, 36, 37, 38, 39, 40, 41, 42, 43, 44, 45] (by decide +kernel) (by decide +kernel)
set_option maxRecDepth 20000 in
theorem gX9_stoke_X9_save : GoodIn wsX9_stoke (wsV RX9 112 RX9 yX9_save wsX9_save) := goodIn_app (goodIn_of _ (by decide +kernel)) ggX9_stoke_X9_save
set_option maxRecDepth 20000 in
theorem ggX9_stoke_X9_stokeNow : GoodIn wsX9_stoke wsX9_stokeNow := goodIn_r _ [28, 7, 29, 30, 31, 5, 32, 33, 34, 35, 36, 37, 38, 39, 40, 41, 42, 43, 44, 45] (by decide +kernel) (by decide +kernel)
set_option maxRecDepth 20000 in
theorem gX9_stoke_X9_stokeNow : GoodIn wsX9_stoke (wsV RX9 162 RX9 yX9_stokeNow wsX9_stokeNow) := goodIn_app (goodIn_of _ (by decide +kernel)) ggX9_stoke_X9_stokeNow
theorem dX9_stoke_0 : decode cX9_stoke 0 = .ok (.aload_n 0, 1) := by decide +kernel
theorem dX9_stoke_1 : decode cX9_stoke 1 = .ok (.aload_n 0, 1) := by decide +kernel
theorem dX9_stoke_2 : decode cX9_stoke 2 = .ok (.iload_n 1, 1) := by decide +kernel
theorem dX9_stoke_3 : decode cX9_stoke 3 = .ok (.iload_n 2, 1) := by decide +kernel
theorem dX9_stoke_4 : decode cX9_stoke 4 = .ok (.invokevirtual 159, 3) := by decide +kernel
theorem dX9_stoke_7 : decode cX9_stoke 7 = .ok (.putfield 35, 3) := by decide +kernel
theorem dX9_stoke_10 : decode cX9_stoke 10 = .ok (.aload_n 0, 1) := by decide +kernel
theorem dX9_stoke_11 : decode cX9_stoke 11 = .ok (.getfield 35, 3) := by decide +kernel
theorem dX9_stoke_14 : decode cX9_stoke 14 = .ok (.ifCond .le 5, 3) := by decide +kernel
theorem dX9_stoke_17 : decode cX9_stoke 17 = .ok (.iconst 0, 1) := by decide +kernel
theorem dX9_stoke_18 : decode cX9_stoke 18 = .ok (.ireturn, 1) := by decide +kernel
theorem dX9_stoke_19 : decode cX9_stoke 19 = .ok (.aload_n 0, 1) := by decide +kernel
theorem dX9_stoke_20 : decode cX9_stoke 20 = .ok (.invokevirtual 112, 3) := by decide +kernel
theorem dX9_stoke_23 : decode cX9_stoke 23 = .ok (.aload_n 0, 1) := by decide +kernel
theorem dX9_stoke_24 : decode cX9_stoke 24 = .ok (.iload_n 1, 1) := by decide +kernel
theorem dX9_stoke_25 : decode cX9_stoke 25 = .ok (.iload_n 2, 1) := by decide +kernel
theorem dX9_stoke_26 : decode cX9_stoke 26 = .ok (.invokevirtual 162, 3) := by decide +kernel
theorem dX9_stoke_29 : decode cX9_stoke 29 = .ok (.ireturn, 1) := by decide +kernel
theorem dX9_useOfAll_0 : decode cX9_useOfAll 0 = .ok (.iconst 0, 1) := by decide +kernel
theorem dX9_useOfAll_1 : decode cX9_useOfAll 1 = .ok (.istore_n 1, 1) := by decide +kernel
theorem dX9_useOfAll_2 : decode cX9_useOfAll 2 = .ok (.iconst 0, 1) := by decide +kernel
theorem dX9_useOfAll_3 : decode cX9_useOfAll 3 = .ok (.istore_n 2, 1) := by decide +kernel
theorem dX9_useOfAll_4 : decode cX9_useOfAll 4 = .ok (.iload_n 2, 1) := by decide +kernel
theorem dX9_useOfAll_5 : decode cX9_useOfAll 5 = .ok (.aload_n 0, 1) := by decide +kernel
theorem dX9_useOfAll_6 : decode cX9_useOfAll 6 = .ok (.getfield 7, 3) := by decide +kernel
theorem dX9_useOfAll_9 : decode cX9_useOfAll 9 = .ok (.iconst 3, 1) := by decide +kernel
theorem dX9_useOfAll_10 : decode cX9_useOfAll 10 = .ok (.iaload, 1) := by decide +kernel
theorem dX9_useOfAll_11 : decode cX9_useOfAll 11 = .ok (.if_icmp .ge 26, 3) := by decide +kernel
theorem dX9_useOfAll_14 : decode cX9_useOfAll 14 = .ok (.iload_n 1, 1) := by decide +kernel
theorem dX9_useOfAll_15 : decode cX9_useOfAll 15 = .ok (.aload_n 0, 1) := by decide +kernel
theorem dX9_useOfAll_16 : decode cX9_useOfAll 16 = .ok (.getfield 7, 3) := by decide +kernel
theorem dX9_useOfAll_19 : decode cX9_useOfAll 19 = .ok (.bipush 37, 2) := by decide +kernel
theorem dX9_useOfAll_21 : decode cX9_useOfAll 21 = .ok (.bipush 6, 2) := by decide +kernel
theorem dX9_useOfAll_23 : decode cX9_useOfAll 23 = .ok (.iload_n 2, 1) := by decide +kernel
theorem dX9_useOfAll_24 : decode cX9_useOfAll 24 = .ok (.imul, 1) := by decide +kernel
theorem dX9_useOfAll_25 : decode cX9_useOfAll 25 = .ok (.iadd, 1) := by decide +kernel
theorem dX9_useOfAll_26 : decode cX9_useOfAll 26 = .ok (.iconst 1, 1) := by decide +kernel
theorem dX9_useOfAll_27 : decode cX9_useOfAll 27 = .ok (.iadd, 1) := by decide +kernel
theorem dX9_useOfAll_28 : decode cX9_useOfAll 28 = .ok (.iaload, 1) := by decide +kernel
theorem dX9_useOfAll_29 : decode cX9_useOfAll 29 = .ok (.iadd, 1) := by decide +kernel
theorem dX9_useOfAll_30 : decode cX9_useOfAll 30 = .ok (.istore_n 1, 1) := by decide +kernel
theorem dX9_useOfAll_31 : decode cX9_useOfAll 31 = .ok (.iinc 2 1, 3) := by decide +kernel
theorem dX9_useOfAll_34 : decode cX9_useOfAll 34 = .ok (.goto (-30), 3) := by decide +kernel
theorem dX9_useOfAll_37 : decode cX9_useOfAll 37 = .ok (.iload_n 1, 1) := by decide +kernel
theorem dX9_useOfAll_38 : decode cX9_useOfAll 38 = .ok (.ireturn, 1) := by decide +kernel
set_option maxRecDepth 20000 in
theorem ggX9_share_X9_useOfAll : GoodIn wsX9_share wsX9_useOfAll := goodIn_r _ [9, 1, 10, 11, 12, 13, 14, 15, 16, 17, 18, 19, 20, 21, 22] (by decide +kernel) (by decide +kernel)
set_option maxRecDepth 20000 in
theorem gX9_share_X9_useOfAll : GoodIn wsX9_share (wsV RX9 165 RX9 yX9_useOfAll wsX9_useOfAll) := goodIn_app (goodIn_of _ (by decide +kernel)) ggX9_share_X9_useOfAll
theorem dX9_share_0 : decode cX9_share 0 = .ok (.aload_n 0, 1) := by decide +kernel
theorem dX9_share_1 : decode cX9_share 1 = .ok (.invokevirtual 165, 3) := by decide +kernel
theorem dX9_share_4 : decode cX9_share 4 = .ok (.i2l, 1) := by decide +kernel
theorem dX9_share_5 : decode cX9_share 5 = .ok (.lstore_n 1, 1) := by decide +kernel
theorem dX9_share_6 : decode cX9_share 6 = .ok (.aload_n 0, 1) := by decide +kernel
theorem dX9_share_7 : decode cX9_share 7 = .ok (.getfield 7, 3) := by decide +kernel
theorem dX9_share_10 : decode cX9_share 10 = .ok (.bipush 6, 2) := by decide +kernel
theorem dX9_share_12 : decode cX9_share 12 = .ok (.iaload, 1) := by decide +kernel
theorem dX9_share_13 : decode cX9_share 13 = .ok (.istore_n 3, 1) := by decide +kernel
theorem dX9_share_14 : decode cX9_share 14 = .ok (.iconst 0, 1) := by decide +kernel
theorem dX9_share_15 : decode cX9_share 15 = .ok (.istore 4, 2) := by decide +kernel
theorem dX9_share_17 : decode cX9_share 17 = .ok (.iload 4, 2) := by decide +kernel
theorem dX9_share_19 : decode cX9_share 19 = .ok (.aload_n 0, 1) := by decide +kernel
theorem dX9_share_20 : decode cX9_share 20 = .ok (.getfield 7, 3) := by decide +kernel
theorem dX9_share_23 : decode cX9_share 23 = .ok (.iconst 3, 1) := by decide +kernel
theorem dX9_share_24 : decode cX9_share 24 = .ok (.iaload, 1) := by decide +kernel
