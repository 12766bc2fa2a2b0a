/-! the law's calls, 15c -/
set_option maxRecDepth 20000 in
theorem ggL_law_X9_owes : GoodIn wsL_law wsX9_owes := goodIn_r _ [888, 128, 313, 314, 315, 5, 316, 120, 232, 233, 234, 889, 890, 891, 892, 124, 508, 509, 510, 511, 125, 512, 504, 505, 506, 507, 1171, 1172, 1173, 1174, 1175, 1176, 1177, 1178, 1179, 1180, 1181, 1182, 1183] (by decide +kernel) (by decide +kernel)
set_option maxRecDepth 20000 in
theorem gL_law_X9_owes : GoodIn wsL_law (wsV RL 161 RX9 yX9_owes wsX9_owes) := goodIn_app (goodIn_of _ (by decide +kernel)) ggL_law_X9_owes
set_option maxRecDepth 20000 in
theorem ggL_law_L_type : GoodIn wsL_law wsL_type := goodIn_ca (goodIn_ca (goodIn_ca (goodIn_r _ [895, 133, 134, 896, 897, 898, 2, 899, 25, 900, 901, 902, 24, 903, 749, 144, 145, 146, 147, 148, 149, 150, 151, 152, 904, 905, 906, 907, 112, 908, 221, 222, 47, 223, 63, 1167, 1168, 1169, 1170, 1201, 1202, 1203, 1204, 1205, 1206, 1232] (by decide +kernel) (by decide +kernel)) (goodIn_sub (fun _ h => List.mem_append_left _ (List.mem_append_left _ (List.mem_append_right _ h))) (by decide +kernel))) (goodIn_sub (fun _ h => List.mem_append_left _ (List.mem_append_right _ h)) (by decide +kernel))) (goodIn_sub (fun _ h => List.mem_append_right _ h) (by decide +kernel))
set_option maxRecDepth 20000 in
theorem gL_law_L_type : GoodIn wsL_law (va_wsS RL 162 yL_type wsL_type) := goodIn_app (goodIn_of _ (by decide +kernel)) ggL_law_L_type
