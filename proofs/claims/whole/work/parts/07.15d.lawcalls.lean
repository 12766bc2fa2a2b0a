/-! the law's calls, 15d -/
set_option maxRecDepth 20000 in
theorem ggL_law_X9_type : GoodIn wsL_law wsX9_type := goodIn_r _ [912, 767, 128, 123, 232, 233, 5, 234, 1171, 1172, 1173, 1174, 1175, 1176, 1177, 1178, 1179, 1180, 1181, 1182, 1183] (by decide +kernel) (by decide +kernel)
set_option maxRecDepth 20000 in
theorem gL_law_X9_type : GoodIn wsL_law (wsV RL 164 RX9 yX9_type wsX9_type) := goodIn_app (goodIn_of _ (by decide +kernel)) ggL_law_X9_type
set_option maxRecDepth 20000 in
theorem ggL_law_X8_clearCommands : GoodIn wsL_law wsX8_clearCommands := goodIn_r _ [916, 25, 917, 918, 919, 24, 920, 749, 1167, 1168, 1169, 1170, 1201, 1202, 1203, 1204, 1205, 1206] (by decide +kernel) (by decide +kernel)
set_option maxRecDepth 20000 in
theorem gL_law_X8_clearCommands : GoodIn wsL_law (wsV RL 165 RX8 yX8_clearCommands wsX8_clearCommands) := goodIn_app (goodIn_of _ (by decide +kernel)) ggL_law_X8_clearCommands
