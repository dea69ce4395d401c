set_option maxRecDepth 20000 in
theorem ggL_law_X11_scoreAt : GoodIn wsL_law wsX11_scoreAt := goodIn_r _ [1006, 185, 970, 130, 188, 189, 5, 190, 191, 192, 193, 194, 1293, 1294, 1295, 1296, 1297, 1298, 1299, 1300, 1301, 1302, 1303, 1304, 1305, 1306, 1307, 1308, 1309, 1310, 1311, 1312, 1313, 1314, 1315, 1316, 1317, 1318, 1319, 1320, 1321, 1322] (by first | exact rfl | decide +kernel) (by decide +kernel)
set_option maxRecDepth 20000 in
theorem gL_law_X11_scoreAt : GoodIn wsL_law (wsV RL 251 RX11 yX11_scoreAt wsX11_scoreAt) := goodIn_app (goodIn_of _ (by decide +kernel)) ggL_law_X11_scoreAt
set_option maxRecDepth 20000 in
theorem ggL_law_L_ofKind : GoodIn wsL_law wsL_ofKind := goodIn_ca (goodIn_r _ [1009, 138, 1010, 1011, 1012, 2, 1013, 144, 145, 28, 156, 157, 158, 1014, 1015, 1016, 27, 1017, 944, 1018, 954, 955, 956, 957, 86, 958, 959, 960, 961, 1283, 1284, 1285, 1286, 1287, 1288, 1289, 1290, 1291, 1292, 1337, 1338, 1339, 1340, 1355, 1356, 1357, 1358, 1359] (by decide +kernel) (by decide +kernel)) (goodIn_sub (fun _ h => List.mem_append_left _ (List.mem_append_left _ (List.mem_append_right _ h))) (by decide +kernel))
set_option maxRecDepth 20000 in
theorem gL_law_L_ofKind : GoodIn wsL_law (va_wsS RL 252 yL_ofKind wsL_ofKind) := goodIn_app (goodIn_of _ (by decide +kernel)) ggL_law_L_ofKind
set_option maxRecDepth 20000 in
theorem ggL_law_X11_ofKind : GoodIn wsL_law wsX11_ofKind := goodIn_r _ [1022, 185, 188, 189, 5, 190, 1023, 1024, 1025, 1026, 970, 114, 129, 191, 192, 193, 194, 1293, 1294, 1295, 1296, 1297, 1298, 1299, 1300, 1301, 1302, 1303, 1304, 1305, 1306, 1307, 1308, 1309, 1310, 1311, 1312, 1313, 1314, 1315, 1316, 1317, 1318, 1319, 1320, 1321, 1322] (by first | exact rfl | decide +kernel) (by decide +kernel)
set_option maxRecDepth 20000 in
theorem gL_law_X11_ofKind : GoodIn wsL_law (wsV RL 254 RX11 yX11_ofKind wsX11_ofKind) := goodIn_app (goodIn_of _ (by decide +kernel)) ggL_law_X11_ofKind
set_option maxRecDepth 20000 in
theorem ggL_law_L_ofDates : GoodIn wsL_law wsL_ofDates := goodIn_ca (goodIn_r _ [1029, 138, 1030, 1031, 1032, 2, 1033, 144, 145, 28, 153, 154, 155, 1034, 1035, 1036, 27, 1037, 944, 953, 954, 955, 956, 957, 86, 958, 959, 960, 961, 1283, 1284, 1285, 1286, 1287, 1288, 1289, 1290, 1291, 1292, 1337, 1338, 1339, 1340, 1355, 1356, 1357, 1358, 1359] (by decide +kernel) (by decide +kernel)) (goodIn_sub (fun _ h => List.mem_append_left _ (List.mem_append_left _ (List.mem_append_right _ h))) (by decide +kernel))
set_option maxRecDepth 20000 in
theorem gL_law_L_ofDates : GoodIn wsL_law (va_wsS RL 255 yL_ofDates wsL_ofDates) := goodIn_app (goodIn_of _ (by decide +kernel)) ggL_law_L_ofDates
set_option maxRecDepth 20000 in
theorem ggL_law_X11_ofDates : GoodIn wsL_law wsX11_ofDates := goodIn_r _ [1041, 185, 970, 113, 129, 188, 189, 5, 190, 191, 192, 193, 194, 1293, 1294, 1295, 1296, 1297, 1298, 1299, 1300, 1301, 1302, 1303, 1304, 1305, 1306, 1307, 1308, 1309, 1310, 1311, 1312, 1313, 1314, 1315, 1316, 1317, 1318, 1319, 1320, 1321, 1322] (by first | exact rfl | decide +kernel) (by decide +kernel)
set_option maxRecDepth 20000 in
theorem gL_law_X11_ofDates : GoodIn wsL_law (wsV RL 257 RX11 yX11_ofDates wsX11_ofDates) := goodIn_app (goodIn_of _ (by decide +kernel)) ggL_law_X11_ofDates
