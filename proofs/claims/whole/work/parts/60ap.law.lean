set_option maxRecDepth 20000 in
theorem ggL_law_X10_results : GoodIn wsL_law wsX10_results := goodIn_r _ [974, 28, 939, 1283, 1284, 1285, 1286, 1287, 1288, 1289, 1290, 1291, 1292, 1337, 1338, 1339, 1340] (by first | exact rfl | decide +kernel) (by decide +kernel)
set_option maxRecDepth 20000 in
theorem gL_law_X10_results : GoodIn wsL_law (wsV RL 242 RX10 yX10_results wsX10_results) := goodIn_app (goodIn_of _ (by decide +kernel)) ggL_law_X10_results
set_option maxRecDepth 20000 in
theorem ggL_law_X11_results : GoodIn wsL_law wsX11_results := goodIn_r _ [978, 970, 358, 359, 360, 5, 361, 185, 1293, 1294, 1295, 1296, 1297, 1298, 1299, 1300, 1301, 1302, 1303, 1304, 1305, 1306, 1307, 1308, 1309, 1310, 1311, 1312, 1313, 1314, 1315, 1316, 1317, 1318, 1319, 1320, 1321, 1322] (by first | exact rfl | decide +kernel) (by decide +kernel)
set_option maxRecDepth 20000 in
theorem gL_law_X11_results : GoodIn wsL_law (wsV RL 245 RX11 yX11_results wsX11_results) := goodIn_app (goodIn_of _ (by decide +kernel)) ggL_law_X11_results
set_option maxRecDepth 20000 in
theorem ggL_law_L_resultAt : GoodIn wsL_law wsL_resultAt := goodIn_ca (goodIn_r _ [981, 276, 982, 983, 984, 2, 985, 281, 282, 28, 986, 959, 960, 27, 961, 944, 987, 988, 989, 990, 87, 958, 1283, 1284, 1285, 1286, 1287, 1288, 1289, 1290, 1291, 1292, 1337, 1338, 1339, 1340] (by decide +kernel) (by decide +kernel)) (goodIn_sub (fun _ h => List.mem_append_right _ h) (by decide +kernel))
set_option maxRecDepth 20000 in
theorem gL_law_L_resultAt : GoodIn wsL_law (va_wsS RL 246 yL_resultAt wsL_resultAt) := goodIn_app (goodIn_of _ (by decide +kernel)) ggL_law_L_resultAt
set_option maxRecDepth 20000 in
theorem ggL_law_X11_resultAt : GoodIn wsL_law wsX11_resultAt := goodIn_r _ [994, 185, 970, 129, 188, 189, 5, 190, 191, 192, 193, 194, 1293, 1294, 1295, 1296, 1297, 1298, 1299, 1300, 1301, 1302, 1303, 1304, 1305, 1306, 1307, 1308, 1309, 1310, 1311, 1312, 1313, 1314, 1315, 1316, 1317, 1318, 1319, 1320, 1321, 1322] (by first | exact rfl | decide +kernel) (by decide +kernel)
set_option maxRecDepth 20000 in
theorem gL_law_X11_resultAt : GoodIn wsL_law (wsV RL 248 RX11 yX11_resultAt wsX11_resultAt) := goodIn_app (goodIn_of _ (by decide +kernel)) ggL_law_X11_resultAt
set_option maxRecDepth 20000 in
theorem ggL_law_L_scoreAt : GoodIn wsL_law wsL_scoreAt := goodIn_ca (goodIn_r _ [997, 276, 998, 999, 1000, 2, 1001, 281, 282, 28, 986, 959, 960, 27, 961, 944, 1002, 963, 964, 965, 88, 958, 1283, 1284, 1285, 1286, 1287, 1288, 1289, 1290, 1291, 1292, 1337, 1338, 1339, 1340] (by decide +kernel) (by decide +kernel)) (goodIn_sub (fun _ h => List.mem_append_right _ h) (by decide +kernel))
set_option maxRecDepth 20000 in
theorem gL_law_L_scoreAt : GoodIn wsL_law (va_wsS RL 249 yL_scoreAt wsL_scoreAt) := goodIn_app (goodIn_of _ (by decide +kernel)) ggL_law_L_scoreAt
