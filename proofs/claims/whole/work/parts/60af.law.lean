set_option maxRecDepth 20000 in
theorem ggL_law_L_setWeight : GoodIn wsL_law wsL_setWeight := goodIn_ca (goodIn_r _ [333, 138, 334, 335, 336, 2, 337, 144, 145, 20, 207, 208, 209, 338, 339, 340, 19, 341, 68, 342, 343, 344, 345, 1283, 1284, 1285, 1286, 1287, 1288, 1289, 1290, 1291, 1292, 1329, 1330, 1331] (by decide +kernel) (by decide +kernel)) (goodIn_sub (fun _ h => List.mem_append_left _ (List.mem_append_left _ (List.mem_append_right _ h))) (by decide +kernel))
set_option maxRecDepth 20000 in
theorem gL_law_L_setWeight : GoodIn wsL_law (va_wsS RL 159 yL_setWeight wsL_setWeight) := goodIn_app (goodIn_of _ (by decide +kernel)) ggL_law_L_setWeight
set_option maxRecDepth 20000 in
theorem ggL_law_X11_setWeight : GoodIn wsL_law wsX11_setWeight := goodIn_r _ [349, 185, 121, 236, 237, 5, 238, 188, 189, 190, 191, 192, 193, 194, 1293, 1294, 1295, 1296, 1297, 1298, 1299, 1300, 1301, 1302, 1303, 1304, 1305, 1306, 1307, 1308, 1309, 1310, 1311, 1312, 1313, 1314, 1315, 1316, 1317, 1318, 1319, 1320, 1321, 1322] (by decide +kernel) (by decide +kernel)
set_option maxRecDepth 20000 in
theorem gL_law_X11_setWeight : GoodIn wsL_law (wsV RL 161 RX11 yX11_setWeight wsX11_setWeight) := goodIn_app (goodIn_of _ (by decide +kernel)) ggL_law_X11_setWeight
set_option maxRecDepth 20000 in
theorem ggL_law_X10_documents : GoodIn wsL_law wsX10_documents := goodIn_r _ [353, 16, 152, 1283, 1284, 1285, 1286, 1287, 1288, 1289, 1290, 1291, 1292, 1323, 1324, 1325, 1326, 1327, 1328] (by decide +kernel) (by decide +kernel)
set_option maxRecDepth 20000 in
theorem gL_law_X10_documents : GoodIn wsL_law (wsV RL 162 RX10 yX10_documents wsX10_documents) := goodIn_app (goodIn_of _ (by decide +kernel)) ggL_law_X10_documents
set_option maxRecDepth 20000 in
theorem ggL_law_X11_documents : GoodIn wsL_law wsX11_documents := goodIn_r _ [357, 187, 358, 359, 360, 5, 361, 185, 1293, 1294, 1295, 1296, 1297, 1298, 1299, 1300, 1301, 1302, 1303, 1304, 1305, 1306, 1307, 1308, 1309, 1310, 1311, 1312, 1313, 1314, 1315, 1316, 1317, 1318, 1319, 1320, 1321, 1322] (by decide +kernel) (by decide +kernel)
set_option maxRecDepth 20000 in
theorem gL_law_X11_documents : GoodIn wsL_law (wsV RL 165 RX11 yX11_documents wsX11_documents) := goodIn_app (goodIn_of _ (by decide +kernel)) ggL_law_X11_documents
set_option maxRecDepth 20000 in
theorem ggL_law_L_stateOf : GoodIn wsL_law wsL_stateOf := goodIn_ca (goodIn_r _ [364, 276, 365, 366, 367, 2, 368, 281, 282, 16, 284, 265, 266, 15, 267, 163, 51, 369, 370, 371, 151, 372, 373, 374, 375, 376, 377, 170, 1283, 1284, 1285, 1286, 1287, 1288, 1289, 1290, 1291, 1292, 1323, 1324, 1325, 1326, 1327, 1328, 1355, 1356, 1357, 1358, 1359] (by decide +kernel) (by decide +kernel)) (goodIn_sub (fun _ h => List.mem_append_right _ h) (by decide +kernel))
set_option maxRecDepth 20000 in
theorem gL_law_L_stateOf : GoodIn wsL_law (va_wsS RL 166 yL_stateOf wsL_stateOf) := goodIn_app (goodIn_of _ (by decide +kernel)) ggL_law_L_stateOf
