set_option maxRecDepth 20000 in
theorem ggL_law_X10_compact : GoodIn wsL_law wsX10_compact := goodIn_r _ [478, 16, 479, 480, 481, 15, 482, 417, 483, 484, 485, 486, 427, 428, 429, 430, 52, 431, 432, 433, 434, 435, 436, 437, 438, 163, 263, 439, 264, 265, 266, 267, 51, 440, 441, 442, 443, 54, 444, 445, 446, 35, 447, 448, 60, 59, 449, 70, 71, 72, 450, 375, 376, 151, 377, 170, 451, 452, 453, 454, 455, 456, 214, 215, 216, 169, 457, 458, 459, 460, 461, 462, 463, 174, 464, 226, 179, 1283, 1284, 1285, 1286, 1287, 1288, 1289, 1290, 1291, 1292, 1323, 1324, 1325, 1326, 1327, 1328, 1355, 1356, 1357, 1358, 1359, 1347, 1348, 1349, 1360, 1361, 1362, 1363, 1364] (by decide +kernel) (by decide +kernel)
set_option maxRecDepth 20000 in
theorem gL_law_X10_compact : GoodIn wsL_law (wsV RL 177 RX10 yX10_compact wsX10_compact) := goodIn_app (goodIn_of _ (by decide +kernel)) ggL_law_X10_compact
set_option maxRecDepth 20000 in
theorem ggL_law_X11_compact : GoodIn wsL_law wsX11_compact := goodIn_r _ [490, 185, 470, 122, 491, 484, 485, 486, 471, 472, 473, 5, 474, 469, 187, 123, 115, 116, 1293, 1294, 1295, 1296, 1297, 1298, 1299, 1300, 1301, 1302, 1303, 1304, 1305, 1306, 1307, 1308, 1309, 1310, 1311, 1312, 1313, 1314, 1315, 1316, 1317, 1318, 1319, 1320, 1321, 1322] (by decide +kernel) (by decide +kernel)
set_option maxRecDepth 20000 in
theorem gL_law_X11_compact : GoodIn wsL_law (wsV RL 180 RX11 yX11_compact wsX11_compact) := goodIn_app (goodIn_of _ (by decide +kernel)) ggL_law_X11_compact
set_option maxRecDepth 20000 in
theorem ggL_law_X10_segments : GoodIn wsL_law wsX10_segments := goodIn_r _ [495, 16, 496, 1283, 1284, 1285, 1286, 1287, 1288, 1289, 1290, 1291, 1292, 1323, 1324, 1325, 1326, 1327, 1328] (by decide +kernel) (by decide +kernel)
set_option maxRecDepth 20000 in
theorem gL_law_X10_segments : GoodIn wsL_law (wsV RL 181 RX10 yX10_segments wsX10_segments) := goodIn_app (goodIn_of _ (by decide +kernel)) ggL_law_X10_segments
set_option maxRecDepth 20000 in
theorem ggL_law_X11_segments : GoodIn wsL_law wsX11_segments := goodIn_r _ [500, 470, 358, 359, 360, 5, 361, 185, 1293, 1294, 1295, 1296, 1297, 1298, 1299, 1300, 1301, 1302, 1303, 1304, 1305, 1306, 1307, 1308, 1309, 1310, 1311, 1312, 1313, 1314, 1315, 1316, 1317, 1318, 1319, 1320, 1321, 1322] (by decide +kernel) (by decide +kernel)
set_option maxRecDepth 20000 in
theorem gL_law_X11_segments : GoodIn wsL_law (wsV RL 184 RX11 yX11_segments wsX11_segments) := goodIn_app (goodIn_of _ (by decide +kernel)) ggL_law_X11_segments
set_option maxRecDepth 20000 in
theorem ggL_law_L_tierOf : GoodIn wsL_law wsL_tierOf := goodIn_ca (goodIn_r _ [503, 276, 504, 505, 506, 2, 507, 281, 282, 16, 508, 432, 433, 15, 434, 417, 509, 428, 429, 430, 52, 431, 1283, 1284, 1285, 1286, 1287, 1288, 1289, 1290, 1291, 1292, 1323, 1324, 1325, 1326, 1327, 1328] (by decide +kernel) (by decide +kernel)) (goodIn_sub (fun _ h => List.mem_append_right _ h) (by decide +kernel))
set_option maxRecDepth 20000 in
theorem gL_law_L_tierOf : GoodIn wsL_law (va_wsS RL 185 yL_tierOf wsL_tierOf) := goodIn_app (goodIn_of _ (by decide +kernel)) ggL_law_L_tierOf
