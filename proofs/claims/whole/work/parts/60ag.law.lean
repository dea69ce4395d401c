set_option maxRecDepth 20000 in
theorem ggL_law_X11_stateOf : GoodIn wsL_law wsX11_stateOf := goodIn_r _ [381, 185, 289, 290, 291, 5, 292, 187, 188, 189, 190, 382, 383, 384, 385, 115, 272, 191, 192, 193, 194, 1293, 1294, 1295, 1296, 1297, 1298, 1299, 1300, 1301, 1302, 1303, 1304, 1305, 1306, 1307, 1308, 1309, 1310, 1311, 1312, 1313, 1314, 1315, 1316, 1317, 1318, 1319, 1320, 1321, 1322] (by decide +kernel) (by decide +kernel)
set_option maxRecDepth 20000 in
theorem gL_law_X11_stateOf : GoodIn wsL_law (wsV RL 168 RX11 yX11_stateOf wsX11_stateOf) := goodIn_app (goodIn_of _ (by decide +kernel)) ggL_law_X11_stateOf
set_option maxRecDepth 20000 in
theorem ggL_law_L_termAt : GoodIn wsL_law wsL_termAt := goodIn_ca (goodIn_r _ [388, 276, 389, 390, 391, 2, 392, 281, 282, 16, 206, 284, 265, 266, 15, 267, 163, 51, 213, 214, 215, 151, 216, 169, 393, 394, 395, 174, 396, 221, 178, 1283, 1284, 1285, 1286, 1287, 1288, 1289, 1290, 1291, 1292, 1360, 1361, 1362, 1363, 1364, 1323, 1324, 1325, 1326, 1327, 1328, 1355, 1356, 1357, 1358, 1359] (by decide +kernel) (by decide +kernel)) (goodIn_sub (fun _ h => List.mem_append_right _ h) (by decide +kernel))
set_option maxRecDepth 20000 in
theorem gL_law_L_termAt : GoodIn wsL_law (va_wsS RL 169 yL_termAt wsL_termAt) := goodIn_app (goodIn_of _ (by decide +kernel)) ggL_law_L_termAt
set_option maxRecDepth 20000 in
theorem ggL_law_X11_termAt : GoodIn wsL_law wsX11_termAt := goodIn_r _ [400, 185, 289, 290, 291, 5, 292, 187, 188, 189, 190, 236, 237, 238, 401, 402, 403, 404, 117, 405, 406, 407, 408, 118, 191, 192, 193, 194, 1293, 1294, 1295, 1296, 1297, 1298, 1299, 1300, 1301, 1302, 1303, 1304, 1305, 1306, 1307, 1308, 1309, 1310, 1311, 1312, 1313, 1314, 1315, 1316, 1317, 1318, 1319, 1320, 1321, 1322] (by decide +kernel) (by decide +kernel)
set_option maxRecDepth 20000 in
theorem gL_law_X11_termAt : GoodIn wsL_law (wsV RL 172 RX11 yX11_termAt wsX11_termAt) := goodIn_app (goodIn_of _ (by decide +kernel)) ggL_law_X11_termAt
set_option maxRecDepth 20000 in
theorem ggL_law_X10_flush : GoodIn wsL_law wsX10_flush := goodIn_r _ [412, 16, 413, 414, 415, 15, 416, 417, 418, 256, 257, 258, 259, 260, 261, 262, 163, 263, 264, 265, 266, 267, 51, 419, 420, 421, 422, 52, 423, 424, 425, 426, 427, 428, 429, 430, 431, 432, 433, 434, 435, 436, 437, 438, 439, 440, 441, 442, 443, 54, 444, 445, 446, 35, 447, 448, 60, 59, 449, 70, 71, 72, 450, 375, 376, 151, 377, 170, 451, 452, 453, 454, 455, 456, 214, 215, 216, 169, 457, 458, 459, 460, 461, 462, 463, 174, 464, 226, 179, 1283, 1284, 1285, 1286, 1287, 1288, 1289, 1290, 1291, 1292, 1323, 1324, 1325, 1326, 1327, 1328, 1355, 1356, 1357, 1358, 1359, 1347, 1348, 1349, 1360, 1361, 1362, 1363, 1364] (by decide +kernel) (by decide +kernel)
set_option maxRecDepth 20000 in
theorem gL_law_X10_flush : GoodIn wsL_law (wsV RL 173 RX10 yX10_flush wsX10_flush) := goodIn_app (goodIn_of _ (by decide +kernel)) ggL_law_X10_flush
set_option maxRecDepth 20000 in
theorem ggL_law_X11_flush : GoodIn wsL_law wsX11_flush := goodIn_r _ [468, 185, 187, 272, 469, 123, 470, 116, 122, 471, 472, 473, 5, 474, 115, 1293, 1294, 1295, 1296, 1297, 1298, 1299, 1300, 1301, 1302, 1303, 1304, 1305, 1306, 1307, 1308, 1309, 1310, 1311, 1312, 1313, 1314, 1315, 1316, 1317, 1318, 1319, 1320, 1321, 1322] (by decide +kernel) (by decide +kernel)
set_option maxRecDepth 20000 in
theorem gL_law_X11_flush : GoodIn wsL_law (wsV RL 176 RX11 yX11_flush wsX11_flush) := goodIn_app (goodIn_of _ (by decide +kernel)) ggL_law_X11_flush
