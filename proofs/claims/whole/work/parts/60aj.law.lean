set_option maxRecDepth 20000 in
theorem ggL_law_L_rare : GoodIn wsL_law wsL_rare := goodIn_ca (goodIn_r _ [556, 138, 557, 558, 559, 2, 560, 144, 145, 16, 40, 210, 211, 212, 207, 208, 209, 537, 538, 539, 35, 540, 59, 561, 562, 563, 564, 448, 1283, 1284, 1285, 1286, 1287, 1288, 1289, 1290, 1291, 1292, 1323, 1324, 1325, 1326, 1327, 1328, 1347, 1348, 1349] (by decide +kernel) (by decide +kernel)) (goodIn_sub (fun _ h => List.mem_append_left _ (List.mem_append_left _ (List.mem_append_right _ h))) (by decide +kernel))
set_option maxRecDepth 20000 in
theorem gL_law_L_rare : GoodIn wsL_law (va_wsS RL 194 yL_rare wsL_rare) := goodIn_app (goodIn_of _ (by decide +kernel)) ggL_law_L_rare
set_option maxRecDepth 20000 in
theorem ggL_law_X11_rare : GoodIn wsL_law wsX11_rare := goodIn_r _ [568, 185, 239, 240, 5, 241, 188, 189, 190, 236, 237, 238, 569, 570, 571, 572, 573, 574, 575, 576, 553, 549, 550, 551, 552, 469, 132, 131, 187, 116, 401, 402, 403, 404, 117, 405, 406, 407, 408, 118, 545, 546, 547, 548, 577, 578, 579, 191, 192, 193, 194, 1293, 1294, 1295, 1296, 1297, 1298, 1299, 1300, 1301, 1302, 1303, 1304, 1305, 1306, 1307, 1308, 1309, 1310, 1311, 1312, 1313, 1314, 1315, 1316, 1317, 1318, 1319, 1320, 1321, 1322] (by decide +kernel) (by decide +kernel)
set_option maxRecDepth 20000 in
theorem gL_law_X11_rare : GoodIn wsL_law (wsV RL 196 RX11 yX11_rare wsX11_rare) := goodIn_app (goodIn_of _ (by decide +kernel)) ggL_law_X11_rare
set_option maxRecDepth 20000 in
theorem ggL_law_L_term : GoodIn wsL_law wsL_term := goodIn_ca (goodIn_ca (goodIn_r _ [582, 138, 139, 583, 584, 585, 2, 586, 144, 145, 146, 147, 24, 587, 588, 589, 590, 591, 210, 211, 212, 592, 593, 594, 595, 596, 597, 23, 598, 599, 78, 600, 601, 602, 603, 11, 12, 604, 605, 606, 607, 608, 609, 1283, 1284, 1285, 1286, 1287, 1288, 1289, 1290, 1291, 1292, 1365, 1366, 1367, 1368, 1369, 1370, 1371, 1372, 1373, 1374, 1375, 1376, 1377, 1332, 1333, 1334, 1335, 1336] (by decide +kernel) (by decide +kernel)) (goodIn_sub (fun _ h => List.mem_append_left _ (List.mem_append_left _ (List.mem_append_right _ h))) (by decide +kernel))) (goodIn_sub (fun _ h => List.mem_append_left _ (List.mem_append_right _ h)) (by decide +kernel))
set_option maxRecDepth 20000 in
theorem gL_law_L_term : GoodIn wsL_law (va_wsS RL 197 yL_term wsL_term) := goodIn_app (goodIn_of _ (by decide +kernel)) ggL_law_L_term
set_option maxRecDepth 20000 in
theorem ggL_law_X11_term : GoodIn wsL_law wsX11_term := goodIn_r _ [613, 185, 614, 239, 240, 5, 241, 188, 189, 190, 191, 192, 193, 194, 615, 616, 617, 618, 124, 125, 126, 127, 1293, 1294, 1295, 1296, 1297, 1298, 1299, 1300, 1301, 1302, 1303, 1304, 1305, 1306, 1307, 1308, 1309, 1310, 1311, 1312, 1313, 1314, 1315, 1316, 1317, 1318, 1319, 1320, 1321, 1322] (by decide +kernel) (by decide +kernel)
set_option maxRecDepth 20000 in
theorem gL_law_X11_term : GoodIn wsL_law (wsV RL 199 RX11 yX11_term wsX11_term) := goodIn_app (goodIn_of _ (by decide +kernel)) ggL_law_X11_term
set_option maxRecDepth 20000 in
theorem ggL_law_L_and : GoodIn wsL_law wsL_and := goodIn_ca (goodIn_ca (goodIn_r _ [621, 276, 139, 622, 623, 624, 2, 625, 626, 627, 628, 629, 281, 282, 146, 147, 24, 587, 588, 589, 630, 631, 632, 633, 634, 23, 635, 636, 637, 638, 639, 599, 78, 595, 596, 597, 598, 600, 601, 602, 603, 11, 12, 604, 605, 606, 607, 608, 609, 1283, 1284, 1285, 1286, 1287, 1288, 1289, 1290, 1291, 1292, 1365, 1366, 1367, 1368, 1369, 1370, 1371, 1372, 1373, 1374, 1375, 1376, 1377, 1332, 1333, 1334, 1335, 1336] (by decide +kernel) (by decide +kernel)) (goodIn_sub (fun _ h => List.mem_append_right _ h) (by decide +kernel))) (goodIn_sub (fun _ h => List.mem_append_left _ (List.mem_append_right _ h)) (by decide +kernel))
set_option maxRecDepth 20000 in
theorem gL_law_L_and : GoodIn wsL_law (va_wsS RL 200 yL_and wsL_and) := goodIn_app (goodIn_of _ (by decide +kernel)) ggL_law_L_and
