set_option maxRecDepth 20000 in
theorem ggL_law_X11_and : GoodIn wsL_law wsX11_and := goodIn_r _ [643, 644, 645, 646, 5, 647, 185, 614, 648, 649, 650, 651, 188, 189, 190, 191, 192, 193, 194, 615, 616, 617, 618, 124, 125, 126, 127, 1293, 1294, 1295, 1296, 1297, 1298, 1299, 1300, 1301, 1302, 1303, 1304, 1305, 1306, 1307, 1308, 1309, 1310, 1311, 1312, 1313, 1314, 1315, 1316, 1317, 1318, 1319, 1320, 1321, 1322] (by decide +kernel) (by decide +kernel)
set_option maxRecDepth 20000 in
theorem gL_law_X11_and : GoodIn wsL_law (wsV RL 202 RX11 yX11_and wsX11_and) := goodIn_app (goodIn_of _ (by decide +kernel)) ggL_law_X11_and
set_option maxRecDepth 20000 in
theorem ggL_law_L_or : GoodIn wsL_law wsL_or := goodIn_ca (goodIn_ca (goodIn_r _ [654, 276, 139, 655, 656, 657, 2, 658, 626, 627, 628, 629, 281, 282, 146, 147, 24, 587, 588, 589, 630, 631, 632, 633, 634, 23, 635, 636, 637, 638, 639, 599, 78, 595, 596, 597, 598, 600, 601, 602, 603, 11, 12, 604, 605, 606, 607, 608, 609, 1283, 1284, 1285, 1286, 1287, 1288, 1289, 1290, 1291, 1292, 1365, 1366, 1367, 1368, 1369, 1370, 1371, 1372, 1373, 1374, 1375, 1376, 1377, 1332, 1333, 1334, 1335, 1336] (by decide +kernel) (by decide +kernel)) (goodIn_sub (fun _ h => List.mem_append_right _ h) (by decide +kernel))) (goodIn_sub (fun _ h => List.mem_append_left _ (List.mem_append_right _ h)) (by decide +kernel))
set_option maxRecDepth 20000 in
theorem gL_law_L_or : GoodIn wsL_law (va_wsS RL 203 yL_or wsL_or) := goodIn_app (goodIn_of _ (by decide +kernel)) ggL_law_L_or
set_option maxRecDepth 20000 in
theorem ggL_law_X11_or : GoodIn wsL_law wsX11_or := goodIn_r _ [662, 644, 645, 646, 5, 647, 185, 614, 648, 649, 650, 651, 188, 189, 190, 191, 192, 193, 194, 615, 616, 617, 618, 124, 125, 126, 127, 1293, 1294, 1295, 1296, 1297, 1298, 1299, 1300, 1301, 1302, 1303, 1304, 1305, 1306, 1307, 1308, 1309, 1310, 1311, 1312, 1313, 1314, 1315, 1316, 1317, 1318, 1319, 1320, 1321, 1322] (by decide +kernel) (by decide +kernel)
set_option maxRecDepth 20000 in
theorem gL_law_X11_or : GoodIn wsL_law (wsV RL 205 RX11 yX11_or wsX11_or) := goodIn_app (goodIn_of _ (by decide +kernel)) ggL_law_X11_or
set_option maxRecDepth 20000 in
theorem ggL_law_L_not : GoodIn wsL_law wsL_not := goodIn_ca (goodIn_ca (goodIn_r _ [665, 276, 139, 666, 667, 668, 2, 669, 626, 627, 628, 629, 281, 282, 146, 147, 24, 587, 588, 589, 630, 631, 632, 633, 634, 23, 635, 636, 637, 638, 639, 599, 78, 595, 596, 597, 598, 600, 601, 602, 603, 11, 12, 604, 605, 606, 607, 608, 609, 1283, 1284, 1285, 1286, 1287, 1288, 1289, 1290, 1291, 1292, 1365, 1366, 1367, 1368, 1369, 1370, 1371, 1372, 1373, 1374, 1375, 1376, 1377, 1332, 1333, 1334, 1335, 1336] (by decide +kernel) (by decide +kernel)) (goodIn_sub (fun _ h => List.mem_append_right _ h) (by decide +kernel))) (goodIn_sub (fun _ h => List.mem_append_left _ (List.mem_append_right _ h)) (by decide +kernel))
set_option maxRecDepth 20000 in
theorem gL_law_L_not : GoodIn wsL_law (va_wsS RL 206 yL_not wsL_not) := goodIn_app (goodIn_of _ (by decide +kernel)) ggL_law_L_not
set_option maxRecDepth 20000 in
theorem ggL_law_X11_not : GoodIn wsL_law wsX11_not := goodIn_r _ [673, 644, 645, 646, 5, 647, 185, 614, 648, 649, 650, 651, 188, 189, 190, 191, 192, 193, 194, 615, 616, 617, 618, 124, 125, 126, 127, 1293, 1294, 1295, 1296, 1297, 1298, 1299, 1300, 1301, 1302, 1303, 1304, 1305, 1306, 1307, 1308, 1309, 1310, 1311, 1312, 1313, 1314, 1315, 1316, 1317, 1318, 1319, 1320, 1321, 1322] (by decide +kernel) (by decide +kernel)
set_option maxRecDepth 20000 in
theorem gL_law_X11_not : GoodIn wsL_law (wsV RL 208 RX11 yX11_not wsX11_not) := goodIn_app (goodIn_of _ (by decide +kernel)) ggL_law_X11_not
