set_option maxRecDepth 20000 in
theorem ggL_law_X11_kind : GoodIn wsL_law wsX11_kind := goodIn_r _ [713, 185, 614, 188, 189, 5, 190, 191, 192, 193, 194, 615, 616, 617, 618, 124, 125, 126, 127, 1293, 1294, 1295, 1296, 1297, 1298, 1299, 1300, 1301, 1302, 1303, 1304, 1305, 1306, 1307, 1308, 1309, 1310, 1311, 1312, 1313, 1314, 1315, 1316, 1317, 1318, 1319, 1320, 1321, 1322] (by decide +kernel) (by decide +kernel)
set_option maxRecDepth 20000 in
theorem gL_law_X11_kind : GoodIn wsL_law (wsV RL 218 RX11 yX11_kind wsX11_kind) := goodIn_app (goodIn_of _ (by decide +kernel)) ggL_law_X11_kind
set_option maxRecDepth 20000 in
theorem ggL_law_L_scaled : GoodIn wsL_law wsL_scaled := goodIn_ca (goodIn_ca (goodIn_ca (goodIn_r _ [716, 276, 138, 139, 717, 718, 719, 2, 720, 281, 282, 144, 145, 146, 147, 24, 587, 588, 589, 630, 721, 632, 633, 634, 23, 635, 636, 637, 638, 639, 599, 78, 595, 596, 597, 598, 600, 601, 602, 603, 11, 12, 604, 605, 606, 607, 608, 609, 1283, 1284, 1285, 1286, 1287, 1288, 1289, 1290, 1291, 1292, 1365, 1366, 1367, 1368, 1369, 1370, 1371, 1372, 1373, 1374, 1375, 1376, 1377, 1332, 1333, 1334, 1335, 1336] (by decide +kernel) (by decide +kernel)) (goodIn_sub (fun _ h => List.mem_append_right _ h) (by decide +kernel))) (goodIn_sub (fun _ h => List.mem_append_left _ (List.mem_append_left _ (List.mem_append_right _ h))) (by decide +kernel))) (goodIn_sub (fun _ h => List.mem_append_left _ (List.mem_append_right _ h)) (by decide +kernel))
set_option maxRecDepth 20000 in
theorem gL_law_L_scaled : GoodIn wsL_law (va_wsS RL 219 yL_scaled wsL_scaled) := goodIn_app (goodIn_of _ (by decide +kernel)) ggL_law_L_scaled
set_option maxRecDepth 20000 in
theorem ggL_law_X11_scaled : GoodIn wsL_law wsX11_scaled := goodIn_r _ [725, 185, 614, 648, 649, 650, 5, 651, 188, 189, 190, 191, 192, 193, 194, 615, 616, 617, 618, 124, 125, 126, 127, 1293, 1294, 1295, 1296, 1297, 1298, 1299, 1300, 1301, 1302, 1303, 1304, 1305, 1306, 1307, 1308, 1309, 1310, 1311, 1312, 1313, 1314, 1315, 1316, 1317, 1318, 1319, 1320, 1321, 1322] (by decide +kernel) (by decide +kernel)
set_option maxRecDepth 20000 in
theorem gL_law_X11_scaled : GoodIn wsL_law (wsV RL 221 RX11 yX11_scaled wsX11_scaled) := goodIn_app (goodIn_of _ (by decide +kernel)) ggL_law_X11_scaled

set_option maxRecDepth 20000 in
theorem ggL_law_L_most : GoodIn wsL_law wsL_most := goodIn_ca (goodIn_ca (goodIn_ca (goodIn_r _ [728, 276, 138, 139, 729, 730, 731, 2, 732, 281, 282, 144, 145, 146, 147, 24, 733, 587, 588, 589, 630, 734, 735, 632, 633, 634, 23, 635, 636, 637, 638, 639, 599, 78, 595, 596, 597, 598, 600, 601, 602, 603, 11, 12, 604, 605, 606, 607, 608, 609, 1283, 1284, 1285, 1286, 1287, 1288, 1289, 1290, 1291, 1292, 1332, 1333, 1334, 1335, 1336, 1365, 1366, 1367, 1368, 1369, 1370, 1371, 1372, 1373, 1374, 1375, 1376, 1377] (by decide +kernel) (by decide +kernel)) (goodIn_sub (fun _ h => List.mem_append_right _ h) (by decide +kernel))) (goodIn_sub (fun _ h => List.mem_append_left _ (List.mem_append_left _ (List.mem_append_right _ h))) (by decide +kernel))) (goodIn_sub (fun _ h => List.mem_append_left _ (List.mem_append_right _ h)) (by decide +kernel))
set_option maxRecDepth 20000 in
theorem gL_law_L_most : GoodIn wsL_law (va_wsS RL 222 yL_most wsL_most) := goodIn_app (goodIn_of _ (by decide +kernel)) ggL_law_L_most
set_option maxRecDepth 20000 in
theorem ggL_law_X11_most : GoodIn wsL_law wsX11_most := goodIn_r _ [739, 185, 614, 648, 649, 650, 5, 651, 188, 189, 190, 191, 192, 193, 194, 615, 616, 617, 618, 124, 125, 126, 127, 1293, 1294, 1295, 1296, 1297, 1298, 1299, 1300, 1301, 1302, 1303, 1304, 1305, 1306, 1307, 1308, 1309, 1310, 1311, 1312, 1313, 1314, 1315, 1316, 1317, 1318, 1319, 1320, 1321, 1322] (by decide +kernel) (by decide +kernel)
set_option maxRecDepth 20000 in
theorem gL_law_X11_most : GoodIn wsL_law (wsV RL 224 RX11 yX11_most wsX11_most) := goodIn_app (goodIn_of _ (by decide +kernel)) ggL_law_X11_most
