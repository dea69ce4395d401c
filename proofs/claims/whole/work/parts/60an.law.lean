set_option maxRecDepth 20000 in
theorem ggL_law_X10_clear : GoodIn wsL_law wsX10_clear := goodIn_r _ [743, 24, 744, 745, 746, 23, 747, 599, 1283, 1284, 1285, 1286, 1287, 1288, 1289, 1290, 1291, 1292, 1332, 1333, 1334, 1335, 1336] (by decide +kernel) (by decide +kernel)
set_option maxRecDepth 20000 in
theorem gL_law_X10_clear : GoodIn wsL_law (wsV RL 225 RX10 yX10_clear wsX10_clear) := goodIn_app (goodIn_of _ (by decide +kernel)) ggL_law_X10_clear
set_option maxRecDepth 20000 in
theorem ggL_law_X11_clear : GoodIn wsL_law wsX11_clear := goodIn_r _ [751, 185, 614, 1293, 1294, 1295, 1296, 1297, 1298, 1299, 1300, 1301, 1302, 1303, 1304, 1305, 1306, 1307, 1308, 1309, 1310, 1311, 1312, 1313, 1314, 1315, 1316, 1317, 1318, 1319, 1320, 1321, 1322] (by decide +kernel) (by decide +kernel)
set_option maxRecDepth 20000 in
theorem gL_law_X11_clear : GoodIn wsL_law (wsV RL 228 RX11 yX11_clear wsX11_clear) := goodIn_app (goodIn_of _ (by decide +kernel)) ggL_law_X11_clear
set_option maxRecDepth 20000 in
theorem ggL_law_X10_nodes : GoodIn wsL_law wsX10_nodes := goodIn_r _ [755, 24, 733, 1283, 1284, 1285, 1286, 1287, 1288, 1289, 1290, 1291, 1292, 1332, 1333, 1334, 1335, 1336] (by decide +kernel) (by decide +kernel)
set_option maxRecDepth 20000 in
theorem gL_law_X10_nodes : GoodIn wsL_law (wsV RL 229 RX10 yX10_nodes wsX10_nodes) := goodIn_app (goodIn_of _ (by decide +kernel)) ggL_law_X10_nodes
set_option maxRecDepth 20000 in
theorem ggL_law_X11_nodes : GoodIn wsL_law wsX11_nodes := goodIn_r _ [759, 614, 358, 359, 360, 5, 361, 185, 1293, 1294, 1295, 1296, 1297, 1298, 1299, 1300, 1301, 1302, 1303, 1304, 1305, 1306, 1307, 1308, 1309, 1310, 1311, 1312, 1313, 1314, 1315, 1316, 1317, 1318, 1319, 1320, 1321, 1322] (by decide +kernel) (by decide +kernel)
set_option maxRecDepth 20000 in
theorem gL_law_X11_nodes : GoodIn wsL_law (wsV RL 232 RX11 yX11_nodes wsX11_nodes) := goodIn_app (goodIn_of _ (by decide +kernel)) ggL_law_X11_nodes
set_option maxRecDepth 20000 in
theorem ggL_law_L_score : GoodIn wsL_law wsL_score := goodIn_ca (goodIn_r _ [762, 276, 763, 764, 765, 2, 766, 281, 282, 16, 24, 41, 284, 265, 266, 15, 267, 163, 51, 632, 633, 634, 23, 635, 636, 637, 638, 639, 599, 78, 767, 768, 769, 151, 770, 373, 374, 375, 376, 377, 170, 771, 772, 773, 39, 774, 104, 105, 775, 776, 777, 485, 778, 779, 780, 781, 782, 783, 784, 785, 786, 787, 788, 789, 790, 791, 792, 793, 794, 795, 796, 797, 106, 798, 108, 799, 800, 801, 802, 19, 803, 804, 301, 302, 303, 66, 805, 320, 321, 322, 67, 806, 214, 215, 216, 169, 807, 808, 809, 589, 810, 811, 812, 813, 814, 174, 815, 180, 228, 229, 230, 231, 226, 179, 816, 817, 818, 819, 107, 820, 821, 822, 823, 35, 824, 60, 825, 538, 539, 540, 59, 826, 562, 563, 564, 448, 827, 339, 340, 341, 68, 828, 829, 830, 831, 832, 833, 834, 835, 604, 836, 837, 838, 839, 840, 841, 842, 843, 844, 845, 846, 847, 848, 849, 850, 851, 852, 853, 854, 855, 394, 395, 396, 221, 178, 856, 857, 858, 859, 860, 861, 862, 863, 864, 865, 866, 867, 868, 1283, 1284, 1285, 1286, 1287, 1288, 1289, 1290, 1291, 1292, 1323, 1324, 1325, 1326, 1327, 1328, 1332, 1333, 1334, 1335, 1336, 1355, 1356, 1357, 1358, 1359, 1350, 1351, 1352, 1353, 1354, 1365, 1366, 1367, 1368, 1369, 1370, 1371, 1372, 1373, 1374, 1375, 1376, 1377, 1360, 1361, 1362, 1363, 1364, 1329, 1330, 1331, 1347, 1348, 1349] (by decide +kernel) (by decide +kernel)) (goodIn_sub (fun _ h => List.mem_append_right _ h) (by decide +kernel))
set_option maxRecDepth 20000 in
theorem gL_law_L_score : GoodIn wsL_law (va_wsS RL 233 yL_score wsL_score) := goodIn_app (goodIn_of _ (by decide +kernel)) ggL_law_L_score
