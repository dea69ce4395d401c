set_option maxRecDepth 20000 in
theorem ggL_law_X11_remove : GoodIn wsL_law wsX11_remove := goodIn_r _ [288, 185, 115, 289, 290, 291, 5, 292, 187, 188, 189, 190, 1293, 1294, 1295, 1296, 1297, 1298, 1299, 1300, 1301, 1302, 1303, 1304, 1305, 1306, 1307, 1308, 1309, 1310, 1311, 1312, 1313, 1314, 1315, 1316, 1317, 1318, 1319, 1320, 1321, 1322] (by decide +kernel) (by decide +kernel)
set_option maxRecDepth 20000 in
theorem gL_law_X11_remove : GoodIn wsL_law (wsV RL 151 RX11 yX11_remove wsX11_remove) := goodIn_app (goodIn_of _ (by decide +kernel)) ggL_law_X11_remove
set_option maxRecDepth 20000 in
theorem ggL_law_L_setMute : GoodIn wsL_law wsL_setMute := goodIn_ca (goodIn_r _ [295, 138, 296, 297, 298, 2, 299, 144, 145, 20, 210, 211, 212, 300, 301, 302, 19, 303, 66, 304, 305, 306, 307, 1283, 1284, 1285, 1286, 1287, 1288, 1289, 1290, 1291, 1292, 1329, 1330, 1331] (by decide +kernel) (by decide +kernel)) (goodIn_sub (fun _ h => List.mem_append_left _ (List.mem_append_left _ (List.mem_append_right _ h))) (by decide +kernel))
set_option maxRecDepth 20000 in
theorem gL_law_L_setMute : GoodIn wsL_law (va_wsS RL 152 yL_setMute wsL_setMute) := goodIn_app (goodIn_of _ (by decide +kernel)) ggL_law_L_setMute
set_option maxRecDepth 20000 in
theorem ggL_law_X11_setMute : GoodIn wsL_law wsX11_setMute := goodIn_r _ [311, 185, 119, 239, 240, 5, 241, 188, 189, 190, 1293, 1294, 1295, 1296, 1297, 1298, 1299, 1300, 1301, 1302, 1303, 1304, 1305, 1306, 1307, 1308, 1309, 1310, 1311, 1312, 1313, 1314, 1315, 1316, 1317, 1318, 1319, 1320, 1321, 1322] (by decide +kernel) (by decide +kernel)
set_option maxRecDepth 20000 in
theorem gL_law_X11_setMute : GoodIn wsL_law (wsV RL 155 RX11 yX11_setMute wsX11_setMute) := goodIn_app (goodIn_of _ (by decide +kernel)) ggL_law_X11_setMute
set_option maxRecDepth 20000 in
theorem ggL_law_L_setAlias : GoodIn wsL_law wsL_setAlias := goodIn_ca (goodIn_r _ [314, 138, 315, 316, 317, 2, 318, 144, 145, 20, 210, 211, 212, 319, 320, 321, 19, 322, 67, 323, 324, 325, 326, 1283, 1284, 1285, 1286, 1287, 1288, 1289, 1290, 1291, 1292, 1329, 1330, 1331] (by decide +kernel) (by decide +kernel)) (goodIn_sub (fun _ h => List.mem_append_left _ (List.mem_append_left _ (List.mem_append_right _ h))) (by decide +kernel))
set_option maxRecDepth 20000 in
theorem gL_law_L_setAlias : GoodIn wsL_law (va_wsS RL 156 yL_setAlias wsL_setAlias) := goodIn_app (goodIn_of _ (by decide +kernel)) ggL_law_L_setAlias
set_option maxRecDepth 20000 in
theorem ggL_law_X11_setAlias : GoodIn wsL_law wsX11_setAlias := goodIn_r _ [330, 185, 120, 239, 240, 5, 241, 188, 189, 190, 191, 192, 193, 194, 1293, 1294, 1295, 1296, 1297, 1298, 1299, 1300, 1301, 1302, 1303, 1304, 1305, 1306, 1307, 1308, 1309, 1310, 1311, 1312, 1313, 1314, 1315, 1316, 1317, 1318, 1319, 1320, 1321, 1322] (by decide +kernel) (by decide +kernel)
set_option maxRecDepth 20000 in
theorem gL_law_X11_setAlias : GoodIn wsL_law (wsV RL 158 RX11 yX11_setAlias wsX11_setAlias) := goodIn_app (goodIn_of _ (by decide +kernel)) ggL_law_X11_setAlias
