theorem dL_byAlias_0 : decode cL_byAlias 0 = .ok (.aload_n 2, 1) := by decide +kernel
theorem dL_byAlias_1 : decode cL_byAlias 1 = .ok (.iconst 0, 1) := by decide +kernel
theorem dL_byAlias_2 : decode cL_byAlias 2 = .ok (.aload_n 0, 1) := by decide +kernel
theorem dL_byAlias_3 : decode cL_byAlias 3 = .ok (.iload_n 1, 1) := by decide +kernel
theorem dL_byAlias_4 : decode cL_byAlias 4 = .ok (.invokevirtual 122, 3) := by decide +kernel
theorem dL_byAlias_7 : decode cL_byAlias 7 = .ok (.i2l, 1) := by decide +kernel
theorem dL_byAlias_8 : decode cL_byAlias 8 = .ok (.lastore, 1) := by decide +kernel
theorem dL_byAlias_9 : decode cL_byAlias 9 = .ok (.goto 6, 3) := by decide +kernel
theorem dL_byAlias_12 : decode cL_byAlias 12 = .ok (.astore_n 3, 1) := by decide +kernel
theorem dL_byAlias_13 : decode cL_byAlias 13 = .ok (.iconst 1, 1) := by decide +kernel
theorem dL_byAlias_14 : decode cL_byAlias 14 = .ok (.ireturn, 1) := by decide +kernel
theorem dL_byAlias_15 : decode cL_byAlias 15 = .ok (.iconst 0, 1) := by decide +kernel
theorem dL_byAlias_16 : decode cL_byAlias 16 = .ok (.ireturn, 1) := by decide +kernel
set_option maxRecDepth 20000 in
theorem ggL_wouldScore_X10_wouldScore : GoodIn wsL_wouldScore wsX10_wouldScore := goodIn_ca (goodIn_r _ [6, 7, 8, 9, 10, 11, 12, 13, 14, 15, 16, 17, 18, 19, 20, 21, 22, 23, 24, 25, 26, 27, 28, 29, 30, 31, 32, 33, 34, 35, 36, 37, 38, 39, 40, 41, 42, 43, 44, 45, 46, 47, 48, 49, 50, 51, 52, 53, 54, 55, 56, 57, 58, 59, 60, 61, 62, 63, 64, 65, 66, 67, 68, 69, 70, 71, 72, 73, 74, 75, 76, 77, 78, 79, 80, 81, 82, 83, 84, 85, 86, 87, 88, 89, 90, 91, 92, 93, 94, 95, 96, 97, 98, 99, 100, 101, 102, 103, 104, 105, 106, 107, 108, 109, 110, 111, 112, 113, 114, 115, 116, 117, 118, 119, 120, 121, 122, 123, 124, 125, 126, 127, 128, 129, 130, 131, 132, 133, 134, 135, 136, 137, 138, 139, 140, 141, 142, 143, 144, 145, 146, 147, 148, 149, 150, 151, 152, 153, 154, 155, 156, 157, 158, 159, 160, 161, 162, 163, 164, 165, 166, 167, 168, 169, 170, 171, 172, 173, 174, 175, 176, 177, 178, 179, 180, 181, 182, 183, 184, 185, 186, 187, 188, 189, 190, 191, 192, 193, 194, 195, 196, 197, 198, 199, 200, 201, 202, 203, 204, 205, 206, 207, 208, 209, 210, 211, 212, 213, 214, 215, 216, 217, 218, 219, 220, 221, 222, 223, 224, 225, 226, 227, 228, 229, 230, 231, 232, 233, 234, 235, 236, 237, 238, 239, 240, 241, 242, 243, 244, 245, 246, 247, 248, 249, 250, 251, 252, 253, 254, 255, 256, 257, 258, 259, 260, 261, 262] (by decide +kernel) (by decide +kernel)) (goodIn_sub (fun _ h => List.mem_cons_of_mem _ (List.mem_append_right _ h)) (by decide +kernel))
set_option maxRecDepth 20000 in
theorem gL_wouldScore_X10_wouldScore : GoodIn wsL_wouldScore (wsV RL 125 RX10 yX10_wouldScore wsX10_wouldScore) := goodIn_app (goodIn_of _ (by decide +kernel)) ggL_wouldScore_X10_wouldScore
theorem dL_wouldScore_0 : decode cL_wouldScore 0 = .ok (.aload_n 3, 1) := by decide +kernel
theorem dL_wouldScore_1 : decode cL_wouldScore 1 = .ok (.iconst 0, 1) := by decide +kernel
theorem dL_wouldScore_2 : decode cL_wouldScore 2 = .ok (.aload_n 0, 1) := by decide +kernel
theorem dL_wouldScore_3 : decode cL_wouldScore 3 = .ok (.iload_n 1, 1) := by decide +kernel
theorem dL_wouldScore_4 : decode cL_wouldScore 4 = .ok (.iload_n 2, 1) := by decide +kernel
theorem dL_wouldScore_5 : decode cL_wouldScore 5 = .ok (.invokevirtual 125, 3) := by decide +kernel
theorem dL_wouldScore_8 : decode cL_wouldScore 8 = .ok (.i2l, 1) := by decide +kernel
theorem dL_wouldScore_9 : decode cL_wouldScore 9 = .ok (.lastore, 1) := by decide +kernel
theorem dL_wouldScore_10 : decode cL_wouldScore 10 = .ok (.goto 7, 3) := by decide +kernel
theorem dL_wouldScore_13 : decode cL_wouldScore 13 = .ok (.astore 4, 2) := by decide +kernel
theorem dL_wouldScore_15 : decode cL_wouldScore 15 = .ok (.iconst 1, 1) := by decide +kernel
theorem dL_wouldScore_16 : decode cL_wouldScore 16 = .ok (.ireturn, 1) := by decide +kernel
theorem dL_wouldScore_17 : decode cL_wouldScore 17 = .ok (.iconst 0, 1) := by decide +kernel
theorem dL_wouldScore_18 : decode cL_wouldScore 18 = .ok (.ireturn, 1) := by decide +kernel
set_option maxRecDepth 20000 in
theorem ggL_law_X10_init : GoodIn wsL_law wsX10_init := goodIn_r _ [9, 10, 11, 12, 13, 14, 15, 16, 17, 18, 19, 20, 21, 22, 23, 24, 25, 26, 27, 28, 29, 30, 31, 32, 33, 34, 35, 36, 37, 38, 39, 40, 41, 42, 43, 44, 45, 46, 47, 48, 49, 50, 51, 52, 53, 54, 55, 56, 57, 58, 59, 60, 61, 62, 63, 64, 65, 66, 67, 68, 69, 70, 71, 72, 73, 74, 75, 76, 77, 78, 79, 80, 81, 82, 83, 84, 85, 86, 87, 88, 89, 90, 91, 92, 93, 94, 95, 96, 97, 98, 99, 100, 101, 102, 103, 104, 105, 106, 107, 108, 1323, 1324, 1325, 1326, 1327, 1328, 1283, 1284, 1285, 1286, 1287, 1288, 1289, 1290, 1291, 1292, 1329, 1330, 1331, 1332, 1333, 1334, 1335, 1336, 1337, 1338, 1339, 1340, 1341, 1342, 1343, 1344, 1345, 1346, 1347, 1348, 1349, 1350, 1351, 1352, 1353, 1354] (by decide +kernel) (by decide +kernel)
set_option maxRecDepth 20000 in
theorem gL_law_X10_init : GoodIn wsL_law (wsX10_init) := ggL_law_X10_init
set_option maxRecDepth 20000 in
theorem ggL_law_X11_init : GoodIn wsL_law wsX11_init := goodIn_r _ [111, 112, 11, 12, 45, 113, 114, 65, 115, 116, 117, 118, 119, 120, 121, 122, 123, 124, 125, 126, 127, 128, 129, 130, 131, 132, 133, 1293, 1294, 1295, 1296, 1297, 1298, 1299, 1300, 1301, 1302, 1303, 1304, 1305, 1306, 1307, 1308, 1309, 1310, 1311, 1312, 1313, 1314, 1315, 1316, 1317, 1318, 1319, 1320, 1321, 1322] (by decide +kernel) (by decide +kernel)
set_option maxRecDepth 20000 in
theorem gL_law_X11_init : GoodIn wsL_law (wsX11_init) := ggL_law_X11_init
set_option maxRecDepth 20000 in
theorem ggL_law_L_open : GoodIn wsL_law wsL_open := goodIn_ca (goodIn_ca (goodIn_r _ [137, 138, 139, 140, 141, 142, 2, 143, 144, 145, 146, 147, 16, 148, 149, 150, 151, 152, 153, 154, 155, 156, 157, 158, 159, 160, 161, 15, 162, 163, 51, 164, 165, 166, 167, 11, 12, 168, 169, 170, 171, 172, 173, 174, 175, 176, 177, 45, 178, 179, 180, 1283, 1284, 1285, 1286, 1287, 1288, 1289, 1290, 1291, 1292, 1323, 1324, 1325, 1326, 1327, 1328, 1355, 1356, 1357, 1358, 1359, 1360, 1361, 1362, 1363, 1364] (by decide +kernel) (by decide +kernel)) (goodIn_sub (fun _ h => List.mem_append_left _ (List.mem_append_left _ (List.mem_append_right _ h))) (by decide +kernel))) (goodIn_sub (fun _ h => List.mem_append_left _ (List.mem_append_right _ h)) (by decide +kernel))
set_option maxRecDepth 20000 in
theorem gL_law_L_open : GoodIn wsL_law (va_wsS RL 132 yL_open wsL_open) := goodIn_app (goodIn_of _ (by decide +kernel)) ggL_law_L_open
set_option maxRecDepth 20000 in
theorem ggL_law_X11_open : GoodIn wsL_law wsX11_open := goodIn_r _ [184, 185, 186, 187, 113, 114, 188, 189, 5, 190, 191, 192, 193, 194, 1293, 1294, 1295, 1296, 1297, 1298, 1299, 1300, 1301, 1302, 1303, 1304, 1305, 1306, 1307, 1308, 1309, 1310, 1311, 1312, 1313, 1314, 1315, 1316, 1317, 1318, 1319, 1320, 1321, 1322] (by decide +kernel) (by decide +kernel)
set_option maxRecDepth 20000 in
theorem gL_law_X11_open : GoodIn wsL_law (wsV RL 137 RX11 yX11_open wsX11_open) := goodIn_app (goodIn_of _ (by decide +kernel)) ggL_law_X11_open
set_option maxRecDepth 20000 in
theorem ggL_law_X11_thrown : GoodIn wsL_law wsX11_thrown := goodIn_r _ [198, 185, 1293, 1294, 1295, 1296, 1297, 1298, 1299, 1300, 1301, 1302, 1303, 1304, 1305, 1306, 1307, 1308, 1309, 1310, 1311, 1312, 1313, 1314, 1315, 1316, 1317, 1318, 1319, 1320, 1321, 1322] (by decide +kernel) (by decide +kernel)
set_option maxRecDepth 20000 in
theorem gL_law_X11_thrown : GoodIn wsL_law (wsV RL 138 RX11 yX11_thrown wsX11_thrown) := goodIn_app (goodIn_of _ (by decide +kernel)) ggL_law_X11_thrown
