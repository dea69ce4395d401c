set_option maxRecDepth 20000 in
theorem lwi_0 : ∀ w ∈ wsL_law0_r1, w ∈ lw_tbl := fun w h => (goodIn_r (big := lw_tbl) wsL_law0_r1 [86, 87, 66, 1258, 1259, 75, 1683, 88, 89, 90, 91, 92, 93, 94, 95, 67, 265, 148, 149, 69, 266, 168, 169, 71] (by decide +kernel) (by decide +kernel) w h).1
set_option maxRecDepth 20000 in
theorem lwi_1 : ∀ w ∈ wsL_law0_r2, w ∈ lw_tbl := fun w h => (goodIn_r (big := lw_tbl) wsL_law0_r2 [267, 193, 194, 72, 268, 214, 215, 73, 269, 240, 103, 68, 270, 242, 243, 74, 133, 271, 272, 273, 264, 122, 274, 97] (by decide +kernel) (by decide +kernel) w h).1
set_option maxRecDepth 20000 in
theorem lwi_2 : ∀ w ∈ wsL_law0_r3, w ∈ lw_tbl := fun w h => (goodIn_r (big := lw_tbl) wsL_law0_r3 [98, 99, 100, 123, 129, 102, 132, 105, 106, 107, 108, 110, 111, 150, 151, 152, 153, 167, 157, 158, 159, 154, 155, 70] (by decide +kernel) (by decide +kernel) w h).1
set_option maxRecDepth 20000 in
theorem lwi_3 : ∀ w ∈ wsL_law0_r4, w ∈ lw_tbl := fun w h => (goodIn_r (big := lw_tbl) wsL_law0_r4 [156, 170, 171, 172, 173, 174, 177, 180, 181, 176, 196, 197, 198, 199, 200, 201, 202, 216, 217, 218, 219, 220, 223, 224] (by decide +kernel) (by decide +kernel) w h).1
set_option maxRecDepth 20000 in
theorem lwi_4 : ∀ w ∈ wsL_law0_r5, w ∈ lw_tbl := fun w h => (goodIn_r (big := lw_tbl) wsL_law0_r5 [225, 226, 221, 222, 244, 245, 246, 247, 252, 248, 249, 250, 251, 1260, 1261, 1262, 1263, 1267, 1268, 1269, 1270, 1271, 1272, 1274] (by decide +kernel) (by decide +kernel) w h).1
set_option maxRecDepth 20000 in
theorem lwi_5 : ∀ w ∈ wsL_law0_r6, w ∈ lw_tbl := fun w h => (goodIn_r (big := lw_tbl) wsL_law0_r6 [1275, 1276, 1278, 1279, 1281, 1282, 1283, 1284, 1285, 1287, 1288, 1291, 1292, 1293, 627, 628, 65, 629, 630, 631, 632, 633, 634, 635] (by decide +kernel) (by decide +kernel) w h).1
set_option maxRecDepth 20000 in
theorem lwi_6 : ∀ w ∈ wsL_law0_r7, w ∈ lw_tbl := fun w h => (goodIn_r (big := lw_tbl) wsL_law0_r7 [642, 79, 714, 80, 127, 730, 731, 81, 126, 636, 637, 638, 639, 640, 641, 710, 711, 712, 713, 124, 732, 733, 734, 735] (by decide +kernel) (by decide +kernel) w h).1
set_option maxRecDepth 20000 in
theorem lwi_7 : ∀ w ∈ wsL_law0_r8, w ∈ lw_tbl := fun w h => (goodIn_r (big := lw_tbl) wsL_law0_r8 [736, 770, 771, 764, 767, 473, 82, 739, 740, 741, 742, 743, 744, 1359, 1360, 1361, 1362, 1264, 1266, 1265, 1363, 1364, 1365, 1366] (by decide +kernel) (by decide +kernel) w h).1
set_option maxRecDepth 20000 in
theorem lwi_8 : ∀ w ∈ wsL_law0_r9, w ∈ lw_tbl := fun w h => (goodIn_r (big := lw_tbl) wsL_law0_r9 [1368, 34, 1369, 1355, 1356, 1357, 1358, 787, 788, 789, 790, 791, 792, 793, 747, 794, 795, 796, 797, 798, 799, 802, 358, 359] (by decide +kernel) (by decide +kernel) w h).1
set_option maxRecDepth 20000 in
theorem lwi_9 : ∀ w ∈ wsL_law0_r10, w ∈ lw_tbl := fun w h => (goodIn_r (big := lw_tbl) wsL_law0_r10 [360, 803, 804, 805, 806, 745, 808, 809, 810, 811, 750, 812, 470, 472, 8, 474, 1370, 1371, 1372, 1373, 1374, 1375, 1376, 1377] (by decide +kernel) (by decide +kernel) w h).1
set_option maxRecDepth 20000 in
theorem lwi_10 : ∀ w ∈ wsL_law0_r11, w ∈ lw_tbl := fun w h => (goodIn_r (big := lw_tbl) wsL_law0_r11 [1378, 1379, 813, 814, 815, 816, 817, 818, 819, 820, 821, 822, 823, 128, 824, 825, 309, 310, 311, 312, 313, 314, 315, 772] (by decide +kernel) (by decide +kernel) w h).1
set_option maxRecDepth 20000 in
theorem lwi_11 : ∀ w ∈ wsL_law0_r12, w ∈ lw_tbl := fun w h => (goodIn_r (big := lw_tbl) wsL_law0_r12 [316, 317, 318, 319, 1380, 1381, 1382, 1383, 1273, 826, 827, 828, 829, 830, 831, 832, 833, 834, 83, 774, 417, 1384, 1385, 1386] (by decide +kernel) (by decide +kernel) w h).1
set_option maxRecDepth 20000 in
theorem lwi_12 : ∀ w ∈ wsL_law0_r13, w ∈ lw_tbl := fun w h => (goodIn_r (big := lw_tbl) wsL_law0_r13 [1387, 1388, 1390, 35, 1391, 850, 851, 852, 853, 854, 855, 856, 858, 454, 455, 456, 859, 860, 861, 862, 1392, 1393, 1394, 1395] (by decide +kernel) (by decide +kernel) w h).1
set_option maxRecDepth 20000 in
theorem lwi_13 : ∀ w ∈ wsL_law0_r14, w ∈ lw_tbl := fun w h => (goodIn_r (big := lw_tbl) wsL_law0_r14 [863, 864, 865, 866, 867, 868, 869, 871, 458, 459, 460, 872, 873, 874, 875, 1396, 1397, 1398, 1399, 876, 877, 878, 879, 880] (by decide +kernel) (by decide +kernel) w h).1
set_option maxRecDepth 20000 in
theorem lwi_14 : ∀ w ∈ wsL_law0_r15, w ∈ lw_tbl := fun w h => (goodIn_r (big := lw_tbl) wsL_law0_r15 [881, 882, 884, 492, 493, 494, 885, 886, 887, 888, 1400, 1401, 1402, 1403, 296, 297, 298, 299, 1404, 1405, 1406, 1407, 1408, 1410] (by decide +kernel) (by decide +kernel) w h).1
set_option maxRecDepth 20000 in
theorem lwi_15 : ∀ w ∈ wsL_law0_r16, w ∈ lw_tbl := fun w h => (goodIn_r (big := lw_tbl) wsL_law0_r16 [36, 1411, 889, 890, 891, 892, 893, 894, 895, 418, 419, 420, 421, 773, 422, 350, 351, 352, 1412, 1413, 1414, 1415, 1416, 1418] (by decide +kernel) (by decide +kernel) w h).1
set_option maxRecDepth 20000 in
theorem lwi_16 : ∀ w ∈ wsL_law0_r17, w ∈ lw_tbl := fun w h => (goodIn_r (big := lw_tbl) wsL_law0_r17 [37, 1419, 896, 897, 898, 899, 900, 901, 902, 904, 520, 521, 522, 1420, 1421, 1422, 1423, 1424, 1426, 38, 1427, 1428, 1430, 39] (by decide +kernel) (by decide +kernel) w h).1
set_option maxRecDepth 20000 in
theorem lwi_17 : ∀ w ∈ wsL_law0_r18, w ∈ lw_tbl := fun w h => (goodIn_r (big := lw_tbl) wsL_law0_r18 [1431, 300, 301, 302, 303, 304, 305, 306, 307, 130, 308, 320, 322, 0, 323, 324, 326, 1, 327, 328, 329, 330, 331, 332] (by decide +kernel) (by decide +kernel) w h).1
set_option maxRecDepth 20000 in
theorem lwi_18 : ∀ w ∈ wsL_law0_r19, w ∈ lw_tbl := fun w h => (goodIn_r (big := lw_tbl) wsL_law0_r19 [333, 334, 335, 336, 338, 2, 339, 775, 340, 342, 3, 343, 344, 345, 346, 347, 112, 348, 349, 353, 354, 355, 356, 746] (by decide +kernel) (by decide +kernel) w h).1
set_option maxRecDepth 20000 in
theorem lwi_19 : ∀ w ∈ wsL_law0_r20, w ∈ lw_tbl := fun w h => (goodIn_r (big := lw_tbl) wsL_law0_r20 [357, 361, 362, 363, 751, 364, 365, 366, 367, 1432, 1433, 1434, 1435, 1289, 1277, 1436, 1438, 40, 1439, 368, 369, 370, 371, 372] (by decide +kernel) (by decide +kernel) w h).1
set_option maxRecDepth 20000 in
theorem lwi_20 : ∀ w ∈ wsL_law0_r21, w ∈ lw_tbl := fun w h => (goodIn_r (big := lw_tbl) wsL_law0_r21 [373, 374, 375, 376, 377, 84, 378, 1440, 1441, 1442, 1443, 1444, 379, 380, 381, 382, 131, 1445, 1446, 1447, 1448, 905, 906, 907] (by decide +kernel) (by decide +kernel) w h).1
set_option maxRecDepth 20000 in
theorem lwi_21 : ∀ w ∈ wsL_law0_r22, w ∈ lw_tbl := fun w h => (goodIn_r (big := lw_tbl) wsL_law0_r22 [908, 909, 910, 911, 912, 423, 1449, 1450, 1451, 1452, 914, 915, 916, 917, 918, 919, 920, 424, 1453, 1454, 1455, 1456, 1457, 1459] (by decide +kernel) (by decide +kernel) w h).1
set_option maxRecDepth 20000 in
theorem lwi_22 : ∀ w ∈ wsL_law0_r23, w ∈ lw_tbl := fun w h => (goodIn_r (big := lw_tbl) wsL_law0_r23 [41, 1460, 921, 922, 923, 924, 925, 926, 927, 929, 484, 485, 486, 1461, 1462, 1463, 1464, 1465, 1467, 42, 1468, 1469, 1471, 43] (by decide +kernel) (by decide +kernel) w h).1
set_option maxRecDepth 20000 in
theorem lwi_23 : ∀ w ∈ wsL_law0_r24, w ∈ lw_tbl := fun w h => (goodIn_r (big := lw_tbl) wsL_law0_r24 [1472, 1290, 930, 931, 932, 933, 934, 935, 936, 937, 488, 489, 490, 1473, 1474, 1475, 1476, 1477, 1479, 44, 1480, 1481, 1483, 45] (by decide +kernel) (by decide +kernel) w h).1
set_option maxRecDepth 20000 in
theorem lwi_24 : ∀ w ∈ wsL_law0_r25, w ∈ lw_tbl := fun w h => (goodIn_r (big := lw_tbl) wsL_law0_r25 [1484, 1485, 1486, 1487, 938, 939, 940, 941, 942, 943, 944, 954, 955, 85, 966, 968, 945, 946, 947, 949, 950, 951, 952, 178] (by decide +kernel) (by decide +kernel) w h).1
set_option maxRecDepth 20000 in
theorem lwi_25 : ∀ w ∈ wsL_law0_r26, w ∈ lw_tbl := fun w h => (goodIn_r (big := lw_tbl) wsL_law0_r26 [956, 957, 958, 959, 960, 1018, 1019, 1020, 1021, 1022, 1488, 1489, 1490, 1491, 1280, 1492, 1494, 46, 1495, 1023, 1024, 1025, 1026, 1027] (by decide +kernel) (by decide +kernel) w h).1
set_option maxRecDepth 20000 in
theorem lwi_26 : ∀ w ∈ wsL_law0_r27, w ∈ lw_tbl := fun w h => (goodIn_r (big := lw_tbl) wsL_law0_r27 [1028, 1029, 1030, 1032, 25, 1033, 971, 974, 1034, 1035, 1036, 1037, 556, 438, 439, 440, 1496, 1497, 1498, 1499, 1500, 1502, 47, 1503] (by decide +kernel) (by decide +kernel) w h).1
set_option maxRecDepth 20000 in
theorem lwi_27 : ∀ w ∈ wsL_law0_r28, w ∈ lw_tbl := fun w h => (goodIn_r (big := lw_tbl) wsL_law0_r28 [1504, 1506, 48, 1507, 1039, 1040, 1041, 1042, 1043, 1044, 1045, 1508, 1509, 1510, 1511, 1046, 1047, 1048, 1049, 1050, 1051, 1052, 1512, 1513] (by decide +kernel) (by decide +kernel) w h).1
set_option maxRecDepth 20000 in
theorem lwi_28 : ∀ w ∈ wsL_law0_r29, w ∈ lw_tbl := fun w h => (goodIn_r (big := lw_tbl) wsL_law0_r29 [1514, 1515, 1053, 1054, 1055, 1056, 1057, 1058, 1059, 963, 976, 978, 1060, 1516, 1517, 1518, 1519, 1062, 1063, 1064, 1065, 1066, 1067, 1068] (by decide +kernel) (by decide +kernel) w h).1
set_option maxRecDepth 20000 in
theorem lwi_29 : ∀ w ∈ wsL_law0_r30, w ∈ lw_tbl := fun w h => (goodIn_r (big := lw_tbl) wsL_law0_r30 [980, 982, 1520, 1521, 1522, 1523, 1070, 1071, 1072, 1073, 1074, 1075, 1076, 984, 1524, 1525, 1526, 1527, 1078, 1079, 1080, 1081, 1082, 1083] (by decide +kernel) (by decide +kernel) w h).1
set_option maxRecDepth 20000 in
theorem lwi_30 : ∀ w ∈ wsL_law0_r31, w ∈ lw_tbl := fun w h => (goodIn_r (big := lw_tbl) wsL_law0_r31 [1084, 986, 1528, 1529, 1530, 1531, 1086, 1087, 1088, 1089, 1090, 1091, 1092, 179, 988, 990, 1532, 1533, 1534, 1535, 383, 384, 385, 386] (by decide +kernel) (by decide +kernel) w h).1
set_option maxRecDepth 20000 in
theorem lwi_31 : ∀ w ∈ wsL_law0_r32, w ∈ lw_tbl := fun w h => (goodIn_r (big := lw_tbl) wsL_law0_r32 [387, 388, 389, 390, 1536, 1537, 1538, 1539, 391, 392, 393, 394, 1540, 1541, 1542, 1543, 1094, 1095, 1096, 1097, 1098, 1099, 1100, 429] (by decide +kernel) (by decide +kernel) w h).1
set_option maxRecDepth 20000 in
theorem lwi_32 : ∀ w ∈ wsL_law0_r33, w ∈ lw_tbl := fun w h => (goodIn_r (big := lw_tbl) wsL_law0_r33 [430, 431, 432, 433, 434, 435, 436, 534, 535, 536, 537, 437, 441, 443, 6, 444, 961, 989, 973, 970, 766, 979, 981, 983] (by decide +kernel) (by decide +kernel) w h).1
set_option maxRecDepth 20000 in
theorem lwi_33 : ∀ w ∈ wsL_law0_r34, w ∈ lw_tbl := fun w h => (goodIn_r (big := lw_tbl) wsL_law0_r34 [768, 985, 445, 447, 7, 448, 964, 748, 449, 450, 451, 452, 453, 457, 461, 462, 463, 464, 465, 967, 466, 467, 468, 469] (by decide +kernel) (by decide +kernel) w h).1
set_option maxRecDepth 20000 in
theorem lwi_34 : ∀ w ∈ wsL_law0_r35, w ∈ lw_tbl := fun w h => (goodIn_r (big := lw_tbl) wsL_law0_r35 [475, 477, 9, 478, 113, 479, 480, 481, 482, 483, 487, 491, 495, 497, 10, 498, 499, 500, 501, 502, 987, 503, 504, 505] (by decide +kernel) (by decide +kernel) w h).1
set_option maxRecDepth 20000 in
theorem lwi_35 : ∀ w ∈ wsL_law0_r36, w ∈ lw_tbl := fun w h => (goodIn_r (big := lw_tbl) wsL_law0_r36 [506, 969, 972, 507, 508, 509, 510, 511, 513, 11, 514, 515, 517, 12, 518, 519, 523, 524, 525, 526, 527, 528, 529, 530] (by decide +kernel) (by decide +kernel) w h).1
set_option maxRecDepth 20000 in
theorem lwi_36 : ∀ w ∈ wsL_law0_r37, w ∈ lw_tbl := fun w h => (goodIn_r (big := lw_tbl) wsL_law0_r37 [975, 977, 531, 532, 533, 1544, 1545, 1546, 1547, 1548, 1550, 49, 1551, 1552, 1554, 50, 1555, 1556, 1558, 51, 1559, 1560, 1562, 52] (by decide +kernel) (by decide +kernel) w h).1
set_option maxRecDepth 20000 in
theorem lwi_37 : ∀ w ∈ wsL_law0_r38, w ∈ lw_tbl := fun w h => (goodIn_r (big := lw_tbl) wsL_law0_r38 [1563, 1564, 1566, 53, 1567, 1568, 1570, 54, 1571, 1572, 1573, 1574, 1575, 1576, 1577, 1579, 55, 1580, 1581, 1582, 1583, 1584, 1586, 56] (by decide +kernel) (by decide +kernel) w h).1
set_option maxRecDepth 20000 in
theorem lwi_38 : ∀ w ∈ wsL_law0_r39, w ∈ lw_tbl := fun w h => (goodIn_r (big := lw_tbl) wsL_law0_r39 [1587, 1102, 1103, 1104, 1105, 1106, 1107, 1108, 1109, 1111, 26, 1112, 1588, 1589, 1590, 1591, 1592, 1594, 57, 1595, 1113, 1114, 1115, 1116] (by decide +kernel) (by decide +kernel) w h).1
set_option maxRecDepth 20000 in
theorem lwi_39 : ∀ w ∈ wsL_law0_r40, w ∈ lw_tbl := fun w h => (goodIn_r (big := lw_tbl) wsL_law0_r40 [1117, 1118, 1119, 204, 1120, 1121, 1122, 1123, 203, 1124, 1125, 1126, 1127, 1128, 1130, 27, 1131, 765, 595, 597, 19, 598, 583, 584] (by decide +kernel) (by decide +kernel) w h).1
set_option maxRecDepth 20000 in
theorem lwi_40 : ∀ w ∈ wsL_law0_r41, w ∈ lw_tbl := fun w h => (goodIn_r (big := lw_tbl) wsL_law0_r41 [585, 586, 1132, 588, 589, 590, 1596, 1597, 1598, 1599, 1286, 395, 396, 397, 398, 1600, 1601, 1602, 1603, 1133, 1134, 1135, 1136, 1137] (by decide +kernel) (by decide +kernel) w h).1
set_option maxRecDepth 20000 in
theorem lwi_41 : ∀ w ∈ wsL_law0_r42, w ∈ lw_tbl := fun w h => (goodIn_r (big := lw_tbl) wsL_law0_r42 [1138, 1139, 1140, 579, 580, 581, 582, 1604, 1605, 1606, 1607, 1142, 1143, 1144, 1145, 1146, 1147, 1148, 587, 1608, 1609, 1610, 1611, 1149] (by decide +kernel) (by decide +kernel) w h).1
set_option maxRecDepth 20000 in
theorem lwi_42 : ∀ w ∈ wsL_law0_r43, w ∈ lw_tbl := fun w h => (goodIn_r (big := lw_tbl) wsL_law0_r43 [1150, 1151, 1152, 1153, 1154, 1155, 591, 592, 593, 594, 769, 1612, 1613, 1614, 1615, 1616, 1618, 58, 1619, 1157, 1158, 1159, 1160, 1161] (by decide +kernel) (by decide +kernel) w h).1
set_option maxRecDepth 20000 in
theorem lwi_43 : ∀ w ∈ wsL_law0_r44, w ∈ lw_tbl := fun w h => (goodIn_r (big := lw_tbl) wsL_law0_r44 [1162, 1163, 1165, 1166, 1167, 1168, 1620, 1621, 1622, 1623, 1169, 1170, 1171, 1172, 1173, 1174, 1175, 1178, 1179, 1180, 1181, 749, 555, 551] (by decide +kernel) (by decide +kernel) w h).1
set_option maxRecDepth 20000 in
theorem lwi_44 : ∀ w ∈ wsL_law0_r45, w ∈ lw_tbl := fun w h => (goodIn_r (big := lw_tbl) wsL_law0_r45 [553, 14, 554, 557, 559, 15, 560, 962, 561, 562, 1182, 1183, 1185, 28, 1186, 965, 563, 565, 16, 566, 573, 1187, 1188, 1190] (by decide +kernel) (by decide +kernel) w h).1
set_option maxRecDepth 20000 in
theorem lwi_45 : ∀ w ∈ wsL_law0_r46, w ∈ lw_tbl := fun w h => (goodIn_r (big := lw_tbl) wsL_law0_r46 [29, 1191, 1192, 1194, 30, 1195, 1624, 1625, 1626, 1627, 1628, 1630, 59, 1631, 1196, 1197, 1198, 1199, 1200, 1201, 1202, 599, 600, 601] (by decide +kernel) (by decide +kernel) w h).1
set_option maxRecDepth 20000 in
theorem lwi_46 : ∀ w ∈ wsL_law0_r47, w ∈ lw_tbl := fun w h => (goodIn_r (big := lw_tbl) wsL_law0_r47 [602, 125, 603, 604, 606, 20, 607, 608, 609, 610, 612, 21, 613, 752, 134, 614, 615, 616, 617, 618, 619, 621, 22, 622] (by decide +kernel) (by decide +kernel) w h).1
set_option maxRecDepth 20000 in
theorem lwi_47 : ∀ w ∈ wsL_law0_r48, w ∈ lw_tbl := fun w h => (goodIn_r (big := lw_tbl) wsL_law0_r48 [623, 625, 23, 626, 1632, 1633, 1634, 1635, 1636, 1638, 60, 1639, 1640, 1642, 61, 1643, 1203, 1204, 1205, 1206, 1207, 1208, 1209, 1211] (by decide +kernel) (by decide +kernel) w h).1
set_option maxRecDepth 20000 in
theorem lwi_48 : ∀ w ∈ wsL_law0_r49, w ∈ lw_tbl := fun w h => (goodIn_r (big := lw_tbl) wsL_law0_r49 [1212, 1213, 1214, 1215, 1216, 1217, 1218, 1219, 1220, 1222, 31, 1223, 1224, 1226, 32, 1227, 1229, 1231, 33, 1232, 1644, 1645, 1646, 1647] (by decide +kernel) (by decide +kernel) w h).1
set_option maxRecDepth 20000 in
theorem lwi_49 : ∀ w ∈ wsL_law0_r50, w ∈ lw_tbl := fun w h => (goodIn_r (big := lw_tbl) wsL_law0_r50 [1648, 1650, 62, 1651, 1233, 1234, 1235, 1236, 1237, 1238, 1239, 547, 548, 549, 550, 567, 569, 17, 570, 571, 572, 574, 1652, 1653] (by decide +kernel) (by decide +kernel) w h).1
set_option maxRecDepth 20000 in
theorem lwi_50 : ∀ w ∈ wsL_law0_r51, w ∈ lw_tbl := fun w h => (goodIn_r (big := lw_tbl) wsL_law0_r51 [1654, 1655, 1656, 1658, 63, 1659, 1660, 1662, 64, 1663, 1240, 1241, 1242, 1243, 1244, 1245, 1246, 1664, 1665, 1666, 1667, 1247, 1248, 1249] (by decide +kernel) (by decide +kernel) w h).1
set_option maxRecDepth 20000 in
theorem lwi_51 : ∀ w ∈ wsL_law0_r52, w ∈ lw_tbl := fun w h => (goodIn_r (big := lw_tbl) wsL_law0_r52 [1250, 1251, 1252, 1253, 1254, 1255, 1256, 1257, 1668, 1669, 1670, 1671, 399, 400, 401, 402, 114, 403, 404, 405, 406, 1672, 1673, 1674] (by decide +kernel) (by decide +kernel) w h).1
set_option maxRecDepth 20000 in
theorem lwi_52 : ∀ w ∈ wsL_law0_r53, w ∈ lw_tbl := fun w h => (goodIn_r (big := lw_tbl) wsL_law0_r53 [1675, 407, 408, 409, 410, 411, 416, 412, 414, 4, 415, 425, 427, 5, 428, 538, 539, 541, 13, 542, 543, 544, 545, 546] (by decide +kernel) (by decide +kernel) w h).1
set_option maxRecDepth 20000 in
theorem lwi_53 : ∀ w ∈ wsL_law0_r54, w ∈ lw_tbl := fun w h => (goodIn_r (big := lw_tbl) wsL_law0_r54 [575, 577, 18, 578, 1676, 1677, 1678, 1679, 1680, 1681, 1682] (by decide +kernel) (by decide +kernel) w h).1
set_option maxRecDepth 20000 in
theorem lwi_54 : ∀ w ∈ wsX100, w ∈ lw_tbl := fun w h => (goodIn_r (big := lw_tbl) wsX100 [275, 277, 279, 281, 283, 285, 287, 289, 291, 293] (by decide +kernel) (by decide +kernel) w h).1
set_option maxRecDepth 20000 in
theorem lwi_55 : ∀ w ∈ wsX110, w ∈ lw_tbl := fun w h => (goodIn_r (big := lw_tbl) wsX110 [1294, 1296, 1298, 1300, 1302, 1304, 1306, 1308, 1310, 1312, 1314, 1316, 1318, 1320, 1322, 1324, 1326, 1328, 1330, 1332, 1334, 1336, 1338, 1340, 1342, 1344, 1346, 1348, 1350, 1352] (by decide +kernel) (by decide +kernel) w h).1
set_option maxRecDepth 20000 in
theorem lwi_56 : ∀ w ∈ wsX00, w ∈ lw_tbl := fun w h => (goodIn_r (big := lw_tbl) wsX00 [135, 137, 139, 141, 143, 145] (by decide +kernel) (by decide +kernel) w h).1
set_option maxRecDepth 20000 in
theorem lwi_57 : ∀ w ∈ wsX40, w ∈ lw_tbl := fun w h => (goodIn_r (big := lw_tbl) wsX40 [160, 162, 164] (by decide +kernel) (by decide +kernel) w h).1
set_option maxRecDepth 20000 in
theorem lwi_58 : ∀ w ∈ wsX60, w ∈ lw_tbl := fun w h => (goodIn_r (big := lw_tbl) wsX60 [182, 184, 186, 188, 190] (by decide +kernel) (by decide +kernel) w h).1
set_option maxRecDepth 20000 in
theorem lwi_59 : ∀ w ∈ wsX70, w ∈ lw_tbl := fun w h => (goodIn_r (big := lw_tbl) wsX70 [205, 207, 209, 211] (by decide +kernel) (by decide +kernel) w h).1
set_option maxRecDepth 20000 in
theorem lwi_60 : ∀ w ∈ wsX30, w ∈ lw_tbl := fun w h => (goodIn_r (big := lw_tbl) wsX30 [227, 229, 231, 233, 235, 237] (by decide +kernel) (by decide +kernel) w h).1
set_option maxRecDepth 20000 in
theorem lwi_61 : ∀ w ∈ wsX10, w ∈ lw_tbl := fun w h => (goodIn_r (big := lw_tbl) wsX10 [115, 117, 119] (by decide +kernel) (by decide +kernel) w h).1
set_option maxRecDepth 20000 in
theorem lwi_62 : ∀ w ∈ wsX80, w ∈ lw_tbl := fun w h => (goodIn_r (big := lw_tbl) wsX80 [253, 255, 257, 259, 261] (by decide +kernel) (by decide +kernel) w h).1
set_option maxRecDepth 20000 in
theorem lwi_63 : ∀ w ∈ wsX20, w ∈ lw_tbl := fun w h => (goodIn_r (big := lw_tbl) wsX20 [776, 778, 780, 782, 784] (by decide +kernel) (by decide +kernel) w h).1
set_option maxRecDepth 20000 in
theorem lwi_64 : ∀ w ∈ wsX90, w ∈ lw_tbl := fun w h => (goodIn_r (big := lw_tbl) wsX90 [753, 755, 757, 759, 761] (by decide +kernel) (by decide +kernel) w h).1
set_option maxRecDepth 20000 in
theorem lwi_65 : ∀ w ∈ wsX50, w ∈ lw_tbl := fun w h => (goodIn_r (big := lw_tbl) wsX50 [991, 993, 995, 997, 999, 1001, 1003, 1005, 1007, 1009, 1011, 1013, 1015] (by decide +kernel) (by decide +kernel) w h).1
theorem lwi_66 : ∀ w ∈ ([] : List Cond), w ∈ lw_tbl := fun _ h => absurd h List.not_mem_nil
set_option maxRecDepth 20000 in
theorem wsL_law_in0 : ∀ w ∈ wsL_law0, w ∈ lw_tbl := (fun w h => (List.mem_append.mp h).elim ((fun w h => (List.mem_append.mp h).elim ((fun w h => (List.mem_append.mp h).elim ((fun w h => (List.mem_append.mp h).elim ((fun w h => (List.mem_append.mp h).elim ((fun w h => (List.mem_append.mp h).elim ((fun w h => (List.mem_append.mp h).elim ((fun w h => (List.mem_append.mp h).elim ((fun w h => (List.mem_append.mp h).elim ((fun w h => (List.mem_append.mp h).elim ((fun w h => (List.mem_append.mp h).elim ((fun w h => (List.mem_append.mp h).elim ((fun w h => (List.mem_append.mp h).elim ((fun w h => (List.mem_append.mp h).elim (lwi_0 w) ((fun w h => (List.mem_append.mp h).elim (lwi_1 w) ((fun w h => (List.mem_append.mp h).elim (lwi_2 w) ((fun w h => (List.mem_append.mp h).elim (lwi_3 w) ((fun w h => (List.mem_append.mp h).elim (lwi_4 w) ((fun w h => (List.mem_append.mp h).elim (lwi_5 w) ((fun w h => (List.mem_append.mp h).elim (lwi_6 w) ((fun w h => (List.mem_append.mp h).elim (lwi_7 w) ((fun w h => (List.mem_append.mp h).elim (lwi_8 w) ((fun w h => (List.mem_append.mp h).elim (lwi_9 w) ((fun w h => (List.mem_append.mp h).elim (lwi_10 w) ((fun w h => (List.mem_append.mp h).elim (lwi_11 w) ((fun w h => (List.mem_append.mp h).elim (lwi_12 w) ((fun w h => (List.mem_append.mp h).elim (lwi_13 w) ((fun w h => (List.mem_append.mp h).elim (lwi_14 w) ((fun w h => (List.mem_append.mp h).elim (lwi_15 w) ((fun w h => (List.mem_append.mp h).elim (lwi_16 w) ((fun w h => (List.mem_append.mp h).elim (lwi_17 w) ((fun w h => (List.mem_append.mp h).elim (lwi_18 w) ((fun w h => (List.mem_append.mp h).elim (lwi_19 w) ((fun w h => (List.mem_append.mp h).elim (lwi_20 w) ((fun w h => (List.mem_append.mp h).elim (lwi_21 w) ((fun w h => (List.mem_append.mp h).elim (lwi_22 w) ((fun w h => (List.mem_append.mp h).elim (lwi_23 w) ((fun w h => (List.mem_append.mp h).elim (lwi_24 w) ((fun w h => (List.mem_append.mp h).elim (lwi_25 w) ((fun w h => (List.mem_append.mp h).elim (lwi_26 w) ((fun w h => (List.mem_append.mp h).elim (lwi_27 w) ((fun w h => (List.mem_append.mp h).elim (lwi_28 w) ((fun w h => (List.mem_append.mp h).elim (lwi_29 w) ((fun w h => (List.mem_append.mp h).elim (lwi_30 w) ((fun w h => (List.mem_append.mp h).elim (lwi_31 w) ((fun w h => (List.mem_append.mp h).elim (lwi_32 w) ((fun w h => (List.mem_append.mp h).elim (lwi_33 w) ((fun w h => (List.mem_append.mp h).elim (lwi_34 w) ((fun w h => (List.mem_append.mp h).elim (lwi_35 w) ((fun w h => (List.mem_append.mp h).elim (lwi_36 w) ((fun w h => (List.mem_append.mp h).elim (lwi_37 w) ((fun w h => (List.mem_append.mp h).elim (lwi_38 w) ((fun w h => (List.mem_append.mp h).elim (lwi_39 w) ((fun w h => (List.mem_append.mp h).elim (lwi_40 w) ((fun w h => (List.mem_append.mp h).elim (lwi_41 w) ((fun w h => (List.mem_append.mp h).elim (lwi_42 w) ((fun w h => (List.mem_append.mp h).elim (lwi_43 w) ((fun w h => (List.mem_append.mp h).elim (lwi_44 w) ((fun w h => (List.mem_append.mp h).elim (lwi_45 w) ((fun w h => (List.mem_append.mp h).elim (lwi_46 w) ((fun w h => (List.mem_append.mp h).elim (lwi_47 w) ((fun w h => (List.mem_append.mp h).elim (lwi_48 w) ((fun w h => (List.mem_append.mp h).elim (lwi_49 w) ((fun w h => (List.mem_append.mp h).elim (lwi_50 w) ((fun w h => (List.mem_append.mp h).elim (lwi_51 w) ((fun w h => (List.mem_append.mp h).elim (lwi_52 w) (lwi_53 w)) w)) w)) w)) w)) w)) w)) w)) w)) w)) w)) w)) w)) w)) w)) w)) w)) w)) w)) w)) w)) w)) w)) w)) w)) w)) w)) w)) w)) w)) w)) w)) w)) w)) w)) w)) w)) w)) w)) w)) w)) w)) w)) w)) w)) w)) w)) w)) w)) w)) w)) w)) w)) w) (lwi_54 w)) w) (lwi_55 w)) w) (lwi_56 w)) w) (lwi_57 w)) w) (lwi_58 w)) w) (lwi_59 w)) w) (lwi_60 w)) w) (lwi_61 w)) w) (lwi_62 w)) w) (lwi_63 w)) w) (lwi_64 w)) w) (lwi_65 w)) w) (lwi_66 w))
theorem wsL_law_x0 : ∀ w ∈ (vx_atS RX10 89 "java/lang/IllegalArgumentException" ["java/lang/RuntimeException", "java/lang/Exception"]).filter goodWord, w ∈ lw_tbl := by decide +kernel
theorem wsL_law_x1 : ∀ w ∈ (vx_atS RX10 104 "java/lang/IllegalStateException" ["java/lang/RuntimeException", "java/lang/Exception"]).filter goodWord, w ∈ lw_tbl := by decide +kernel
theorem wsL_law_x2 : ∀ w ∈ (vx_atS RX10 155 "java/lang/IndexOutOfBoundsException" ["java/lang/RuntimeException", "java/lang/Exception"]).filter goodWord, w ∈ lw_tbl := by decide +kernel
theorem wsL_law_in : ∀ w ∈ wsL_law, w ∈ lw_tbl := fun w h => (List.mem_append.mp h).elim (fun h => (List.mem_append.mp h).elim (fun h => (List.mem_append.mp h).elim (fun h => wsL_law_in0 w h) (fun h => wsL_law_x0 w h)) (fun h => wsL_law_x1 w h)) (fun h => wsL_law_x2 w h)
theorem inlX0 : ∀ w ∈ wsX00, w ∈ wsL_law := fun _ h => List.mem_append_left _ (List.mem_append_left _ (List.mem_append_left _ (List.mem_append_left _ (List.mem_append_left _ (List.mem_append_left _ (List.mem_append_left _ (List.mem_append_left _ (List.mem_append_left _ (List.mem_append_left _ (List.mem_append_left _ (List.mem_append_left _ (List.mem_append_left _ (List.mem_append_right _ h)))))))))))))

theorem inX0 : ∀ w ∈ wsX00, w ∈ lw_tbl := fun w h => wsL_law_in w (inlX0 w h)
theorem inlX1 : ∀ w ∈ wsX10, w ∈ wsL_law := fun _ h => List.mem_append_left _ (List.mem_append_left _ (List.mem_append_left _ (List.mem_append_left _ (List.mem_append_left _ (List.mem_append_left _ (List.mem_append_left _ (List.mem_append_left _ (List.mem_append_right _ h))))))))
theorem inX1 : ∀ w ∈ wsX10, w ∈ lw_tbl := fun w h => wsL_law_in w (inlX1 w h)
theorem inlX2 : ∀ w ∈ wsX20, w ∈ wsL_law := fun _ h => List.mem_append_left _ (List.mem_append_left _ (List.mem_append_left _ (List.mem_append_left _ (List.mem_append_left _ (List.mem_append_left _ (List.mem_append_right _ h))))))
theorem inX2 : ∀ w ∈ wsX20, w ∈ lw_tbl := fun w h => wsL_law_in w (inlX2 w h)
theorem inlX3 : ∀ w ∈ wsX30, w ∈ wsL_law := fun _ h => List.mem_append_left _ (List.mem_append_left _ (List.mem_append_left _ (List.mem_append_left _ (List.mem_append_left _ (List.mem_append_left _ (List.mem_append_left _ (List.mem_append_left _ (List.mem_append_left _ (List.mem_append_right _ h)))))))))
theorem inX3 : ∀ w ∈ wsX30, w ∈ lw_tbl := fun w h => wsL_law_in w (inlX3 w h)
theorem inlX4 : ∀ w ∈ wsX40, w ∈ wsL_law := fun _ h => List.mem_append_left _ (List.mem_append_left _ (List.mem_append_left _ (List.mem_append_left _ (List.mem_append_left _ (List.mem_append_left _ (List.mem_append_left _ (List.mem_append_left _ (List.mem_append_left _ (List.mem_append_left _ (List.mem_append_left _ (List.mem_append_left _ (List.mem_append_right _ h))))))))))))
theorem inX4 : ∀ w ∈ wsX40, w ∈ lw_tbl := fun w h => wsL_law_in w (inlX4 w h)
theorem inlX5 : ∀ w ∈ wsX50, w ∈ wsL_law := fun _ h => List.mem_append_left _ (List.mem_append_left _ (List.mem_append_left _ (List.mem_append_left _ (List.mem_append_right _ h))))
theorem inX5 : ∀ w ∈ wsX50, w ∈ lw_tbl := fun w h => wsL_law_in w (inlX5 w h)
theorem inlX6 : ∀ w ∈ wsX60, w ∈ wsL_law := fun _ h => List.mem_append_left _ (List.mem_append_left _ (List.mem_append_left _ (List.mem_append_left _ (List.mem_append_left _ (List.mem_append_left _ (List.mem_append_left _ (List.mem_append_left _ (List.mem_append_left _ (List.mem_append_left _ (List.mem_append_left _ (List.mem_append_right _ h)))))))))))
theorem inX6 : ∀ w ∈ wsX60, w ∈ lw_tbl := fun w h => wsL_law_in w (inlX6 w h)
theorem inlX7 : ∀ w ∈ wsX70, w ∈ wsL_law := fun _ h => List.mem_append_left _ (List.mem_append_left _ (List.mem_append_left _ (List.mem_append_left _ (List.mem_append_left _ (List.mem_append_left _ (List.mem_append_left _ (List.mem_append_left _ (List.mem_append_left _ (List.mem_append_left _ (List.mem_append_right _ h))))))))))
theorem inX7 : ∀ w ∈ wsX70, w ∈ lw_tbl := fun w h => wsL_law_in w (inlX7 w h)
theorem inlX8 : ∀ w ∈ wsX80, w ∈ wsL_law := fun _ h => List.mem_append_left _ (List.mem_append_left _ (List.mem_append_left _ (List.mem_append_left _ (List.mem_append_left _ (List.mem_append_left _ (List.mem_append_left _ (List.mem_append_right _ h)))))))
theorem inX8 : ∀ w ∈ wsX80, w ∈ lw_tbl := fun w h => wsL_law_in w (inlX8 w h)
theorem inlX9 : ∀ w ∈ wsX90, w ∈ wsL_law := fun _ h => List.mem_append_left _ (List.mem_append_left _ (List.mem_append_left _ (List.mem_append_left _ (List.mem_append_left _ (List.mem_append_right _ h)))))
theorem inX9 : ∀ w ∈ wsX90, w ∈ lw_tbl := fun w h => wsL_law_in w (inlX9 w h)
theorem inlX10 : ∀ w ∈ wsX100, w ∈ wsL_law := fun _ h => List.mem_append_left _ (List.mem_append_left _ (List.mem_append_left _ (List.mem_append_left _ (List.mem_append_left _ (List.mem_append_left _ (List.mem_append_left _ (List.mem_append_left _ (List.mem_append_left _ (List.mem_append_left _ (List.mem_append_left _ (List.mem_append_left _ (List.mem_append_left _ (List.mem_append_left _ (List.mem_append_left _ (List.mem_append_right _ h)))))))))))))))
theorem inX10 : ∀ w ∈ wsX100, w ∈ lw_tbl := fun w h => wsL_law_in w (inlX10 w h)
theorem inlX11 : ∀ w ∈ wsX110, w ∈ wsL_law := fun _ h => List.mem_append_left _ (List.mem_append_left _ (List.mem_append_left _ (List.mem_append_left _ (List.mem_append_left _ (List.mem_append_left _ (List.mem_append_left _ (List.mem_append_left _ (List.mem_append_left _ (List.mem_append_left _ (List.mem_append_left _ (List.mem_append_left _ (List.mem_append_left _ (List.mem_append_left _ (List.mem_append_right _ h))))))))))))))
theorem inX11 : ∀ w ∈ wsX110, w ∈ lw_tbl := fun w h => wsL_law_in w (inlX11 w h)
theorem inJx145de : ∀ w ∈ wsJx145de0, w ∈ lw_tbl := by decide +kernel
theorem inJ9 : ∀ w ∈ wsJ90, w ∈ lw_tbl := by decide +kernel
theorem inJ0 : ∀ w ∈ wsJ00, w ∈ lw_tbl := by decide +kernel
theorem inJ7 : ∀ w ∈ wsJ70, w ∈ lw_tbl := by decide +kernel
