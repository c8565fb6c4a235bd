theorem dL_law_2510 : decode cL_law 2510 = .ok (.aload_n 1, 1) := by decide +kernel
theorem dL_law_2511 : decode cL_law 2511 = .ok (.aload_n 0, 1) := by decide +kernel
theorem dL_law_2512 : decode cL_law 2512 = .ok (.iload 5, 2) := by decide +kernel
theorem dL_law_2514 : decode cL_law 2514 = .ok (.iconst 1, 1) := by decide +kernel
theorem dL_law_2515 : decode cL_law 2515 = .ok (.iadd, 1) := by decide +kernel
theorem dL_law_2516 : decode cL_law 2516 = .ok (.iaload, 1) := by decide +kernel
theorem dL_law_2517 : decode cL_law 2517 = .ok (.aload_n 3, 1) := by decide +kernel
set_option maxRecDepth 200000 in
theorem ggL_law_L_example_h : GoodIn wsL_law [.codeWith yL_example cL_example 4 (some .int) [(0, 9, 12, 15)]] := goodIn_r _ [1222] rfl (by decide +kernel)
set_option maxRecDepth 200000 in
theorem ggL_law_L_example_0 : GoodIn wsL_law wsL_example_r1 := goodIn_r _ [448, 1223, 1224, 1225, 2, 1226, 49, 202, 203, 204, 205, 206, 207, 1227, 1228, 1229, 138, 1230, 1231, 1205, 1206, 1207, 157, 1232] rfl (by decide +kernel)
set_option maxRecDepth 200000 in
theorem ggL_law_L_example_1 : GoodIn wsL_law wsL_example_r2 := goodIn_r _ [1233, 1234, 1235, 1236, 1237, 1238, 1239, 1240, 1241, 1242, 1243, 1244, 1245, 1246, 1247, 1248, 1249, 1250, 1251, 1252, 1253, 1254, 1255, 1256] rfl (by decide +kernel)
set_option maxRecDepth 200000 in
theorem ggL_law_L_example_2 : GoodIn wsL_law wsL_example_r3 := goodIn_r _ [1257, 1258, 1259, 1260, 658, 659, 660, 1261, 1262, 1263, 1264, 1265, 1266, 1267, 1268, 1269, 1270, 1271, 1272, 1273, 1274, 1275, 1276, 1277] rfl (by decide +kernel)
set_option maxRecDepth 200000 in
theorem ggL_law_L_example_3 : GoodIn wsL_law wsL_example_r4 := goodIn_r _ [1278, 1191, 1192, 1193, 156] rfl (by decide +kernel)
set_option maxRecDepth 200000 in
theorem ggL_law_L_example_4 : GoodIn wsL_law wsX110 := goodIn_r _ [1538, 1539, 1540, 1541, 1542, 1543, 1544, 1545, 1546, 1547, 1548, 1549, 1550] rfl (by decide +kernel)
set_option maxRecDepth 200000 in
theorem ggL_law_L_example_5 : GoodIn wsL_law wsX50 := goodIn_r _ [1606, 1607, 1608, 1609, 1610, 1611, 1612, 1613, 1614, 1615, 1616, 1617, 1618] rfl (by decide +kernel)
set_option maxRecDepth 200000 in
theorem ggL_law_L_example_6 : GoodIn wsL_law wsX100 := goodIn_r _ [1633, 1634] rfl (by decide +kernel)
set_option maxRecDepth 20000 in
theorem ggL_law_L_example : GoodIn wsL_law wsL_example := goodIn_ca (fun w h => (List.mem_cons.mp h).elim (fun e => ggL_law_L_example_h w (List.mem_singleton.mpr e)) (fun h => (goodIn_app (goodIn_app (goodIn_app (goodIn_app ggL_law_L_example_0 (goodIn_app ggL_law_L_example_1 (goodIn_app ggL_law_L_example_2 ggL_law_L_example_3))) ggL_law_L_example_4) ggL_law_L_example_5) ggL_law_L_example_6) w h)) (goodIn_sub (fun _ h => List.mem_append_left _ (List.mem_append_left _ (List.mem_append_right _ h))) (by decide +kernel))
set_option maxRecDepth 20000 in
theorem gL_law_L_example : GoodIn wsL_law (va_wsS RL 266 yL_example wsL_example) := goodIn_app (goodIn_of _ (by decide +kernel)) ggL_law_L_example
theorem dL_law_2518 : decode cL_law 2518 = .ok (.invokestatic 266, 3) := by decide +kernel
theorem dL_law_2521 : decode cL_law 2521 = .ok (.istore 6, 2) := by decide +kernel
theorem dL_law_2523 : decode cL_law 2523 = .ok (.aload_n 2, 1) := by decide +kernel
theorem dL_law_2524 : decode cL_law 2524 = .ok (.aload_n 0, 1) := by decide +kernel
theorem dL_law_2525 : decode cL_law 2525 = .ok (.iload 5, 2) := by decide +kernel
theorem dL_law_2527 : decode cL_law 2527 = .ok (.iconst 1, 1) := by decide +kernel
theorem dL_law_2528 : decode cL_law 2528 = .ok (.iadd, 1) := by decide +kernel
theorem dL_law_2529 : decode cL_law 2529 = .ok (.iaload, 1) := by decide +kernel
set_option maxRecDepth 200000 in
theorem ggL_law_X13_example_h : GoodIn wsL_law [.code yX13_example cX13_example 4 (some .int)] := goodIn_r _ [1282] rfl (by decide +kernel)
set_option maxRecDepth 200000 in
theorem ggL_law_X13_example_0 : GoodIn wsL_law wsX13_example_r1 := goodIn_r _ [185, 1199, 229, 230, 5, 231, 239, 240, 241, 242, 243, 1283, 1233, 1234, 1235, 1236, 1237, 1238, 1239, 1240, 1241, 1242, 1243, 1284] rfl (by decide +kernel)
set_option maxRecDepth 200000 in
theorem ggL_law_X13_example_1 : GoodIn wsL_law wsX13_example_r2 := goodIn_r _ [1245, 1246, 1247, 1248, 1249, 1250, 1251, 1252, 1253, 1254, 1255, 1256, 1257, 1258, 1259, 1260, 658, 659, 660, 1261, 1262, 1263, 1264, 1265] rfl (by decide +kernel)
set_option maxRecDepth 200000 in
theorem ggL_law_X13_example_2 : GoodIn wsL_law wsX13_example_r3 := goodIn_r _ [1266, 1267, 1268, 1269, 1270, 1271, 1272, 1273, 1274, 1275, 1276, 1277] rfl (by decide +kernel)
set_option maxRecDepth 200000 in
theorem ggL_law_X13_example_3 : GoodIn wsL_law wsX130 := goodIn_r _ [1551, 1552, 1553, 1554, 1555, 1556, 1557, 1558, 1559, 1560, 1561, 1562, 1563, 1564] rfl (by decide +kernel)
set_option maxRecDepth 20000 in
theorem ggL_law_X13_example : GoodIn wsL_law wsX13_example := (fun w h => (List.mem_cons.mp h).elim (fun e => ggL_law_X13_example_h w (List.mem_singleton.mpr e)) (fun h => (goodIn_app (goodIn_app ggL_law_X13_example_0 (goodIn_app ggL_law_X13_example_1 ggL_law_X13_example_2)) ggL_law_X13_example_3) w h))
set_option maxRecDepth 20000 in
theorem gL_law_X13_example : GoodIn wsL_law (wsV RL 268 RX13 yX13_example wsX13_example) := goodIn_app (goodIn_of _ (by decide +kernel)) ggL_law_X13_example
theorem dL_law_2530 : decode cL_law 2530 = .ok (.invokevirtual 268, 3) := by decide +kernel
theorem dL_law_2533 : decode cL_law 2533 = .ok (.istore 7, 2) := by decide +kernel
theorem dL_law_2535 : decode cL_law 2535 = .ok (.aload_n 2, 1) := by decide +kernel
theorem dL_law_2536 : decode cL_law 2536 = .ok (.invokevirtual 147, 3) := by decide +kernel
theorem dL_law_2539 : decode cL_law 2539 = .ok (.iload 6, 2) := by decide +kernel
theorem dL_law_2541 : decode cL_law 2541 = .ok (.if_icmp .eq 5, 3) := by decide +kernel
theorem dL_law_2546 : decode cL_law 2546 = .ok (.iload 6, 2) := by decide +kernel
theorem dL_law_2548 : decode cL_law 2548 = .ok (.ifCond .ne 15, 3) := by decide +kernel
theorem dL_law_2563 : decode cL_law 2563 = .ok (.goto 249, 3) := by decide +kernel
theorem dL_law_2551 : decode cL_law 2551 = .ok (.aload_n 3, 1) := by decide +kernel
theorem dL_law_2552 : decode cL_law 2552 = .ok (.iconst 0, 1) := by decide +kernel
theorem dL_law_2553 : decode cL_law 2553 = .ok (.laload, 1) := by decide +kernel
theorem dL_law_2554 : decode cL_law 2554 = .ok (.iload 7, 2) := by decide +kernel
theorem dL_law_2556 : decode cL_law 2556 = .ok (.i2l, 1) := by decide +kernel
theorem dL_law_2557 : decode cL_law 2557 = .ok (.lcmp, 1) := by decide +kernel
theorem dL_law_2558 : decode cL_law 2558 = .ok (.ifCond .eq 5, 3) := by decide +kernel
theorem dL_law_2566 : decode cL_law 2566 = .ok (.aload_n 1, 1) := by decide +kernel
set_option maxRecDepth 200000 in
theorem ggL_law_X11_errorKind_h : GoodIn wsL_law [.code yX11_errorKind cX11_errorKind 1 (some .int)] := goodIn_r _ [1288] rfl (by decide +kernel)
set_option maxRecDepth 200000 in
theorem ggL_law_X11_errorKind_0 : GoodIn wsL_law wsX11_errorKind_r1 := goodIn_r _ [49, 1289, 1290, 1291, 2, 1292, 28, 21, 20, 1293, 1294, 1295, 48, 1296, 145, 151, 152, 1297, 1298, 1299, 1300, 143, 144, 147] rfl (by decide +kernel)
set_option maxRecDepth 200000 in
theorem ggL_law_X11_errorKind_1 : GoodIn wsL_law wsX11_errorKind_r2 := goodIn_r _ [142, 150, 1301, 1302, 1303, 1304, 139, 1305, 1306, 1307, 138, 1308, 157, 156, 1309, 1310, 1311, 1312, 1313, 1314, 27, 1315, 70, 71] rfl (by decide +kernel)
set_option maxRecDepth 200000 in
theorem ggL_law_X11_errorKind_2 : GoodIn wsL_law wsX11_errorKind_r3 := goodIn_r _ [72, 73, 74, 1316, 1317, 1318, 1319, 1320, 1233, 1234, 1235, 1236, 1237, 1238, 1239, 1240, 1241, 1242, 1243, 1321, 1245, 1246, 1247, 1248] rfl (by decide +kernel)
set_option maxRecDepth 200000 in
theorem ggL_law_X11_errorKind_3 : GoodIn wsL_law wsX11_errorKind_r4 := goodIn_r _ [1249, 1250, 1251, 1252, 1253, 1254, 1255, 1256, 1257, 1258, 1259, 1260, 658, 659, 660, 1261, 1262, 1263, 1264, 1265, 1266, 1267, 1268, 1269] rfl (by decide +kernel)
set_option maxRecDepth 200000 in
theorem ggL_law_X11_errorKind_4 : GoodIn wsL_law wsX11_errorKind_r5 := goodIn_r _ [1270, 1271, 1272, 1273, 1274, 1275, 1276, 1277, 1322, 1323, 1324, 1325, 148, 1326, 1327, 1328, 1329, 140, 146, 1330, 1331, 1332, 1333, 1334] rfl (by decide +kernel)
set_option maxRecDepth 200000 in
theorem ggL_law_X11_errorKind_5 : GoodIn wsL_law wsX11_errorKind_r6 := goodIn_r _ [420, 421, 422, 1335, 1336, 1337, 1338, 1339, 1340, 1341, 1342, 1343, 1344, 1345, 1346, 1347, 1348, 1349, 1350, 1351, 1352, 1353, 1354, 1355] rfl (by decide +kernel)
set_option maxRecDepth 200000 in
theorem ggL_law_X11_errorKind_6 : GoodIn wsL_law wsX11_errorKind_r7 := goodIn_r _ [1356, 1357, 1358, 149, 1359, 1360, 1361, 1362, 415, 416, 417, 23, 418, 66, 419, 65, 1363, 1364, 1365, 1366, 45, 18, 1367, 1368] rfl (by decide +kernel)
set_option maxRecDepth 200000 in
theorem ggL_law_X11_errorKind_7 : GoodIn wsL_law wsX11_errorKind_r8 := goodIn_r _ [1369, 1370, 1371, 1372, 1373, 1028, 1029, 1030, 43, 1031, 1032, 897, 898, 899, 116, 123, 118, 124, 126, 127, 128, 129, 130, 131] rfl (by decide +kernel)
set_option maxRecDepth 200000 in
theorem ggL_law_X11_errorKind_8 : GoodIn wsL_law wsX11_errorKind_r9 := goodIn_r _ [132, 900, 487, 488, 31, 489, 490, 491, 492, 493, 494, 495, 496, 35, 497, 87, 88, 498, 499, 500, 501, 80, 78, 502] rfl (by decide +kernel)
set_option maxRecDepth 200000 in
theorem ggL_law_X11_errorKind_9 : GoodIn wsL_law wsX11_errorKind_r10 := goodIn_r _ [347, 348, 349, 503, 378, 379, 17, 380, 59, 504, 505, 506, 507, 508, 509, 510, 511, 85, 86, 512, 513, 514, 515, 84] rfl (by decide +kernel)
set_option maxRecDepth 200000 in
theorem ggL_law_X11_errorKind_10 : GoodIn wsL_law wsX11_errorKind_r11 := goodIn_r _ [516, 517, 518, 519, 520, 521, 522, 523, 79, 524, 525, 526, 527, 528, 529, 530, 531, 532, 533, 534, 535, 901, 738, 739] rfl (by decide +kernel)
set_option maxRecDepth 200000 in
theorem ggL_law_X11_errorKind_11 : GoodIn wsL_law wsX11_errorKind_r12 := goodIn_r _ [94, 740, 108, 741, 742, 109, 111, 110, 107, 743, 744, 745, 746, 902, 903, 1033, 905, 906, 907, 1034, 943, 944, 945, 946] rfl (by decide +kernel)
set_option maxRecDepth 200000 in
theorem ggL_law_X11_errorKind_12 : GoodIn wsL_law wsX11_errorKind_r13 := goodIn_r _ [758, 759, 760, 106, 761, 762, 763, 764, 765, 766, 767, 768, 769, 770, 771, 772, 947, 948, 949, 950, 121, 119, 120, 951] rfl (by decide +kernel)
set_option maxRecDepth 200000 in
theorem ggL_law_X11_errorKind_13 : GoodIn wsL_law wsX11_errorKind_r14 := goodIn_r _ [782, 783, 784, 913, 700, 701, 702, 952, 953, 954, 955, 914, 716, 717, 718, 956, 957, 958, 959, 960, 125, 961, 774, 775] rfl (by decide +kernel)
set_option maxRecDepth 200000 in
theorem ggL_law_X11_errorKind_14 : GoodIn wsL_law wsX11_errorKind_r15 := goodIn_r _ [776, 962, 963, 964, 965, 966, 967, 968, 969, 970, 971, 972, 973, 974, 794, 795, 796, 1035, 909, 910, 911, 912, 401, 402] rfl (by decide +kernel)
set_option maxRecDepth 200000 in
theorem ggL_law_X11_errorKind_15 : GoodIn wsL_law wsX11_errorKind_r16 := goodIn_r _ [403, 915, 720, 721, 916, 219, 220, 221, 1047, 1048, 1049, 1050, 24, 372, 373, 374, 375, 376, 377, 400, 1051, 1052, 1053, 1054] rfl (by decide +kernel)
set_option maxRecDepth 200000 in
theorem ggL_law_X11_errorKind_16 : GoodIn wsL_law wsX11_errorKind_r17 := goodIn_r _ [1055, 1056, 1057, 1058, 1059, 1060, 1061, 1062, 1063, 1064, 306, 307, 308, 1065, 1066, 1067, 1068, 1092, 1093, 1094, 1095, 434, 435, 436] rfl (by decide +kernel)
set_option maxRecDepth 200000 in
theorem ggL_law_X11_errorKind_17 : GoodIn wsL_law wsX11_errorKind_r18 := goodIn_r _ [437] rfl (by decide +kernel)
set_option maxRecDepth 200000 in
theorem ggL_law_X11_errorKind_18 : GoodIn wsL_law wsX110 := goodIn_r _ [1538, 1539, 1540, 1541, 1542, 1543, 1544, 1545, 1546, 1547, 1548, 1549, 1550] rfl (by decide +kernel)
set_option maxRecDepth 200000 in
theorem ggL_law_X11_errorKind_19 : GoodIn wsL_law wsX50 := goodIn_r _ [1606, 1607, 1608, 1609, 1610, 1611, 1612, 1613, 1614, 1615, 1616, 1617, 1618] rfl (by decide +kernel)
set_option maxRecDepth 200000 in
theorem ggL_law_X11_errorKind_20 : GoodIn wsL_law wsX100 := goodIn_r _ [1633, 1634] rfl (by decide +kernel)
set_option maxRecDepth 200000 in
theorem ggL_law_X11_errorKind_21 : GoodIn wsL_law wsX80 := goodIn_r _ [1570, 1571, 1572, 1573, 1574] rfl (by decide +kernel)
set_option maxRecDepth 200000 in
theorem ggL_law_X11_errorKind_22 : GoodIn wsL_law wsX90 := goodIn_r _ [1568, 1569] rfl (by decide +kernel)
set_option maxRecDepth 200000 in
theorem ggL_law_X11_errorKind_23 : GoodIn wsL_law wsX20 := goodIn_r _ [1591, 1592, 1593, 1594, 1595, 1596, 1597, 1598, 1599, 1600, 1601, 1602, 1603, 1604, 1605] rfl (by decide +kernel)
set_option maxRecDepth 200000 in
theorem ggL_law_X11_errorKind_24 : GoodIn wsL_law wsX70 := goodIn_r _ [1578, 1579, 1580, 1581, 1582] rfl (by decide +kernel)
set_option maxRecDepth 200000 in
theorem ggL_law_X11_errorKind_25 : GoodIn wsL_law wsX60 := goodIn_r _ [1575, 1576, 1577] rfl (by decide +kernel)
set_option maxRecDepth 200000 in
theorem ggL_law_X11_errorKind_26 : GoodIn wsL_law wsX00 := goodIn_r _ [1565, 1566, 1567] rfl (by decide +kernel)
set_option maxRecDepth 200000 in
theorem ggL_law_X11_errorKind_27 : GoodIn wsL_law wsX30 := goodIn_r _ [1627, 1628, 1629, 1630, 1631, 1632] rfl (by decide +kernel)
set_option maxRecDepth 20000 in
theorem ggL_law_X11_errorKind : GoodIn wsL_law wsX11_errorKind := (fun w h => (List.mem_cons.mp h).elim (fun e => ggL_law_X11_errorKind_h w (List.mem_singleton.mpr e)) (fun h => (goodIn_app (goodIn_app (goodIn_app (goodIn_app (goodIn_app (goodIn_app (goodIn_app (goodIn_app (goodIn_app (goodIn_app (goodIn_app ggL_law_X11_errorKind_0 (goodIn_app ggL_law_X11_errorKind_1 (goodIn_app ggL_law_X11_errorKind_2 (goodIn_app ggL_law_X11_errorKind_3 (goodIn_app ggL_law_X11_errorKind_4 (goodIn_app ggL_law_X11_errorKind_5 (goodIn_app ggL_law_X11_errorKind_6 (goodIn_app ggL_law_X11_errorKind_7 (goodIn_app ggL_law_X11_errorKind_8 (goodIn_app ggL_law_X11_errorKind_9 (goodIn_app ggL_law_X11_errorKind_10 (goodIn_app ggL_law_X11_errorKind_11 (goodIn_app ggL_law_X11_errorKind_12 (goodIn_app ggL_law_X11_errorKind_13 (goodIn_app ggL_law_X11_errorKind_14 (goodIn_app ggL_law_X11_errorKind_15 (goodIn_app ggL_law_X11_errorKind_16 ggL_law_X11_errorKind_17))))))))))))))))) ggL_law_X11_errorKind_18) ggL_law_X11_errorKind_19) ggL_law_X11_errorKind_20) ggL_law_X11_errorKind_21) ggL_law_X11_errorKind_22) ggL_law_X11_errorKind_23) ggL_law_X11_errorKind_24) ggL_law_X11_errorKind_25) ggL_law_X11_errorKind_26) ggL_law_X11_errorKind_27) w h))
set_option maxRecDepth 20000 in
theorem gL_law_X11_errorKind : GoodIn wsL_law (wsV RL 269 RX11 yX11_errorKind wsX11_errorKind) := goodIn_app (goodIn_of _ (by decide +kernel)) ggL_law_X11_errorKind
theorem dL_law_2567 : decode cL_law 2567 = .ok (.invokevirtual 269, 3) := by decide +kernel
theorem dL_law_2570 : decode cL_law 2570 = .ok (.aload_n 2, 1) := by decide +kernel
set_option maxRecDepth 200000 in
theorem ggL_law_X13_errorKind_h : GoodIn wsL_law [.code yX13_errorKind cX13_errorKind 2 (some .int)] := goodIn_r _ [1377] rfl (by decide +kernel)
set_option maxRecDepth 200000 in
theorem ggL_law_X13_errorKind_0 : GoodIn wsL_law wsX13_errorKind_r1 := goodIn_r _ [243, 1378, 1379, 1380, 1381, 5, 1382, 183, 182, 1383, 1384, 1385, 1386, 1387, 1388, 1389, 1199, 1390, 1391, 1392, 1393, 185, 1394, 1395] rfl (by decide +kernel)
set_option maxRecDepth 200000 in
theorem ggL_law_X13_errorKind_1 : GoodIn wsL_law wsX13_errorKind_r2 := goodIn_r _ [1396, 229, 230, 231, 1397, 1398, 1399, 1400, 1401, 1402, 1403, 1404, 1405, 1406, 1407, 1283, 1233, 1234, 1235, 1236, 1237, 1238, 1239, 1240] rfl (by decide +kernel)
set_option maxRecDepth 200000 in
theorem ggL_law_X13_errorKind_2 : GoodIn wsL_law wsX13_errorKind_r3 := goodIn_r _ [1241, 1242, 1243, 1284, 1245, 1246, 1247, 1248, 1249, 1250, 1251, 1252, 1253, 1254, 1255, 1256, 1257, 1258, 1259, 1260, 658, 659, 660, 1261] rfl (by decide +kernel)
set_option maxRecDepth 200000 in
theorem ggL_law_X13_errorKind_3 : GoodIn wsL_law wsX13_errorKind_r4 := goodIn_r _ [1262, 1263, 1264, 1265, 1266, 1267, 1268, 1269, 1270, 1271, 1272, 1273, 1274, 1275, 1276, 1277, 1408, 1409, 1410, 1411, 58, 184, 801, 802] rfl (by decide +kernel)
set_option maxRecDepth 200000 in
theorem ggL_law_X13_errorKind_4 : GoodIn wsL_law wsX13_errorKind_r5 := goodIn_r _ [803, 1412, 1413, 1414, 1415, 1416, 1417, 1418, 1419, 555, 420, 421, 422, 1420, 1421, 1422, 1423, 1424, 1425, 1426, 1427, 1428, 1429, 1430] rfl (by decide +kernel)
set_option maxRecDepth 200000 in
theorem ggL_law_X13_errorKind_5 : GoodIn wsL_law wsX13_errorKind_r6 := goodIn_r _ [1431, 804, 805, 806, 807, 808, 13, 14, 809, 810, 549, 550, 811, 812, 813, 814, 815, 558, 559, 560, 561, 562, 563, 564] rfl (by decide +kernel)
set_option maxRecDepth 200000 in
theorem ggL_law_X13_errorKind_6 : GoodIn wsL_law wsX13_errorKind_r7 := goodIn_r _ [565, 566, 567, 568, 569, 570, 571, 545, 546, 547, 548, 551, 552, 553, 554, 556, 557, 572, 573, 574, 575, 576, 577, 578] rfl (by decide +kernel)
set_option maxRecDepth 200000 in
theorem ggL_law_X13_errorKind_7 : GoodIn wsL_law wsX13_errorKind_r8 := goodIn_r _ [579, 580, 581, 582, 583, 584, 585, 586, 587, 588, 589, 590, 591, 592, 593, 594, 595, 596, 597, 598, 599, 600, 601, 602] rfl (by decide +kernel)
set_option maxRecDepth 200000 in
theorem ggL_law_X13_errorKind_8 : GoodIn wsL_law wsX13_errorKind_r9 := goodIn_r _ [603, 604, 605, 606, 607, 608, 492, 493, 609, 610, 611, 612, 613, 614, 615, 616, 617, 618, 619, 620, 621, 622, 623, 624] rfl (by decide +kernel)
set_option maxRecDepth 200000 in
theorem ggL_law_X13_errorKind_9 : GoodIn wsL_law wsX13_errorKind_r10 := goodIn_r _ [625, 626, 627, 628, 629, 630, 631, 632, 633, 634, 635, 636, 637, 638, 639, 640, 641, 642, 643, 644, 645, 646, 647, 648] rfl (by decide +kernel)
set_option maxRecDepth 200000 in
theorem ggL_law_X13_errorKind_10 : GoodIn wsL_law wsX13_errorKind_r11 := goodIn_r _ [649, 650, 651, 652, 653, 654, 655, 656, 657, 661, 662, 663, 664, 665, 666, 667, 668, 389, 390, 391, 392, 179, 669, 670] rfl (by decide +kernel)
set_option maxRecDepth 200000 in
theorem ggL_law_X13_errorKind_11 : GoodIn wsL_law wsX13_errorKind_r12 := goodIn_r _ [671, 672, 673, 674, 675, 676, 677, 678, 679, 680, 681, 682, 683, 684, 685, 686, 687, 816, 817, 818, 819, 820, 821, 822] rfl (by decide +kernel)
set_option maxRecDepth 200000 in
theorem ggL_law_X13_errorKind_12 : GoodIn wsL_law wsX13_errorKind_r13 := goodIn_r _ [823, 824, 825, 826, 827, 828, 829, 830, 831, 832, 833, 834, 835, 836, 837, 838, 839, 840, 841, 842, 843, 844, 845, 846] rfl (by decide +kernel)
set_option maxRecDepth 200000 in
theorem ggL_law_X13_errorKind_13 : GoodIn wsL_law wsX13_errorKind_r14 := goodIn_r _ [847, 848, 849, 850, 851, 852, 853, 854, 855, 856, 857, 858, 859, 860, 861, 862, 863, 864, 865, 866, 867, 868, 869, 927] rfl (by decide +kernel)
set_option maxRecDepth 200000 in
theorem ggL_law_X13_errorKind_14 : GoodIn wsL_law wsX13_errorKind_r15 := goodIn_r _ [928, 929, 930, 1432, 1433, 1434, 1435, 1073, 1074, 1075, 1076, 385, 386, 387, 388, 1077, 1078, 1079, 1080, 1081, 1082, 1083, 1084, 1436] rfl (by decide +kernel)
set_option maxRecDepth 200000 in
theorem ggL_law_X13_errorKind_15 : GoodIn wsL_law wsX13_errorKind_r16 := goodIn_r _ [1437, 1438, 1439, 1440, 1441, 1442, 1443, 442, 443, 444, 1100, 1101, 1102, 1103] rfl (by decide +kernel)
set_option maxRecDepth 200000 in
theorem ggL_law_X13_errorKind_16 : GoodIn wsL_law wsX130 := goodIn_r _ [1551, 1552, 1553, 1554, 1555, 1556, 1557, 1558, 1559, 1560, 1561, 1562, 1563, 1564] rfl (by decide +kernel)
set_option maxRecDepth 200000 in
theorem ggL_law_X13_errorKind_17 : GoodIn wsL_law wsX120 := goodIn_r _ [1639, 1640, 1641, 1642, 1643, 1644, 1645, 1646, 1647, 1648, 1649, 1650] rfl (by decide +kernel)
set_option maxRecDepth 200000 in
theorem ggL_law_X13_errorKind_18 : GoodIn wsL_law wsJx4a65c0 := goodIn_r _ [1635, 1636, 1637] rfl (by decide +kernel)
set_option maxRecDepth 200000 in
theorem ggL_law_X13_errorKind_19 : GoodIn wsL_law wsJ60 := goodIn_r _ [1638] rfl (by decide +kernel)
set_option maxRecDepth 20000 in
theorem ggL_law_X13_errorKind : GoodIn wsL_law wsX13_errorKind := (fun w h => (List.mem_cons.mp h).elim (fun e => ggL_law_X13_errorKind_h w (List.mem_singleton.mpr e)) (fun h => (goodIn_app (goodIn_app (goodIn_app (goodIn_app (goodIn_app ggL_law_X13_errorKind_0 (goodIn_app ggL_law_X13_errorKind_1 (goodIn_app ggL_law_X13_errorKind_2 (goodIn_app ggL_law_X13_errorKind_3 (goodIn_app ggL_law_X13_errorKind_4 (goodIn_app ggL_law_X13_errorKind_5 (goodIn_app ggL_law_X13_errorKind_6 (goodIn_app ggL_law_X13_errorKind_7 (goodIn_app ggL_law_X13_errorKind_8 (goodIn_app ggL_law_X13_errorKind_9 (goodIn_app ggL_law_X13_errorKind_10 (goodIn_app ggL_law_X13_errorKind_11 (goodIn_app ggL_law_X13_errorKind_12 (goodIn_app ggL_law_X13_errorKind_13 (goodIn_app ggL_law_X13_errorKind_14 ggL_law_X13_errorKind_15))))))))))))))) ggL_law_X13_errorKind_16) ggL_law_X13_errorKind_17) ggL_law_X13_errorKind_18) ggL_law_X13_errorKind_19) w h))
set_option maxRecDepth 20000 in
theorem gL_law_X13_errorKind : GoodIn wsL_law (wsV RL 272 RX13 yX13_errorKind wsX13_errorKind) := goodIn_app (goodIn_of _ (by decide +kernel)) ggL_law_X13_errorKind
theorem dL_law_2571 : decode cL_law 2571 = .ok (.invokevirtual 272, 3) := by decide +kernel
theorem dL_law_2574 : decode cL_law 2574 = .ok (.if_icmp .eq 238, 3) := by decide +kernel
theorem dL_law_2579 : decode cL_law 2579 = .ok (.aload_n 1, 1) := by decide +kernel
set_option maxRecDepth 200000 in
theorem ggL_law_X11_errorPlace_h : GoodIn wsL_law [.code yX11_errorPlace cX11_errorPlace 1 (some .int)] := goodIn_r _ [1447] rfl (by decide +kernel)
set_option maxRecDepth 200000 in
theorem ggL_law_X11_errorPlace_0 : GoodIn wsL_law wsX11_errorPlace_r1 := goodIn_r _ [49, 1289, 1290, 1291, 2, 1292, 28, 21, 20, 1293, 1294, 1295, 48, 1296, 145, 151, 152, 1297, 1298, 1299, 1300, 143, 144, 147] rfl (by decide +kernel)
set_option maxRecDepth 200000 in
theorem ggL_law_X11_errorPlace_1 : GoodIn wsL_law wsX11_errorPlace_r2 := goodIn_r _ [142, 150, 1301, 1302, 1303, 1304, 139, 1305, 1306, 1307, 138, 1308, 157, 156, 1309, 1310, 1311, 1312, 1313, 1314, 27, 1315, 70, 71] rfl (by decide +kernel)
set_option maxRecDepth 200000 in
theorem ggL_law_X11_errorPlace_2 : GoodIn wsL_law wsX11_errorPlace_r3 := goodIn_r _ [72, 73, 74, 1316, 1317, 1318, 1319, 1320, 1233, 1234, 1235, 1236, 1237, 1238, 1239, 1240, 1241, 1242, 1243, 1321, 1245, 1246, 1247, 1248] rfl (by decide +kernel)
set_option maxRecDepth 200000 in
theorem ggL_law_X11_errorPlace_3 : GoodIn wsL_law wsX11_errorPlace_r4 := goodIn_r _ [1249, 1250, 1251, 1252, 1253, 1254, 1255, 1256, 1257, 1258, 1259, 1260, 658, 659, 660, 1261, 1262, 1263, 1264, 1265, 1266, 1267, 1268, 1269] rfl (by decide +kernel)
set_option maxRecDepth 200000 in
theorem ggL_law_X11_errorPlace_4 : GoodIn wsL_law wsX11_errorPlace_r5 := goodIn_r _ [1270, 1271, 1272, 1273, 1274, 1275, 1276, 1277, 1322, 1323, 1324, 1325, 148, 1326, 1327, 1328, 1329, 140, 146, 1330, 1331, 1332, 1333, 1334] rfl (by decide +kernel)
set_option maxRecDepth 200000 in
theorem ggL_law_X11_errorPlace_5 : GoodIn wsL_law wsX11_errorPlace_r6 := goodIn_r _ [420, 421, 422, 1335, 1336, 1337, 1338, 1339, 1340, 1341, 1342, 1343, 1344, 1345, 1346, 1347, 1348, 1349, 1350, 1351, 1352, 1353, 1354, 1355] rfl (by decide +kernel)
set_option maxRecDepth 200000 in
theorem ggL_law_X11_errorPlace_6 : GoodIn wsL_law wsX11_errorPlace_r7 := goodIn_r _ [1356, 1357, 1358, 149, 1359, 1360, 1361, 1362, 415, 416, 417, 23, 418, 66, 419, 65, 1363, 1364, 1365, 1366, 45, 18, 1367, 1368] rfl (by decide +kernel)
set_option maxRecDepth 200000 in
theorem ggL_law_X11_errorPlace_7 : GoodIn wsL_law wsX11_errorPlace_r8 := goodIn_r _ [1369, 1370, 1371, 1372, 1373, 1028, 1029, 1030, 43, 1031, 1032, 897, 898, 899, 116, 123, 118, 124, 126, 127, 128, 129, 130, 131] rfl (by decide +kernel)
set_option maxRecDepth 200000 in
theorem ggL_law_X11_errorPlace_8 : GoodIn wsL_law wsX11_errorPlace_r9 := goodIn_r _ [132, 900, 487, 488, 31, 489, 490, 491, 492, 493, 494, 495, 496, 35, 497, 87, 88, 498, 499, 500, 501, 80, 78, 502] rfl (by decide +kernel)
set_option maxRecDepth 200000 in
theorem ggL_law_X11_errorPlace_9 : GoodIn wsL_law wsX11_errorPlace_r10 := goodIn_r _ [347, 348, 349, 503, 378, 379, 17, 380, 59, 504, 505, 506, 507, 508, 509, 510, 511, 85, 86, 512, 513, 514, 515, 84] rfl (by decide +kernel)
set_option maxRecDepth 200000 in
theorem ggL_law_X11_errorPlace_10 : GoodIn wsL_law wsX11_errorPlace_r11 := goodIn_r _ [516, 517, 518, 519, 520, 521, 522, 523, 79, 524, 525, 526, 527, 528, 529, 530, 531, 532, 533, 534, 535, 901, 738, 739] rfl (by decide +kernel)
set_option maxRecDepth 200000 in
theorem ggL_law_X11_errorPlace_11 : GoodIn wsL_law wsX11_errorPlace_r12 := goodIn_r _ [94, 740, 108, 741, 742, 109, 111, 110, 107, 743, 744, 745, 746, 902, 903, 1033, 905, 906, 907, 1034, 943, 944, 945, 946] rfl (by decide +kernel)
set_option maxRecDepth 200000 in
theorem ggL_law_X11_errorPlace_12 : GoodIn wsL_law wsX11_errorPlace_r13 := goodIn_r _ [758, 759, 760, 106, 761, 762, 763, 764, 765, 766, 767, 768, 769, 770, 771, 772, 947, 948, 949, 950, 121, 119, 120, 951] rfl (by decide +kernel)
set_option maxRecDepth 200000 in
theorem ggL_law_X11_errorPlace_13 : GoodIn wsL_law wsX11_errorPlace_r14 := goodIn_r _ [782, 783, 784, 913, 700, 701, 702, 952, 953, 954, 955, 914, 716, 717, 718, 956, 957, 958, 959, 960, 125, 961, 774, 775] rfl (by decide +kernel)
set_option maxRecDepth 200000 in
theorem ggL_law_X11_errorPlace_14 : GoodIn wsL_law wsX11_errorPlace_r15 := goodIn_r _ [776, 962, 963, 964, 965, 966, 967, 968, 969, 970, 971, 972, 973, 974, 794, 795, 796, 1035, 909, 910, 911, 912, 401, 402] rfl (by decide +kernel)
set_option maxRecDepth 200000 in
theorem ggL_law_X11_errorPlace_15 : GoodIn wsL_law wsX11_errorPlace_r16 := goodIn_r _ [403, 915, 720, 721, 916, 219, 220, 221, 1047, 1048, 1049, 1050, 24, 372, 373, 374, 375, 376, 377, 400, 1051, 1052, 1053, 1054] rfl (by decide +kernel)
set_option maxRecDepth 200000 in
theorem ggL_law_X11_errorPlace_16 : GoodIn wsL_law wsX11_errorPlace_r17 := goodIn_r _ [1055, 1056, 1057, 1058, 1059, 1060, 1061, 1062, 1063, 1064, 306, 307, 308, 1065, 1066, 1067, 1068, 1092, 1093, 1094, 1095, 434, 435, 436] rfl (by decide +kernel)
set_option maxRecDepth 200000 in
theorem ggL_law_X11_errorPlace_17 : GoodIn wsL_law wsX11_errorPlace_r18 := goodIn_r _ [437] rfl (by decide +kernel)
set_option maxRecDepth 200000 in
theorem ggL_law_X11_errorPlace_18 : GoodIn wsL_law wsX110 := goodIn_r _ [1538, 1539, 1540, 1541, 1542, 1543, 1544, 1545, 1546, 1547, 1548, 1549, 1550] rfl (by decide +kernel)
set_option maxRecDepth 200000 in
theorem ggL_law_X11_errorPlace_19 : GoodIn wsL_law wsX50 := goodIn_r _ [1606, 1607, 1608, 1609, 1610, 1611, 1612, 1613, 1614, 1615, 1616, 1617, 1618] rfl (by decide +kernel)
set_option maxRecDepth 200000 in
theorem ggL_law_X11_errorPlace_20 : GoodIn wsL_law wsX100 := goodIn_r _ [1633, 1634] rfl (by decide +kernel)
set_option maxRecDepth 200000 in
theorem ggL_law_X11_errorPlace_21 : GoodIn wsL_law wsX80 := goodIn_r _ [1570, 1571, 1572, 1573, 1574] rfl (by decide +kernel)
set_option maxRecDepth 200000 in
theorem ggL_law_X11_errorPlace_22 : GoodIn wsL_law wsX90 := goodIn_r _ [1568, 1569] rfl (by decide +kernel)
set_option maxRecDepth 200000 in
theorem ggL_law_X11_errorPlace_23 : GoodIn wsL_law wsX20 := goodIn_r _ [1591, 1592, 1593, 1594, 1595, 1596, 1597, 1598, 1599, 1600, 1601, 1602, 1603, 1604, 1605] rfl (by decide +kernel)
set_option maxRecDepth 200000 in
theorem ggL_law_X11_errorPlace_24 : GoodIn wsL_law wsX70 := goodIn_r _ [1578, 1579, 1580, 1581, 1582] rfl (by decide +kernel)
set_option maxRecDepth 200000 in
theorem ggL_law_X11_errorPlace_25 : GoodIn wsL_law wsX60 := goodIn_r _ [1575, 1576, 1577] rfl (by decide +kernel)
set_option maxRecDepth 200000 in
theorem ggL_law_X11_errorPlace_26 : GoodIn wsL_law wsX00 := goodIn_r _ [1565, 1566, 1567] rfl (by decide +kernel)
set_option maxRecDepth 200000 in
theorem ggL_law_X11_errorPlace_27 : GoodIn wsL_law wsX30 := goodIn_r _ [1627, 1628, 1629, 1630, 1631, 1632] rfl (by decide +kernel)
set_option maxRecDepth 20000 in
theorem ggL_law_X11_errorPlace : GoodIn wsL_law wsX11_errorPlace := (fun w h => (List.mem_cons.mp h).elim (fun e => ggL_law_X11_errorPlace_h w (List.mem_singleton.mpr e)) (fun h => (goodIn_app (goodIn_app (goodIn_app (goodIn_app (goodIn_app (goodIn_app (goodIn_app (goodIn_app (goodIn_app (goodIn_app (goodIn_app ggL_law_X11_errorPlace_0 (goodIn_app ggL_law_X11_errorPlace_1 (goodIn_app ggL_law_X11_errorPlace_2 (goodIn_app ggL_law_X11_errorPlace_3 (goodIn_app ggL_law_X11_errorPlace_4 (goodIn_app ggL_law_X11_errorPlace_5 (goodIn_app ggL_law_X11_errorPlace_6 (goodIn_app ggL_law_X11_errorPlace_7 (goodIn_app ggL_law_X11_errorPlace_8 (goodIn_app ggL_law_X11_errorPlace_9 (goodIn_app ggL_law_X11_errorPlace_10 (goodIn_app ggL_law_X11_errorPlace_11 (goodIn_app ggL_law_X11_errorPlace_12 (goodIn_app ggL_law_X11_errorPlace_13 (goodIn_app ggL_law_X11_errorPlace_14 (goodIn_app ggL_law_X11_errorPlace_15 (goodIn_app ggL_law_X11_errorPlace_16 ggL_law_X11_errorPlace_17))))))))))))))))) ggL_law_X11_errorPlace_18) ggL_law_X11_errorPlace_19) ggL_law_X11_errorPlace_20) ggL_law_X11_errorPlace_21) ggL_law_X11_errorPlace_22) ggL_law_X11_errorPlace_23) ggL_law_X11_errorPlace_24) ggL_law_X11_errorPlace_25) ggL_law_X11_errorPlace_26) ggL_law_X11_errorPlace_27) w h))
set_option maxRecDepth 20000 in
theorem gL_law_X11_errorPlace : GoodIn wsL_law (wsV RL 273 RX11 yX11_errorPlace wsX11_errorPlace) := goodIn_app (goodIn_of _ (by decide +kernel)) ggL_law_X11_errorPlace
theorem dL_law_2580 : decode cL_law 2580 = .ok (.invokevirtual 273, 3) := by decide +kernel
theorem dL_law_2583 : decode cL_law 2583 = .ok (.aload_n 2, 1) := by decide +kernel
set_option maxRecDepth 200000 in
theorem ggL_law_X13_errorPlace_h : GoodIn wsL_law [.code yX13_errorPlace cX13_errorPlace 2 (some .int)] := goodIn_r _ [1451] rfl (by decide +kernel)
set_option maxRecDepth 200000 in
theorem ggL_law_X13_errorPlace_0 : GoodIn wsL_law wsX13_errorPlace_r1 := goodIn_r _ [243, 1387, 1379, 1380, 1381, 5, 1382, 1378, 183, 182, 1383, 1384, 1385, 1386, 1388, 1389, 1199, 1390, 1391, 1392, 1393, 185, 1394, 1395] rfl (by decide +kernel)
set_option maxRecDepth 200000 in
theorem ggL_law_X13_errorPlace_1 : GoodIn wsL_law wsX13_errorPlace_r2 := goodIn_r _ [1396, 229, 230, 231, 1397, 1398, 1399, 1400, 1401, 1402, 1403, 1404, 1405, 1406, 1407, 1283, 1233, 1234, 1235, 1236, 1237, 1238, 1239, 1240] rfl (by decide +kernel)
set_option maxRecDepth 200000 in
theorem ggL_law_X13_errorPlace_2 : GoodIn wsL_law wsX13_errorPlace_r3 := goodIn_r _ [1241, 1242, 1243, 1284, 1245, 1246, 1247, 1248, 1249, 1250, 1251, 1252, 1253, 1254, 1255, 1256, 1257, 1258, 1259, 1260, 658, 659, 660, 1261] rfl (by decide +kernel)
set_option maxRecDepth 200000 in
theorem ggL_law_X13_errorPlace_3 : GoodIn wsL_law wsX13_errorPlace_r4 := goodIn_r _ [1262, 1263, 1264, 1265, 1266, 1267, 1268, 1269, 1270, 1271, 1272, 1273, 1274, 1275, 1276, 1277, 1408, 1409, 1410, 1411, 58, 184, 801, 802] rfl (by decide +kernel)
set_option maxRecDepth 200000 in
theorem ggL_law_X13_errorPlace_4 : GoodIn wsL_law wsX13_errorPlace_r5 := goodIn_r _ [803, 1412, 1413, 1414, 1415, 1416, 1417, 1418, 1419, 555, 420, 421, 422, 1420, 1421, 1422, 1423, 1424, 1425, 1426, 1427, 1428, 1429, 1430] rfl (by decide +kernel)
set_option maxRecDepth 200000 in
theorem ggL_law_X13_errorPlace_5 : GoodIn wsL_law wsX13_errorPlace_r6 := goodIn_r _ [1431, 804, 805, 806, 807, 808, 13, 14, 809, 810, 549, 550, 811, 812, 813, 814, 815, 558, 559, 560, 561, 562, 563, 564] rfl (by decide +kernel)
set_option maxRecDepth 200000 in
theorem ggL_law_X13_errorPlace_6 : GoodIn wsL_law wsX13_errorPlace_r7 := goodIn_r _ [565, 566, 567, 568, 569, 570, 571, 545, 546, 547, 548, 551, 552, 553, 554, 556, 557, 572, 573, 574, 575, 576, 577, 578] rfl (by decide +kernel)
set_option maxRecDepth 200000 in
theorem ggL_law_X13_errorPlace_7 : GoodIn wsL_law wsX13_errorPlace_r8 := goodIn_r _ [579, 580, 581, 582, 583, 584, 585, 586, 587, 588, 589, 590, 591, 592, 593, 594, 595, 596, 597, 598, 599, 600, 601, 602] rfl (by decide +kernel)
set_option maxRecDepth 200000 in
theorem ggL_law_X13_errorPlace_8 : GoodIn wsL_law wsX13_errorPlace_r9 := goodIn_r _ [603, 604, 605, 606, 607, 608, 492, 493, 609, 610, 611, 612, 613, 614, 615, 616, 617, 618, 619, 620, 621, 622, 623, 624] rfl (by decide +kernel)
set_option maxRecDepth 200000 in
theorem ggL_law_X13_errorPlace_9 : GoodIn wsL_law wsX13_errorPlace_r10 := goodIn_r _ [625, 626, 627, 628, 629, 630, 631, 632, 633, 634, 635, 636, 637, 638, 639, 640, 641, 642, 643, 644, 645, 646, 647, 648] rfl (by decide +kernel)
set_option maxRecDepth 200000 in
theorem ggL_law_X13_errorPlace_10 : GoodIn wsL_law wsX13_errorPlace_r11 := goodIn_r _ [649, 650, 651, 652, 653, 654, 655, 656, 657, 661, 662, 663, 664, 665, 666, 667, 668, 389, 390, 391, 392, 179, 669, 670] rfl (by decide +kernel)
set_option maxRecDepth 200000 in
theorem ggL_law_X13_errorPlace_11 : GoodIn wsL_law wsX13_errorPlace_r12 := goodIn_r _ [671, 672, 673, 674, 675, 676, 677, 678, 679, 680, 681, 682, 683, 684, 685, 686, 687, 816, 817, 818, 819, 820, 821, 822] rfl (by decide +kernel)
set_option maxRecDepth 200000 in
theorem ggL_law_X13_errorPlace_12 : GoodIn wsL_law wsX13_errorPlace_r13 := goodIn_r _ [823, 824, 825, 826, 827, 828, 829, 830, 831, 832, 833, 834, 835, 836, 837, 838, 839, 840, 841, 842, 843, 844, 845, 846] rfl (by decide +kernel)
set_option maxRecDepth 200000 in
theorem ggL_law_X13_errorPlace_13 : GoodIn wsL_law wsX13_errorPlace_r14 := goodIn_r _ [847, 848, 849, 850, 851, 852, 853, 854, 855, 856, 857, 858, 859, 860, 861, 862, 863, 864, 865, 866, 867, 868, 869, 927] rfl (by decide +kernel)
set_option maxRecDepth 200000 in
theorem ggL_law_X13_errorPlace_14 : GoodIn wsL_law wsX13_errorPlace_r15 := goodIn_r _ [928, 929, 930, 1432, 1433, 1434, 1435, 1073, 1074, 1075, 1076, 385, 386, 387, 388, 1077, 1078, 1079, 1080, 1081, 1082, 1083, 1084, 1436] rfl (by decide +kernel)
set_option maxRecDepth 200000 in
theorem ggL_law_X13_errorPlace_15 : GoodIn wsL_law wsX13_errorPlace_r16 := goodIn_r _ [1437, 1438, 1439, 1440, 1441, 1442, 1443, 442, 443, 444, 1100, 1101, 1102, 1103] rfl (by decide +kernel)
set_option maxRecDepth 200000 in
theorem ggL_law_X13_errorPlace_16 : GoodIn wsL_law wsX130 := goodIn_r _ [1551, 1552, 1553, 1554, 1555, 1556, 1557, 1558, 1559, 1560, 1561, 1562, 1563, 1564] rfl (by decide +kernel)
set_option maxRecDepth 200000 in
theorem ggL_law_X13_errorPlace_17 : GoodIn wsL_law wsX120 := goodIn_r _ [1639, 1640, 1641, 1642, 1643, 1644, 1645, 1646, 1647, 1648, 1649, 1650] rfl (by decide +kernel)
set_option maxRecDepth 200000 in
theorem ggL_law_X13_errorPlace_18 : GoodIn wsL_law wsJx4a65c0 := goodIn_r _ [1635, 1636, 1637] rfl (by decide +kernel)
set_option maxRecDepth 200000 in
theorem ggL_law_X13_errorPlace_19 : GoodIn wsL_law wsJ60 := goodIn_r _ [1638] rfl (by decide +kernel)
set_option maxRecDepth 20000 in
theorem ggL_law_X13_errorPlace : GoodIn wsL_law wsX13_errorPlace := (fun w h => (List.mem_cons.mp h).elim (fun e => ggL_law_X13_errorPlace_h w (List.mem_singleton.mpr e)) (fun h => (goodIn_app (goodIn_app (goodIn_app (goodIn_app (goodIn_app ggL_law_X13_errorPlace_0 (goodIn_app ggL_law_X13_errorPlace_1 (goodIn_app ggL_law_X13_errorPlace_2 (goodIn_app ggL_law_X13_errorPlace_3 (goodIn_app ggL_law_X13_errorPlace_4 (goodIn_app ggL_law_X13_errorPlace_5 (goodIn_app ggL_law_X13_errorPlace_6 (goodIn_app ggL_law_X13_errorPlace_7 (goodIn_app ggL_law_X13_errorPlace_8 (goodIn_app ggL_law_X13_errorPlace_9 (goodIn_app ggL_law_X13_errorPlace_10 (goodIn_app ggL_law_X13_errorPlace_11 (goodIn_app ggL_law_X13_errorPlace_12 (goodIn_app ggL_law_X13_errorPlace_13 (goodIn_app ggL_law_X13_errorPlace_14 ggL_law_X13_errorPlace_15))))))))))))))) ggL_law_X13_errorPlace_16) ggL_law_X13_errorPlace_17) ggL_law_X13_errorPlace_18) ggL_law_X13_errorPlace_19) w h))
set_option maxRecDepth 20000 in
theorem gL_law_X13_errorPlace : GoodIn wsL_law (wsV RL 276 RX13 yX13_errorPlace wsX13_errorPlace) := goodIn_app (goodIn_of _ (by decide +kernel)) ggL_law_X13_errorPlace
theorem dL_law_2584 : decode cL_law 2584 = .ok (.invokevirtual 276, 3) := by decide +kernel
theorem dL_law_2587 : decode cL_law 2587 = .ok (.if_icmp .eq 225, 3) := by decide +kernel
set_option maxHeartbeats 4000000 in
set_option maxRecDepth 100000 in
theorem law_36 {l : Launch} {p : Program} {e : Env} {s : State} {m : MethodId} {below : List Frame} {meth : Method} {c : Code} {bs : Nat} {xs : Nat → Int32} {A : Nat → Prop} {dC : Nat → ClassId} {dI : Nat → Nat → Nat} {g : Nat → ClassId} {a b r1 r2 : Nat → Nat} {ou od : Nat} {Q : State → Prop} {H : Heap} {locs : List Loc} {ls : Array Slot} (C9 : LC l p s m c bs xs A dC dI g a b r1 r2 ou od) (hP : va_P (dC, dI) vwCl (lawL a g ou ++ lawR b r1 r2 g od) H) (hS : va_S A s.heap H locs) (hl : lv_has ls 10 [(5, .int 0), (0, .ref bs), (1, .ref (a 0)), (2, .ref (b 0)), (3, .ref ou), (4, .ref od)]) (hend : ∀ (H : Heap) (locs : List Loc), va_S A s.heap H locs → ∀ (ls : Array Slot), lv_has ls 10 [(5, .int 0), (0, .ref bs)] → W p l e room_1 s m #[Value.ref bs] below meth c H locs 6000 90000 Q (F0 m 2812 ls [])) : W p l e room_1 s m #[Value.ref bs] below meth c H locs 2000 30000 Q (F0 m 2510 ls []) := by
  obtain ⟨hlf, hx, hb, hml, hown, hts, hX, hbl, hbA, hK, hG, hA, hDD⟩ := C9
  refine lv_aload_n hx hb dL_law_2510 rfl (lv_at hl 2 rfl) ?_
  refine lv_aload_n hx hb dL_law_2511 rfl (lv_at hl 1 rfl) ?_
  refine lv_iload hx hb dL_law_2512 (lv_at hl 0 rfl) ?_
  refine lv_iconst (v := 1) hx hb dL_law_2514 (by decide) ?_
  refine lv_iadd hx hb dL_law_2515 ?_
  refine lv_topi (fun x_1 ex_1 => ?_)
  obtain rfl : x_1 = 1 := ex_1.trans (by decide)
  refine va_sld hx hb hX hbl hbA hS (by unfold vp_in; decide) dL_law_2516 ?_
  refine W.eq (g2 := F0 m 2517 ls [.int (xs 1), .ref (a 0)]) rfl ?_
  refine lv_aload_n hx hb dL_law_2517 rfl (lv_at hl 4 rfl) ?_
  have hPc : va_P (dC, dI) vwCl (offW a g ++ [(ou, .inl (g 2, 1, .inr (.inl (fun _ => 0))))]) H := P_l hP
  have hDc : va_D A (offW a g ++ [(ou, .inl (g 2, 1, .inr (.inl (fun _ => 0))))]) := D_l hDD
  have hPm0 : va_P (dC, dI) vwCl (modW b r1 r2 g 0) H := P_l (P_r hP)
  have hFc : ∀ q, va_A (offW a g ++ [(ou, .inl (g 2, 1, .inr (.inl (fun _ => 0))))]) H.size q → A q := A_all hDc hA hS.1
  refine va_calli (vx_runSW (As := [.ref (a 0), .int (xs 1), .ref ou]) (rest := []) ⟨hx, hb, hml, hown, hts⟩ (c_L_example l hlf dC dI g a (xs 1) ou (fun _ => 0) H.size) (vx_cwSW 3 hts (gX gL_law_L_example) rfl rfl rfl (by decide +kernel) ⟨Nat.le_of_ble_eq_true rfl, Nat.le_of_ble_eq_true rfl⟩) ⟨PG_blind, PG_call hK hG hS hPc hDc hFc⟩ rfl rfl hl.1 rfl (lv_room (Nat.le_of_ble_eq_true rfl)) dL_law_2518 ⟨Nat.le_of_ble_eq_true rfl, Nat.le_of_ble_eq_true rfl⟩) hS (fun q _ h => hFc q h) hFc (fun r_1 f_1 t_1 H_1 L_1 ht_1 hvm_1 hw_1 hB_1 hz_1 hk_1 hS => ?_)
  rw [ht_1] at hB_1
  have hPm : va_P (dC, dI) vwCl (modW b r1 r2 g 0) H_1 := P_l (rest_kept hP hDD hk_1)
  obtain ⟨hr1, hv1⟩ := hw_1
  obtain rfl : r_1 = (cd (rngb (xs 1) 0 2) true true) := hr1
  refine lv_istore (lv' := [(6, .int (cd (rngb (xs 1) 0 2) true true)), (5, .int 0), (0, .ref bs), (1, .ref (a 0)), (2, .ref (b 0)), (3, .ref ou), (4, .ref od)]) hx hb dL_law_2521 hl (by decide) rfl (fun ls hl => ?_)
  refine lv_aload_n hx hb dL_law_2523 rfl (lv_at hl 4 rfl) ?_
  refine lv_aload_n hx hb dL_law_2524 rfl (lv_at hl 2 rfl) ?_
  refine lv_iload hx hb dL_law_2525 (lv_at hl 1 rfl) ?_
  refine lv_iconst (v := 1) hx hb dL_law_2527 (by decide) ?_
  refine lv_iadd hx hb dL_law_2528 ?_
  refine lv_topi (fun x_2 ex_2 => ?_)
  obtain rfl : x_2 = 1 := ex_2.trans (by decide)
  refine va_sld hx hb hX hbl hbA hS (by unfold vp_in; decide) dL_law_2529 ?_
  refine W.eq (g2 := F0 m 2530 ls [.int (xs 1), .ref (b 0)]) rfl ?_
  have hDm : va_D A (modW b r1 r2 g 0) := D_l (D_r hDD)
  have hFm : ∀ q, va_A (modW b r1 r2 g 0) H_1.size q → A q := A_all hDm hA hS.1
  refine va_calli (va_runV (As := [.int (xs 1)]) (rest := []) ⟨hx, hb, hml, hown, hts⟩ (c_X13_example l dC dI g b r1 r2 (xs 1) 0 H_1.size) (cwV 1 hts (gX gL_law_X13_example) rfl rfl rfl (by decide +kernel) ⟨Nat.le_of_ble_eq_true rfl, Nat.le_of_ble_eq_true rfl⟩) ⟨PG_blind, va_recv hK hPm (ci := 15) (q0 := 0) rfl (m_0 b r1 r2 g 0), PG_call hK hG hS hPm hDm hFm⟩ rfl rfl hl.1 rfl (lv_room (Nat.le_of_ble_eq_true rfl)) dL_law_2530 ⟨Nat.le_of_ble_eq_true rfl, Nat.le_of_ble_eq_true rfl⟩) hS (fun q _ h => hFm q h) hFm (fun r_2 u_2 t_2 H_2 L_2 ht_2 hvm_2 hw_2 hB_2 hz_2 hk_2 hS => ?_)
  replace hB_1 := kept_by hB_1 hk_2 (ap_ou hDD)
  obtain ⟨fs, hB_2⟩ := hB_2
  rw [ht_2] at hB_2
  refine lv_istore (lv' := [(7, .int r_2), (6, .int (cd (rngb (xs 1) 0 2) true true)), (5, .int 0), (0, .ref bs), (1, .ref (a 0)), (2, .ref (b 0)), (3, .ref ou), (4, .ref od)]) hx hb dL_law_2533 hl (by decide) rfl (fun ls hl => ?_)
  refine lv_aload_n hx hb dL_law_2535 rfl (lv_at hl 5 rfl) ?_
  have hFt := A_one (e := .inr (15, .int ((cd (rngb (xs 1) 0 2) true true)) :: fs)) (sz := 0) (H0 := H) (A_b0 hDD) hA hS
  have hDt : va_D A [(b 0, .inr (15, .int ((cd (rngb (xs 1) 0 2) true true)) :: fs))] := D_one (A_b0 hDD)
  refine va_calli (va_runV (As := []) (rest := []) ⟨hx, hb, hml, hown, hts⟩ (c_X13_thrown l dC dI g [(b 0, .inr (15, .int ((cd (rngb (xs 1) 0 2) true true)) :: fs))] (b 0) ((cd (rngb (xs 1) 0 2) true true)) fs 0 rfl H_2.size) (cwV 0 hts (gX gL_law_X13_thrown) rfl rfl rfl (by decide +kernel) ⟨Nat.le_of_ble_eq_true rfl, Nat.le_of_ble_eq_true rfl⟩) ⟨PG_blind, va_recv hK hB_2 (ci := 15) (q0 := 0) rfl rfl, PG_call hK hG hS hB_2 hDt hFt⟩ rfl rfl hl.1 rfl (lv_room (Nat.le_of_ble_eq_true rfl)) dL_law_2536 ⟨Nat.le_of_ble_eq_true rfl, Nat.le_of_ble_eq_true rfl⟩) hS (fun q _ h => hFt q h) hFt (fun r_3 u_3 t_3 H_3 L_3 ht_3 hvm_3 hw_3 hB_3 hz_3 hk_3 hS => ?_)
  obtain rfl : r_3 = (cd (rngb (xs 1) 0 2) true true) := hw_3
  replace hB_1 := kept_by hB_1 hk_3 (fun j k p q hj hk e => by
      obtain rfl : j = 0 := by
        have h1 := (List.getElem?_eq_some_iff.mp hj).1
        simp only [List.length_singleton] at h1
        omega
      cases hj
      exact ap_ou hDD 0 k _ q (m_0 b r1 r2 g 0) hk e)
  refine lv_iload hx hb dL_law_2539 (lv_at hl 1 rfl) ?_
  refine lv_icmp_eq (tgt := 2546) hx hb dL_law_2541 (by decide) (fun _ => ?_) (fun c9 => absurd rfl c9)
  refine lv_iload hx hb dL_law_2546 (lv_at hl 1 rfl) ?_
  refine lv_if_ne (tgt := 2563) hx hb dL_law_2548 (by decide) (fun h0 => ?_) (fun h0 => ?_)
  · refine lv_goto (tgt := 2812) hx hb dL_law_2563 (by decide) ?_
    refine W.widen (k := 6000) (n := 90000) (Nat.le_of_ble_eq_true rfl) (Nat.le_of_ble_eq_true rfl) ?_
    exact hend _ _ hS _ (lv_sub hl [2, 3] rfl)
  · obtain rfl : r_2 = exl (xs 1) := hw_2 h0
    refine lv_aload_n hx hb dL_law_2551 rfl (lv_at hl 6 rfl) ?_
    refine lv_iconst (v := 0) hx hb dL_law_2552 (by decide) ?_
    refine va_lald hx hb hK hB_1 0 2 rfl rfl (by unfold vp_in; decide) dL_law_2553 ?_
    refine W.eq (g2 := F0 m 2554 ls [.long ((exl (xs 1) : Int32).toInt64)]) (by rw [show f_1 (0 : Int32).toNatClampNeg = (exl (xs 1) : Int32).toInt64 from hv1 h0]) ?_
    refine lv_iload hx hb dL_law_2554 (lv_at hl 0 rfl) ?_
    refine lv_i2l (v := (exl (xs 1)).toInt64) hx hb dL_law_2556 rfl ?_
    refine W.lcmp hx hb dL_law_2557 ?_
    refine W.eq (g2 := F0 m 2558 ls [.int 0]) (by first | rw [lg_cmp_self] | exact congrArg (fun z => F0 m 2558 ls [.int z]) (lg_cmp_self _)) ?_
    refine lv_if_eq (tgt := 2563) hx hb dL_law_2558 (by decide) (fun c_3 => ?_) (fun c_3 => absurd (by decide) c_3)
    refine lv_goto (tgt := 2812) hx hb dL_law_2563 (by decide) ?_
    refine W.widen (k := 6000) (n := 90000) (Nat.le_of_ble_eq_true rfl) (Nat.le_of_ble_eq_true rfl) ?_
    exact hend _ _ hS _ (lv_sub hl [2, 3] rfl)
set_option maxHeartbeats 4000000 in
set_option maxRecDepth 100000 in
theorem law_37 {l : Launch} {p : Program} {e : Env} {s : State} {m : MethodId} {below : List Frame} {meth : Method} {c : Code} {bs : Nat} {xs : Nat → Int32} {A : Nat → Prop} {dC : Nat → ClassId} {dI : Nat → Nat → Nat} {g : Nat → ClassId} {a b r1 r2 : Nat → Nat} {ou od : Nat} {Q : State → Prop} {H : Heap} {locs : List Loc} {ls : Array Slot} (C9 : LC l p s m c bs xs A dC dI g a b r1 r2 ou od) (hP : va_P (dC, dI) vwCl (lawL a g ou ++ lawR b r1 r2 g od) H) (hS : va_S A s.heap H locs) (hl : lv_has ls 10 [(5, .int 0), (0, .ref bs), (1, .ref (a 0)), (2, .ref (b 0)), (3, .ref ou), (4, .ref od)]) (hend : ∀ (H : Heap) (locs : List Loc), va_S A s.heap H locs → ∀ (ls : Array Slot), lv_has ls 10 [(5, .int 0), (0, .ref bs)] → W p l e room_1 s m #[Value.ref bs] below meth c H locs 6000 90000 Q (F0 m 2812 ls [])) : W p l e room_1 s m #[Value.ref bs] below meth c H locs 2000 30000 Q (F0 m 2566 ls []) := by
  obtain ⟨hlf, hx, hb, hml, hown, hts, hX, hbl, hbA, hK, hG, hA, hDD⟩ := C9
  refine lv_aload_n hx hb dL_law_2566 rfl (lv_at hl 2 rfl) ?_
  have hPc : va_P (dC, dI) vwCl (offW a g) H := P_l (P_l hP)
  have hDc : va_D A (offW a g) := D_l (D_l hDD)
  have hFc : ∀ q, va_A (offW a g) H.size q → A q := A_all hDc hA hS.1
  have hPm0 : va_P (dC, dI) vwCl (modW b r1 r2 g 0) H := P_l (P_r hP)
  refine va_calli (va_runV (As := []) (rest := []) ⟨hx, hb, hml, hown, hts⟩ (c_X11_errorKind l dC dI g a H.size) (cwV 0 hts (gX gL_law_X11_errorKind) rfl rfl rfl (by decide +kernel) ⟨Nat.le_of_ble_eq_true rfl, Nat.le_of_ble_eq_true rfl⟩) ⟨PG_blind, va_recv hK hPc (ci := 13) (q0 := 0) rfl rfl, PG_call hK hG hS hPc hDc hFc⟩ rfl rfl hl.1 rfl (lv_room (Nat.le_of_ble_eq_true rfl)) dL_law_2567 ⟨Nat.le_of_ble_eq_true rfl, Nat.le_of_ble_eq_true rfl⟩) hS (fun q _ h => hFc q h) hFc (fun r_1 u_1 t_1 H_1 L_1 ht_1 hvm_1 hw_1 hB_1 hz_1 hk_1 hS => ?_)
  have hPm : va_P (dC, dI) vwCl (modW b r1 r2 g 0) H_1 := kept_by hPm0 hk_1 (ap_om hDD)
  obtain rfl : r_1 = 0 := hw_1
  refine lv_aload_n hx hb dL_law_2570 rfl (lv_at hl 3 rfl) ?_
  have hDm : va_D A (modW b r1 r2 g 0) := D_l (D_r hDD)
  have hFm : ∀ q, va_A (modW b r1 r2 g 0) H_1.size q → A q := A_all hDm hA hS.1
  refine va_calli (va_runV (As := []) (rest := [.int 0]) ⟨hx, hb, hml, hown, hts⟩ (c_X13_errorKind l dC dI g b r1 r2 0 H_1.size) (cwV 0 hts (gX gL_law_X13_errorKind) rfl rfl rfl (by decide +kernel) ⟨Nat.le_of_ble_eq_true rfl, Nat.le_of_ble_eq_true rfl⟩) ⟨PG_blind, va_recv hK hPm (ci := 15) (q0 := 0) rfl (m_0 b r1 r2 g 0), PG_call hK hG hS hPm hDm hFm⟩ rfl rfl hl.1 rfl (lv_room (Nat.le_of_ble_eq_true rfl)) dL_law_2571 ⟨Nat.le_of_ble_eq_true rfl, Nat.le_of_ble_eq_true rfl⟩) hS (fun q _ h => hFm q h) hFm (fun r_2 u_2 t_2 H_2 L_2 ht_2 hvm_2 hw_2 hB_2 hz_2 hk_2 hS => ?_)
  obtain rfl : r_2 = 0 := hw_2 rfl
  refine lv_icmp_eq (tgt := 2812) hx hb dL_law_2574 (by decide) (fun c_1 => ?_) (fun c_1 => absurd (by decide) c_1)
  refine W.widen (k := 6000) (n := 90000) (Nat.le_of_ble_eq_true rfl) (Nat.le_of_ble_eq_true rfl) ?_
  exact hend _ _ hS _ (lv_sub hl [0, 1] rfl)
set_option maxHeartbeats 4000000 in
set_option maxRecDepth 100000 in
theorem law_38 {l : Launch} {p : Program} {e : Env} {s : State} {m : MethodId} {below : List Frame} {meth : Method} {c : Code} {bs : Nat} {xs : Nat → Int32} {A : Nat → Prop} {dC : Nat → ClassId} {dI : Nat → Nat → Nat} {g : Nat → ClassId} {a b r1 r2 : Nat → Nat} {ou od : Nat} {Q : State → Prop} {H : Heap} {locs : List Loc} {ls : Array Slot} (C9 : LC l p s m c bs xs A dC dI g a b r1 r2 ou od) (hP : va_P (dC, dI) vwCl (lawL a g ou ++ lawR b r1 r2 g od) H) (hS : va_S A s.heap H locs) (hl : lv_has ls 10 [(5, .int 0), (0, .ref bs), (1, .ref (a 0)), (2, .ref (b 0)), (3, .ref ou), (4, .ref od)]) (hend : ∀ (H : Heap) (locs : List Loc), va_S A s.heap H locs → ∀ (ls : Array Slot), lv_has ls 10 [(5, .int 0), (0, .ref bs)] → W p l e room_1 s m #[Value.ref bs] below meth c H locs 6000 90000 Q (F0 m 2812 ls [])) : W p l e room_1 s m #[Value.ref bs] below meth c H locs 2000 30000 Q (F0 m 2579 ls []) := by
  obtain ⟨hlf, hx, hb, hml, hown, hts, hX, hbl, hbA, hK, hG, hA, hDD⟩ := C9
  refine lv_aload_n hx hb dL_law_2579 rfl (lv_at hl 2 rfl) ?_
  have hPc : va_P (dC, dI) vwCl (offW a g) H := P_l (P_l hP)
  have hDc : va_D A (offW a g) := D_l (D_l hDD)
  have hFc : ∀ q, va_A (offW a g) H.size q → A q := A_all hDc hA hS.1
  have hPm0 : va_P (dC, dI) vwCl (modW b r1 r2 g 0) H := P_l (P_r hP)
  refine va_calli (va_runV (As := []) (rest := []) ⟨hx, hb, hml, hown, hts⟩ (c_X11_errorPlace l dC dI g a H.size) (cwV 0 hts (gX gL_law_X11_errorPlace) rfl rfl rfl (by decide +kernel) ⟨Nat.le_of_ble_eq_true rfl, Nat.le_of_ble_eq_true rfl⟩) ⟨PG_blind, va_recv hK hPc (ci := 13) (q0 := 0) rfl rfl, PG_call hK hG hS hPc hDc hFc⟩ rfl rfl hl.1 rfl (lv_room (Nat.le_of_ble_eq_true rfl)) dL_law_2580 ⟨Nat.le_of_ble_eq_true rfl, Nat.le_of_ble_eq_true rfl⟩) hS (fun q _ h => hFc q h) hFc (fun r_1 u_1 t_1 H_1 L_1 ht_1 hvm_1 hw_1 hB_1 hz_1 hk_1 hS => ?_)
  have hPm : va_P (dC, dI) vwCl (modW b r1 r2 g 0) H_1 := kept_by hPm0 hk_1 (ap_om hDD)
  obtain rfl : r_1 = -1 := hw_1
  refine lv_aload_n hx hb dL_law_2583 rfl (lv_at hl 3 rfl) ?_
  have hDm : va_D A (modW b r1 r2 g 0) := D_l (D_r hDD)
  have hFm : ∀ q, va_A (modW b r1 r2 g 0) H_1.size q → A q := A_all hDm hA hS.1
  refine va_calli (va_runV (As := []) (rest := [.int (-1)]) ⟨hx, hb, hml, hown, hts⟩ (c_X13_errorPlace l dC dI g b r1 r2 0 H_1.size) (cwV 0 hts (gX gL_law_X13_errorPlace) rfl rfl rfl (by decide +kernel) ⟨Nat.le_of_ble_eq_true rfl, Nat.le_of_ble_eq_true rfl⟩) ⟨PG_blind, va_recv hK hPm (ci := 15) (q0 := 0) rfl (m_0 b r1 r2 g 0), PG_call hK hG hS hPm hDm hFm⟩ rfl rfl hl.1 rfl (lv_room (Nat.le_of_ble_eq_true rfl)) dL_law_2584 ⟨Nat.le_of_ble_eq_true rfl, Nat.le_of_ble_eq_true rfl⟩) hS (fun q _ h => hFm q h) hFm (fun r_2 u_2 t_2 H_2 L_2 ht_2 hvm_2 hw_2 hB_2 hz_2 hk_2 hS => ?_)
  obtain rfl : r_2 = -1 := hw_2 rfl
  refine lv_icmp_eq (tgt := 2812) hx hb dL_law_2587 (by decide) (fun c_1 => ?_) (fun c_1 => absurd (by decide) c_1)
  refine W.widen (k := 6000) (n := 90000) (Nat.le_of_ble_eq_true rfl) (Nat.le_of_ble_eq_true rfl) ?_
  exact hend _ _ hS _ (lv_sub hl [0, 1] rfl)
