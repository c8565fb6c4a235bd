theorem dL_law_2592 : decode cL_law 2592 = .ok (.aload_n 1, 1) := by decide +kernel
theorem dL_law_2593 : decode cL_law 2593 = .ok (.aload_n 3, 1) := by decide +kernel
set_option maxRecDepth 200000 in
theorem ggL_law_L_run_h : GoodIn wsL_law [.codeWith yL_run cL_run 3 (some .int) [(0, 8, 11, 17)]] := goodIn_r _ [1454] rfl (by decide +kernel)
set_option maxRecDepth 200000 in
theorem ggL_law_L_run_0 : GoodIn wsL_law wsL_run_r1 := goodIn_r _ [983, 1455, 1456, 1457, 2, 1458, 212, 213, 49, 20, 21, 1289, 1290, 1291, 1292, 28, 1293, 1294, 1295, 48, 1296, 145, 151, 152] rfl (by decide +kernel)
set_option maxRecDepth 200000 in
theorem ggL_law_L_run_1 : GoodIn wsL_law wsL_run_r2 := goodIn_r _ [1297, 1298, 1299, 1300, 143, 144, 147, 142, 150, 1301, 1302, 1303, 1304, 139, 1305, 1306, 1307, 138, 1308, 157, 156, 1309, 1310, 1311] rfl (by decide +kernel)
set_option maxRecDepth 200000 in
theorem ggL_law_L_run_2 : GoodIn wsL_law wsL_run_r3 := goodIn_r _ [1312, 1313, 1314, 27, 1315, 70, 71, 72, 73, 74, 1316, 1317, 1318, 1319, 1320, 1233, 1234, 1235, 1236, 1237, 1238, 1239, 1240, 1241] rfl (by decide +kernel)
set_option maxRecDepth 200000 in
theorem ggL_law_L_run_3 : GoodIn wsL_law wsL_run_r4 := goodIn_r _ [1242, 1243, 1321, 1245, 1246, 1247, 1248, 1249, 1250, 1251, 1252, 1253, 1254, 1255, 1256, 1257, 1258, 1259, 1260, 658, 659, 660, 1261, 1262] rfl (by decide +kernel)
set_option maxRecDepth 200000 in
theorem ggL_law_L_run_4 : GoodIn wsL_law wsL_run_r5 := goodIn_r _ [1263, 1264, 1265, 1266, 1267, 1268, 1269, 1270, 1271, 1272, 1273, 1274, 1275, 1276, 1277, 1322, 1323, 1324, 1325, 148, 1326, 1327, 1328, 1329] rfl (by decide +kernel)
set_option maxRecDepth 200000 in
theorem ggL_law_L_run_5 : GoodIn wsL_law wsL_run_r6 := goodIn_r _ [140, 146, 1330, 1331, 1332, 1333, 1334, 420, 421, 422, 1335, 1336, 1337, 1338, 1339, 1340, 1341, 1342, 1343, 1344, 1345, 1346, 1347, 1348] rfl (by decide +kernel)
set_option maxRecDepth 200000 in
theorem ggL_law_L_run_6 : GoodIn wsL_law wsL_run_r7 := goodIn_r _ [1349, 1350, 1351, 1352, 1353, 1354, 1355, 1356, 1357, 1358, 149, 1359, 1360, 1361, 1362, 415, 416, 417, 23, 418, 66, 419, 65, 1363] rfl (by decide +kernel)
set_option maxRecDepth 200000 in
theorem ggL_law_L_run_7 : GoodIn wsL_law wsL_run_r8 := goodIn_r _ [1364, 1365, 1366, 45, 18, 1367, 1368, 1369, 1370, 1371, 1372, 1373, 1028, 1029, 1030, 43, 1031, 1032, 897, 898, 899, 116, 123, 118] rfl (by decide +kernel)
set_option maxRecDepth 200000 in
theorem ggL_law_L_run_8 : GoodIn wsL_law wsL_run_r9 := goodIn_r _ [124, 126, 127, 128, 129, 130, 131, 132, 900, 487, 488, 31, 489, 490, 491, 492, 493, 494, 495, 496, 35, 497, 87, 88] rfl (by decide +kernel)
set_option maxRecDepth 200000 in
theorem ggL_law_L_run_9 : GoodIn wsL_law wsL_run_r10 := goodIn_r _ [498, 499, 500, 501, 80, 78, 502, 347, 348, 349, 503, 378, 379, 17, 380, 59, 504, 505, 506, 507, 508, 509, 510, 511] rfl (by decide +kernel)
set_option maxRecDepth 200000 in
theorem ggL_law_L_run_10 : GoodIn wsL_law wsL_run_r11 := goodIn_r _ [85, 86, 512, 513, 514, 515, 84, 516, 517, 518, 519, 520, 521, 522, 523, 79, 524, 525, 526, 527, 528, 529, 530, 531] rfl (by decide +kernel)
set_option maxRecDepth 200000 in
theorem ggL_law_L_run_11 : GoodIn wsL_law wsL_run_r12 := goodIn_r _ [532, 533, 534, 535, 901, 738, 739, 94, 740, 108, 741, 742, 109, 111, 110, 107, 743, 744, 745, 746, 902, 903, 1033, 905] rfl (by decide +kernel)
set_option maxRecDepth 200000 in
theorem ggL_law_L_run_12 : GoodIn wsL_law wsL_run_r13 := goodIn_r _ [906, 907, 1034, 943, 944, 945, 946, 758, 759, 760, 106, 761, 762, 763, 764, 765, 766, 767, 768, 769, 770, 771, 772, 947] rfl (by decide +kernel)
set_option maxRecDepth 200000 in
theorem ggL_law_L_run_13 : GoodIn wsL_law wsL_run_r14 := goodIn_r _ [948, 949, 950, 121, 119, 120, 951, 782, 783, 784, 913, 700, 701, 702, 952, 953, 954, 955, 914, 716, 717, 718, 956, 957] rfl (by decide +kernel)
set_option maxRecDepth 200000 in
theorem ggL_law_L_run_14 : GoodIn wsL_law wsL_run_r15 := goodIn_r _ [958, 959, 960, 125, 961, 774, 775, 776, 962, 963, 964, 965, 966, 967, 968, 969, 970, 971, 972, 973, 974, 794, 795, 796] rfl (by decide +kernel)
set_option maxRecDepth 200000 in
theorem ggL_law_L_run_15 : GoodIn wsL_law wsL_run_r16 := goodIn_r _ [1035, 909, 910, 911, 912, 401, 402, 403, 915, 720, 721, 916, 219, 220, 221, 1047, 1048, 1049, 1050, 24, 372, 373, 374, 375] rfl (by decide +kernel)
set_option maxRecDepth 200000 in
theorem ggL_law_L_run_16 : GoodIn wsL_law wsL_run_r17 := goodIn_r _ [376, 377, 400, 1051, 1052, 1053, 1054, 1055, 1056, 1057, 1058, 1059, 1060, 1061, 1062, 1063, 1064, 306, 307, 308, 1065, 1066, 1067, 1068] rfl (by decide +kernel)
set_option maxRecDepth 200000 in
theorem ggL_law_L_run_17 : GoodIn wsL_law wsL_run_r18 := goodIn_r _ [1092, 1093, 1094, 1095, 434, 435, 436, 437] rfl (by decide +kernel)
set_option maxRecDepth 200000 in
theorem ggL_law_L_run_18 : GoodIn wsL_law wsX110 := goodIn_r _ [1538, 1539, 1540, 1541, 1542, 1543, 1544, 1545, 1546, 1547, 1548, 1549, 1550] rfl (by decide +kernel)
set_option maxRecDepth 200000 in
theorem ggL_law_L_run_19 : GoodIn wsL_law wsX50 := goodIn_r _ [1606, 1607, 1608, 1609, 1610, 1611, 1612, 1613, 1614, 1615, 1616, 1617, 1618] rfl (by decide +kernel)
set_option maxRecDepth 200000 in
theorem ggL_law_L_run_20 : GoodIn wsL_law wsX100 := goodIn_r _ [1633, 1634] rfl (by decide +kernel)
set_option maxRecDepth 200000 in
theorem ggL_law_L_run_21 : GoodIn wsL_law wsX80 := goodIn_r _ [1570, 1571, 1572, 1573, 1574] rfl (by decide +kernel)
set_option maxRecDepth 200000 in
theorem ggL_law_L_run_22 : GoodIn wsL_law wsX90 := goodIn_r _ [1568, 1569] rfl (by decide +kernel)
set_option maxRecDepth 200000 in
theorem ggL_law_L_run_23 : GoodIn wsL_law wsX20 := goodIn_r _ [1591, 1592, 1593, 1594, 1595, 1596, 1597, 1598, 1599, 1600, 1601, 1602, 1603, 1604, 1605] rfl (by decide +kernel)
set_option maxRecDepth 200000 in
theorem ggL_law_L_run_24 : GoodIn wsL_law wsX70 := goodIn_r _ [1578, 1579, 1580, 1581, 1582] rfl (by decide +kernel)
set_option maxRecDepth 200000 in
theorem ggL_law_L_run_25 : GoodIn wsL_law wsX60 := goodIn_r _ [1575, 1576, 1577] rfl (by decide +kernel)
set_option maxRecDepth 200000 in
theorem ggL_law_L_run_26 : GoodIn wsL_law wsX00 := goodIn_r _ [1565, 1566, 1567] rfl (by decide +kernel)
set_option maxRecDepth 200000 in
theorem ggL_law_L_run_27 : GoodIn wsL_law wsX30 := goodIn_r _ [1627, 1628, 1629, 1630, 1631, 1632] rfl (by decide +kernel)
set_option maxRecDepth 20000 in
theorem ggL_law_L_run : GoodIn wsL_law wsL_run := goodIn_ca (fun w h => (List.mem_cons.mp h).elim (fun e => ggL_law_L_run_h w (List.mem_singleton.mpr e)) (fun h => (goodIn_app (goodIn_app (goodIn_app (goodIn_app (goodIn_app (goodIn_app (goodIn_app (goodIn_app (goodIn_app (goodIn_app (goodIn_app ggL_law_L_run_0 (goodIn_app ggL_law_L_run_1 (goodIn_app ggL_law_L_run_2 (goodIn_app ggL_law_L_run_3 (goodIn_app ggL_law_L_run_4 (goodIn_app ggL_law_L_run_5 (goodIn_app ggL_law_L_run_6 (goodIn_app ggL_law_L_run_7 (goodIn_app ggL_law_L_run_8 (goodIn_app ggL_law_L_run_9 (goodIn_app ggL_law_L_run_10 (goodIn_app ggL_law_L_run_11 (goodIn_app ggL_law_L_run_12 (goodIn_app ggL_law_L_run_13 (goodIn_app ggL_law_L_run_14 (goodIn_app ggL_law_L_run_15 (goodIn_app ggL_law_L_run_16 ggL_law_L_run_17))))))))))))))))) ggL_law_L_run_18) ggL_law_L_run_19) ggL_law_L_run_20) ggL_law_L_run_21) ggL_law_L_run_22) ggL_law_L_run_23) ggL_law_L_run_24) ggL_law_L_run_25) ggL_law_L_run_26) ggL_law_L_run_27) w h)) (goodIn_sub (fun _ h => List.mem_append_left _ (List.mem_append_right _ h)) (by decide +kernel))
set_option maxRecDepth 20000 in
theorem gL_law_L_run : GoodIn wsL_law (va_wsS RL 277 yL_run wsL_run) := goodIn_app (goodIn_of _ (by decide +kernel)) ggL_law_L_run
theorem dL_law_2594 : decode cL_law 2594 = .ok (.invokestatic 277, 3) := by decide +kernel
theorem dL_law_2597 : decode cL_law 2597 = .ok (.istore 6, 2) := by decide +kernel
theorem dL_law_2599 : decode cL_law 2599 = .ok (.aload_n 2, 1) := by decide +kernel
set_option maxRecDepth 200000 in
theorem ggL_law_X13_run_h : GoodIn wsL_law [.code yX13_run cX13_run 3 (some .int)] := goodIn_r _ [1462] rfl (by decide +kernel)
set_option maxRecDepth 200000 in
theorem ggL_law_X13_run_0 : GoodIn wsL_law wsX13_run_r1 := goodIn_r _ [1378, 182, 183, 1379, 1380, 1381, 5, 1382, 1383, 1384, 1385, 1386, 1387, 1388, 1389, 1199, 1390, 1391, 1392, 1393, 185, 1394, 1395, 1396] rfl (by decide +kernel)
set_option maxRecDepth 200000 in
theorem ggL_law_X13_run_1 : GoodIn wsL_law wsX13_run_r2 := goodIn_r _ [229, 230, 231, 1397, 1398, 1399, 1400, 1401, 1402, 1403, 1404, 1405, 1406, 1407, 1283, 1233, 1234, 1235, 1236, 1237, 1238, 1239, 1240, 1241] rfl (by decide +kernel)
set_option maxRecDepth 200000 in
theorem ggL_law_X13_run_2 : GoodIn wsL_law wsX13_run_r3 := goodIn_r _ [1242, 1243, 1284, 1245, 1246, 1247, 1248, 1249, 1250, 1251, 1252, 1253, 1254, 1255, 1256, 1257, 1258, 1259, 1260, 658, 659, 660, 1261, 1262] rfl (by decide +kernel)
set_option maxRecDepth 200000 in
theorem ggL_law_X13_run_3 : GoodIn wsL_law wsX13_run_r4 := goodIn_r _ [1263, 1264, 1265, 1266, 1267, 1268, 1269, 1270, 1271, 1272, 1273, 1274, 1275, 1276, 1277, 1408, 1409, 1410, 1411, 58, 184, 801, 802, 803] rfl (by decide +kernel)
set_option maxRecDepth 200000 in
theorem ggL_law_X13_run_4 : GoodIn wsL_law wsX13_run_r5 := goodIn_r _ [1412, 1413, 1414, 1415, 1416, 1417, 1418, 1419, 555, 420, 421, 422, 1420, 1421, 1422, 1423, 1424, 1425, 1426, 1427, 1428, 1429, 1430, 1431] rfl (by decide +kernel)
set_option maxRecDepth 200000 in
theorem ggL_law_X13_run_5 : GoodIn wsL_law wsX13_run_r6 := goodIn_r _ [804, 805, 806, 807, 808, 13, 14, 809, 810, 549, 550, 811, 812, 813, 814, 815, 558, 559, 560, 561, 562, 563, 564, 565] rfl (by decide +kernel)
set_option maxRecDepth 200000 in
theorem ggL_law_X13_run_6 : GoodIn wsL_law wsX13_run_r7 := goodIn_r _ [566, 567, 568, 569, 570, 571, 545, 546, 547, 548, 551, 552, 553, 554, 556, 557, 572, 573, 574, 575, 576, 577, 578, 579] rfl (by decide +kernel)
set_option maxRecDepth 200000 in
theorem ggL_law_X13_run_7 : GoodIn wsL_law wsX13_run_r8 := goodIn_r _ [580, 581, 582, 583, 584, 585, 586, 587, 588, 589, 590, 591, 592, 593, 594, 595, 596, 597, 598, 599, 600, 601, 602, 603] rfl (by decide +kernel)
set_option maxRecDepth 200000 in
theorem ggL_law_X13_run_8 : GoodIn wsL_law wsX13_run_r9 := goodIn_r _ [604, 605, 606, 607, 608, 492, 493, 609, 610, 611, 612, 613, 614, 615, 616, 617, 618, 619, 620, 621, 622, 623, 624, 625] rfl (by decide +kernel)
set_option maxRecDepth 200000 in
theorem ggL_law_X13_run_9 : GoodIn wsL_law wsX13_run_r10 := goodIn_r _ [626, 627, 628, 629, 630, 631, 632, 633, 634, 635, 636, 637, 638, 639, 640, 641, 642, 643, 644, 645, 646, 647, 648, 649] rfl (by decide +kernel)
set_option maxRecDepth 200000 in
theorem ggL_law_X13_run_10 : GoodIn wsL_law wsX13_run_r11 := goodIn_r _ [650, 651, 652, 653, 654, 655, 656, 657, 661, 662, 663, 664, 665, 666, 667, 668, 389, 390, 391, 392, 179, 669, 670, 671] rfl (by decide +kernel)
set_option maxRecDepth 200000 in
theorem ggL_law_X13_run_11 : GoodIn wsL_law wsX13_run_r12 := goodIn_r _ [672, 673, 674, 675, 676, 677, 678, 679, 680, 681, 682, 683, 684, 685, 686, 687, 816, 817, 818, 819, 820, 821, 822, 823] rfl (by decide +kernel)
set_option maxRecDepth 200000 in
theorem ggL_law_X13_run_12 : GoodIn wsL_law wsX13_run_r13 := goodIn_r _ [824, 825, 826, 827, 828, 829, 830, 831, 832, 833, 834, 835, 836, 837, 838, 839, 840, 841, 842, 843, 844, 845, 846, 847] rfl (by decide +kernel)
set_option maxRecDepth 200000 in
theorem ggL_law_X13_run_13 : GoodIn wsL_law wsX13_run_r14 := goodIn_r _ [848, 849, 850, 851, 852, 853, 854, 855, 856, 857, 858, 859, 860, 861, 862, 863, 864, 865, 866, 867, 868, 869, 927, 928] rfl (by decide +kernel)
set_option maxRecDepth 200000 in
theorem ggL_law_X13_run_14 : GoodIn wsL_law wsX13_run_r15 := goodIn_r _ [929, 930, 1432, 1433, 1434, 1435, 1073, 1074, 1075, 1076, 385, 386, 387, 388, 1077, 1078, 1079, 1080, 1081, 1082, 1083, 1084, 1436, 1437] rfl (by decide +kernel)
set_option maxRecDepth 200000 in
theorem ggL_law_X13_run_15 : GoodIn wsL_law wsX13_run_r16 := goodIn_r _ [1438, 1439, 1440, 1441, 1442, 1443, 442, 443, 444, 1100, 1101, 1102, 1103, 239, 240, 241, 242, 243] rfl (by decide +kernel)
set_option maxRecDepth 200000 in
theorem ggL_law_X13_run_16 : GoodIn wsL_law wsX130 := goodIn_r _ [1551, 1552, 1553, 1554, 1555, 1556, 1557, 1558, 1559, 1560, 1561, 1562, 1563, 1564] rfl (by decide +kernel)
set_option maxRecDepth 200000 in
theorem ggL_law_X13_run_17 : GoodIn wsL_law wsX120 := goodIn_r _ [1639, 1640, 1641, 1642, 1643, 1644, 1645, 1646, 1647, 1648, 1649, 1650] rfl (by decide +kernel)
set_option maxRecDepth 200000 in
theorem ggL_law_X13_run_18 : GoodIn wsL_law wsJx4a65c0 := goodIn_r _ [1635, 1636, 1637] rfl (by decide +kernel)
set_option maxRecDepth 200000 in
theorem ggL_law_X13_run_19 : GoodIn wsL_law wsJ60 := goodIn_r _ [1638] rfl (by decide +kernel)
set_option maxRecDepth 20000 in
theorem ggL_law_X13_run : GoodIn wsL_law wsX13_run := (fun w h => (List.mem_cons.mp h).elim (fun e => ggL_law_X13_run_h w (List.mem_singleton.mpr e)) (fun h => (goodIn_app (goodIn_app (goodIn_app (goodIn_app (goodIn_app ggL_law_X13_run_0 (goodIn_app ggL_law_X13_run_1 (goodIn_app ggL_law_X13_run_2 (goodIn_app ggL_law_X13_run_3 (goodIn_app ggL_law_X13_run_4 (goodIn_app ggL_law_X13_run_5 (goodIn_app ggL_law_X13_run_6 (goodIn_app ggL_law_X13_run_7 (goodIn_app ggL_law_X13_run_8 (goodIn_app ggL_law_X13_run_9 (goodIn_app ggL_law_X13_run_10 (goodIn_app ggL_law_X13_run_11 (goodIn_app ggL_law_X13_run_12 (goodIn_app ggL_law_X13_run_13 (goodIn_app ggL_law_X13_run_14 ggL_law_X13_run_15))))))))))))))) ggL_law_X13_run_16) ggL_law_X13_run_17) ggL_law_X13_run_18) ggL_law_X13_run_19) w h))
set_option maxRecDepth 20000 in
theorem gL_law_X13_run : GoodIn wsL_law (wsV RL 279 RX13 yX13_run wsX13_run) := goodIn_app (goodIn_of _ (by decide +kernel)) ggL_law_X13_run
theorem dL_law_2600 : decode cL_law 2600 = .ok (.invokevirtual 279, 3) := by decide +kernel
theorem dL_law_2603 : decode cL_law 2603 = .ok (.istore 7, 2) := by decide +kernel
theorem dL_law_2605 : decode cL_law 2605 = .ok (.aload_n 2, 1) := by decide +kernel
theorem dL_law_2606 : decode cL_law 2606 = .ok (.invokevirtual 147, 3) := by decide +kernel
theorem dL_law_2609 : decode cL_law 2609 = .ok (.iload 6, 2) := by decide +kernel
theorem dL_law_2611 : decode cL_law 2611 = .ok (.if_icmp .eq 5, 3) := by decide +kernel
theorem dL_law_2616 : decode cL_law 2616 = .ok (.iload 6, 2) := by decide +kernel
theorem dL_law_2618 : decode cL_law 2618 = .ok (.ifCond .ne 15, 3) := by decide +kernel
theorem dL_law_2633 : decode cL_law 2633 = .ok (.goto 179, 3) := by decide +kernel
theorem dL_law_2621 : decode cL_law 2621 = .ok (.aload_n 3, 1) := by decide +kernel
theorem dL_law_2622 : decode cL_law 2622 = .ok (.iconst 0, 1) := by decide +kernel
theorem dL_law_2623 : decode cL_law 2623 = .ok (.laload, 1) := by decide +kernel
theorem dL_law_2624 : decode cL_law 2624 = .ok (.iload 7, 2) := by decide +kernel
theorem dL_law_2626 : decode cL_law 2626 = .ok (.i2l, 1) := by decide +kernel
theorem dL_law_2627 : decode cL_law 2627 = .ok (.lcmp, 1) := by decide +kernel
theorem dL_law_2628 : decode cL_law 2628 = .ok (.ifCond .eq 5, 3) := by decide +kernel
theorem dL_law_2636 : decode cL_law 2636 = .ok (.aload_n 1, 1) := by decide +kernel
theorem dL_law_2637 : decode cL_law 2637 = .ok (.aload_n 0, 1) := by decide +kernel
theorem dL_law_2638 : decode cL_law 2638 = .ok (.iload 5, 2) := by decide +kernel
theorem dL_law_2640 : decode cL_law 2640 = .ok (.iconst 1, 1) := by decide +kernel
theorem dL_law_2641 : decode cL_law 2641 = .ok (.iadd, 1) := by decide +kernel
theorem dL_law_2642 : decode cL_law 2642 = .ok (.iaload, 1) := by decide +kernel
theorem dL_law_2643 : decode cL_law 2643 = .ok (.aload_n 3, 1) := by decide +kernel
set_option maxRecDepth 200000 in
theorem ggL_law_L_errors_h : GoodIn wsL_law [.codeWith yL_errors cL_errors 4 (some .int) [(0, 9, 12, 13)]] := goodIn_r _ [1465] rfl (by decide +kernel)
set_option maxRecDepth 200000 in
theorem ggL_law_L_errors_0 : GoodIn wsL_law wsL_errors_r1 := goodIn_r _ [191, 1466, 1467, 1468, 2, 1469, 53, 18, 28, 196, 197, 198, 199, 200, 201, 20, 1470, 1471, 1472, 52, 1473, 174, 168, 162] rfl (by decide +kernel)
set_option maxRecDepth 200000 in
theorem ggL_law_L_errors_1 : GoodIn wsL_law wsL_errors_r2 := goodIn_r _ [170, 1474, 1313, 1314, 27, 1315, 70, 71, 72, 73, 74, 1475, 487, 488, 31, 489, 490, 420, 421, 422, 491, 492, 493, 494] rfl (by decide +kernel)
set_option maxRecDepth 200000 in
theorem ggL_law_L_errors_2 : GoodIn wsL_law wsL_errors_r3 := goodIn_r _ [495, 496, 35, 497, 87, 88, 498, 499, 500, 501, 80, 78, 502, 347, 348, 23, 349, 66, 65, 503, 378, 379, 17, 380] rfl (by decide +kernel)
set_option maxRecDepth 200000 in
theorem ggL_law_L_errors_3 : GoodIn wsL_law wsL_errors_r4 := goodIn_r _ [59, 504, 505, 506, 507, 508, 509, 510, 511, 85, 86, 512, 513, 514, 515, 84, 516, 517, 518, 519, 520, 521, 522, 523] rfl (by decide +kernel)
set_option maxRecDepth 200000 in
theorem ggL_law_L_errors_4 : GoodIn wsL_law wsL_errors_r5 := goodIn_r _ [79, 524, 525, 526, 527, 528, 529, 530, 531, 532, 533, 534, 535, 1476, 1477, 1478, 1479, 1480, 700, 701, 702, 1481, 1482, 1483] rfl (by decide +kernel)
set_option maxRecDepth 200000 in
theorem ggL_law_L_errors_5 : GoodIn wsL_law wsL_errors_r6 := goodIn_r _ [1484, 1485, 373, 374, 375, 376, 377, 1486, 1487, 1488, 1489, 164, 172, 166, 1490, 1029, 1030, 43, 1031, 1032, 897, 898, 899, 116] rfl (by decide +kernel)
set_option maxRecDepth 200000 in
theorem ggL_law_L_errors_6 : GoodIn wsL_law wsL_errors_r7 := goodIn_r _ [123, 118, 124, 126, 127, 128, 129, 130, 131, 132, 900, 901, 738, 739, 94, 740, 108, 741, 742, 109, 111, 110, 107, 743] rfl (by decide +kernel)
set_option maxRecDepth 200000 in
theorem ggL_law_L_errors_7 : GoodIn wsL_law wsL_errors_r8 := goodIn_r _ [744, 745, 746, 902, 903, 1033, 905, 906, 907, 1034, 943, 944, 945, 946, 758, 759, 760, 106, 761, 762, 763, 764, 765, 766] rfl (by decide +kernel)
set_option maxRecDepth 200000 in
theorem ggL_law_L_errors_8 : GoodIn wsL_law wsL_errors_r9 := goodIn_r _ [767, 768, 769, 770, 771, 772, 947, 948, 949, 950, 121, 119, 120, 951, 782, 783, 784, 913, 952, 953, 954, 955, 914, 716] rfl (by decide +kernel)
set_option maxRecDepth 200000 in
theorem ggL_law_L_errors_9 : GoodIn wsL_law wsL_errors_r10 := goodIn_r _ [717, 718, 956, 957, 958, 959, 960, 125, 961, 774, 775, 776, 962, 963, 964, 965, 966, 967, 968, 969, 970, 971, 972, 973] rfl (by decide +kernel)
set_option maxRecDepth 200000 in
theorem ggL_law_L_errors_10 : GoodIn wsL_law wsL_errors_r11 := goodIn_r _ [974, 794, 795, 796, 1035, 909, 910, 911, 912, 401, 402, 403, 915, 720, 721, 916, 219, 220, 221, 1491, 1492, 1493, 1494, 173] rfl (by decide +kernel)
set_option maxRecDepth 200000 in
theorem ggL_law_L_errors_11 : GoodIn wsL_law wsL_errors_r12 := goodIn_r _ [1495, 1496, 1497, 1498, 1499, 1500, 734, 735, 39, 736, 95, 100, 101, 102, 98, 737, 747, 748, 749, 750, 751, 96, 752, 753] rfl (by decide +kernel)
set_option maxRecDepth 200000 in
theorem ggL_law_L_errors_12 : GoodIn wsL_law wsL_errors_r13 := goodIn_r _ [754, 755, 756, 99, 97, 757, 773, 777, 778, 779, 780, 781, 785, 786, 787, 788, 789, 790, 791, 792, 793, 1501, 1502, 1503] rfl (by decide +kernel)
set_option maxRecDepth 200000 in
theorem ggL_law_L_errors_13 : GoodIn wsL_law wsL_errors_r14 := goodIn_r _ [1504, 1505, 878, 879, 880, 881, 882, 883, 884] rfl (by decide +kernel)
set_option maxRecDepth 200000 in
theorem ggL_law_L_errors_14 : GoodIn wsL_law wsX110 := goodIn_r _ [1538, 1539, 1540, 1541, 1542, 1543, 1544, 1545, 1546, 1547, 1548, 1549, 1550] rfl (by decide +kernel)
set_option maxRecDepth 200000 in
theorem ggL_law_L_errors_15 : GoodIn wsL_law wsX10 := goodIn_r _ [1619, 1620, 1621, 1622, 1623, 1624, 1625, 1626] rfl (by decide +kernel)
set_option maxRecDepth 200000 in
theorem ggL_law_L_errors_16 : GoodIn wsL_law wsX80 := goodIn_r _ [1570, 1571, 1572, 1573, 1574] rfl (by decide +kernel)
set_option maxRecDepth 200000 in
theorem ggL_law_L_errors_17 : GoodIn wsL_law wsX70 := goodIn_r _ [1578, 1579, 1580, 1581, 1582] rfl (by decide +kernel)
set_option maxRecDepth 200000 in
theorem ggL_law_L_errors_18 : GoodIn wsL_law wsX60 := goodIn_r _ [1575, 1576, 1577] rfl (by decide +kernel)
set_option maxRecDepth 200000 in
theorem ggL_law_L_errors_19 : GoodIn wsL_law wsX90 := goodIn_r _ [1568, 1569] rfl (by decide +kernel)
set_option maxRecDepth 200000 in
theorem ggL_law_L_errors_20 : GoodIn wsL_law wsX00 := goodIn_r _ [1565, 1566, 1567] rfl (by decide +kernel)
set_option maxRecDepth 200000 in
theorem ggL_law_L_errors_21 : GoodIn wsL_law wsX40 := goodIn_r _ [1583, 1584, 1585, 1586, 1587, 1588, 1589, 1590] rfl (by decide +kernel)
set_option maxRecDepth 200000 in
theorem ggL_law_L_errors_22 : GoodIn wsL_law wsX20 := goodIn_r _ [1591, 1592, 1593, 1594, 1595, 1596, 1597, 1598, 1599, 1600, 1601, 1602, 1603, 1604, 1605] rfl (by decide +kernel)
set_option maxRecDepth 200000 in
theorem ggL_law_L_errors_23 : GoodIn wsL_law wsX30 := goodIn_r _ [1627, 1628, 1629, 1630, 1631, 1632] rfl (by decide +kernel)
set_option maxRecDepth 20000 in
theorem ggL_law_L_errors : GoodIn wsL_law wsL_errors := goodIn_ca (fun w h => (List.mem_cons.mp h).elim (fun e => ggL_law_L_errors_h w (List.mem_singleton.mpr e)) (fun h => (goodIn_app (goodIn_app (goodIn_app (goodIn_app (goodIn_app (goodIn_app (goodIn_app (goodIn_app (goodIn_app (goodIn_app (goodIn_app ggL_law_L_errors_0 (goodIn_app ggL_law_L_errors_1 (goodIn_app ggL_law_L_errors_2 (goodIn_app ggL_law_L_errors_3 (goodIn_app ggL_law_L_errors_4 (goodIn_app ggL_law_L_errors_5 (goodIn_app ggL_law_L_errors_6 (goodIn_app ggL_law_L_errors_7 (goodIn_app ggL_law_L_errors_8 (goodIn_app ggL_law_L_errors_9 (goodIn_app ggL_law_L_errors_10 (goodIn_app ggL_law_L_errors_11 (goodIn_app ggL_law_L_errors_12 ggL_law_L_errors_13))))))))))))) ggL_law_L_errors_14) ggL_law_L_errors_15) ggL_law_L_errors_16) ggL_law_L_errors_17) ggL_law_L_errors_18) ggL_law_L_errors_19) ggL_law_L_errors_20) ggL_law_L_errors_21) ggL_law_L_errors_22) ggL_law_L_errors_23) w h)) (goodIn_sub (fun _ h => List.mem_append_left _ (List.mem_append_left _ (List.mem_append_left _ (List.mem_append_right _ h)))) (by decide +kernel))
set_option maxRecDepth 20000 in
theorem gL_law_L_errors : GoodIn wsL_law (va_wsS RL 280 yL_errors wsL_errors) := goodIn_app (goodIn_of _ (by decide +kernel)) ggL_law_L_errors
theorem dL_law_2644 : decode cL_law 2644 = .ok (.invokestatic 280, 3) := by decide +kernel
theorem dL_law_2647 : decode cL_law 2647 = .ok (.istore 6, 2) := by decide +kernel
theorem dL_law_2649 : decode cL_law 2649 = .ok (.aload_n 2, 1) := by decide +kernel
theorem dL_law_2650 : decode cL_law 2650 = .ok (.aload_n 0, 1) := by decide +kernel
theorem dL_law_2651 : decode cL_law 2651 = .ok (.iload 5, 2) := by decide +kernel
theorem dL_law_2653 : decode cL_law 2653 = .ok (.iconst 1, 1) := by decide +kernel
theorem dL_law_2654 : decode cL_law 2654 = .ok (.iadd, 1) := by decide +kernel
theorem dL_law_2655 : decode cL_law 2655 = .ok (.iaload, 1) := by decide +kernel
set_option maxRecDepth 200000 in
theorem ggL_law_X13_errors_h : GoodIn wsL_law [.code yX13_errors cX13_errors 10 (some .int)] := goodIn_r _ [1509] rfl (by decide +kernel)
set_option maxRecDepth 200000 in
theorem ggL_law_X13_errors_0 : GoodIn wsL_law wsX13_errors_r1 := goodIn_r _ [182, 184, 58, 801, 802, 803, 226, 227, 5, 228, 229, 230, 231, 239, 240, 241, 242, 243, 681, 682, 683, 684, 685, 686] rfl (by decide +kernel)
set_option maxRecDepth 200000 in
theorem ggL_law_X13_errors_1 : GoodIn wsL_law wsX13_errors_r2 := goodIn_r _ [687, 389, 390, 391, 392, 179, 1510, 1511, 1512, 1513, 707, 544, 545, 546, 547, 548, 549, 550, 551, 552, 553, 554, 555, 420] rfl (by decide +kernel)
set_option maxRecDepth 200000 in
theorem ggL_law_X13_errors_2 : GoodIn wsL_law wsX13_errors_r3 := goodIn_r _ [421, 422, 556, 557, 558, 559, 560, 561, 562, 563, 564, 565, 566, 567, 568, 569, 570, 571, 13, 14, 572, 573, 574, 575] rfl (by decide +kernel)
set_option maxRecDepth 200000 in
theorem ggL_law_X13_errors_3 : GoodIn wsL_law wsX13_errors_r4 := goodIn_r _ [576, 577, 578, 579, 580, 581, 582, 583, 584, 585, 586, 587, 588, 589, 590, 591, 592, 593, 594, 595, 596, 597, 598, 599] rfl (by decide +kernel)
set_option maxRecDepth 200000 in
theorem ggL_law_X13_errors_4 : GoodIn wsL_law wsX13_errors_r5 := goodIn_r _ [600, 601, 602, 603, 604, 605, 606, 607, 608, 492, 493, 609, 610, 611, 612, 613, 614, 615, 616, 617, 618, 619, 620, 621] rfl (by decide +kernel)
set_option maxRecDepth 200000 in
theorem ggL_law_X13_errors_5 : GoodIn wsL_law wsX13_errors_r6 := goodIn_r _ [622, 623, 624, 625, 626, 627, 628, 629, 630, 631, 632, 633, 634, 635, 636, 637, 638, 639, 640, 641, 642, 643, 644, 645] rfl (by decide +kernel)
set_option maxRecDepth 200000 in
theorem ggL_law_X13_errors_6 : GoodIn wsL_law wsX13_errors_r7 := goodIn_r _ [646, 647, 648, 649, 650, 651, 652, 653, 654, 655, 656, 657, 658, 659, 660, 661, 662, 663, 664, 665, 666, 667, 668, 669] rfl (by decide +kernel)
set_option maxRecDepth 200000 in
theorem ggL_law_X13_errors_7 : GoodIn wsL_law wsX13_errors_r8 := goodIn_r _ [670, 671, 672, 673, 674, 675, 676, 677, 678, 679, 680, 804, 805, 806, 807, 808, 809, 810, 811, 812, 813, 814, 815, 816] rfl (by decide +kernel)
set_option maxRecDepth 200000 in
theorem ggL_law_X13_errors_8 : GoodIn wsL_law wsX13_errors_r9 := goodIn_r _ [817, 818, 819, 820, 821, 822, 823, 824, 825, 826, 827, 828, 829, 830, 831, 832, 833, 834, 835, 836, 837, 838, 839, 840] rfl (by decide +kernel)
set_option maxRecDepth 200000 in
theorem ggL_law_X13_errors_9 : GoodIn wsL_law wsX13_errors_r10 := goodIn_r _ [841, 842, 843, 844, 845, 846, 847, 848, 849, 850, 851, 852, 853, 854, 855, 856, 857, 858, 859, 860, 861, 862, 863, 864] rfl (by decide +kernel)
set_option maxRecDepth 200000 in
theorem ggL_law_X13_errors_10 : GoodIn wsL_law wsX13_errors_r11 := goodIn_r _ [865, 866, 867, 868, 869, 927, 928, 929, 930, 1514, 1515, 1516] rfl (by decide +kernel)
set_option maxRecDepth 200000 in
theorem ggL_law_X13_errors_11 : GoodIn wsL_law wsX130 := goodIn_r _ [1551, 1552, 1553, 1554, 1555, 1556, 1557, 1558, 1559, 1560, 1561, 1562, 1563, 1564] rfl (by decide +kernel)
set_option maxRecDepth 200000 in
theorem ggL_law_X13_errors_12 : GoodIn wsL_law wsX120 := goodIn_r _ [1639, 1640, 1641, 1642, 1643, 1644, 1645, 1646, 1647, 1648, 1649, 1650] rfl (by decide +kernel)
set_option maxRecDepth 200000 in
theorem ggL_law_X13_errors_13 : GoodIn wsL_law wsJx4a65c0 := goodIn_r _ [1635, 1636, 1637] rfl (by decide +kernel)
set_option maxRecDepth 200000 in
theorem ggL_law_X13_errors_14 : GoodIn wsL_law wsJ60 := goodIn_r _ [1638] rfl (by decide +kernel)
set_option maxRecDepth 20000 in
theorem ggL_law_X13_errors : GoodIn wsL_law wsX13_errors := (fun w h => (List.mem_cons.mp h).elim (fun e => ggL_law_X13_errors_h w (List.mem_singleton.mpr e)) (fun h => (goodIn_app (goodIn_app (goodIn_app (goodIn_app (goodIn_app ggL_law_X13_errors_0 (goodIn_app ggL_law_X13_errors_1 (goodIn_app ggL_law_X13_errors_2 (goodIn_app ggL_law_X13_errors_3 (goodIn_app ggL_law_X13_errors_4 (goodIn_app ggL_law_X13_errors_5 (goodIn_app ggL_law_X13_errors_6 (goodIn_app ggL_law_X13_errors_7 (goodIn_app ggL_law_X13_errors_8 (goodIn_app ggL_law_X13_errors_9 ggL_law_X13_errors_10)))))))))) ggL_law_X13_errors_11) ggL_law_X13_errors_12) ggL_law_X13_errors_13) ggL_law_X13_errors_14) w h))
set_option maxRecDepth 20000 in
theorem gL_law_X13_errors : GoodIn wsL_law (wsV RL 282 RX13 yX13_errors wsX13_errors) := goodIn_app (goodIn_of _ (by decide +kernel)) ggL_law_X13_errors
theorem dL_law_2656 : decode cL_law 2656 = .ok (.invokevirtual 282, 3) := by decide +kernel
theorem dL_law_2659 : decode cL_law 2659 = .ok (.istore 7, 2) := by decide +kernel
theorem dL_law_2661 : decode cL_law 2661 = .ok (.aload_n 2, 1) := by decide +kernel
theorem dL_law_2662 : decode cL_law 2662 = .ok (.invokevirtual 147, 3) := by decide +kernel
theorem dL_law_2665 : decode cL_law 2665 = .ok (.iload 6, 2) := by decide +kernel
theorem dL_law_2667 : decode cL_law 2667 = .ok (.if_icmp .eq 5, 3) := by decide +kernel
theorem dL_law_2672 : decode cL_law 2672 = .ok (.iload 6, 2) := by decide +kernel
theorem dL_law_2674 : decode cL_law 2674 = .ok (.ifCond .ne 15, 3) := by decide +kernel
theorem dL_law_2689 : decode cL_law 2689 = .ok (.goto 123, 3) := by decide +kernel
theorem dL_law_2677 : decode cL_law 2677 = .ok (.aload_n 3, 1) := by decide +kernel
theorem dL_law_2678 : decode cL_law 2678 = .ok (.iconst 0, 1) := by decide +kernel
theorem dL_law_2679 : decode cL_law 2679 = .ok (.laload, 1) := by decide +kernel
theorem dL_law_2680 : decode cL_law 2680 = .ok (.iload 7, 2) := by decide +kernel
theorem dL_law_2682 : decode cL_law 2682 = .ok (.i2l, 1) := by decide +kernel
theorem dL_law_2683 : decode cL_law 2683 = .ok (.lcmp, 1) := by decide +kernel
theorem dL_law_2684 : decode cL_law 2684 = .ok (.ifCond .eq 5, 3) := by decide +kernel
theorem dL_law_2692 : decode cL_law 2692 = .ok (.aload_n 1, 1) := by decide +kernel
theorem dL_law_2693 : decode cL_law 2693 = .ok (.aload_n 0, 1) := by decide +kernel
theorem dL_law_2694 : decode cL_law 2694 = .ok (.iload 5, 2) := by decide +kernel
theorem dL_law_2696 : decode cL_law 2696 = .ok (.iconst 1, 1) := by decide +kernel
theorem dL_law_2697 : decode cL_law 2697 = .ok (.iadd, 1) := by decide +kernel
theorem dL_law_2698 : decode cL_law 2698 = .ok (.iaload, 1) := by decide +kernel
theorem dL_law_2699 : decode cL_law 2699 = .ok (.aload 4, 2) := by decide +kernel
set_option maxRecDepth 200000 in
theorem ggL_law_L_meanKey : GoodIn wsL_law wsL_meanKey := goodIn_ca (goodIn_r _ [1519, 191, 1520, 1521, 1522, 2, 1523, 18, 196, 197, 198, 199, 200, 201, 20, 1119, 1061, 1062, 23, 1063, 376, 347, 348, 349, 66, 65, 1064, 306, 307, 17, 308, 59, 1568, 1569, 1538, 1539, 1540, 1541, 1542, 1543, 1544, 1545, 1546, 1547, 1548, 1549, 1550, 1565, 1566, 1567] rfl (by decide +kernel)) (goodIn_sub (fun _ h => List.mem_append_left _ (List.mem_append_left _ (List.mem_append_left _ (List.mem_append_right _ h)))) (by decide +kernel))
set_option maxRecDepth 20000 in
theorem gL_law_L_meanKey : GoodIn wsL_law (va_wsS RL 283 yL_meanKey wsL_meanKey) := goodIn_app (goodIn_of _ (by decide +kernel)) ggL_law_L_meanKey
theorem dL_law_2701 : decode cL_law 2701 = .ok (.invokestatic 283, 3) := by decide +kernel
theorem dL_law_2704 : decode cL_law 2704 = .ok (.istore 6, 2) := by decide +kernel
theorem dL_law_2706 : decode cL_law 2706 = .ok (.aload_n 2, 1) := by decide +kernel
theorem dL_law_2707 : decode cL_law 2707 = .ok (.aload_n 0, 1) := by decide +kernel
theorem dL_law_2708 : decode cL_law 2708 = .ok (.iload 5, 2) := by decide +kernel
theorem dL_law_2710 : decode cL_law 2710 = .ok (.iconst 1, 1) := by decide +kernel
theorem dL_law_2711 : decode cL_law 2711 = .ok (.iadd, 1) := by decide +kernel
theorem dL_law_2712 : decode cL_law 2712 = .ok (.iaload, 1) := by decide +kernel
set_option maxRecDepth 200000 in
theorem ggL_law_X13_meanKey : GoodIn wsL_law wsX13_meanKey := goodIn_r _ [1527, 182, 179, 226, 227, 5, 228, 229, 230, 231, 239, 240, 241, 242, 243, 1551, 1552, 1553, 1554, 1555, 1556, 1557, 1558, 1559, 1560, 1561, 1562, 1563, 1564] rfl (by decide +kernel)
set_option maxRecDepth 20000 in
theorem gL_law_X13_meanKey : GoodIn wsL_law (wsV RL 286 RX13 yX13_meanKey wsX13_meanKey) := goodIn_app (goodIn_of _ (by decide +kernel)) ggL_law_X13_meanKey
theorem dL_law_2713 : decode cL_law 2713 = .ok (.invokevirtual 286, 3) := by decide +kernel
theorem dL_law_2716 : decode cL_law 2716 = .ok (.dstore 7, 2) := by decide +kernel
theorem dL_law_2718 : decode cL_law 2718 = .ok (.aload_n 2, 1) := by decide +kernel
theorem dL_law_2719 : decode cL_law 2719 = .ok (.invokevirtual 147, 3) := by decide +kernel
theorem dL_law_2722 : decode cL_law 2722 = .ok (.iload 6, 2) := by decide +kernel
theorem dL_law_2724 : decode cL_law 2724 = .ok (.if_icmp .eq 5, 3) := by decide +kernel
theorem dL_law_2729 : decode cL_law 2729 = .ok (.iload 6, 2) := by decide +kernel
theorem dL_law_2731 : decode cL_law 2731 = .ok (.ifCond .ne 35, 3) := by decide +kernel
theorem dL_law_2766 : decode cL_law 2766 = .ok (.goto 46, 3) := by decide +kernel
theorem dL_law_2734 : decode cL_law 2734 = .ok (.aload 4, 2) := by decide +kernel
theorem dL_law_2736 : decode cL_law 2736 = .ok (.iconst 0, 1) := by decide +kernel
theorem dL_law_2737 : decode cL_law 2737 = .ok (.daload, 1) := by decide +kernel
theorem dL_law_2738 : decode cL_law 2738 = .ok (.dload 7, 2) := by decide +kernel
theorem dL_law_2740 : decode cL_law 2740 = .ok (.dcmp .l, 1) := by decide +kernel
theorem dL_law_2741 : decode cL_law 2741 = .ok (.ifCond .eq 25, 3) := by decide +kernel
set_option maxHeartbeats 4000000 in
set_option maxRecDepth 100000 in
theorem law_39 {l : Launch} {p : Program} {e : Env} {s : State} {m : MethodId} {below : List Frame} {meth : Method} {c : Code} {bs : Nat} {xs : Nat → Int32} {A : Nat → Prop} {dC : Nat → ClassId} {dI : Nat → Nat → Nat} {g : Nat → ClassId} {a b r1 r2 : Nat → Nat} {ou od : Nat} {Q : State → Prop} {H : Heap} {locs : List Loc} {ls : Array Slot} (C9 : LC l p s m c bs xs A dC dI g a b r1 r2 ou od) (hP : va_P (dC, dI) vwCl (lawL a g ou ++ lawR b r1 r2 g od) H) (hS : va_S A s.heap H locs) (hl : lv_has ls 10 [(5, .int 0), (0, .ref bs), (1, .ref (a 0)), (2, .ref (b 0)), (3, .ref ou), (4, .ref od)]) (hend : ∀ (H : Heap) (locs : List Loc), va_S A s.heap H locs → ∀ (ls : Array Slot), lv_has ls 10 [(5, .int 0), (0, .ref bs)] → W p l e room_1 s m #[Value.ref bs] below meth c H locs 6000 90000 Q (F0 m 2812 ls [])) : W p l e room_1 s m #[Value.ref bs] below meth c H locs 2000 30000 Q (F0 m 2592 ls []) := by
  obtain ⟨hlf, hx, hb, hml, hown, hts, hX, hbl, hbA, hK, hG, hA, hDD⟩ := C9
  refine lv_aload_n hx hb dL_law_2592 rfl (lv_at hl 2 rfl) ?_
  refine lv_aload_n hx hb dL_law_2593 rfl (lv_at hl 4 rfl) ?_
  have hPc : va_P (dC, dI) vwCl (offW a g ++ [(ou, .inl (g 2, 1, .inr (.inl (fun _ => 0))))]) H := P_l hP
  have hDc : va_D A (offW a g ++ [(ou, .inl (g 2, 1, .inr (.inl (fun _ => 0))))]) := D_l hDD
  have hPm0 : va_P (dC, dI) vwCl (modW b r1 r2 g 0) H := P_l (P_r hP)
  have hFc : ∀ q, va_A (offW a g ++ [(ou, .inl (g 2, 1, .inr (.inl (fun _ => 0))))]) H.size q → A q := A_all hDc hA hS.1
  refine va_calli (vx_runSW (As := [.ref (a 0), .ref ou]) (rest := []) ⟨hx, hb, hml, hown, hts⟩ (c_L_run l hlf dC dI g a ou (fun _ => 0) H.size) (vx_cwSW 2 hts (gX gL_law_L_run) rfl rfl rfl (by decide +kernel) ⟨Nat.le_of_ble_eq_true rfl, Nat.le_of_ble_eq_true rfl⟩) ⟨PG_blind, PG_call hK hG hS hPc hDc hFc⟩ rfl rfl hl.1 rfl (lv_room (Nat.le_of_ble_eq_true rfl)) dL_law_2594 ⟨Nat.le_of_ble_eq_true rfl, Nat.le_of_ble_eq_true rfl⟩) hS (fun q _ h => hFc q h) hFc (fun r_1 f_1 t_1 H_1 L_1 ht_1 hvm_1 hw_1 hB_1 hz_1 hk_1 hS => ?_)
  rw [ht_1] at hB_1
  have hPm : va_P (dC, dI) vwCl (modW b r1 r2 g 0) H_1 := P_l (rest_kept hP hDD hk_1)
  obtain ⟨hr1, hv1⟩ := hw_1
  obtain rfl : r_1 = (cd true true true) := hr1
  refine lv_istore (lv' := [(6, .int (cd true true true)), (5, .int 0), (0, .ref bs), (1, .ref (a 0)), (2, .ref (b 0)), (3, .ref ou), (4, .ref od)]) hx hb dL_law_2597 hl (by decide) rfl (fun ls hl => ?_)
  refine lv_aload_n hx hb dL_law_2599 rfl (lv_at hl 4 rfl) ?_
  have hDm : va_D A (modW b r1 r2 g 0) := D_l (D_r hDD)
  have hFm : ∀ q, va_A (modW b r1 r2 g 0) H_1.size q → A q := A_all hDm hA hS.1
  refine va_calli (va_runV (As := []) (rest := []) ⟨hx, hb, hml, hown, hts⟩ (c_X13_run l dC dI g b r1 r2 0 H_1.size) (cwV 0 hts (gX gL_law_X13_run) rfl rfl rfl (by decide +kernel) ⟨Nat.le_of_ble_eq_true rfl, Nat.le_of_ble_eq_true rfl⟩) ⟨PG_blind, va_recv hK hPm (ci := 15) (q0 := 0) rfl (m_0 b r1 r2 g 0), PG_call hK hG hS hPm hDm hFm⟩ rfl rfl hl.1 rfl (lv_room (Nat.le_of_ble_eq_true rfl)) dL_law_2600 ⟨Nat.le_of_ble_eq_true rfl, Nat.le_of_ble_eq_true rfl⟩) hS (fun q _ h => hFm q h) hFm (fun r_2 u_2 t_2 H_2 L_2 ht_2 hvm_2 hw_2 hB_2 hz_2 hk_2 hS => ?_)
  replace hB_1 := kept_by hB_1 hk_2 (ap_ou hDD)
  obtain ⟨fs, hB_2⟩ := hB_2
  rw [ht_2] at hB_2
  refine lv_istore (lv' := [(7, .int r_2), (6, .int (cd true true true)), (5, .int 0), (0, .ref bs), (1, .ref (a 0)), (2, .ref (b 0)), (3, .ref ou), (4, .ref od)]) hx hb dL_law_2603 hl (by decide) rfl (fun ls hl => ?_)
  refine lv_aload_n hx hb dL_law_2605 rfl (lv_at hl 5 rfl) ?_
  have hFt := A_one (e := .inr (15, .int ((cd true true true)) :: fs)) (sz := 0) (H0 := H) (A_b0 hDD) hA hS
  have hDt : va_D A [(b 0, .inr (15, .int ((cd true true true)) :: fs))] := D_one (A_b0 hDD)
  refine va_calli (va_runV (As := []) (rest := []) ⟨hx, hb, hml, hown, hts⟩ (c_X13_thrown l dC dI g [(b 0, .inr (15, .int ((cd true true true)) :: fs))] (b 0) ((cd true true true)) fs 0 rfl H_2.size) (cwV 0 hts (gX gL_law_X13_thrown) rfl rfl rfl (by decide +kernel) ⟨Nat.le_of_ble_eq_true rfl, Nat.le_of_ble_eq_true rfl⟩) ⟨PG_blind, va_recv hK hB_2 (ci := 15) (q0 := 0) rfl rfl, PG_call hK hG hS hB_2 hDt hFt⟩ rfl rfl hl.1 rfl (lv_room (Nat.le_of_ble_eq_true rfl)) dL_law_2606 ⟨Nat.le_of_ble_eq_true rfl, Nat.le_of_ble_eq_true rfl⟩) hS (fun q _ h => hFt q h) hFt (fun r_3 u_3 t_3 H_3 L_3 ht_3 hvm_3 hw_3 hB_3 hz_3 hk_3 hS => ?_)
  obtain rfl : r_3 = (cd true true true) := hw_3
  replace hB_1 := kept_by hB_1 hk_3 (fun j k p q hj hk e => by
      obtain rfl : j = 0 := by
        have h1 := (List.getElem?_eq_some_iff.mp hj).1
        simp only [List.length_singleton] at h1
        omega
      cases hj
      exact ap_ou hDD 0 k _ q (m_0 b r1 r2 g 0) hk e)
  refine lv_iload hx hb dL_law_2609 (lv_at hl 1 rfl) ?_
  refine lv_icmp_eq (tgt := 2616) hx hb dL_law_2611 (by decide) (fun _ => ?_) (fun c9 => absurd rfl c9)
  refine lv_iload hx hb dL_law_2616 (lv_at hl 1 rfl) ?_
  refine lv_if_ne (tgt := 2633) hx hb dL_law_2618 (by decide) (fun h0 => ?_) (fun h0 => ?_)
  · refine lv_goto (tgt := 2812) hx hb dL_law_2633 (by decide) ?_
    refine W.widen (k := 6000) (n := 90000) (Nat.le_of_ble_eq_true rfl) (Nat.le_of_ble_eq_true rfl) ?_
    exact hend _ _ hS _ (lv_sub hl [2, 3] rfl)
  · obtain rfl : r_2 = 0 := hw_2 h0
    refine lv_aload_n hx hb dL_law_2621 rfl (lv_at hl 6 rfl) ?_
    refine lv_iconst (v := 0) hx hb dL_law_2622 (by decide) ?_
    refine va_lald hx hb hK hB_1 0 2 rfl rfl (by unfold vp_in; decide) dL_law_2623 ?_
    refine W.eq (g2 := F0 m 2624 ls [.long ((0 : Int32).toInt64)]) (by rw [show f_1 (0 : Int32).toNatClampNeg = (0 : Int32).toInt64 from hv1 h0]) ?_
    refine lv_iload hx hb dL_law_2624 (lv_at hl 0 rfl) ?_
    refine lv_i2l (v := (0 : Int32).toInt64) hx hb dL_law_2626 rfl ?_
    refine W.lcmp hx hb dL_law_2627 ?_
    refine W.eq (g2 := F0 m 2628 ls [.int 0]) (by first | rw [lg_cmp_self] | exact congrArg (fun z => F0 m 2628 ls [.int z]) (lg_cmp_self _)) ?_
    refine lv_if_eq (tgt := 2633) hx hb dL_law_2628 (by decide) (fun c_1 => ?_) (fun c_1 => absurd (by decide) c_1)
    refine lv_goto (tgt := 2812) hx hb dL_law_2633 (by decide) ?_
    refine W.widen (k := 6000) (n := 90000) (Nat.le_of_ble_eq_true rfl) (Nat.le_of_ble_eq_true rfl) ?_
    exact hend _ _ hS _ (lv_sub hl [2, 3] rfl)
set_option maxHeartbeats 4000000 in
set_option maxRecDepth 100000 in
theorem law_40 {l : Launch} {p : Program} {e : Env} {s : State} {m : MethodId} {below : List Frame} {meth : Method} {c : Code} {bs : Nat} {xs : Nat → Int32} {A : Nat → Prop} {dC : Nat → ClassId} {dI : Nat → Nat → Nat} {g : Nat → ClassId} {a b r1 r2 : Nat → Nat} {ou od : Nat} {Q : State → Prop} {H : Heap} {locs : List Loc} {ls : Array Slot} (C9 : LC l p s m c bs xs A dC dI g a b r1 r2 ou od) (hP : va_P (dC, dI) vwCl (lawL a g ou ++ lawR b r1 r2 g od) H) (hS : va_S A s.heap H locs) (hl : lv_has ls 10 [(5, .int 0), (0, .ref bs), (1, .ref (a 0)), (2, .ref (b 0)), (3, .ref ou), (4, .ref od)]) (hend : ∀ (H : Heap) (locs : List Loc), va_S A s.heap H locs → ∀ (ls : Array Slot), lv_has ls 10 [(5, .int 0), (0, .ref bs)] → W p l e room_1 s m #[Value.ref bs] below meth c H locs 6000 90000 Q (F0 m 2812 ls [])) : W p l e room_1 s m #[Value.ref bs] below meth c H locs 2000 30000 Q (F0 m 2636 ls []) := by
  obtain ⟨hlf, hx, hb, hml, hown, hts, hX, hbl, hbA, hK, hG, hA, hDD⟩ := C9
  refine lv_aload_n hx hb dL_law_2636 rfl (lv_at hl 2 rfl) ?_
  refine lv_aload_n hx hb dL_law_2637 rfl (lv_at hl 1 rfl) ?_
  refine lv_iload hx hb dL_law_2638 (lv_at hl 0 rfl) ?_
  refine lv_iconst (v := 1) hx hb dL_law_2640 (by decide) ?_
  refine lv_iadd hx hb dL_law_2641 ?_
  refine lv_topi (fun x_1 ex_1 => ?_)
  obtain rfl : x_1 = 1 := ex_1.trans (by decide)
  refine va_sld hx hb hX hbl hbA hS (by unfold vp_in; decide) dL_law_2642 ?_
  refine W.eq (g2 := F0 m 2643 ls [.int (xs 1), .ref (a 0)]) rfl ?_
  refine lv_aload_n hx hb dL_law_2643 rfl (lv_at hl 4 rfl) ?_
  have hPc : va_P (dC, dI) vwCl (offW a g ++ [(ou, .inl (g 2, 1, .inr (.inl (fun _ => 0))))]) H := P_l hP
  have hDc : va_D A (offW a g ++ [(ou, .inl (g 2, 1, .inr (.inl (fun _ => 0))))]) := D_l hDD
  have hPm0 : va_P (dC, dI) vwCl (modW b r1 r2 g 0) H := P_l (P_r hP)
  have hFc : ∀ q, va_A (offW a g ++ [(ou, .inl (g 2, 1, .inr (.inl (fun _ => 0))))]) H.size q → A q := A_all hDc hA hS.1
  refine va_calli (vx_runSW (As := [.ref (a 0), .int (xs 1), .ref ou]) (rest := []) ⟨hx, hb, hml, hown, hts⟩ (c_L_errors l hlf dC dI g a (xs 1) ou (fun _ => 0) H.size) (vx_cwSW 3 hts (gX gL_law_L_errors) rfl rfl rfl (by decide +kernel) ⟨Nat.le_of_ble_eq_true rfl, Nat.le_of_ble_eq_true rfl⟩) ⟨PG_blind, PG_call hK hG hS hPc hDc hFc⟩ rfl rfl hl.1 rfl (lv_room (Nat.le_of_ble_eq_true rfl)) dL_law_2644 ⟨Nat.le_of_ble_eq_true rfl, Nat.le_of_ble_eq_true rfl⟩) hS (fun q _ h => hFc q h) hFc (fun r_1 f_1 t_1 H_1 L_1 ht_1 hvm_1 hw_1 hB_1 hz_1 hk_1 hS => ?_)
  rw [ht_1] at hB_1
  have hPm : va_P (dC, dI) vwCl (modW b r1 r2 g 0) H_1 := P_l (rest_kept hP hDD hk_1)
  obtain ⟨hr1, hv1⟩ := hw_1
  obtain rfl : r_1 = (cd (TOKb (xs 1)) true true) := hr1
  refine lv_istore (lv' := [(6, .int (cd (TOKb (xs 1)) true true)), (5, .int 0), (0, .ref bs), (1, .ref (a 0)), (2, .ref (b 0)), (3, .ref ou), (4, .ref od)]) hx hb dL_law_2647 hl (by decide) rfl (fun ls hl => ?_)
  refine lv_aload_n hx hb dL_law_2649 rfl (lv_at hl 4 rfl) ?_
  refine lv_aload_n hx hb dL_law_2650 rfl (lv_at hl 2 rfl) ?_
  refine lv_iload hx hb dL_law_2651 (lv_at hl 1 rfl) ?_
  refine lv_iconst (v := 1) hx hb dL_law_2653 (by decide) ?_
  refine lv_iadd hx hb dL_law_2654 ?_
  refine lv_topi (fun x_2 ex_2 => ?_)
  obtain rfl : x_2 = 1 := ex_2.trans (by decide)
  refine va_sld hx hb hX hbl hbA hS (by unfold vp_in; decide) dL_law_2655 ?_
  refine W.eq (g2 := F0 m 2656 ls [.int (xs 1), .ref (b 0)]) rfl ?_
  have hDm : va_D A (modW b r1 r2 g 0) := D_l (D_r hDD)
  have hFm : ∀ q, va_A (modW b r1 r2 g 0) H_1.size q → A q := A_all hDm hA hS.1
  refine va_calli (va_runV (As := [.int (xs 1)]) (rest := []) ⟨hx, hb, hml, hown, hts⟩ (c_X13_errors l dC dI g b r1 r2 (xs 1) 0 H_1.size) (cwV 1 hts (gX gL_law_X13_errors) rfl rfl rfl (by decide +kernel) ⟨Nat.le_of_ble_eq_true rfl, Nat.le_of_ble_eq_true rfl⟩) ⟨PG_blind, va_recv hK hPm (ci := 15) (q0 := 0) rfl (m_0 b r1 r2 g 0), PG_call hK hG hS hPm hDm hFm⟩ rfl rfl hl.1 rfl (lv_room (Nat.le_of_ble_eq_true rfl)) dL_law_2656 ⟨Nat.le_of_ble_eq_true rfl, Nat.le_of_ble_eq_true rfl⟩) hS (fun q _ h => hFm q h) hFm (fun r_2 u_2 t_2 H_2 L_2 ht_2 hvm_2 hw_2 hB_2 hz_2 hk_2 hS => ?_)
  replace hB_1 := kept_by hB_1 hk_2 (ap_ou hDD)
  obtain ⟨fs, hB_2⟩ := hB_2
  rw [ht_2] at hB_2
  refine lv_istore (lv' := [(7, .int r_2), (6, .int (cd (TOKb (xs 1)) true true)), (5, .int 0), (0, .ref bs), (1, .ref (a 0)), (2, .ref (b 0)), (3, .ref ou), (4, .ref od)]) hx hb dL_law_2659 hl (by decide) rfl (fun ls hl => ?_)
  refine lv_aload_n hx hb dL_law_2661 rfl (lv_at hl 5 rfl) ?_
  have hFt := A_one (e := .inr (15, .int ((cd (TOKb (xs 1)) true true)) :: fs)) (sz := 0) (H0 := H) (A_b0 hDD) hA hS
  have hDt : va_D A [(b 0, .inr (15, .int ((cd (TOKb (xs 1)) true true)) :: fs))] := D_one (A_b0 hDD)
  refine va_calli (va_runV (As := []) (rest := []) ⟨hx, hb, hml, hown, hts⟩ (c_X13_thrown l dC dI g [(b 0, .inr (15, .int ((cd (TOKb (xs 1)) true true)) :: fs))] (b 0) ((cd (TOKb (xs 1)) true true)) fs 0 rfl H_2.size) (cwV 0 hts (gX gL_law_X13_thrown) rfl rfl rfl (by decide +kernel) ⟨Nat.le_of_ble_eq_true rfl, Nat.le_of_ble_eq_true rfl⟩) ⟨PG_blind, va_recv hK hB_2 (ci := 15) (q0 := 0) rfl rfl, PG_call hK hG hS hB_2 hDt hFt⟩ rfl rfl hl.1 rfl (lv_room (Nat.le_of_ble_eq_true rfl)) dL_law_2662 ⟨Nat.le_of_ble_eq_true rfl, Nat.le_of_ble_eq_true rfl⟩) hS (fun q _ h => hFt q h) hFt (fun r_3 u_3 t_3 H_3 L_3 ht_3 hvm_3 hw_3 hB_3 hz_3 hk_3 hS => ?_)
  obtain rfl : r_3 = (cd (TOKb (xs 1)) true true) := hw_3
  replace hB_1 := kept_by hB_1 hk_3 (fun j k p q hj hk e => by
      obtain rfl : j = 0 := by
        have h1 := (List.getElem?_eq_some_iff.mp hj).1
        simp only [List.length_singleton] at h1
        omega
      cases hj
      exact ap_ou hDD 0 k _ q (m_0 b r1 r2 g 0) hk e)
  refine lv_iload hx hb dL_law_2665 (lv_at hl 1 rfl) ?_
  refine lv_icmp_eq (tgt := 2672) hx hb dL_law_2667 (by decide) (fun _ => ?_) (fun c9 => absurd rfl c9)
  refine lv_iload hx hb dL_law_2672 (lv_at hl 1 rfl) ?_
  refine lv_if_ne (tgt := 2689) hx hb dL_law_2674 (by decide) (fun h0 => ?_) (fun h0 => ?_)
  · refine lv_goto (tgt := 2812) hx hb dL_law_2689 (by decide) ?_
    refine W.widen (k := 6000) (n := 90000) (Nat.le_of_ble_eq_true rfl) (Nat.le_of_ble_eq_true rfl) ?_
    exact hend _ _ hS _ (lv_sub hl [2, 3] rfl)
  · obtain rfl : r_2 = 0 := hw_2 h0
    refine lv_aload_n hx hb dL_law_2677 rfl (lv_at hl 6 rfl) ?_
    refine lv_iconst (v := 0) hx hb dL_law_2678 (by decide) ?_
    refine va_lald hx hb hK hB_1 0 2 rfl rfl (by unfold vp_in; decide) dL_law_2679 ?_
    refine W.eq (g2 := F0 m 2680 ls [.long ((0 : Int32).toInt64)]) (by rw [show f_1 (0 : Int32).toNatClampNeg = (0 : Int32).toInt64 from hv1 h0]) ?_
    refine lv_iload hx hb dL_law_2680 (lv_at hl 0 rfl) ?_
    refine lv_i2l (v := (0 : Int32).toInt64) hx hb dL_law_2682 rfl ?_
    refine W.lcmp hx hb dL_law_2683 ?_
    refine W.eq (g2 := F0 m 2684 ls [.int 0]) (by first | rw [lg_cmp_self] | exact congrArg (fun z => F0 m 2684 ls [.int z]) (lg_cmp_self _)) ?_
    refine lv_if_eq (tgt := 2689) hx hb dL_law_2684 (by decide) (fun c_3 => ?_) (fun c_3 => absurd (by decide) c_3)
    refine lv_goto (tgt := 2812) hx hb dL_law_2689 (by decide) ?_
    refine W.widen (k := 6000) (n := 90000) (Nat.le_of_ble_eq_true rfl) (Nat.le_of_ble_eq_true rfl) ?_
    exact hend _ _ hS _ (lv_sub hl [2, 3] rfl)
set_option maxHeartbeats 4000000 in
set_option maxRecDepth 100000 in
theorem law_41 {l : Launch} {p : Program} {e : Env} {s : State} {m : MethodId} {below : List Frame} {meth : Method} {c : Code} {bs : Nat} {xs : Nat → Int32} {A : Nat → Prop} {dC : Nat → ClassId} {dI : Nat → Nat → Nat} {g : Nat → ClassId} {a b r1 r2 : Nat → Nat} {ou od : Nat} {Q : State → Prop} {H : Heap} {locs : List Loc} {ls : Array Slot} (C9 : LC l p s m c bs xs A dC dI g a b r1 r2 ou od) (hP : va_P (dC, dI) vwCl (lawL a g ou ++ lawR b r1 r2 g od) H) (hS : va_S A s.heap H locs) (hl : lv_has ls 10 [(5, .int 0), (0, .ref bs), (1, .ref (a 0)), (2, .ref (b 0)), (3, .ref ou), (4, .ref od)]) (hend : ∀ (H : Heap) (locs : List Loc), va_S A s.heap H locs → ∀ (ls : Array Slot), lv_has ls 10 [(5, .int 0), (0, .ref bs)] → W p l e room_1 s m #[Value.ref bs] below meth c H locs 6000 90000 Q (F0 m 2812 ls [])) : W p l e room_1 s m #[Value.ref bs] below meth c H locs 2000 30000 Q (F0 m 2692 ls []) := by
  obtain ⟨hlf, hx, hb, hml, hown, hts, hX, hbl, hbA, hK, hG, hA, hDD⟩ := C9
  refine lv_aload_n hx hb dL_law_2692 rfl (lv_at hl 2 rfl) ?_
  refine lv_aload_n hx hb dL_law_2693 rfl (lv_at hl 1 rfl) ?_
  refine lv_iload hx hb dL_law_2694 (lv_at hl 0 rfl) ?_
  refine lv_iconst (v := 1) hx hb dL_law_2696 (by decide) ?_
  refine lv_iadd hx hb dL_law_2697 ?_
  refine lv_topi (fun x_1 ex_1 => ?_)
  obtain rfl : x_1 = 1 := ex_1.trans (by decide)
  refine va_sld hx hb hX hbl hbA hS (by unfold vp_in; decide) dL_law_2698 ?_
  refine W.eq (g2 := F0 m 2699 ls [.int (xs 1), .ref (a 0)]) rfl ?_
  refine lv_aload hx hb dL_law_2699 (lv_at hl 5 rfl) ?_
  have hPc : va_P (dC, dI) vwCl (offW a g ++ [(od, .inl (g 3, 1, .inr (.inr (.inr (.inl (fun _ => 0))))))]) H := va_P.app (P_l (P_l hP)) (P_r (P_r hP))
  have hDc : va_D A (offW a g ++ [(od, .inl (g 3, 1, .inr (.inr (.inr (.inl (fun _ => 0))))))]) := D_od hDD
  have hPm0 : va_P (dC, dI) vwCl (modW b r1 r2 g 0) H := P_l (P_r hP)
  have hFc : ∀ q, va_A (offW a g ++ [(od, .inl (g 3, 1, .inr (.inr (.inr (.inl (fun _ => 0))))))]) H.size q → A q := A_all hDc hA hS.1
  refine va_calli (vx_runSW (As := [.ref (a 0), .int (xs 1), .ref od]) (rest := []) ⟨hx, hb, hml, hown, hts⟩ (c_L_meanKey l hlf dC dI g a (xs 1) od (fun _ => 0) H.size) (vx_cwSW 3 hts (gX gL_law_L_meanKey) rfl rfl rfl (by decide +kernel) ⟨Nat.le_of_ble_eq_true rfl, Nat.le_of_ble_eq_true rfl⟩) ⟨PG_blind, PG_call hK hG hS hPc hDc hFc⟩ rfl rfl hl.1 rfl (lv_room (Nat.le_of_ble_eq_true rfl)) dL_law_2701 ⟨Nat.le_of_ble_eq_true rfl, Nat.le_of_ble_eq_true rfl⟩) hS (fun q _ h => hFc q h) hFc (fun r_1 f_1 t_1 H_1 L_1 ht_1 hvm_1 hw_1 hB_1 hz_1 hk_1 hS => ?_)
  rw [ht_1] at hB_1
  have hPm : va_P (dC, dI) vwCl (modW b r1 r2 g 0) H_1 := kept_by hPm0 hk_1 (fun j k p q hj hk e => by
      rcases Nat.lt_or_ge j (offW a g).length with h | h
      · exact ap_om hDD j k p q (by rw [List.getElem?_append_left h] at hj; exact hj) hk e
      · exact ap_od hDD k (j - (offW a g).length) q p hk (by rw [List.getElem?_append_right h] at hj; exact hj) e.symm)
  obtain ⟨hr1, hv1⟩ := hw_1
  obtain rfl : r_1 = (cd (TOKb (xs 1)) true true) := hr1
  refine lv_istore (lv' := [(6, .int (cd (TOKb (xs 1)) true true)), (5, .int 0), (0, .ref bs), (1, .ref (a 0)), (2, .ref (b 0)), (3, .ref ou), (4, .ref od)]) hx hb dL_law_2704 hl (by decide) rfl (fun ls hl => ?_)
  refine lv_aload_n hx hb dL_law_2706 rfl (lv_at hl 4 rfl) ?_
  refine lv_aload_n hx hb dL_law_2707 rfl (lv_at hl 2 rfl) ?_
  refine lv_iload hx hb dL_law_2708 (lv_at hl 1 rfl) ?_
  refine lv_iconst (v := 1) hx hb dL_law_2710 (by decide) ?_
  refine lv_iadd hx hb dL_law_2711 ?_
  refine lv_topi (fun x_2 ex_2 => ?_)
  obtain rfl : x_2 = 1 := ex_2.trans (by decide)
  refine va_sld hx hb hX hbl hbA hS (by unfold vp_in; decide) dL_law_2712 ?_
  refine W.eq (g2 := F0 m 2713 ls [.int (xs 1), .ref (b 0)]) rfl ?_
  have hDm : va_D A (modW b r1 r2 g 0) := D_l (D_r hDD)
  have hFm : ∀ q, va_A (modW b r1 r2 g 0) H_1.size q → A q := A_all hDm hA hS.1
  refine va_calld (va_runV (As := [.int (xs 1)]) (rest := []) ⟨hx, hb, hml, hown, hts⟩ (c_X13_meanKey l dC dI g b r1 r2 (xs 1) 0 H_1.size) (cwV 1 hts (gX gL_law_X13_meanKey) rfl rfl rfl (by decide +kernel) ⟨Nat.le_of_ble_eq_true rfl, Nat.le_of_ble_eq_true rfl⟩) ⟨PG_blind, va_recv hK hPm (ci := 15) (q0 := 0) rfl (m_0 b r1 r2 g 0), PG_call hK hG hS hPm hDm hFm⟩ rfl rfl hl.1 rfl (lv_room (Nat.le_of_ble_eq_true rfl)) dL_law_2713 ⟨Nat.le_of_ble_eq_true rfl, Nat.le_of_ble_eq_true rfl⟩) hS (fun q _ h => hFm q h) hFm (fun r_2 u_2 t_2 H_2 L_2 ht_2 hvm_2 hw_2 hB_2 hz_2 hk_2 hS => ?_)
  replace hB_1 := kept_by hB_1 hk_2 (ap_od hDD)
  obtain ⟨fs, hB_2⟩ := hB_2
  rw [ht_2] at hB_2
  refine lv_dstore (lv' := [(7, .double r_2), (6, .int (cd (TOKb (xs 1)) true true)), (5, .int 0), (0, .ref bs), (1, .ref (a 0)), (2, .ref (b 0)), (3, .ref ou), (4, .ref od)]) hx hb dL_law_2716 hl (by decide) rfl (fun ls hl => ?_)
  refine lv_aload_n hx hb dL_law_2718 rfl (lv_at hl 5 rfl) ?_
  have hFt := A_one (e := .inr (15, .int ((cd (TOKb (xs 1)) true true)) :: fs)) (sz := 0) (H0 := H) (A_b0 hDD) hA hS
  have hDt : va_D A [(b 0, .inr (15, .int ((cd (TOKb (xs 1)) true true)) :: fs))] := D_one (A_b0 hDD)
  refine va_calli (va_runV (As := []) (rest := []) ⟨hx, hb, hml, hown, hts⟩ (c_X13_thrown l dC dI g [(b 0, .inr (15, .int ((cd (TOKb (xs 1)) true true)) :: fs))] (b 0) ((cd (TOKb (xs 1)) true true)) fs 0 rfl H_2.size) (cwV 0 hts (gX gL_law_X13_thrown) rfl rfl rfl (by decide +kernel) ⟨Nat.le_of_ble_eq_true rfl, Nat.le_of_ble_eq_true rfl⟩) ⟨PG_blind, va_recv hK hB_2 (ci := 15) (q0 := 0) rfl rfl, PG_call hK hG hS hB_2 hDt hFt⟩ rfl rfl hl.1 rfl (lv_room (Nat.le_of_ble_eq_true rfl)) dL_law_2719 ⟨Nat.le_of_ble_eq_true rfl, Nat.le_of_ble_eq_true rfl⟩) hS (fun q _ h => hFt q h) hFt (fun r_3 u_3 t_3 H_3 L_3 ht_3 hvm_3 hw_3 hB_3 hz_3 hk_3 hS => ?_)
  obtain rfl : r_3 = (cd (TOKb (xs 1)) true true) := hw_3
  replace hB_1 := kept_by hB_1 hk_3 (fun j k p q hj hk e => by
      obtain rfl : j = 0 := by
        have h1 := (List.getElem?_eq_some_iff.mp hj).1
        simp only [List.length_singleton] at h1
        omega
      cases hj
      exact ap_od hDD 0 k _ q (m_0 b r1 r2 g 0) hk e)
  refine lv_iload hx hb dL_law_2722 (lv_at hl 1 rfl) ?_
  refine lv_icmp_eq (tgt := 2729) hx hb dL_law_2724 (by decide) (fun _ => ?_) (fun c9 => absurd rfl c9)
  refine lv_iload hx hb dL_law_2729 (lv_at hl 1 rfl) ?_
  refine lv_if_ne (tgt := 2766) hx hb dL_law_2731 (by decide) (fun h0 => ?_) (fun h0 => ?_)
  · refine lv_goto (tgt := 2812) hx hb dL_law_2766 (by decide) ?_
    refine W.widen (k := 6000) (n := 90000) (Nat.le_of_ble_eq_true rfl) (Nat.le_of_ble_eq_true rfl) ?_
    exact hend _ _ hS _ (lv_sub hl [2, 3] rfl)
  · obtain rfl : r_2 = FP.dconst0 := hw_2 h0
    refine lv_aload hx hb dL_law_2734 (lv_at hl 7 rfl) ?_
    refine lv_iconst (v := 0) hx hb dL_law_2736 (by decide) ?_
    refine va_dald hx hb hK hB_1 0 3 rfl rfl (by unfold vp_in; decide) dL_law_2737 ?_
    refine W.eq (g2 := F0 m 2738 ls [.double FP.dconst0]) (by rw [show f_1 (0 : Int32).toNatClampNeg = FP.dconst0 from hv1 h0]) ?_
    refine lv_dload hx hb dL_law_2738 (lv_at hl 0 rfl) ?_
    refine lv_dcmp hx hb dL_law_2740 ?_
    refine W.eq (g2 := F0 m 2741 ls [.int 0]) (by rw [show Op.cmpValue (FP.dcmp (FP.dconst0) (FP.dconst0)) .l = 0 from by decide +kernel]) ?_
    refine lv_if_eq (tgt := 2766) hx hb dL_law_2741 (by decide) (fun c_3 => ?_) (fun c_3 => absurd (by decide) c_3)
    refine lv_goto (tgt := 2812) hx hb dL_law_2766 (by decide) ?_
    refine W.widen (k := 6000) (n := 90000) (Nat.le_of_ble_eq_true rfl) (Nat.le_of_ble_eq_true rfl) ?_
    exact hend _ _ hS _ (lv_sub hl [2, 3] rfl)
