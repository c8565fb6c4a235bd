theorem dL_law_1812 : decode cL_law 1812 = .ok (.aload_n 1, 1) := by decide +kernel
theorem dL_law_1813 : decode cL_law 1813 = .ok (.aload_n 0, 1) := by decide +kernel
theorem dL_law_1814 : decode cL_law 1814 = .ok (.iload 5, 2) := by decide +kernel
theorem dL_law_1816 : decode cL_law 1816 = .ok (.iconst 1, 1) := by decide +kernel
theorem dL_law_1817 : decode cL_law 1817 = .ok (.iadd, 1) := by decide +kernel
theorem dL_law_1818 : decode cL_law 1818 = .ok (.iaload, 1) := by decide +kernel
theorem dL_law_1819 : decode cL_law 1819 = .ok (.aload_n 0, 1) := by decide +kernel
theorem dL_law_1820 : decode cL_law 1820 = .ok (.iload 5, 2) := by decide +kernel
theorem dL_law_1822 : decode cL_law 1822 = .ok (.iconst 2, 1) := by decide +kernel
theorem dL_law_1823 : decode cL_law 1823 = .ok (.iadd, 1) := by decide +kernel
theorem dL_law_1824 : decode cL_law 1824 = .ok (.iaload, 1) := by decide +kernel
theorem dL_law_1825 : decode cL_law 1825 = .ok (.aload_n 3, 1) := by decide +kernel
set_option maxRecDepth 200000 in
theorem ggL_law_L_sort_h : GoodIn wsL_law [.codeWith yL_sort cL_sort 5 (some .int) [(0, 10, 13, 13)]] := goodIn_r _ [1023] rfl (by decide +kernel)
set_option maxRecDepth 200000 in
theorem ggL_law_L_sort_0 : GoodIn wsL_law wsL_sort_r1 := goodIn_r _ [191, 1024, 1025, 1026, 2, 1027, 45, 18, 28, 196, 197, 198, 199, 200, 201, 20, 1028, 1029, 1030, 43, 1031, 1032, 897, 898] rfl (by decide +kernel)
set_option maxRecDepth 200000 in
theorem ggL_law_L_sort_1 : GoodIn wsL_law wsL_sort_r2 := goodIn_r _ [899, 116, 123, 118, 124, 126, 127, 128, 129, 130, 131, 132, 900, 487, 488, 31, 489, 490, 420, 421, 422, 491, 492, 493] rfl (by decide +kernel)
set_option maxRecDepth 200000 in
theorem ggL_law_L_sort_2 : GoodIn wsL_law wsL_sort_r3 := goodIn_r _ [494, 495, 496, 35, 497, 87, 88, 498, 499, 500, 501, 80, 78, 502, 347, 348, 23, 349, 66, 65, 503, 378, 379, 17] rfl (by decide +kernel)
set_option maxRecDepth 200000 in
theorem ggL_law_L_sort_3 : GoodIn wsL_law wsL_sort_r4 := goodIn_r _ [380, 59, 504, 505, 506, 507, 508, 509, 510, 511, 85, 86, 512, 513, 514, 515, 84, 516, 517, 518, 519, 520, 521, 522] rfl (by decide +kernel)
set_option maxRecDepth 200000 in
theorem ggL_law_L_sort_4 : GoodIn wsL_law wsL_sort_r5 := goodIn_r _ [523, 79, 524, 525, 526, 527, 528, 529, 530, 531, 532, 533, 534, 535, 901, 738, 739, 94, 740, 108, 741, 742, 109, 111] rfl (by decide +kernel)
set_option maxRecDepth 200000 in
theorem ggL_law_L_sort_5 : GoodIn wsL_law wsL_sort_r6 := goodIn_r _ [110, 107, 743, 744, 745, 746, 902, 903, 1033, 905, 906, 907, 1034, 943, 944, 945, 946, 758, 759, 760, 106, 761, 762, 763] rfl (by decide +kernel)
set_option maxRecDepth 200000 in
theorem ggL_law_L_sort_6 : GoodIn wsL_law wsL_sort_r7 := goodIn_r _ [764, 765, 766, 767, 768, 769, 770, 771, 772, 947, 948, 949, 950, 121, 119, 120, 951, 782, 783, 784, 913, 700, 701, 702] rfl (by decide +kernel)
set_option maxRecDepth 200000 in
theorem ggL_law_L_sort_7 : GoodIn wsL_law wsL_sort_r8 := goodIn_r _ [952, 953, 954, 955, 914, 716, 717, 718, 956, 957, 958, 959, 960, 125, 961, 774, 775, 776, 962, 963, 964, 965, 966, 967] rfl (by decide +kernel)
set_option maxRecDepth 200000 in
theorem ggL_law_L_sort_8 : GoodIn wsL_law wsL_sort_r9 := goodIn_r _ [968, 969, 970, 971, 972, 973, 974, 794, 795, 796, 1035, 909, 910, 911, 912, 401, 402, 403, 915, 720, 721, 916, 219, 220] rfl (by decide +kernel)
set_option maxRecDepth 200000 in
theorem ggL_law_L_sort_9 : GoodIn wsL_law wsL_sort_r10 := goodIn_r _ [221] rfl (by decide +kernel)
set_option maxRecDepth 200000 in
theorem ggL_law_L_sort_10 : GoodIn wsL_law wsX110 := goodIn_r _ [1538, 1539, 1540, 1541, 1542, 1543, 1544, 1545, 1546, 1547, 1548, 1549, 1550] rfl (by decide +kernel)
set_option maxRecDepth 200000 in
theorem ggL_law_L_sort_11 : GoodIn wsL_law wsX20 := goodIn_r _ [1591, 1592, 1593, 1594, 1595, 1596, 1597, 1598, 1599, 1600, 1601, 1602, 1603, 1604, 1605] rfl (by decide +kernel)
set_option maxRecDepth 200000 in
theorem ggL_law_L_sort_12 : GoodIn wsL_law wsX70 := goodIn_r _ [1578, 1579, 1580, 1581, 1582] rfl (by decide +kernel)
set_option maxRecDepth 200000 in
theorem ggL_law_L_sort_13 : GoodIn wsL_law wsX90 := goodIn_r _ [1568, 1569] rfl (by decide +kernel)
set_option maxRecDepth 200000 in
theorem ggL_law_L_sort_14 : GoodIn wsL_law wsX80 := goodIn_r _ [1570, 1571, 1572, 1573, 1574] rfl (by decide +kernel)
set_option maxRecDepth 200000 in
theorem ggL_law_L_sort_15 : GoodIn wsL_law wsX60 := goodIn_r _ [1575, 1576, 1577] rfl (by decide +kernel)
set_option maxRecDepth 200000 in
theorem ggL_law_L_sort_16 : GoodIn wsL_law wsX00 := goodIn_r _ [1565, 1566, 1567] rfl (by decide +kernel)
set_option maxRecDepth 200000 in
theorem ggL_law_L_sort_17 : GoodIn wsL_law wsX30 := goodIn_r _ [1627, 1628, 1629, 1630, 1631, 1632] rfl (by decide +kernel)
set_option maxRecDepth 20000 in
theorem ggL_law_L_sort : GoodIn wsL_law wsL_sort := goodIn_ca (fun w h => (List.mem_cons.mp h).elim (fun e => ggL_law_L_sort_h w (List.mem_singleton.mpr e)) (fun h => (goodIn_app (goodIn_app (goodIn_app (goodIn_app (goodIn_app (goodIn_app (goodIn_app (goodIn_app (goodIn_app ggL_law_L_sort_0 (goodIn_app ggL_law_L_sort_1 (goodIn_app ggL_law_L_sort_2 (goodIn_app ggL_law_L_sort_3 (goodIn_app ggL_law_L_sort_4 (goodIn_app ggL_law_L_sort_5 (goodIn_app ggL_law_L_sort_6 (goodIn_app ggL_law_L_sort_7 (goodIn_app ggL_law_L_sort_8 ggL_law_L_sort_9))))))))) ggL_law_L_sort_10) ggL_law_L_sort_11) ggL_law_L_sort_12) ggL_law_L_sort_13) ggL_law_L_sort_14) ggL_law_L_sort_15) ggL_law_L_sort_16) ggL_law_L_sort_17) w h)) (goodIn_sub (fun _ h => List.mem_append_left _ (List.mem_append_left _ (List.mem_append_left _ (List.mem_append_right _ h)))) (by decide +kernel))
set_option maxRecDepth 20000 in
theorem gL_law_L_sort : GoodIn wsL_law (va_wsS RL 227 yL_sort wsL_sort) := goodIn_app (goodIn_of _ (by decide +kernel)) ggL_law_L_sort
theorem dL_law_1826 : decode cL_law 1826 = .ok (.invokestatic 227, 3) := by decide +kernel
theorem dL_law_1829 : decode cL_law 1829 = .ok (.istore 6, 2) := by decide +kernel
theorem dL_law_1831 : decode cL_law 1831 = .ok (.aload_n 2, 1) := by decide +kernel
theorem dL_law_1832 : decode cL_law 1832 = .ok (.aload_n 0, 1) := by decide +kernel
theorem dL_law_1833 : decode cL_law 1833 = .ok (.iload 5, 2) := by decide +kernel
theorem dL_law_1835 : decode cL_law 1835 = .ok (.iconst 1, 1) := by decide +kernel
theorem dL_law_1836 : decode cL_law 1836 = .ok (.iadd, 1) := by decide +kernel
theorem dL_law_1837 : decode cL_law 1837 = .ok (.iaload, 1) := by decide +kernel
theorem dL_law_1838 : decode cL_law 1838 = .ok (.aload_n 0, 1) := by decide +kernel
theorem dL_law_1839 : decode cL_law 1839 = .ok (.iload 5, 2) := by decide +kernel
theorem dL_law_1841 : decode cL_law 1841 = .ok (.iconst 2, 1) := by decide +kernel
theorem dL_law_1842 : decode cL_law 1842 = .ok (.iadd, 1) := by decide +kernel
theorem dL_law_1843 : decode cL_law 1843 = .ok (.iaload, 1) := by decide +kernel
set_option maxRecDepth 200000 in
theorem ggL_law_X13_sort_h : GoodIn wsL_law [.code yX13_sort cX13_sort 4 (some .int)] := goodIn_r _ [1039] rfl (by decide +kernel)
set_option maxRecDepth 200000 in
theorem ggL_law_X13_sort_0 : GoodIn wsL_law wsX13_sort_r1 := goodIn_r _ [801, 802, 803, 182, 184, 226, 227, 5, 228, 229, 230, 231, 239, 240, 241, 242, 243, 804, 805, 806, 807, 808, 13, 14] rfl (by decide +kernel)
set_option maxRecDepth 200000 in
theorem ggL_law_X13_sort_1 : GoodIn wsL_law wsX13_sort_r2 := goodIn_r _ [58, 809, 810, 549, 550, 811, 812, 813, 814, 815, 558, 559, 560, 561, 562, 563, 564, 565, 566, 567, 568, 569, 570, 571] rfl (by decide +kernel)
set_option maxRecDepth 200000 in
theorem ggL_law_X13_sort_2 : GoodIn wsL_law wsX13_sort_r3 := goodIn_r _ [545, 546, 547, 548, 551, 552, 553, 554, 555, 420, 421, 422, 556, 557, 572, 573, 574, 575, 576, 577, 578, 579, 580, 581] rfl (by decide +kernel)
set_option maxRecDepth 200000 in
theorem ggL_law_X13_sort_3 : GoodIn wsL_law wsX13_sort_r4 := goodIn_r _ [582, 583, 584, 585, 586, 587, 588, 589, 590, 591, 592, 593, 594, 595, 596, 597, 598, 599, 600, 601, 602, 603, 604, 605] rfl (by decide +kernel)
set_option maxRecDepth 200000 in
theorem ggL_law_X13_sort_4 : GoodIn wsL_law wsX13_sort_r5 := goodIn_r _ [606, 607, 608, 492, 493, 609, 610, 611, 612, 613, 614, 615, 616, 617, 618, 619, 620, 621, 622, 623, 624, 625, 626, 627] rfl (by decide +kernel)
set_option maxRecDepth 200000 in
theorem ggL_law_X13_sort_5 : GoodIn wsL_law wsX13_sort_r6 := goodIn_r _ [628, 629, 630, 631, 632, 633, 634, 635, 636, 637, 638, 639, 640, 641, 642, 643, 644, 645, 646, 647, 648, 649, 650, 651] rfl (by decide +kernel)
set_option maxRecDepth 200000 in
theorem ggL_law_X13_sort_6 : GoodIn wsL_law wsX13_sort_r7 := goodIn_r _ [652, 653, 654, 655, 656, 657, 658, 659, 660, 661, 662, 663, 664, 665, 666, 667, 668, 389, 390, 391, 392, 179, 669, 670] rfl (by decide +kernel)
set_option maxRecDepth 200000 in
theorem ggL_law_X13_sort_7 : GoodIn wsL_law wsX13_sort_r8 := goodIn_r _ [671, 672, 673, 674, 675, 676, 677, 678, 679, 680, 681, 682, 683, 684, 685, 686, 687, 816, 817, 818, 819, 820, 821, 822] rfl (by decide +kernel)
set_option maxRecDepth 200000 in
theorem ggL_law_X13_sort_8 : GoodIn wsL_law wsX13_sort_r9 := goodIn_r _ [823, 824, 825, 826, 827, 828, 829, 830, 831, 832, 833, 834, 835, 836, 837, 838, 839, 840, 841, 842, 843, 844, 845, 846] rfl (by decide +kernel)
set_option maxRecDepth 200000 in
theorem ggL_law_X13_sort_9 : GoodIn wsL_law wsX13_sort_r10 := goodIn_r _ [847, 848, 849, 850, 851, 852, 853, 854, 855, 856, 857, 858, 859, 860, 861, 862, 863, 864, 865, 866, 867, 868, 869, 927] rfl (by decide +kernel)
set_option maxRecDepth 200000 in
theorem ggL_law_X13_sort_10 : GoodIn wsL_law wsX13_sort_r11 := goodIn_r _ [928, 929, 930] rfl (by decide +kernel)
set_option maxRecDepth 200000 in
theorem ggL_law_X13_sort_11 : GoodIn wsL_law wsX120 := goodIn_r _ [1639, 1640, 1641, 1642, 1643, 1644, 1645, 1646, 1647, 1648, 1649, 1650] rfl (by decide +kernel)
set_option maxRecDepth 200000 in
theorem ggL_law_X13_sort_12 : GoodIn wsL_law wsX130 := goodIn_r _ [1551, 1552, 1553, 1554, 1555, 1556, 1557, 1558, 1559, 1560, 1561, 1562, 1563, 1564] rfl (by decide +kernel)
set_option maxRecDepth 200000 in
theorem ggL_law_X13_sort_13 : GoodIn wsL_law wsJx4a65c0 := goodIn_r _ [1635, 1636, 1637] rfl (by decide +kernel)
set_option maxRecDepth 200000 in
theorem ggL_law_X13_sort_14 : GoodIn wsL_law wsJ60 := goodIn_r _ [1638] rfl (by decide +kernel)
set_option maxRecDepth 20000 in
theorem ggL_law_X13_sort : GoodIn wsL_law wsX13_sort := (fun w h => (List.mem_cons.mp h).elim (fun e => ggL_law_X13_sort_h w (List.mem_singleton.mpr e)) (fun h => (goodIn_app (goodIn_app (goodIn_app (goodIn_app (goodIn_app ggL_law_X13_sort_0 (goodIn_app ggL_law_X13_sort_1 (goodIn_app ggL_law_X13_sort_2 (goodIn_app ggL_law_X13_sort_3 (goodIn_app ggL_law_X13_sort_4 (goodIn_app ggL_law_X13_sort_5 (goodIn_app ggL_law_X13_sort_6 (goodIn_app ggL_law_X13_sort_7 (goodIn_app ggL_law_X13_sort_8 (goodIn_app ggL_law_X13_sort_9 ggL_law_X13_sort_10)))))))))) ggL_law_X13_sort_11) ggL_law_X13_sort_12) ggL_law_X13_sort_13) ggL_law_X13_sort_14) w h))
set_option maxRecDepth 20000 in
theorem gL_law_X13_sort : GoodIn wsL_law (wsV RL 229 RX13 yX13_sort wsX13_sort) := goodIn_app (goodIn_of _ (by decide +kernel)) ggL_law_X13_sort
theorem dL_law_1844 : decode cL_law 1844 = .ok (.invokevirtual 229, 3) := by decide +kernel
theorem dL_law_1847 : decode cL_law 1847 = .ok (.istore 7, 2) := by decide +kernel
theorem dL_law_1849 : decode cL_law 1849 = .ok (.aload_n 2, 1) := by decide +kernel
theorem dL_law_1850 : decode cL_law 1850 = .ok (.invokevirtual 147, 3) := by decide +kernel
theorem dL_law_1853 : decode cL_law 1853 = .ok (.iload 6, 2) := by decide +kernel
theorem dL_law_1855 : decode cL_law 1855 = .ok (.if_icmp .eq 5, 3) := by decide +kernel
theorem dL_law_1860 : decode cL_law 1860 = .ok (.iload 6, 2) := by decide +kernel
theorem dL_law_1862 : decode cL_law 1862 = .ok (.ifCond .ne 15, 3) := by decide +kernel
theorem dL_law_1877 : decode cL_law 1877 = .ok (.goto 935, 3) := by decide +kernel
theorem dL_law_1865 : decode cL_law 1865 = .ok (.aload_n 3, 1) := by decide +kernel
theorem dL_law_1866 : decode cL_law 1866 = .ok (.iconst 0, 1) := by decide +kernel
theorem dL_law_1867 : decode cL_law 1867 = .ok (.laload, 1) := by decide +kernel
theorem dL_law_1868 : decode cL_law 1868 = .ok (.iload 7, 2) := by decide +kernel
theorem dL_law_1870 : decode cL_law 1870 = .ok (.i2l, 1) := by decide +kernel
theorem dL_law_1871 : decode cL_law 1871 = .ok (.lcmp, 1) := by decide +kernel
theorem dL_law_1872 : decode cL_law 1872 = .ok (.ifCond .eq 5, 3) := by decide +kernel
set_option maxRecDepth 200000 in
theorem ggL_law_L_combine_h : GoodIn wsL_law [.codeWith yL_combine cL_combine 7 (some .int) [(0, 14, 17, 13), (0, 14, 21, 15), (0, 14, 25, 17)]] := goodIn_r _ [1042] rfl (by decide +kernel)
set_option maxRecDepth 200000 in
theorem ggL_law_L_combine_0 : GoodIn wsL_law wsL_combine_r1 := goodIn_r _ [191, 1043, 1044, 1045, 2, 1046, 212, 213, 196, 197, 198, 199, 200, 201, 20, 202, 203, 204, 205, 206, 207, 1047, 1048, 1049] rfl (by decide +kernel)
set_option maxRecDepth 200000 in
theorem ggL_law_L_combine_1 : GoodIn wsL_law wsL_combine_r2 := goodIn_r _ [1050, 18, 24, 372, 373, 374, 23, 375, 66, 376, 347, 348, 349, 65, 377, 378, 379, 17, 380, 59, 400, 401, 402, 403] rfl (by decide +kernel)
set_option maxRecDepth 200000 in
theorem ggL_law_L_combine_2 : GoodIn wsL_law wsL_combine_r3 := goodIn_r _ [1051, 1052, 1053, 1054, 1055, 219, 220, 221, 1056, 1057, 1058, 1059, 1060, 1061, 1062, 1063, 1064, 306, 307, 308, 1065, 1066, 1067, 1068] rfl (by decide +kernel)
set_option maxRecDepth 200000 in
theorem ggL_law_L_combine_3 : GoodIn wsL_law wsL_combine_r4 := goodIn_r _ [415, 416, 417, 418, 419, 420, 421, 422] rfl (by decide +kernel)
set_option maxRecDepth 200000 in
theorem ggL_law_L_combine_4 : GoodIn wsL_law wsX90 := goodIn_r _ [1568, 1569] rfl (by decide +kernel)
set_option maxRecDepth 200000 in
theorem ggL_law_L_combine_5 : GoodIn wsL_law wsX110 := goodIn_r _ [1538, 1539, 1540, 1541, 1542, 1543, 1544, 1545, 1546, 1547, 1548, 1549, 1550] rfl (by decide +kernel)
set_option maxRecDepth 200000 in
theorem ggL_law_L_combine_6 : GoodIn wsL_law wsX00 := goodIn_r _ [1565, 1566, 1567] rfl (by decide +kernel)
set_option maxRecDepth 20000 in
theorem ggL_law_L_combine : GoodIn wsL_law wsL_combine := goodIn_ca (goodIn_ca (goodIn_ca (fun w h => (List.mem_cons.mp h).elim (fun e => ggL_law_L_combine_h w (List.mem_singleton.mpr e)) (fun h => (goodIn_app (goodIn_app (goodIn_app (goodIn_app ggL_law_L_combine_0 (goodIn_app ggL_law_L_combine_1 (goodIn_app ggL_law_L_combine_2 ggL_law_L_combine_3))) ggL_law_L_combine_4) ggL_law_L_combine_5) ggL_law_L_combine_6) w h)) (goodIn_sub (fun _ h => List.mem_append_left _ (List.mem_append_right _ h)) (by decide +kernel))) (goodIn_sub (fun _ h => List.mem_append_left _ (List.mem_append_left _ (List.mem_append_left _ (List.mem_append_right _ h)))) (by decide +kernel))) (goodIn_sub (fun _ h => List.mem_append_left _ (List.mem_append_left _ (List.mem_append_right _ h))) (by decide +kernel))
set_option maxRecDepth 20000 in
theorem gL_law_L_combine : GoodIn wsL_law (va_wsS RL 230 yL_combine wsL_combine) := goodIn_app (goodIn_of _ (by decide +kernel)) ggL_law_L_combine
theorem dL_law_1880 : decode cL_law 1880 = .ok (.aload_n 1, 1) := by decide +kernel
theorem dL_law_1881 : decode cL_law 1881 = .ok (.aload_n 0, 1) := by decide +kernel
theorem dL_law_1882 : decode cL_law 1882 = .ok (.iload 5, 2) := by decide +kernel
theorem dL_law_1884 : decode cL_law 1884 = .ok (.iconst 1, 1) := by decide +kernel
theorem dL_law_1885 : decode cL_law 1885 = .ok (.iadd, 1) := by decide +kernel
theorem dL_law_1886 : decode cL_law 1886 = .ok (.iaload, 1) := by decide +kernel
theorem dL_law_1887 : decode cL_law 1887 = .ok (.aload_n 0, 1) := by decide +kernel
theorem dL_law_1888 : decode cL_law 1888 = .ok (.iload 5, 2) := by decide +kernel
theorem dL_law_1890 : decode cL_law 1890 = .ok (.iconst 2, 1) := by decide +kernel
theorem dL_law_1891 : decode cL_law 1891 = .ok (.iadd, 1) := by decide +kernel
theorem dL_law_1892 : decode cL_law 1892 = .ok (.iaload, 1) := by decide +kernel
theorem dL_law_1893 : decode cL_law 1893 = .ok (.aload_n 0, 1) := by decide +kernel
theorem dL_law_1894 : decode cL_law 1894 = .ok (.iload 5, 2) := by decide +kernel
theorem dL_law_1896 : decode cL_law 1896 = .ok (.iconst 3, 1) := by decide +kernel
theorem dL_law_1897 : decode cL_law 1897 = .ok (.iadd, 1) := by decide +kernel
theorem dL_law_1898 : decode cL_law 1898 = .ok (.iaload, 1) := by decide +kernel
theorem dL_law_1899 : decode cL_law 1899 = .ok (.aload_n 0, 1) := by decide +kernel
theorem dL_law_1900 : decode cL_law 1900 = .ok (.iload 5, 2) := by decide +kernel
theorem dL_law_1902 : decode cL_law 1902 = .ok (.iconst 4, 1) := by decide +kernel
theorem dL_law_1903 : decode cL_law 1903 = .ok (.iadd, 1) := by decide +kernel
theorem dL_law_1904 : decode cL_law 1904 = .ok (.iaload, 1) := by decide +kernel
theorem dL_law_1905 : decode cL_law 1905 = .ok (.aload_n 3, 1) := by decide +kernel
theorem dL_law_1906 : decode cL_law 1906 = .ok (.invokestatic 230, 3) := by decide +kernel
theorem dL_law_1909 : decode cL_law 1909 = .ok (.istore 6, 2) := by decide +kernel
theorem dL_law_1911 : decode cL_law 1911 = .ok (.aload_n 2, 1) := by decide +kernel
theorem dL_law_1912 : decode cL_law 1912 = .ok (.aload_n 0, 1) := by decide +kernel
theorem dL_law_1913 : decode cL_law 1913 = .ok (.iload 5, 2) := by decide +kernel
theorem dL_law_1915 : decode cL_law 1915 = .ok (.iconst 1, 1) := by decide +kernel
theorem dL_law_1916 : decode cL_law 1916 = .ok (.iadd, 1) := by decide +kernel
theorem dL_law_1917 : decode cL_law 1917 = .ok (.iaload, 1) := by decide +kernel
theorem dL_law_1918 : decode cL_law 1918 = .ok (.aload_n 0, 1) := by decide +kernel
theorem dL_law_1919 : decode cL_law 1919 = .ok (.iload 5, 2) := by decide +kernel
theorem dL_law_1921 : decode cL_law 1921 = .ok (.iconst 2, 1) := by decide +kernel
theorem dL_law_1922 : decode cL_law 1922 = .ok (.iadd, 1) := by decide +kernel
theorem dL_law_1923 : decode cL_law 1923 = .ok (.iaload, 1) := by decide +kernel
theorem dL_law_1924 : decode cL_law 1924 = .ok (.aload_n 0, 1) := by decide +kernel
theorem dL_law_1925 : decode cL_law 1925 = .ok (.iload 5, 2) := by decide +kernel
theorem dL_law_1927 : decode cL_law 1927 = .ok (.iconst 3, 1) := by decide +kernel
theorem dL_law_1928 : decode cL_law 1928 = .ok (.iadd, 1) := by decide +kernel
theorem dL_law_1929 : decode cL_law 1929 = .ok (.iaload, 1) := by decide +kernel
theorem dL_law_1930 : decode cL_law 1930 = .ok (.aload_n 0, 1) := by decide +kernel
theorem dL_law_1931 : decode cL_law 1931 = .ok (.iload 5, 2) := by decide +kernel
theorem dL_law_1933 : decode cL_law 1933 = .ok (.iconst 4, 1) := by decide +kernel
theorem dL_law_1934 : decode cL_law 1934 = .ok (.iadd, 1) := by decide +kernel
theorem dL_law_1935 : decode cL_law 1935 = .ok (.iaload, 1) := by decide +kernel
set_option maxRecDepth 200000 in
theorem ggL_law_X13_combine_h : GoodIn wsL_law [.code yX13_combine cX13_combine 6 (some .int)] := goodIn_r _ [1072] rfl (by decide +kernel)
set_option maxRecDepth 200000 in
theorem ggL_law_X13_combine_0 : GoodIn wsL_law wsX13_combine_r1 := goodIn_r _ [182, 226, 227, 5, 228, 229, 230, 231, 1073, 1074, 1075, 1076, 385, 386, 387, 388, 389, 390, 391, 392, 179, 239, 240, 241] rfl (by decide +kernel)
set_option maxRecDepth 200000 in
theorem ggL_law_X13_combine_1 : GoodIn wsL_law wsX13_combine_r2 := goodIn_r _ [242, 243, 1077, 1078, 1079, 1080, 548, 549, 550, 557, 558, 559, 560, 561, 562, 563, 564, 565, 566, 567, 568, 569, 570, 571] rfl (by decide +kernel)
set_option maxRecDepth 200000 in
theorem ggL_law_X13_combine_2 : GoodIn wsL_law wsX13_combine_r3 := goodIn_r _ [13, 14, 1081, 1082, 1083, 1084, 572, 573, 574, 575, 576, 577, 578, 579, 580, 581, 582, 583, 584, 585, 586, 587, 588, 589] rfl (by decide +kernel)
set_option maxRecDepth 200000 in
theorem ggL_law_X13_combine_3 : GoodIn wsL_law wsX13_combine_r4 := goodIn_r _ [590, 591, 592, 593, 594, 595, 596, 597, 598, 599, 600, 601, 602, 603, 604, 605, 606, 607, 608, 492, 421, 493, 609, 610] rfl (by decide +kernel)
set_option maxRecDepth 200000 in
theorem ggL_law_X13_combine_4 : GoodIn wsL_law wsX13_combine_r5 := goodIn_r _ [611, 612, 613, 614, 615, 616, 617, 618, 619, 620, 621, 622, 623, 624, 625, 626, 627, 628, 629, 630, 631, 632, 420, 422] rfl (by decide +kernel)
set_option maxRecDepth 200000 in
theorem ggL_law_X13_combine_5 : GoodIn wsL_law wsX13_combine_r6 := goodIn_r _ [633, 634, 635, 636, 678, 679, 680, 58, 556, 645, 646, 647, 648, 649, 650, 651, 652, 653, 654, 655, 656, 657, 658, 659] rfl (by decide +kernel)
set_option maxRecDepth 200000 in
theorem ggL_law_X13_combine_6 : GoodIn wsL_law wsX13_combine_r7 := goodIn_r _ [660, 661, 662, 663, 664, 665, 666, 667, 668, 684, 685, 686, 687] rfl (by decide +kernel)
set_option maxRecDepth 200000 in
theorem ggL_law_X13_combine_7 : GoodIn wsL_law wsX130 := goodIn_r _ [1551, 1552, 1553, 1554, 1555, 1556, 1557, 1558, 1559, 1560, 1561, 1562, 1563, 1564] rfl (by decide +kernel)
set_option maxRecDepth 200000 in
theorem ggL_law_X13_combine_8 : GoodIn wsL_law wsJx4a65c0 := goodIn_r _ [1635, 1636, 1637] rfl (by decide +kernel)
set_option maxRecDepth 200000 in
theorem ggL_law_X13_combine_9 : GoodIn wsL_law wsJ60 := goodIn_r _ [1638] rfl (by decide +kernel)
set_option maxRecDepth 20000 in
theorem ggL_law_X13_combine : GoodIn wsL_law wsX13_combine := (fun w h => (List.mem_cons.mp h).elim (fun e => ggL_law_X13_combine_h w (List.mem_singleton.mpr e)) (fun h => (goodIn_app (goodIn_app (goodIn_app (goodIn_app ggL_law_X13_combine_0 (goodIn_app ggL_law_X13_combine_1 (goodIn_app ggL_law_X13_combine_2 (goodIn_app ggL_law_X13_combine_3 (goodIn_app ggL_law_X13_combine_4 (goodIn_app ggL_law_X13_combine_5 ggL_law_X13_combine_6)))))) ggL_law_X13_combine_7) ggL_law_X13_combine_8) ggL_law_X13_combine_9) w h))
set_option maxRecDepth 20000 in
theorem gL_law_X13_combine : GoodIn wsL_law (wsV RL 232 RX13 yX13_combine wsX13_combine) := goodIn_app (goodIn_of _ (by decide +kernel)) ggL_law_X13_combine
theorem dL_law_1936 : decode cL_law 1936 = .ok (.invokevirtual 232, 3) := by decide +kernel
theorem dL_law_1939 : decode cL_law 1939 = .ok (.istore 7, 2) := by decide +kernel
theorem dL_law_1941 : decode cL_law 1941 = .ok (.aload_n 2, 1) := by decide +kernel
theorem dL_law_1942 : decode cL_law 1942 = .ok (.invokevirtual 147, 3) := by decide +kernel
theorem dL_law_1945 : decode cL_law 1945 = .ok (.iload 6, 2) := by decide +kernel
theorem dL_law_1947 : decode cL_law 1947 = .ok (.if_icmp .eq 5, 3) := by decide +kernel
theorem dL_law_1952 : decode cL_law 1952 = .ok (.iload 6, 2) := by decide +kernel
theorem dL_law_1954 : decode cL_law 1954 = .ok (.ifCond .ne 15, 3) := by decide +kernel
theorem dL_law_1969 : decode cL_law 1969 = .ok (.goto 843, 3) := by decide +kernel
theorem dL_law_1957 : decode cL_law 1957 = .ok (.aload_n 3, 1) := by decide +kernel
theorem dL_law_1958 : decode cL_law 1958 = .ok (.iconst 0, 1) := by decide +kernel
theorem dL_law_1959 : decode cL_law 1959 = .ok (.laload, 1) := by decide +kernel
theorem dL_law_1960 : decode cL_law 1960 = .ok (.iload 7, 2) := by decide +kernel
theorem dL_law_1962 : decode cL_law 1962 = .ok (.i2l, 1) := by decide +kernel
theorem dL_law_1963 : decode cL_law 1963 = .ok (.lcmp, 1) := by decide +kernel
theorem dL_law_1964 : decode cL_law 1964 = .ok (.ifCond .eq 5, 3) := by decide +kernel
theorem dL_law_1972 : decode cL_law 1972 = .ok (.aload_n 1, 1) := by decide +kernel
theorem dL_law_1973 : decode cL_law 1973 = .ok (.aload_n 0, 1) := by decide +kernel
theorem dL_law_1974 : decode cL_law 1974 = .ok (.iload 5, 2) := by decide +kernel
theorem dL_law_1976 : decode cL_law 1976 = .ok (.iconst 1, 1) := by decide +kernel
theorem dL_law_1977 : decode cL_law 1977 = .ok (.iadd, 1) := by decide +kernel
theorem dL_law_1978 : decode cL_law 1978 = .ok (.iaload, 1) := by decide +kernel
theorem dL_law_1979 : decode cL_law 1979 = .ok (.aload_n 0, 1) := by decide +kernel
theorem dL_law_1980 : decode cL_law 1980 = .ok (.iload 5, 2) := by decide +kernel
theorem dL_law_1982 : decode cL_law 1982 = .ok (.iconst 2, 1) := by decide +kernel
theorem dL_law_1983 : decode cL_law 1983 = .ok (.iadd, 1) := by decide +kernel
theorem dL_law_1984 : decode cL_law 1984 = .ok (.iaload, 1) := by decide +kernel
theorem dL_law_1985 : decode cL_law 1985 = .ok (.ifCond .eq 7, 3) := by decide +kernel
theorem dL_law_1992 : decode cL_law 1992 = .ok (.iconst 0, 1) := by decide +kernel
theorem dL_law_1993 : decode cL_law 1993 = .ok (.aload_n 3, 1) := by decide +kernel
set_option maxRecDepth 200000 in
theorem ggL_law_L_thin : GoodIn wsL_law wsL_thin := goodIn_ca (goodIn_r _ [1087, 191, 1088, 1089, 1090, 2, 1091, 18, 196, 197, 198, 199, 200, 201, 20, 1092, 1093, 1094, 23, 1095, 66, 419, 420, 421, 422, 65, 1060, 1061, 1062, 1063, 376, 347, 348, 349, 1064, 306, 307, 17, 308, 59, 1538, 1539, 1540, 1541, 1542, 1543, 1544, 1545, 1546, 1547, 1548, 1549, 1550, 1568, 1569, 1565, 1566, 1567] rfl (by decide +kernel)) (goodIn_sub (fun _ h => List.mem_append_left _ (List.mem_append_left _ (List.mem_append_left _ (List.mem_append_right _ h)))) (by decide +kernel))
set_option maxRecDepth 20000 in
theorem gL_law_L_thin : GoodIn wsL_law (va_wsS RL 233 yL_thin wsL_thin) := goodIn_app (goodIn_of _ (by decide +kernel)) ggL_law_L_thin
theorem dL_law_1994 : decode cL_law 1994 = .ok (.invokestatic 233, 3) := by decide +kernel
theorem dL_law_1997 : decode cL_law 1997 = .ok (.istore 6, 2) := by decide +kernel
theorem dL_law_1999 : decode cL_law 1999 = .ok (.aload_n 2, 1) := by decide +kernel
theorem dL_law_2000 : decode cL_law 2000 = .ok (.aload_n 0, 1) := by decide +kernel
theorem dL_law_2001 : decode cL_law 2001 = .ok (.iload 5, 2) := by decide +kernel
theorem dL_law_2003 : decode cL_law 2003 = .ok (.iconst 1, 1) := by decide +kernel
theorem dL_law_2004 : decode cL_law 2004 = .ok (.iadd, 1) := by decide +kernel
theorem dL_law_2005 : decode cL_law 2005 = .ok (.iaload, 1) := by decide +kernel
theorem dL_law_2006 : decode cL_law 2006 = .ok (.aload_n 0, 1) := by decide +kernel
theorem dL_law_2007 : decode cL_law 2007 = .ok (.iload 5, 2) := by decide +kernel
theorem dL_law_2009 : decode cL_law 2009 = .ok (.iconst 2, 1) := by decide +kernel
theorem dL_law_2010 : decode cL_law 2010 = .ok (.iadd, 1) := by decide +kernel
theorem dL_law_2011 : decode cL_law 2011 = .ok (.iaload, 1) := by decide +kernel
theorem dL_law_2012 : decode cL_law 2012 = .ok (.ifCond .eq 7, 3) := by decide +kernel
theorem dL_law_2019 : decode cL_law 2019 = .ok (.iconst 0, 1) := by decide +kernel
set_option maxRecDepth 200000 in
theorem ggL_law_X13_thin_h : GoodIn wsL_law [.code yX13_thin cX13_thin 4 (some .int)] := goodIn_r _ [1099] rfl (by decide +kernel)
set_option maxRecDepth 200000 in
theorem ggL_law_X13_thin_0 : GoodIn wsL_law wsX13_thin_r1 := goodIn_r _ [182, 226, 227, 5, 228, 229, 230, 231, 239, 240, 241, 242, 243, 1100, 1101, 1102, 1103, 548, 549, 550, 179, 557, 558, 559] rfl (by decide +kernel)
set_option maxRecDepth 200000 in
theorem ggL_law_X13_thin_1 : GoodIn wsL_law wsX13_thin_r2 := goodIn_r _ [560, 561, 562, 563, 564, 565, 566, 567, 568, 569, 570, 571, 13, 14, 572, 573, 574, 575, 576, 577, 578, 579, 580, 581] rfl (by decide +kernel)
set_option maxRecDepth 200000 in
theorem ggL_law_X13_thin_2 : GoodIn wsL_law wsX13_thin_r3 := goodIn_r _ [582, 583, 584, 585, 586, 587, 588, 589, 590, 591, 592, 593, 594, 595, 596, 597, 598, 599, 600, 601, 602, 603, 604, 605] rfl (by decide +kernel)
set_option maxRecDepth 200000 in
theorem ggL_law_X13_thin_3 : GoodIn wsL_law wsX13_thin_r4 := goodIn_r _ [606, 607, 608, 492, 421, 493, 609, 610, 611, 612, 613, 614, 615, 616, 617, 618, 619, 620, 621, 622, 623, 624, 625, 626] rfl (by decide +kernel)
set_option maxRecDepth 200000 in
theorem ggL_law_X13_thin_4 : GoodIn wsL_law wsX13_thin_r5 := goodIn_r _ [627, 628, 629, 630, 631, 632, 420, 422, 633, 634, 635, 636, 678, 679, 680, 58, 556, 645, 646, 647, 648, 649, 650, 651] rfl (by decide +kernel)
set_option maxRecDepth 200000 in
theorem ggL_law_X13_thin_5 : GoodIn wsL_law wsX13_thin_r6 := goodIn_r _ [652, 653, 654, 655, 656, 657, 658, 659, 660, 661, 662, 663, 664, 665, 666, 667, 668] rfl (by decide +kernel)
set_option maxRecDepth 200000 in
theorem ggL_law_X13_thin_6 : GoodIn wsL_law wsX130 := goodIn_r _ [1551, 1552, 1553, 1554, 1555, 1556, 1557, 1558, 1559, 1560, 1561, 1562, 1563, 1564] rfl (by decide +kernel)
set_option maxRecDepth 200000 in
theorem ggL_law_X13_thin_7 : GoodIn wsL_law wsJx4a65c0 := goodIn_r _ [1635, 1636, 1637] rfl (by decide +kernel)
set_option maxRecDepth 200000 in
theorem ggL_law_X13_thin_8 : GoodIn wsL_law wsJ60 := goodIn_r _ [1638] rfl (by decide +kernel)
set_option maxRecDepth 20000 in
theorem ggL_law_X13_thin : GoodIn wsL_law wsX13_thin := (fun w h => (List.mem_cons.mp h).elim (fun e => ggL_law_X13_thin_h w (List.mem_singleton.mpr e)) (fun h => (goodIn_app (goodIn_app (goodIn_app (goodIn_app ggL_law_X13_thin_0 (goodIn_app ggL_law_X13_thin_1 (goodIn_app ggL_law_X13_thin_2 (goodIn_app ggL_law_X13_thin_3 (goodIn_app ggL_law_X13_thin_4 ggL_law_X13_thin_5))))) ggL_law_X13_thin_6) ggL_law_X13_thin_7) ggL_law_X13_thin_8) w h))
set_option maxRecDepth 20000 in
theorem gL_law_X13_thin : GoodIn wsL_law (wsV RL 236 RX13 yX13_thin wsX13_thin) := goodIn_app (goodIn_of _ (by decide +kernel)) ggL_law_X13_thin
theorem dL_law_2020 : decode cL_law 2020 = .ok (.invokevirtual 236, 3) := by decide +kernel
theorem dL_law_2023 : decode cL_law 2023 = .ok (.istore 7, 2) := by decide +kernel
theorem dL_law_2025 : decode cL_law 2025 = .ok (.aload_n 2, 1) := by decide +kernel
theorem dL_law_2026 : decode cL_law 2026 = .ok (.invokevirtual 147, 3) := by decide +kernel
theorem dL_law_2029 : decode cL_law 2029 = .ok (.iload 6, 2) := by decide +kernel
theorem dL_law_2031 : decode cL_law 2031 = .ok (.if_icmp .eq 5, 3) := by decide +kernel
theorem dL_law_2036 : decode cL_law 2036 = .ok (.iload 6, 2) := by decide +kernel
theorem dL_law_2038 : decode cL_law 2038 = .ok (.ifCond .ne 15, 3) := by decide +kernel
theorem dL_law_2053 : decode cL_law 2053 = .ok (.goto 759, 3) := by decide +kernel
theorem dL_law_2041 : decode cL_law 2041 = .ok (.aload_n 3, 1) := by decide +kernel
theorem dL_law_2042 : decode cL_law 2042 = .ok (.iconst 0, 1) := by decide +kernel
theorem dL_law_2043 : decode cL_law 2043 = .ok (.laload, 1) := by decide +kernel
theorem dL_law_2044 : decode cL_law 2044 = .ok (.iload 7, 2) := by decide +kernel
theorem dL_law_2046 : decode cL_law 2046 = .ok (.i2l, 1) := by decide +kernel
theorem dL_law_2047 : decode cL_law 2047 = .ok (.lcmp, 1) := by decide +kernel
theorem dL_law_2048 : decode cL_law 2048 = .ok (.ifCond .eq 5, 3) := by decide +kernel
theorem dL_law_1988 : decode cL_law 1988 = .ok (.iconst 1, 1) := by decide +kernel
theorem dL_law_1989 : decode cL_law 1989 = .ok (.goto 4, 3) := by decide +kernel
theorem dL_law_2015 : decode cL_law 2015 = .ok (.iconst 1, 1) := by decide +kernel
theorem dL_law_2016 : decode cL_law 2016 = .ok (.goto 4, 3) := by decide +kernel
set_option maxHeartbeats 4000000 in
set_option maxRecDepth 100000 in
theorem law_25 {l : Launch} {p : Program} {e : Env} {s : State} {m : MethodId} {below : List Frame} {meth : Method} {c : Code} {bs : Nat} {xs : Nat → Int32} {A : Nat → Prop} {dC : Nat → ClassId} {dI : Nat → Nat → Nat} {g : Nat → ClassId} {a b r1 r2 : Nat → Nat} {ou od : Nat} {Q : State → Prop} {H : Heap} {locs : List Loc} {ls : Array Slot} (C9 : LC l p s m c bs xs A dC dI g a b r1 r2 ou od) (hP : va_P (dC, dI) vwCl (lawL a g ou ++ lawR b r1 r2 g od) H) (hS : va_S A s.heap H locs) (hl : lv_has ls 10 [(5, .int 0), (0, .ref bs), (1, .ref (a 0)), (2, .ref (b 0)), (3, .ref ou), (4, .ref od)]) (hend : ∀ (H : Heap) (locs : List Loc), va_S A s.heap H locs → ∀ (ls : Array Slot), lv_has ls 10 [(5, .int 0), (0, .ref bs)] → W p l e room_1 s m #[Value.ref bs] below meth c H locs 6000 90000 Q (F0 m 2812 ls [])) : W p l e room_1 s m #[Value.ref bs] below meth c H locs 2000 30000 Q (F0 m 1812 ls []) := by
  obtain ⟨hlf, hx, hb, hml, hown, hts, hX, hbl, hbA, hK, hG, hA, hDD⟩ := C9
  refine lv_aload_n hx hb dL_law_1812 rfl (lv_at hl 2 rfl) ?_
  refine lv_aload_n hx hb dL_law_1813 rfl (lv_at hl 1 rfl) ?_
  refine lv_iload hx hb dL_law_1814 (lv_at hl 0 rfl) ?_
  refine lv_iconst (v := 1) hx hb dL_law_1816 (by decide) ?_
  refine lv_iadd hx hb dL_law_1817 ?_
  refine lv_topi (fun x_1 ex_1 => ?_)
  obtain rfl : x_1 = 1 := ex_1.trans (by decide)
  refine va_sld hx hb hX hbl hbA hS (by unfold vp_in; decide) dL_law_1818 ?_
  refine W.eq (g2 := F0 m 1819 ls [.int (xs 1), .ref (a 0)]) rfl ?_
  refine lv_aload_n hx hb dL_law_1819 rfl (lv_at hl 1 rfl) ?_
  refine lv_iload hx hb dL_law_1820 (lv_at hl 0 rfl) ?_
  refine lv_iconst (v := 2) hx hb dL_law_1822 (by decide) ?_
  refine lv_iadd hx hb dL_law_1823 ?_
  refine lv_topi (fun x_2 ex_2 => ?_)
  obtain rfl : x_2 = 2 := ex_2.trans (by decide)
  refine va_sld hx hb hX hbl hbA hS (by unfold vp_in; decide) dL_law_1824 ?_
  refine W.eq (g2 := F0 m 1825 ls [.int (xs 2), .int (xs 1), .ref (a 0)]) rfl ?_
  refine lv_aload_n hx hb dL_law_1825 rfl (lv_at hl 4 rfl) ?_
  have hPc : va_P (dC, dI) vwCl (offW a g ++ [(ou, .inl (g 2, 1, .inr (.inl (fun _ => 0))))]) H := P_l hP
  have hDc : va_D A (offW a g ++ [(ou, .inl (g 2, 1, .inr (.inl (fun _ => 0))))]) := D_l hDD
  have hPm0 : va_P (dC, dI) vwCl (modW b r1 r2 g 0) H := P_l (P_r hP)
  have hFc : ∀ q, va_A (offW a g ++ [(ou, .inl (g 2, 1, .inr (.inl (fun _ => 0))))]) H.size q → A q := A_all hDc hA hS.1
  refine va_calli (vx_runSW (As := [.ref (a 0), .int (xs 1), .int (xs 2), .ref ou]) (rest := []) ⟨hx, hb, hml, hown, hts⟩ (c_L_sort l hlf dC dI g a (xs 1) (xs 2) ou (fun _ => 0) H.size) (vx_cwSW 4 hts (gX gL_law_L_sort) rfl rfl rfl (by decide +kernel) ⟨Nat.le_of_ble_eq_true rfl, Nat.le_of_ble_eq_true rfl⟩) ⟨PG_blind, PG_call hK hG hS hPc hDc hFc⟩ rfl rfl hl.1 rfl (lv_room (Nat.le_of_ble_eq_true rfl)) dL_law_1826 ⟨Nat.le_of_ble_eq_true rfl, Nat.le_of_ble_eq_true rfl⟩) hS (fun q _ h => hFc q h) hFc (fun r_1 f_1 t_1 H_1 L_1 ht_1 hvm_1 hw_1 hB_1 hz_1 hk_1 hS => ?_)
  rw [ht_1] at hB_1
  have hPm : va_P (dC, dI) vwCl (modW b r1 r2 g 0) H_1 := P_l (rest_kept hP hDD hk_1)
  obtain ⟨hr1, hv1⟩ := hw_1
  obtain rfl : r_1 = (cd (TOKb (xs 1) && TOKb (xs 2)) true true) := hr1
  refine lv_istore (lv' := [(6, .int (cd (TOKb (xs 1) && TOKb (xs 2)) true true)), (5, .int 0), (0, .ref bs), (1, .ref (a 0)), (2, .ref (b 0)), (3, .ref ou), (4, .ref od)]) hx hb dL_law_1829 hl (by decide) rfl (fun ls hl => ?_)
  refine lv_aload_n hx hb dL_law_1831 rfl (lv_at hl 4 rfl) ?_
  refine lv_aload_n hx hb dL_law_1832 rfl (lv_at hl 2 rfl) ?_
  refine lv_iload hx hb dL_law_1833 (lv_at hl 1 rfl) ?_
  refine lv_iconst (v := 1) hx hb dL_law_1835 (by decide) ?_
  refine lv_iadd hx hb dL_law_1836 ?_
  refine lv_topi (fun x_3 ex_3 => ?_)
  obtain rfl : x_3 = 1 := ex_3.trans (by decide)
  refine va_sld hx hb hX hbl hbA hS (by unfold vp_in; decide) dL_law_1837 ?_
  refine W.eq (g2 := F0 m 1838 ls [.int (xs 1), .ref (b 0)]) rfl ?_
  refine lv_aload_n hx hb dL_law_1838 rfl (lv_at hl 2 rfl) ?_
  refine lv_iload hx hb dL_law_1839 (lv_at hl 1 rfl) ?_
  refine lv_iconst (v := 2) hx hb dL_law_1841 (by decide) ?_
  refine lv_iadd hx hb dL_law_1842 ?_
  refine lv_topi (fun x_4 ex_4 => ?_)
  obtain rfl : x_4 = 2 := ex_4.trans (by decide)
  refine va_sld hx hb hX hbl hbA hS (by unfold vp_in; decide) dL_law_1843 ?_
  refine W.eq (g2 := F0 m 1844 ls [.int (xs 2), .int (xs 1), .ref (b 0)]) rfl ?_
  have hDm : va_D A (modW b r1 r2 g 0) := D_l (D_r hDD)
  have hFm : ∀ q, va_A (modW b r1 r2 g 0) H_1.size q → A q := A_all hDm hA hS.1
  refine va_calli (va_runV (As := [.int (xs 1), .int (xs 2)]) (rest := []) ⟨hx, hb, hml, hown, hts⟩ (c_X13_sort l dC dI g b r1 r2 (xs 1) (xs 2) 0 H_1.size) (cwV 2 hts (gX gL_law_X13_sort) rfl rfl rfl (by decide +kernel) ⟨Nat.le_of_ble_eq_true rfl, Nat.le_of_ble_eq_true rfl⟩) ⟨PG_blind, va_recv hK hPm (ci := 15) (q0 := 0) rfl (m_0 b r1 r2 g 0), PG_call hK hG hS hPm hDm hFm⟩ rfl rfl hl.1 rfl (lv_room (Nat.le_of_ble_eq_true rfl)) dL_law_1844 ⟨Nat.le_of_ble_eq_true rfl, Nat.le_of_ble_eq_true rfl⟩) hS (fun q _ h => hFm q h) hFm (fun r_2 u_2 t_2 H_2 L_2 ht_2 hvm_2 hw_2 hB_2 hz_2 hk_2 hS => ?_)
  replace hB_1 := kept_by hB_1 hk_2 (ap_ou hDD)
  obtain ⟨fs, hB_2⟩ := hB_2
  rw [ht_2] at hB_2
  refine lv_istore (lv' := [(7, .int r_2), (6, .int (cd (TOKb (xs 1) && TOKb (xs 2)) true true)), (5, .int 0), (0, .ref bs), (1, .ref (a 0)), (2, .ref (b 0)), (3, .ref ou), (4, .ref od)]) hx hb dL_law_1847 hl (by decide) rfl (fun ls hl => ?_)
  refine lv_aload_n hx hb dL_law_1849 rfl (lv_at hl 5 rfl) ?_
  have hFt := A_one (e := .inr (15, .int ((cd (TOKb (xs 1) && TOKb (xs 2)) true true)) :: fs)) (sz := 0) (H0 := H) (A_b0 hDD) hA hS
  have hDt : va_D A [(b 0, .inr (15, .int ((cd (TOKb (xs 1) && TOKb (xs 2)) true true)) :: fs))] := D_one (A_b0 hDD)
  refine va_calli (va_runV (As := []) (rest := []) ⟨hx, hb, hml, hown, hts⟩ (c_X13_thrown l dC dI g [(b 0, .inr (15, .int ((cd (TOKb (xs 1) && TOKb (xs 2)) true true)) :: fs))] (b 0) ((cd (TOKb (xs 1) && TOKb (xs 2)) true true)) fs 0 rfl H_2.size) (cwV 0 hts (gX gL_law_X13_thrown) rfl rfl rfl (by decide +kernel) ⟨Nat.le_of_ble_eq_true rfl, Nat.le_of_ble_eq_true rfl⟩) ⟨PG_blind, va_recv hK hB_2 (ci := 15) (q0 := 0) rfl rfl, PG_call hK hG hS hB_2 hDt hFt⟩ rfl rfl hl.1 rfl (lv_room (Nat.le_of_ble_eq_true rfl)) dL_law_1850 ⟨Nat.le_of_ble_eq_true rfl, Nat.le_of_ble_eq_true rfl⟩) hS (fun q _ h => hFt q h) hFt (fun r_3 u_3 t_3 H_3 L_3 ht_3 hvm_3 hw_3 hB_3 hz_3 hk_3 hS => ?_)
  obtain rfl : r_3 = (cd (TOKb (xs 1) && TOKb (xs 2)) true true) := hw_3
  replace hB_1 := kept_by hB_1 hk_3 (fun j k p q hj hk e => by
      obtain rfl : j = 0 := by
        have h1 := (List.getElem?_eq_some_iff.mp hj).1
        simp only [List.length_singleton] at h1
        omega
      cases hj
      exact ap_ou hDD 0 k _ q (m_0 b r1 r2 g 0) hk e)
  refine lv_iload hx hb dL_law_1853 (lv_at hl 1 rfl) ?_
  refine lv_icmp_eq (tgt := 1860) hx hb dL_law_1855 (by decide) (fun _ => ?_) (fun c9 => absurd rfl c9)
  refine lv_iload hx hb dL_law_1860 (lv_at hl 1 rfl) ?_
  refine lv_if_ne (tgt := 1877) hx hb dL_law_1862 (by decide) (fun h0 => ?_) (fun h0 => ?_)
  · refine lv_goto (tgt := 2812) hx hb dL_law_1877 (by decide) ?_
    refine W.widen (k := 6000) (n := 90000) (Nat.le_of_ble_eq_true rfl) (Nat.le_of_ble_eq_true rfl) ?_
    exact hend _ _ hS _ (lv_sub hl [2, 3] rfl)
  · obtain rfl : r_2 = 0 := hw_2 h0
    refine lv_aload_n hx hb dL_law_1865 rfl (lv_at hl 6 rfl) ?_
    refine lv_iconst (v := 0) hx hb dL_law_1866 (by decide) ?_
    refine va_lald hx hb hK hB_1 0 2 rfl rfl (by unfold vp_in; decide) dL_law_1867 ?_
    refine W.eq (g2 := F0 m 1868 ls [.long ((0 : Int32).toInt64)]) (by rw [show f_1 (0 : Int32).toNatClampNeg = (0 : Int32).toInt64 from hv1 h0]) ?_
    refine lv_iload hx hb dL_law_1868 (lv_at hl 0 rfl) ?_
    refine lv_i2l (v := (0 : Int32).toInt64) hx hb dL_law_1870 rfl ?_
    refine W.lcmp hx hb dL_law_1871 ?_
    refine W.eq (g2 := F0 m 1872 ls [.int 0]) (by first | rw [lg_cmp_self] | exact congrArg (fun z => F0 m 1872 ls [.int z]) (lg_cmp_self _)) ?_
    refine lv_if_eq (tgt := 1877) hx hb dL_law_1872 (by decide) (fun c_5 => ?_) (fun c_5 => absurd (by decide) c_5)
    refine lv_goto (tgt := 2812) hx hb dL_law_1877 (by decide) ?_
    refine W.widen (k := 6000) (n := 90000) (Nat.le_of_ble_eq_true rfl) (Nat.le_of_ble_eq_true rfl) ?_
    exact hend _ _ hS _ (lv_sub hl [2, 3] rfl)
theorem gLX_combine : GoodIn wsLX (va_wsS RL 230 yL_combine wsL_combine2) := fun w hw => (List.mem_append.mp (show w ∈ _ ++ wsL_combine2 from hw)).elim (fun h => (gX gL_law_L_combine) w (List.mem_append_left _ h)) (fun h => (List.mem_cons.mp h).elim (fun e => (gX gL_law_L_combine) w (List.mem_append_right _ (by rw [e]; exact List.mem_cons_self))) (fun h => (List.mem_append.mp h).elim (fun h => (gX gL_law_L_combine) w (List.mem_append_right _ h)) (fun h => gXX w (sub_of (by decide +kernel) h))))
set_option maxHeartbeats 4000000 in
set_option maxRecDepth 100000 in
theorem law_26 {l : Launch} {p : Program} {e : Env} {s : State} {m : MethodId} {below : List Frame} {meth : Method} {c : Code} {bs : Nat} {xs : Nat → Int32} {A : Nat → Prop} {dC : Nat → ClassId} {dI : Nat → Nat → Nat} {g : Nat → ClassId} {a b r1 r2 : Nat → Nat} {ou od : Nat} {Q : State → Prop} {H : Heap} {locs : List Loc} {ls : Array Slot} (C9 : LC l p s m c bs xs A dC dI g a b r1 r2 ou od) (hP : va_P (dC, dI) vwCl (lawL a g ou ++ lawR b r1 r2 g od) H) (hS : va_S A s.heap H locs) (hl : lv_has ls 10 [(5, .int 0), (0, .ref bs), (1, .ref (a 0)), (2, .ref (b 0)), (3, .ref ou), (4, .ref od)]) (hend : ∀ (H : Heap) (locs : List Loc), va_S A s.heap H locs → ∀ (ls : Array Slot), lv_has ls 10 [(5, .int 0), (0, .ref bs)] → W p l e room_1 s m #[Value.ref bs] below meth c H locs 6000 90000 Q (F0 m 2812 ls [])) : W p l e room_1 s m #[Value.ref bs] below meth c H locs 2000 30000 Q (F0 m 1880 ls []) := by
  obtain ⟨hlf, hx, hb, hml, hown, hts, hX, hbl, hbA, hK, hG, hA, hDD⟩ := C9
  refine lv_aload_n hx hb dL_law_1880 rfl (lv_at hl 2 rfl) ?_
  refine lv_aload_n hx hb dL_law_1881 rfl (lv_at hl 1 rfl) ?_
  refine lv_iload hx hb dL_law_1882 (lv_at hl 0 rfl) ?_
  refine lv_iconst (v := 1) hx hb dL_law_1884 (by decide) ?_
  refine lv_iadd hx hb dL_law_1885 ?_
  refine lv_topi (fun x_1 ex_1 => ?_)
  obtain rfl : x_1 = 1 := ex_1.trans (by decide)
  refine va_sld hx hb hX hbl hbA hS (by unfold vp_in; decide) dL_law_1886 ?_
  refine W.eq (g2 := F0 m 1887 ls [.int (xs 1), .ref (a 0)]) rfl ?_
  refine lv_aload_n hx hb dL_law_1887 rfl (lv_at hl 1 rfl) ?_
  refine lv_iload hx hb dL_law_1888 (lv_at hl 0 rfl) ?_
  refine lv_iconst (v := 2) hx hb dL_law_1890 (by decide) ?_
  refine lv_iadd hx hb dL_law_1891 ?_
  refine lv_topi (fun x_2 ex_2 => ?_)
  obtain rfl : x_2 = 2 := ex_2.trans (by decide)
  refine va_sld hx hb hX hbl hbA hS (by unfold vp_in; decide) dL_law_1892 ?_
  refine W.eq (g2 := F0 m 1893 ls [.int (xs 2), .int (xs 1), .ref (a 0)]) rfl ?_
  refine lv_aload_n hx hb dL_law_1893 rfl (lv_at hl 1 rfl) ?_
  refine lv_iload hx hb dL_law_1894 (lv_at hl 0 rfl) ?_
  refine lv_iconst (v := 3) hx hb dL_law_1896 (by decide) ?_
  refine lv_iadd hx hb dL_law_1897 ?_
  refine lv_topi (fun x_3 ex_3 => ?_)
  obtain rfl : x_3 = 3 := ex_3.trans (by decide)
  refine va_sld hx hb hX hbl hbA hS (by unfold vp_in; decide) dL_law_1898 ?_
  refine W.eq (g2 := F0 m 1899 ls [.int (xs 3), .int (xs 2), .int (xs 1), .ref (a 0)]) rfl ?_
  refine lv_aload_n hx hb dL_law_1899 rfl (lv_at hl 1 rfl) ?_
  refine lv_iload hx hb dL_law_1900 (lv_at hl 0 rfl) ?_
  refine lv_iconst (v := 4) hx hb dL_law_1902 (by decide) ?_
  refine lv_iadd hx hb dL_law_1903 ?_
  refine lv_topi (fun x_4 ex_4 => ?_)
  obtain rfl : x_4 = 4 := ex_4.trans (by decide)
  refine va_sld hx hb hX hbl hbA hS (by unfold vp_in; decide) dL_law_1904 ?_
  refine W.eq (g2 := F0 m 1905 ls [.int (xs 4), .int (xs 3), .int (xs 2), .int (xs 1), .ref (a 0)]) rfl ?_
  refine lv_aload_n hx hb dL_law_1905 rfl (lv_at hl 4 rfl) ?_
  have hPc : va_P (dC, dI) vwCl (offW a g ++ [(ou, .inl (g 2, 1, .inr (.inl (fun _ => 0))))]) H := P_l hP
  have hDc : va_D A (offW a g ++ [(ou, .inl (g 2, 1, .inr (.inl (fun _ => 0))))]) := D_l hDD
  have hPm0 : va_P (dC, dI) vwCl (modW b r1 r2 g 0) H := P_l (P_r hP)
  have hFc : ∀ q, va_A (offW a g ++ [(ou, .inl (g 2, 1, .inr (.inl (fun _ => 0))))]) H.size q → A q := A_all hDc hA hS.1
  refine va_calli (vx_runSW (As := [.ref (a 0), .int (xs 1), .int (xs 2), .int (xs 3), .int (xs 4), .ref ou]) (rest := []) ⟨hx, hb, hml, hown, hts⟩ (c_L_combine l hlf dC dI g a (xs 1) (xs 2) (xs 3) (xs 4) ou (fun _ => 0) H.size) (vx_cwSW 6 hts (gLX_combine) rfl rfl rfl (by decide +kernel) ⟨Nat.le_of_ble_eq_true rfl, Nat.le_of_ble_eq_true rfl⟩) ⟨PG_blind, PG_call hK hG hS hPc hDc hFc⟩ rfl rfl hl.1 rfl (lv_room (Nat.le_of_ble_eq_true rfl)) dL_law_1906 ⟨Nat.le_of_ble_eq_true rfl, Nat.le_of_ble_eq_true rfl⟩) hS (fun q _ h => hFc q h) hFc (fun r_1 f_1 t_1 H_1 L_1 ht_1 hvm_1 hw_1 hB_1 hz_1 hk_1 hS => ?_)
  rw [ht_1] at hB_1
  have hPm : va_P (dC, dI) vwCl (modW b r1 r2 g 0) H_1 := P_l (rest_kept hP hDD hk_1)
  obtain ⟨hr1, hv1⟩ := hw_1
  obtain rfl : r_1 = (cd (TOKb (xs 1) && TOKb (xs 2) && TOKb (xs 3)) (rngb (xs 4) 0 2) (TOKb (xs 1) && TOKb (xs 2) && TOKb (xs 3))) := hr1
  refine lv_istore (lv' := [(6, .int (cd (TOKb (xs 1) && TOKb (xs 2) && TOKb (xs 3)) (rngb (xs 4) 0 2) (TOKb (xs 1) && TOKb (xs 2) && TOKb (xs 3)))), (5, .int 0), (0, .ref bs), (1, .ref (a 0)), (2, .ref (b 0)), (3, .ref ou), (4, .ref od)]) hx hb dL_law_1909 hl (by decide) rfl (fun ls hl => ?_)
  refine lv_aload_n hx hb dL_law_1911 rfl (lv_at hl 4 rfl) ?_
  refine lv_aload_n hx hb dL_law_1912 rfl (lv_at hl 2 rfl) ?_
  refine lv_iload hx hb dL_law_1913 (lv_at hl 1 rfl) ?_
  refine lv_iconst (v := 1) hx hb dL_law_1915 (by decide) ?_
  refine lv_iadd hx hb dL_law_1916 ?_
  refine lv_topi (fun x_5 ex_5 => ?_)
  obtain rfl : x_5 = 1 := ex_5.trans (by decide)
  refine va_sld hx hb hX hbl hbA hS (by unfold vp_in; decide) dL_law_1917 ?_
  refine W.eq (g2 := F0 m 1918 ls [.int (xs 1), .ref (b 0)]) rfl ?_
  refine lv_aload_n hx hb dL_law_1918 rfl (lv_at hl 2 rfl) ?_
  refine lv_iload hx hb dL_law_1919 (lv_at hl 1 rfl) ?_
  refine lv_iconst (v := 2) hx hb dL_law_1921 (by decide) ?_
  refine lv_iadd hx hb dL_law_1922 ?_
  refine lv_topi (fun x_6 ex_6 => ?_)
  obtain rfl : x_6 = 2 := ex_6.trans (by decide)
  refine va_sld hx hb hX hbl hbA hS (by unfold vp_in; decide) dL_law_1923 ?_
  refine W.eq (g2 := F0 m 1924 ls [.int (xs 2), .int (xs 1), .ref (b 0)]) rfl ?_
  refine lv_aload_n hx hb dL_law_1924 rfl (lv_at hl 2 rfl) ?_
  refine lv_iload hx hb dL_law_1925 (lv_at hl 1 rfl) ?_
  refine lv_iconst (v := 3) hx hb dL_law_1927 (by decide) ?_
  refine lv_iadd hx hb dL_law_1928 ?_
  refine lv_topi (fun x_7 ex_7 => ?_)
  obtain rfl : x_7 = 3 := ex_7.trans (by decide)
  refine va_sld hx hb hX hbl hbA hS (by unfold vp_in; decide) dL_law_1929 ?_
  refine W.eq (g2 := F0 m 1930 ls [.int (xs 3), .int (xs 2), .int (xs 1), .ref (b 0)]) rfl ?_
  refine lv_aload_n hx hb dL_law_1930 rfl (lv_at hl 2 rfl) ?_
  refine lv_iload hx hb dL_law_1931 (lv_at hl 1 rfl) ?_
  refine lv_iconst (v := 4) hx hb dL_law_1933 (by decide) ?_
  refine lv_iadd hx hb dL_law_1934 ?_
  refine lv_topi (fun x_8 ex_8 => ?_)
  obtain rfl : x_8 = 4 := ex_8.trans (by decide)
  refine va_sld hx hb hX hbl hbA hS (by unfold vp_in; decide) dL_law_1935 ?_
  refine W.eq (g2 := F0 m 1936 ls [.int (xs 4), .int (xs 3), .int (xs 2), .int (xs 1), .ref (b 0)]) rfl ?_
  have hDm : va_D A (modW b r1 r2 g 0) := D_l (D_r hDD)
  have hFm : ∀ q, va_A (modW b r1 r2 g 0) H_1.size q → A q := A_all hDm hA hS.1
  refine va_calli (va_runV (As := [.int (xs 1), .int (xs 2), .int (xs 3), .int (xs 4)]) (rest := []) ⟨hx, hb, hml, hown, hts⟩ (c_X13_combine l dC dI g b r1 r2 (xs 1) (xs 2) (xs 3) (xs 4) 0 H_1.size) (cwV 4 hts (gX gL_law_X13_combine) rfl rfl rfl (by decide +kernel) ⟨Nat.le_of_ble_eq_true rfl, Nat.le_of_ble_eq_true rfl⟩) ⟨PG_blind, va_recv hK hPm (ci := 15) (q0 := 0) rfl (m_0 b r1 r2 g 0), PG_call hK hG hS hPm hDm hFm⟩ rfl rfl hl.1 rfl (lv_room (Nat.le_of_ble_eq_true rfl)) dL_law_1936 ⟨Nat.le_of_ble_eq_true rfl, Nat.le_of_ble_eq_true rfl⟩) hS (fun q _ h => hFm q h) hFm (fun r_2 u_2 t_2 H_2 L_2 ht_2 hvm_2 hw_2 hB_2 hz_2 hk_2 hS => ?_)
  replace hB_1 := kept_by hB_1 hk_2 (ap_ou hDD)
  obtain ⟨fs, hB_2⟩ := hB_2
  rw [ht_2] at hB_2
  refine lv_istore (lv' := [(7, .int r_2), (6, .int (cd (TOKb (xs 1) && TOKb (xs 2) && TOKb (xs 3)) (rngb (xs 4) 0 2) (TOKb (xs 1) && TOKb (xs 2) && TOKb (xs 3)))), (5, .int 0), (0, .ref bs), (1, .ref (a 0)), (2, .ref (b 0)), (3, .ref ou), (4, .ref od)]) hx hb dL_law_1939 hl (by decide) rfl (fun ls hl => ?_)
  refine lv_aload_n hx hb dL_law_1941 rfl (lv_at hl 5 rfl) ?_
  have hFt := A_one (e := .inr (15, .int ((cd (TOKb (xs 1) && TOKb (xs 2) && TOKb (xs 3)) (rngb (xs 4) 0 2) (TOKb (xs 1) && TOKb (xs 2) && TOKb (xs 3)))) :: fs)) (sz := 0) (H0 := H) (A_b0 hDD) hA hS
  have hDt : va_D A [(b 0, .inr (15, .int ((cd (TOKb (xs 1) && TOKb (xs 2) && TOKb (xs 3)) (rngb (xs 4) 0 2) (TOKb (xs 1) && TOKb (xs 2) && TOKb (xs 3)))) :: fs))] := D_one (A_b0 hDD)
  refine va_calli (va_runV (As := []) (rest := []) ⟨hx, hb, hml, hown, hts⟩ (c_X13_thrown l dC dI g [(b 0, .inr (15, .int ((cd (TOKb (xs 1) && TOKb (xs 2) && TOKb (xs 3)) (rngb (xs 4) 0 2) (TOKb (xs 1) && TOKb (xs 2) && TOKb (xs 3)))) :: fs))] (b 0) ((cd (TOKb (xs 1) && TOKb (xs 2) && TOKb (xs 3)) (rngb (xs 4) 0 2) (TOKb (xs 1) && TOKb (xs 2) && TOKb (xs 3)))) fs 0 rfl H_2.size) (cwV 0 hts (gX gL_law_X13_thrown) rfl rfl rfl (by decide +kernel) ⟨Nat.le_of_ble_eq_true rfl, Nat.le_of_ble_eq_true rfl⟩) ⟨PG_blind, va_recv hK hB_2 (ci := 15) (q0 := 0) rfl rfl, PG_call hK hG hS hB_2 hDt hFt⟩ rfl rfl hl.1 rfl (lv_room (Nat.le_of_ble_eq_true rfl)) dL_law_1942 ⟨Nat.le_of_ble_eq_true rfl, Nat.le_of_ble_eq_true rfl⟩) hS (fun q _ h => hFt q h) hFt (fun r_3 u_3 t_3 H_3 L_3 ht_3 hvm_3 hw_3 hB_3 hz_3 hk_3 hS => ?_)
  obtain rfl : r_3 = (cd (TOKb (xs 1) && TOKb (xs 2) && TOKb (xs 3)) (rngb (xs 4) 0 2) (TOKb (xs 1) && TOKb (xs 2) && TOKb (xs 3))) := hw_3
  replace hB_1 := kept_by hB_1 hk_3 (fun j k p q hj hk e => by
      obtain rfl : j = 0 := by
        have h1 := (List.getElem?_eq_some_iff.mp hj).1
        simp only [List.length_singleton] at h1
        omega
      cases hj
      exact ap_ou hDD 0 k _ q (m_0 b r1 r2 g 0) hk e)
  refine lv_iload hx hb dL_law_1945 (lv_at hl 1 rfl) ?_
  refine lv_icmp_eq (tgt := 1952) hx hb dL_law_1947 (by decide) (fun _ => ?_) (fun c9 => absurd rfl c9)
  refine lv_iload hx hb dL_law_1952 (lv_at hl 1 rfl) ?_
  refine lv_if_ne (tgt := 1969) hx hb dL_law_1954 (by decide) (fun h0 => ?_) (fun h0 => ?_)
  · refine lv_goto (tgt := 2812) hx hb dL_law_1969 (by decide) ?_
    refine W.widen (k := 6000) (n := 90000) (Nat.le_of_ble_eq_true rfl) (Nat.le_of_ble_eq_true rfl) ?_
    exact hend _ _ hS _ (lv_sub hl [2, 3] rfl)
  · obtain rfl : r_2 = 0 := hw_2 h0
    refine lv_aload_n hx hb dL_law_1957 rfl (lv_at hl 6 rfl) ?_
    refine lv_iconst (v := 0) hx hb dL_law_1958 (by decide) ?_
    refine va_lald hx hb hK hB_1 0 2 rfl rfl (by unfold vp_in; decide) dL_law_1959 ?_
    refine W.eq (g2 := F0 m 1960 ls [.long ((0 : Int32).toInt64)]) (by rw [show f_1 (0 : Int32).toNatClampNeg = (0 : Int32).toInt64 from hv1 h0]) ?_
    refine lv_iload hx hb dL_law_1960 (lv_at hl 0 rfl) ?_
    refine lv_i2l (v := (0 : Int32).toInt64) hx hb dL_law_1962 rfl ?_
    refine W.lcmp hx hb dL_law_1963 ?_
    refine W.eq (g2 := F0 m 1964 ls [.int 0]) (by first | rw [lg_cmp_self] | exact congrArg (fun z => F0 m 1964 ls [.int z]) (lg_cmp_self _)) ?_
    refine lv_if_eq (tgt := 1969) hx hb dL_law_1964 (by decide) (fun c_9 => ?_) (fun c_9 => absurd (by decide) c_9)
    refine lv_goto (tgt := 2812) hx hb dL_law_1969 (by decide) ?_
    refine W.widen (k := 6000) (n := 90000) (Nat.le_of_ble_eq_true rfl) (Nat.le_of_ble_eq_true rfl) ?_
    exact hend _ _ hS _ (lv_sub hl [2, 3] rfl)
set_option maxHeartbeats 4000000 in
set_option maxRecDepth 100000 in
theorem law_27 {l : Launch} {p : Program} {e : Env} {s : State} {m : MethodId} {below : List Frame} {meth : Method} {c : Code} {bs : Nat} {xs : Nat → Int32} {A : Nat → Prop} {dC : Nat → ClassId} {dI : Nat → Nat → Nat} {g : Nat → ClassId} {a b r1 r2 : Nat → Nat} {ou od : Nat} {Q : State → Prop} {H : Heap} {locs : List Loc} {ls : Array Slot} (C9 : LC l p s m c bs xs A dC dI g a b r1 r2 ou od) (hP : va_P (dC, dI) vwCl (lawL a g ou ++ lawR b r1 r2 g od) H) (hS : va_S A s.heap H locs) (hl : lv_has ls 10 [(5, .int 0), (0, .ref bs), (1, .ref (a 0)), (2, .ref (b 0)), (3, .ref ou), (4, .ref od)]) (hend : ∀ (H : Heap) (locs : List Loc), va_S A s.heap H locs → ∀ (ls : Array Slot), lv_has ls 10 [(5, .int 0), (0, .ref bs)] → W p l e room_1 s m #[Value.ref bs] below meth c H locs 6000 90000 Q (F0 m 2812 ls [])) : W p l e room_1 s m #[Value.ref bs] below meth c H locs 2000 30000 Q (F0 m 1972 ls []) := by
  obtain ⟨hlf, hx, hb, hml, hown, hts, hX, hbl, hbA, hK, hG, hA, hDD⟩ := C9
  refine lv_aload_n hx hb dL_law_1972 rfl (lv_at hl 2 rfl) ?_
  refine lv_aload_n hx hb dL_law_1973 rfl (lv_at hl 1 rfl) ?_
  refine lv_iload hx hb dL_law_1974 (lv_at hl 0 rfl) ?_
  refine lv_iconst (v := 1) hx hb dL_law_1976 (by decide) ?_
  refine lv_iadd hx hb dL_law_1977 ?_
  refine lv_topi (fun x_1 ex_1 => ?_)
  obtain rfl : x_1 = 1 := ex_1.trans (by decide)
  refine va_sld hx hb hX hbl hbA hS (by unfold vp_in; decide) dL_law_1978 ?_
  refine W.eq (g2 := F0 m 1979 ls [.int (xs 1), .ref (a 0)]) rfl ?_
  refine lv_aload_n hx hb dL_law_1979 rfl (lv_at hl 1 rfl) ?_
  refine lv_iload hx hb dL_law_1980 (lv_at hl 0 rfl) ?_
  refine lv_iconst (v := 2) hx hb dL_law_1982 (by decide) ?_
  refine lv_iadd hx hb dL_law_1983 ?_
  refine lv_topi (fun x_2 ex_2 => ?_)
  obtain rfl : x_2 = 2 := ex_2.trans (by decide)
  refine va_sld hx hb hX hbl hbA hS (by unfold vp_in; decide) dL_law_1984 ?_
  refine W.eq (g2 := F0 m 1985 ls [.int (xs 2), .int (xs 1), .ref (a 0)]) rfl ?_
  refine lv_if_eq (tgt := 1992) hx hb dL_law_1985 (by decide) (fun c_3 => ?_) (fun c_3 => ?_)
  · refine lv_iconst (v := 0) hx hb dL_law_1992 (by decide) ?_
    refine lv_aload_n hx hb dL_law_1993 rfl (lv_at hl 4 rfl) ?_
    have hPc : va_P (dC, dI) vwCl (offW a g ++ [(ou, .inl (g 2, 1, .inr (.inl (fun _ => 0))))]) H := P_l hP
    have hDc : va_D A (offW a g ++ [(ou, .inl (g 2, 1, .inr (.inl (fun _ => 0))))]) := D_l hDD
    have hPm0 : va_P (dC, dI) vwCl (modW b r1 r2 g 0) H := P_l (P_r hP)
    have hFc : ∀ q, va_A (offW a g ++ [(ou, .inl (g 2, 1, .inr (.inl (fun _ => 0))))]) H.size q → A q := A_all hDc hA hS.1
    refine va_calli (vx_runSW (As := [.ref (a 0), .int (xs 1), .int 0, .ref ou]) (rest := []) ⟨hx, hb, hml, hown, hts⟩ (c_L_thin l hlf dC dI g a (xs 1) (0 : Int32) ou (fun _ => 0) H.size) (vx_cwSW 4 hts (gX gL_law_L_thin) rfl rfl rfl (by decide +kernel) ⟨Nat.le_of_ble_eq_true rfl, Nat.le_of_ble_eq_true rfl⟩) ⟨PG_blind, PG_call hK hG hS hPc hDc hFc⟩ rfl rfl hl.1 rfl (lv_room (Nat.le_of_ble_eq_true rfl)) dL_law_1994 ⟨Nat.le_of_ble_eq_true rfl, Nat.le_of_ble_eq_true rfl⟩) hS (fun q _ h => hFc q h) hFc (fun r_1 f_1 t_1 H_1 L_1 ht_1 hvm_1 hw_1 hB_1 hz_1 hk_1 hS => ?_)
    rw [ht_1] at hB_1
    have hPm : va_P (dC, dI) vwCl (modW b r1 r2 g 0) H_1 := P_l (rest_kept hP hDD hk_1)
    obtain ⟨hr1, hv1⟩ := hw_1
    obtain rfl : r_1 = (cd (TOKb (xs 1)) true true) := hr1
    refine lv_istore (lv' := [(6, .int (cd (TOKb (xs 1)) true true)), (5, .int 0), (0, .ref bs), (1, .ref (a 0)), (2, .ref (b 0)), (3, .ref ou), (4, .ref od)]) hx hb dL_law_1997 hl (by decide) rfl (fun ls hl => ?_)
    refine lv_aload_n hx hb dL_law_1999 rfl (lv_at hl 4 rfl) ?_
    refine lv_aload_n hx hb dL_law_2000 rfl (lv_at hl 2 rfl) ?_
    refine lv_iload hx hb dL_law_2001 (lv_at hl 1 rfl) ?_
    refine lv_iconst (v := 1) hx hb dL_law_2003 (by decide) ?_
    refine lv_iadd hx hb dL_law_2004 ?_
    refine lv_topi (fun x_4 ex_4 => ?_)
    obtain rfl : x_4 = 1 := ex_4.trans (by decide)
    refine va_sld hx hb hX hbl hbA hS (by unfold vp_in; decide) dL_law_2005 ?_
    refine W.eq (g2 := F0 m 2006 ls [.int (xs 1), .ref (b 0)]) rfl ?_
    refine lv_aload_n hx hb dL_law_2006 rfl (lv_at hl 2 rfl) ?_
    refine lv_iload hx hb dL_law_2007 (lv_at hl 1 rfl) ?_
    refine lv_iconst (v := 2) hx hb dL_law_2009 (by decide) ?_
    refine lv_iadd hx hb dL_law_2010 ?_
    refine lv_topi (fun x_5 ex_5 => ?_)
    obtain rfl : x_5 = 2 := ex_5.trans (by decide)
    refine va_sld hx hb hX hbl hbA hS (by unfold vp_in; decide) dL_law_2011 ?_
    refine W.eq (g2 := F0 m 2012 ls [.int (xs 2), .int (xs 1), .ref (b 0)]) rfl ?_
    refine lv_if_eq (tgt := 2019) hx hb dL_law_2012 (by decide) (fun c_6 => ?_) (fun c_6 => absurd (c_3) c_6)
    refine lv_iconst (v := 0) hx hb dL_law_2019 (by decide) ?_
    have hDm : va_D A (modW b r1 r2 g 0) := D_l (D_r hDD)
    have hFm : ∀ q, va_A (modW b r1 r2 g 0) H_1.size q → A q := A_all hDm hA hS.1
    refine va_calli (va_runV (As := [.int (xs 1), .int 0]) (rest := []) ⟨hx, hb, hml, hown, hts⟩ (c_X13_thin l dC dI g b r1 r2 (xs 1) (0 : Int32) 0 H_1.size) (cwV 2 hts (gX gL_law_X13_thin) rfl rfl rfl (by decide +kernel) ⟨Nat.le_of_ble_eq_true rfl, Nat.le_of_ble_eq_true rfl⟩) ⟨PG_blind, va_recv hK hPm (ci := 15) (q0 := 0) rfl (m_0 b r1 r2 g 0), PG_call hK hG hS hPm hDm hFm⟩ rfl rfl hl.1 rfl (lv_room (Nat.le_of_ble_eq_true rfl)) dL_law_2020 ⟨Nat.le_of_ble_eq_true rfl, Nat.le_of_ble_eq_true rfl⟩) hS (fun q _ h => hFm q h) hFm (fun r_2 u_2 t_2 H_2 L_2 ht_2 hvm_2 hw_2 hB_2 hz_2 hk_2 hS => ?_)
    replace hB_1 := kept_by hB_1 hk_2 (ap_ou hDD)
    obtain ⟨fs, hB_2⟩ := hB_2
    rw [ht_2] at hB_2
    refine lv_istore (lv' := [(7, .int r_2), (6, .int (cd (TOKb (xs 1)) true true)), (5, .int 0), (0, .ref bs), (1, .ref (a 0)), (2, .ref (b 0)), (3, .ref ou), (4, .ref od)]) hx hb dL_law_2023 hl (by decide) rfl (fun ls hl => ?_)
    refine lv_aload_n hx hb dL_law_2025 rfl (lv_at hl 5 rfl) ?_
    have hFt := A_one (e := .inr (15, .int ((cd (TOKb (xs 1)) true true)) :: fs)) (sz := 0) (H0 := H) (A_b0 hDD) hA hS
    have hDt : va_D A [(b 0, .inr (15, .int ((cd (TOKb (xs 1)) true true)) :: fs))] := D_one (A_b0 hDD)
    refine va_calli (va_runV (As := []) (rest := []) ⟨hx, hb, hml, hown, hts⟩ (c_X13_thrown l dC dI g [(b 0, .inr (15, .int ((cd (TOKb (xs 1)) true true)) :: fs))] (b 0) ((cd (TOKb (xs 1)) true true)) fs 0 rfl H_2.size) (cwV 0 hts (gX gL_law_X13_thrown) rfl rfl rfl (by decide +kernel) ⟨Nat.le_of_ble_eq_true rfl, Nat.le_of_ble_eq_true rfl⟩) ⟨PG_blind, va_recv hK hB_2 (ci := 15) (q0 := 0) rfl rfl, PG_call hK hG hS hB_2 hDt hFt⟩ rfl rfl hl.1 rfl (lv_room (Nat.le_of_ble_eq_true rfl)) dL_law_2026 ⟨Nat.le_of_ble_eq_true rfl, Nat.le_of_ble_eq_true rfl⟩) hS (fun q _ h => hFt q h) hFt (fun r_3 u_3 t_3 H_3 L_3 ht_3 hvm_3 hw_3 hB_3 hz_3 hk_3 hS => ?_)
    obtain rfl : r_3 = (cd (TOKb (xs 1)) true true) := hw_3
    replace hB_1 := kept_by hB_1 hk_3 (fun j k p q hj hk e => by
      obtain rfl : j = 0 := by
        have h1 := (List.getElem?_eq_some_iff.mp hj).1
        simp only [List.length_singleton] at h1
        omega
      cases hj
      exact ap_ou hDD 0 k _ q (m_0 b r1 r2 g 0) hk e)
    refine lv_iload hx hb dL_law_2029 (lv_at hl 1 rfl) ?_
    refine lv_icmp_eq (tgt := 2036) hx hb dL_law_2031 (by decide) (fun _ => ?_) (fun c9 => absurd rfl c9)
    refine lv_iload hx hb dL_law_2036 (lv_at hl 1 rfl) ?_
    refine lv_if_ne (tgt := 2053) hx hb dL_law_2038 (by decide) (fun h0 => ?_) (fun h0 => ?_)
    · refine lv_goto (tgt := 2812) hx hb dL_law_2053 (by decide) ?_
      refine W.widen (k := 6000) (n := 90000) (Nat.le_of_ble_eq_true rfl) (Nat.le_of_ble_eq_true rfl) ?_
      exact hend _ _ hS _ (lv_sub hl [2, 3] rfl)
    · obtain rfl : r_2 = 0 := hw_2 h0
      refine lv_aload_n hx hb dL_law_2041 rfl (lv_at hl 6 rfl) ?_
      refine lv_iconst (v := 0) hx hb dL_law_2042 (by decide) ?_
      refine va_lald hx hb hK hB_1 0 2 rfl rfl (by unfold vp_in; decide) dL_law_2043 ?_
      refine W.eq (g2 := F0 m 2044 ls [.long ((0 : Int32).toInt64)]) (by rw [show f_1 (0 : Int32).toNatClampNeg = (0 : Int32).toInt64 from hv1 h0]) ?_
      refine lv_iload hx hb dL_law_2044 (lv_at hl 0 rfl) ?_
      refine lv_i2l (v := (0 : Int32).toInt64) hx hb dL_law_2046 rfl ?_
      refine W.lcmp hx hb dL_law_2047 ?_
      refine W.eq (g2 := F0 m 2048 ls [.int 0]) (by first | rw [lg_cmp_self] | exact congrArg (fun z => F0 m 2048 ls [.int z]) (lg_cmp_self _)) ?_
      refine lv_if_eq (tgt := 2053) hx hb dL_law_2048 (by decide) (fun c_7 => ?_) (fun c_7 => absurd (by decide) c_7)
      refine lv_goto (tgt := 2812) hx hb dL_law_2053 (by decide) ?_
      refine W.widen (k := 6000) (n := 90000) (Nat.le_of_ble_eq_true rfl) (Nat.le_of_ble_eq_true rfl) ?_
      exact hend _ _ hS _ (lv_sub hl [2, 3] rfl)
  · refine lv_iconst (v := 1) hx hb dL_law_1988 (by decide) ?_
    refine lv_goto (tgt := 1993) hx hb dL_law_1989 (by decide) ?_
    refine lv_aload_n hx hb dL_law_1993 rfl (lv_at hl 4 rfl) ?_
    have hPc : va_P (dC, dI) vwCl (offW a g ++ [(ou, .inl (g 2, 1, .inr (.inl (fun _ => 0))))]) H := P_l hP
    have hDc : va_D A (offW a g ++ [(ou, .inl (g 2, 1, .inr (.inl (fun _ => 0))))]) := D_l hDD
    have hPm0 : va_P (dC, dI) vwCl (modW b r1 r2 g 0) H := P_l (P_r hP)
    have hFc : ∀ q, va_A (offW a g ++ [(ou, .inl (g 2, 1, .inr (.inl (fun _ => 0))))]) H.size q → A q := A_all hDc hA hS.1
    refine va_calli (vx_runSW (As := [.ref (a 0), .int (xs 1), .int 1, .ref ou]) (rest := []) ⟨hx, hb, hml, hown, hts⟩ (c_L_thin l hlf dC dI g a (xs 1) (1 : Int32) ou (fun _ => 0) H.size) (vx_cwSW 4 hts (gX gL_law_L_thin) rfl rfl rfl (by decide +kernel) ⟨Nat.le_of_ble_eq_true rfl, Nat.le_of_ble_eq_true rfl⟩) ⟨PG_blind, PG_call hK hG hS hPc hDc hFc⟩ rfl rfl hl.1 rfl (lv_room (Nat.le_of_ble_eq_true rfl)) dL_law_1994 ⟨Nat.le_of_ble_eq_true rfl, Nat.le_of_ble_eq_true rfl⟩) hS (fun q _ h => hFc q h) hFc (fun r_1 f_1 t_1 H_1 L_1 ht_1 hvm_1 hw_1 hB_1 hz_1 hk_1 hS => ?_)
    rw [ht_1] at hB_1
    have hPm : va_P (dC, dI) vwCl (modW b r1 r2 g 0) H_1 := P_l (rest_kept hP hDD hk_1)
    obtain ⟨hr1, hv1⟩ := hw_1
    obtain rfl : r_1 = (cd (TOKb (xs 1)) true true) := hr1
    refine lv_istore (lv' := [(6, .int (cd (TOKb (xs 1)) true true)), (5, .int 0), (0, .ref bs), (1, .ref (a 0)), (2, .ref (b 0)), (3, .ref ou), (4, .ref od)]) hx hb dL_law_1997 hl (by decide) rfl (fun ls hl => ?_)
    refine lv_aload_n hx hb dL_law_1999 rfl (lv_at hl 4 rfl) ?_
    refine lv_aload_n hx hb dL_law_2000 rfl (lv_at hl 2 rfl) ?_
    refine lv_iload hx hb dL_law_2001 (lv_at hl 1 rfl) ?_
    refine lv_iconst (v := 1) hx hb dL_law_2003 (by decide) ?_
    refine lv_iadd hx hb dL_law_2004 ?_
    refine lv_topi (fun x_8 ex_8 => ?_)
    obtain rfl : x_8 = 1 := ex_8.trans (by decide)
    refine va_sld hx hb hX hbl hbA hS (by unfold vp_in; decide) dL_law_2005 ?_
    refine W.eq (g2 := F0 m 2006 ls [.int (xs 1), .ref (b 0)]) rfl ?_
    refine lv_aload_n hx hb dL_law_2006 rfl (lv_at hl 2 rfl) ?_
    refine lv_iload hx hb dL_law_2007 (lv_at hl 1 rfl) ?_
    refine lv_iconst (v := 2) hx hb dL_law_2009 (by decide) ?_
    refine lv_iadd hx hb dL_law_2010 ?_
    refine lv_topi (fun x_9 ex_9 => ?_)
    obtain rfl : x_9 = 2 := ex_9.trans (by decide)
    refine va_sld hx hb hX hbl hbA hS (by unfold vp_in; decide) dL_law_2011 ?_
    refine W.eq (g2 := F0 m 2012 ls [.int (xs 2), .int (xs 1), .ref (b 0)]) rfl ?_
    refine lv_if_eq (tgt := 2019) hx hb dL_law_2012 (by decide) (fun c_10 => absurd c_10 (c_3)) (fun c_10 => ?_)
    refine lv_iconst (v := 1) hx hb dL_law_2015 (by decide) ?_
    refine lv_goto (tgt := 2020) hx hb dL_law_2016 (by decide) ?_
    have hDm : va_D A (modW b r1 r2 g 0) := D_l (D_r hDD)
    have hFm : ∀ q, va_A (modW b r1 r2 g 0) H_1.size q → A q := A_all hDm hA hS.1
    refine va_calli (va_runV (As := [.int (xs 1), .int 1]) (rest := []) ⟨hx, hb, hml, hown, hts⟩ (c_X13_thin l dC dI g b r1 r2 (xs 1) (1 : Int32) 0 H_1.size) (cwV 2 hts (gX gL_law_X13_thin) rfl rfl rfl (by decide +kernel) ⟨Nat.le_of_ble_eq_true rfl, Nat.le_of_ble_eq_true rfl⟩) ⟨PG_blind, va_recv hK hPm (ci := 15) (q0 := 0) rfl (m_0 b r1 r2 g 0), PG_call hK hG hS hPm hDm hFm⟩ rfl rfl hl.1 rfl (lv_room (Nat.le_of_ble_eq_true rfl)) dL_law_2020 ⟨Nat.le_of_ble_eq_true rfl, Nat.le_of_ble_eq_true rfl⟩) hS (fun q _ h => hFm q h) hFm (fun r_2 u_2 t_2 H_2 L_2 ht_2 hvm_2 hw_2 hB_2 hz_2 hk_2 hS => ?_)
    replace hB_1 := kept_by hB_1 hk_2 (ap_ou hDD)
    obtain ⟨fs, hB_2⟩ := hB_2
    rw [ht_2] at hB_2
    refine lv_istore (lv' := [(7, .int r_2), (6, .int (cd (TOKb (xs 1)) true true)), (5, .int 0), (0, .ref bs), (1, .ref (a 0)), (2, .ref (b 0)), (3, .ref ou), (4, .ref od)]) hx hb dL_law_2023 hl (by decide) rfl (fun ls hl => ?_)
    refine lv_aload_n hx hb dL_law_2025 rfl (lv_at hl 5 rfl) ?_
    have hFt := A_one (e := .inr (15, .int ((cd (TOKb (xs 1)) true true)) :: fs)) (sz := 0) (H0 := H) (A_b0 hDD) hA hS
    have hDt : va_D A [(b 0, .inr (15, .int ((cd (TOKb (xs 1)) true true)) :: fs))] := D_one (A_b0 hDD)
    refine va_calli (va_runV (As := []) (rest := []) ⟨hx, hb, hml, hown, hts⟩ (c_X13_thrown l dC dI g [(b 0, .inr (15, .int ((cd (TOKb (xs 1)) true true)) :: fs))] (b 0) ((cd (TOKb (xs 1)) true true)) fs 0 rfl H_2.size) (cwV 0 hts (gX gL_law_X13_thrown) rfl rfl rfl (by decide +kernel) ⟨Nat.le_of_ble_eq_true rfl, Nat.le_of_ble_eq_true rfl⟩) ⟨PG_blind, va_recv hK hB_2 (ci := 15) (q0 := 0) rfl rfl, PG_call hK hG hS hB_2 hDt hFt⟩ rfl rfl hl.1 rfl (lv_room (Nat.le_of_ble_eq_true rfl)) dL_law_2026 ⟨Nat.le_of_ble_eq_true rfl, Nat.le_of_ble_eq_true rfl⟩) hS (fun q _ h => hFt q h) hFt (fun r_3 u_3 t_3 H_3 L_3 ht_3 hvm_3 hw_3 hB_3 hz_3 hk_3 hS => ?_)
    obtain rfl : r_3 = (cd (TOKb (xs 1)) true true) := hw_3
    replace hB_1 := kept_by hB_1 hk_3 (fun j k p q hj hk e => by
      obtain rfl : j = 0 := by
        have h1 := (List.getElem?_eq_some_iff.mp hj).1
        simp only [List.length_singleton] at h1
        omega
      cases hj
      exact ap_ou hDD 0 k _ q (m_0 b r1 r2 g 0) hk e)
    refine lv_iload hx hb dL_law_2029 (lv_at hl 1 rfl) ?_
    refine lv_icmp_eq (tgt := 2036) hx hb dL_law_2031 (by decide) (fun _ => ?_) (fun c9 => absurd rfl c9)
    refine lv_iload hx hb dL_law_2036 (lv_at hl 1 rfl) ?_
    refine lv_if_ne (tgt := 2053) hx hb dL_law_2038 (by decide) (fun h0 => ?_) (fun h0 => ?_)
    · refine lv_goto (tgt := 2812) hx hb dL_law_2053 (by decide) ?_
      refine W.widen (k := 6000) (n := 90000) (Nat.le_of_ble_eq_true rfl) (Nat.le_of_ble_eq_true rfl) ?_
      exact hend _ _ hS _ (lv_sub hl [2, 3] rfl)
    · obtain rfl : r_2 = 0 := hw_2 h0
      refine lv_aload_n hx hb dL_law_2041 rfl (lv_at hl 6 rfl) ?_
      refine lv_iconst (v := 0) hx hb dL_law_2042 (by decide) ?_
      refine va_lald hx hb hK hB_1 0 2 rfl rfl (by unfold vp_in; decide) dL_law_2043 ?_
      refine W.eq (g2 := F0 m 2044 ls [.long ((0 : Int32).toInt64)]) (by rw [show f_1 (0 : Int32).toNatClampNeg = (0 : Int32).toInt64 from hv1 h0]) ?_
      refine lv_iload hx hb dL_law_2044 (lv_at hl 0 rfl) ?_
      refine lv_i2l (v := (0 : Int32).toInt64) hx hb dL_law_2046 rfl ?_
      refine W.lcmp hx hb dL_law_2047 ?_
      refine W.eq (g2 := F0 m 2048 ls [.int 0]) (by first | rw [lg_cmp_self] | exact congrArg (fun z => F0 m 2048 ls [.int z]) (lg_cmp_self _)) ?_
      refine lv_if_eq (tgt := 2053) hx hb dL_law_2048 (by decide) (fun c_11 => ?_) (fun c_11 => absurd (by decide) c_11)
      refine lv_goto (tgt := 2812) hx hb dL_law_2053 (by decide) ?_
      refine W.widen (k := 6000) (n := 90000) (Nat.le_of_ble_eq_true rfl) (Nat.le_of_ble_eq_true rfl) ?_
      exact hend _ _ hS _ (lv_sub hl [2, 3] rfl)
