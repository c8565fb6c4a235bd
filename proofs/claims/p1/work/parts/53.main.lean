theorem dL_law_932 : decode cL_law 932 = .ok (.aload_n 1, 1) := by decide +kernel
theorem dL_law_933 : decode cL_law 933 = .ok (.aload_n 0, 1) := by decide +kernel
theorem dL_law_934 : decode cL_law 934 = .ok (.iload 5, 2) := by decide +kernel
theorem dL_law_936 : decode cL_law 936 = .ok (.iconst 1, 1) := by decide +kernel
theorem dL_law_937 : decode cL_law 937 = .ok (.iadd, 1) := by decide +kernel
theorem dL_law_938 : decode cL_law 938 = .ok (.iaload, 1) := by decide +kernel
theorem dL_law_939 : decode cL_law 939 = .ok (.aload_n 0, 1) := by decide +kernel
theorem dL_law_940 : decode cL_law 940 = .ok (.iload 5, 2) := by decide +kernel
theorem dL_law_942 : decode cL_law 942 = .ok (.iconst 2, 1) := by decide +kernel
theorem dL_law_943 : decode cL_law 943 = .ok (.iadd, 1) := by decide +kernel
theorem dL_law_944 : decode cL_law 944 = .ok (.iaload, 1) := by decide +kernel
theorem dL_law_945 : decode cL_law 945 = .ok (.aload_n 3, 1) := by decide +kernel
set_option maxRecDepth 200000 in
theorem ggL_law_L_copy : GoodIn wsL_law wsL_copy := goodIn_ca (goodIn_r _ [410, 191, 411, 412, 413, 2, 414, 196, 197, 198, 199, 200, 201, 20, 415, 416, 417, 23, 418, 66, 419, 420, 421, 422, 65, 1568, 1569, 1538, 1539, 1540, 1541, 1542, 1543, 1544, 1545, 1546, 1547, 1548, 1549, 1550] rfl (by decide +kernel)) (goodIn_sub (fun _ h => List.mem_append_left _ (List.mem_append_left _ (List.mem_append_left _ (List.mem_append_right _ h)))) (by decide +kernel))
set_option maxRecDepth 20000 in
theorem gL_law_L_copy : GoodIn wsL_law (va_wsS RL 184 yL_copy wsL_copy) := goodIn_app (goodIn_of _ (by decide +kernel)) ggL_law_L_copy
theorem dL_law_946 : decode cL_law 946 = .ok (.invokestatic 184, 3) := by decide +kernel
theorem dL_law_949 : decode cL_law 949 = .ok (.istore 6, 2) := by decide +kernel
theorem dL_law_951 : decode cL_law 951 = .ok (.aload_n 2, 1) := by decide +kernel
theorem dL_law_952 : decode cL_law 952 = .ok (.aload_n 0, 1) := by decide +kernel
theorem dL_law_953 : decode cL_law 953 = .ok (.iload 5, 2) := by decide +kernel
theorem dL_law_955 : decode cL_law 955 = .ok (.iconst 1, 1) := by decide +kernel
theorem dL_law_956 : decode cL_law 956 = .ok (.iadd, 1) := by decide +kernel
theorem dL_law_957 : decode cL_law 957 = .ok (.iaload, 1) := by decide +kernel
theorem dL_law_958 : decode cL_law 958 = .ok (.aload_n 0, 1) := by decide +kernel
theorem dL_law_959 : decode cL_law 959 = .ok (.iload 5, 2) := by decide +kernel
theorem dL_law_961 : decode cL_law 961 = .ok (.iconst 2, 1) := by decide +kernel
theorem dL_law_962 : decode cL_law 962 = .ok (.iadd, 1) := by decide +kernel
theorem dL_law_963 : decode cL_law 963 = .ok (.iaload, 1) := by decide +kernel
set_option maxRecDepth 200000 in
theorem ggL_law_X13_copy : GoodIn wsL_law wsX13_copy := goodIn_r _ [426, 182, 226, 227, 5, 228, 229, 230, 231, 239, 240, 241, 242, 243, 1551, 1552, 1553, 1554, 1555, 1556, 1557, 1558, 1559, 1560, 1561, 1562, 1563, 1564] rfl (by decide +kernel)
set_option maxRecDepth 20000 in
theorem gL_law_X13_copy : GoodIn wsL_law (wsV RL 186 RX13 yX13_copy wsX13_copy) := goodIn_app (goodIn_of _ (by decide +kernel)) ggL_law_X13_copy
theorem dL_law_964 : decode cL_law 964 = .ok (.invokevirtual 186, 3) := by decide +kernel
theorem dL_law_967 : decode cL_law 967 = .ok (.istore 7, 2) := by decide +kernel
theorem dL_law_969 : decode cL_law 969 = .ok (.aload_n 2, 1) := by decide +kernel
theorem dL_law_970 : decode cL_law 970 = .ok (.invokevirtual 147, 3) := by decide +kernel
theorem dL_law_973 : decode cL_law 973 = .ok (.iload 6, 2) := by decide +kernel
theorem dL_law_975 : decode cL_law 975 = .ok (.if_icmp .eq 5, 3) := by decide +kernel
theorem dL_law_980 : decode cL_law 980 = .ok (.iload 6, 2) := by decide +kernel
theorem dL_law_982 : decode cL_law 982 = .ok (.ifCond .ne 15, 3) := by decide +kernel
theorem dL_law_997 : decode cL_law 997 = .ok (.goto 1815, 3) := by decide +kernel
theorem dL_law_985 : decode cL_law 985 = .ok (.aload_n 3, 1) := by decide +kernel
theorem dL_law_986 : decode cL_law 986 = .ok (.iconst 0, 1) := by decide +kernel
theorem dL_law_987 : decode cL_law 987 = .ok (.laload, 1) := by decide +kernel
theorem dL_law_988 : decode cL_law 988 = .ok (.iload 7, 2) := by decide +kernel
theorem dL_law_990 : decode cL_law 990 = .ok (.i2l, 1) := by decide +kernel
theorem dL_law_991 : decode cL_law 991 = .ok (.lcmp, 1) := by decide +kernel
theorem dL_law_992 : decode cL_law 992 = .ok (.ifCond .eq 5, 3) := by decide +kernel
theorem dL_law_1000 : decode cL_law 1000 = .ok (.aload_n 1, 1) := by decide +kernel
theorem dL_law_1001 : decode cL_law 1001 = .ok (.aload_n 0, 1) := by decide +kernel
theorem dL_law_1002 : decode cL_law 1002 = .ok (.iload 5, 2) := by decide +kernel
theorem dL_law_1004 : decode cL_law 1004 = .ok (.iconst 1, 1) := by decide +kernel
theorem dL_law_1005 : decode cL_law 1005 = .ok (.iadd, 1) := by decide +kernel
theorem dL_law_1006 : decode cL_law 1006 = .ok (.iaload, 1) := by decide +kernel
theorem dL_law_1007 : decode cL_law 1007 = .ok (.aload_n 3, 1) := by decide +kernel
set_option maxRecDepth 200000 in
theorem ggL_law_L_turn : GoodIn wsL_law wsL_turn := goodIn_ca (goodIn_r _ [429, 191, 430, 431, 432, 2, 433, 196, 197, 198, 199, 200, 201, 20, 434, 435, 436, 23, 437, 66, 419, 420, 421, 422, 65, 1568, 1569, 1538, 1539, 1540, 1541, 1542, 1543, 1544, 1545, 1546, 1547, 1548, 1549, 1550] rfl (by decide +kernel)) (goodIn_sub (fun _ h => List.mem_append_left _ (List.mem_append_left _ (List.mem_append_left _ (List.mem_append_right _ h)))) (by decide +kernel))
set_option maxRecDepth 20000 in
theorem gL_law_L_turn : GoodIn wsL_law (va_wsS RL 187 yL_turn wsL_turn) := goodIn_app (goodIn_of _ (by decide +kernel)) ggL_law_L_turn
theorem dL_law_1008 : decode cL_law 1008 = .ok (.invokestatic 187, 3) := by decide +kernel
theorem dL_law_1011 : decode cL_law 1011 = .ok (.istore 6, 2) := by decide +kernel
theorem dL_law_1013 : decode cL_law 1013 = .ok (.aload_n 2, 1) := by decide +kernel
theorem dL_law_1014 : decode cL_law 1014 = .ok (.aload_n 0, 1) := by decide +kernel
theorem dL_law_1015 : decode cL_law 1015 = .ok (.iload 5, 2) := by decide +kernel
theorem dL_law_1017 : decode cL_law 1017 = .ok (.iconst 1, 1) := by decide +kernel
theorem dL_law_1018 : decode cL_law 1018 = .ok (.iadd, 1) := by decide +kernel
theorem dL_law_1019 : decode cL_law 1019 = .ok (.iaload, 1) := by decide +kernel
set_option maxRecDepth 200000 in
theorem ggL_law_X13_turn : GoodIn wsL_law wsX13_turn := goodIn_r _ [441, 182, 226, 227, 5, 228, 229, 230, 231, 239, 240, 241, 242, 243, 442, 443, 444, 58, 1551, 1552, 1553, 1554, 1555, 1556, 1557, 1558, 1559, 1560, 1561, 1562, 1563, 1564] rfl (by decide +kernel)
set_option maxRecDepth 20000 in
theorem gL_law_X13_turn : GoodIn wsL_law (wsV RL 189 RX13 yX13_turn wsX13_turn) := goodIn_app (goodIn_of _ (by decide +kernel)) ggL_law_X13_turn
theorem dL_law_1020 : decode cL_law 1020 = .ok (.invokevirtual 189, 3) := by decide +kernel
theorem dL_law_1023 : decode cL_law 1023 = .ok (.istore 7, 2) := by decide +kernel
theorem dL_law_1025 : decode cL_law 1025 = .ok (.aload_n 2, 1) := by decide +kernel
theorem dL_law_1026 : decode cL_law 1026 = .ok (.invokevirtual 147, 3) := by decide +kernel
theorem dL_law_1029 : decode cL_law 1029 = .ok (.iload 6, 2) := by decide +kernel
theorem dL_law_1031 : decode cL_law 1031 = .ok (.if_icmp .eq 5, 3) := by decide +kernel
theorem dL_law_1036 : decode cL_law 1036 = .ok (.iload 6, 2) := by decide +kernel
theorem dL_law_1038 : decode cL_law 1038 = .ok (.ifCond .ne 15, 3) := by decide +kernel
theorem dL_law_1053 : decode cL_law 1053 = .ok (.goto 1759, 3) := by decide +kernel
theorem dL_law_1041 : decode cL_law 1041 = .ok (.aload_n 3, 1) := by decide +kernel
theorem dL_law_1042 : decode cL_law 1042 = .ok (.iconst 0, 1) := by decide +kernel
theorem dL_law_1043 : decode cL_law 1043 = .ok (.laload, 1) := by decide +kernel
theorem dL_law_1044 : decode cL_law 1044 = .ok (.iload 7, 2) := by decide +kernel
theorem dL_law_1046 : decode cL_law 1046 = .ok (.i2l, 1) := by decide +kernel
theorem dL_law_1047 : decode cL_law 1047 = .ok (.lcmp, 1) := by decide +kernel
theorem dL_law_1048 : decode cL_law 1048 = .ok (.ifCond .eq 5, 3) := by decide +kernel
theorem dL_law_1056 : decode cL_law 1056 = .ok (.aload_n 1, 1) := by decide +kernel
theorem dL_law_1057 : decode cL_law 1057 = .ok (.aload_n 0, 1) := by decide +kernel
theorem dL_law_1058 : decode cL_law 1058 = .ok (.iload 5, 2) := by decide +kernel
theorem dL_law_1060 : decode cL_law 1060 = .ok (.iconst 1, 1) := by decide +kernel
theorem dL_law_1061 : decode cL_law 1061 = .ok (.iadd, 1) := by decide +kernel
theorem dL_law_1062 : decode cL_law 1062 = .ok (.iaload, 1) := by decide +kernel
theorem dL_law_1063 : decode cL_law 1063 = .ok (.aload_n 0, 1) := by decide +kernel
theorem dL_law_1064 : decode cL_law 1064 = .ok (.iload 5, 2) := by decide +kernel
theorem dL_law_1066 : decode cL_law 1066 = .ok (.iconst 2, 1) := by decide +kernel
theorem dL_law_1067 : decode cL_law 1067 = .ok (.iadd, 1) := by decide +kernel
theorem dL_law_1068 : decode cL_law 1068 = .ok (.iaload, 1) := by decide +kernel
theorem dL_law_1069 : decode cL_law 1069 = .ok (.aload_n 0, 1) := by decide +kernel
theorem dL_law_1070 : decode cL_law 1070 = .ok (.iload 5, 2) := by decide +kernel
theorem dL_law_1072 : decode cL_law 1072 = .ok (.iconst 3, 1) := by decide +kernel
theorem dL_law_1073 : decode cL_law 1073 = .ok (.iadd, 1) := by decide +kernel
theorem dL_law_1074 : decode cL_law 1074 = .ok (.iaload, 1) := by decide +kernel
theorem dL_law_1075 : decode cL_law 1075 = .ok (.aload_n 3, 1) := by decide +kernel
set_option maxRecDepth 200000 in
theorem ggL_law_L_setRuns : GoodIn wsL_law wsL_setRuns := goodIn_ca (goodIn_r _ [447, 448, 449, 450, 451, 2, 452, 28, 202, 203, 204, 205, 206, 207, 1538, 1539, 1540, 1541, 1542, 1543, 1544, 1545, 1546, 1547, 1548, 1549, 1550, 1570, 1571, 1572, 1573, 1574] rfl (by decide +kernel)) (goodIn_sub (fun _ h => List.mem_append_left _ (List.mem_append_left _ (List.mem_append_right _ h))) (by decide +kernel))
set_option maxRecDepth 20000 in
theorem gL_law_L_setRuns : GoodIn wsL_law (va_wsS RL 190 yL_setRuns wsL_setRuns) := goodIn_app (goodIn_of _ (by decide +kernel)) ggL_law_L_setRuns
theorem dL_law_1076 : decode cL_law 1076 = .ok (.invokestatic 190, 3) := by decide +kernel
theorem dL_law_1079 : decode cL_law 1079 = .ok (.istore 6, 2) := by decide +kernel
theorem dL_law_1081 : decode cL_law 1081 = .ok (.aload_n 2, 1) := by decide +kernel
theorem dL_law_1082 : decode cL_law 1082 = .ok (.aload_n 0, 1) := by decide +kernel
theorem dL_law_1083 : decode cL_law 1083 = .ok (.iload 5, 2) := by decide +kernel
theorem dL_law_1085 : decode cL_law 1085 = .ok (.iconst 1, 1) := by decide +kernel
theorem dL_law_1086 : decode cL_law 1086 = .ok (.iadd, 1) := by decide +kernel
theorem dL_law_1087 : decode cL_law 1087 = .ok (.iaload, 1) := by decide +kernel
theorem dL_law_1088 : decode cL_law 1088 = .ok (.aload_n 0, 1) := by decide +kernel
theorem dL_law_1089 : decode cL_law 1089 = .ok (.iload 5, 2) := by decide +kernel
theorem dL_law_1091 : decode cL_law 1091 = .ok (.iconst 2, 1) := by decide +kernel
theorem dL_law_1092 : decode cL_law 1092 = .ok (.iadd, 1) := by decide +kernel
theorem dL_law_1093 : decode cL_law 1093 = .ok (.iaload, 1) := by decide +kernel
theorem dL_law_1094 : decode cL_law 1094 = .ok (.aload_n 0, 1) := by decide +kernel
theorem dL_law_1095 : decode cL_law 1095 = .ok (.iload 5, 2) := by decide +kernel
theorem dL_law_1097 : decode cL_law 1097 = .ok (.iconst 3, 1) := by decide +kernel
theorem dL_law_1098 : decode cL_law 1098 = .ok (.iadd, 1) := by decide +kernel
theorem dL_law_1099 : decode cL_law 1099 = .ok (.iaload, 1) := by decide +kernel
set_option maxRecDepth 200000 in
theorem ggL_law_X13_setRuns : GoodIn wsL_law wsX13_setRuns := goodIn_r _ [456, 184, 229, 230, 5, 231, 239, 240, 241, 242, 243, 1551, 1552, 1553, 1554, 1555, 1556, 1557, 1558, 1559, 1560, 1561, 1562, 1563, 1564] rfl (by decide +kernel)
set_option maxRecDepth 20000 in
theorem gL_law_X13_setRuns : GoodIn wsL_law (wsV RL 192 RX13 yX13_setRuns wsX13_setRuns) := goodIn_app (goodIn_of _ (by decide +kernel)) ggL_law_X13_setRuns
theorem dL_law_1100 : decode cL_law 1100 = .ok (.invokevirtual 192, 3) := by decide +kernel
theorem dL_law_1103 : decode cL_law 1103 = .ok (.istore 7, 2) := by decide +kernel
theorem dL_law_1105 : decode cL_law 1105 = .ok (.aload_n 2, 1) := by decide +kernel
theorem dL_law_1106 : decode cL_law 1106 = .ok (.invokevirtual 147, 3) := by decide +kernel
theorem dL_law_1109 : decode cL_law 1109 = .ok (.iload 6, 2) := by decide +kernel
theorem dL_law_1111 : decode cL_law 1111 = .ok (.if_icmp .eq 5, 3) := by decide +kernel
theorem dL_law_1116 : decode cL_law 1116 = .ok (.iload 6, 2) := by decide +kernel
theorem dL_law_1118 : decode cL_law 1118 = .ok (.ifCond .ne 15, 3) := by decide +kernel
theorem dL_law_1133 : decode cL_law 1133 = .ok (.goto 1679, 3) := by decide +kernel
theorem dL_law_1121 : decode cL_law 1121 = .ok (.aload_n 3, 1) := by decide +kernel
theorem dL_law_1122 : decode cL_law 1122 = .ok (.iconst 0, 1) := by decide +kernel
theorem dL_law_1123 : decode cL_law 1123 = .ok (.laload, 1) := by decide +kernel
theorem dL_law_1124 : decode cL_law 1124 = .ok (.iload 7, 2) := by decide +kernel
theorem dL_law_1126 : decode cL_law 1126 = .ok (.i2l, 1) := by decide +kernel
theorem dL_law_1127 : decode cL_law 1127 = .ok (.lcmp, 1) := by decide +kernel
theorem dL_law_1128 : decode cL_law 1128 = .ok (.ifCond .eq 5, 3) := by decide +kernel
theorem dL_law_1136 : decode cL_law 1136 = .ok (.aload_n 1, 1) := by decide +kernel
theorem dL_law_1137 : decode cL_law 1137 = .ok (.aload_n 0, 1) := by decide +kernel
theorem dL_law_1138 : decode cL_law 1138 = .ok (.iload 5, 2) := by decide +kernel
theorem dL_law_1140 : decode cL_law 1140 = .ok (.iconst 1, 1) := by decide +kernel
theorem dL_law_1141 : decode cL_law 1141 = .ok (.iadd, 1) := by decide +kernel
theorem dL_law_1142 : decode cL_law 1142 = .ok (.iaload, 1) := by decide +kernel
theorem dL_law_1143 : decode cL_law 1143 = .ok (.aload_n 0, 1) := by decide +kernel
theorem dL_law_1144 : decode cL_law 1144 = .ok (.iload 5, 2) := by decide +kernel
theorem dL_law_1146 : decode cL_law 1146 = .ok (.iconst 2, 1) := by decide +kernel
theorem dL_law_1147 : decode cL_law 1147 = .ok (.iadd, 1) := by decide +kernel
theorem dL_law_1148 : decode cL_law 1148 = .ok (.iaload, 1) := by decide +kernel
theorem dL_law_1149 : decode cL_law 1149 = .ok (.aload_n 3, 1) := by decide +kernel
set_option maxRecDepth 200000 in
theorem ggL_law_L_setMerge : GoodIn wsL_law wsL_setMerge := goodIn_ca (goodIn_r _ [459, 448, 460, 461, 462, 2, 463, 28, 202, 203, 204, 205, 206, 207, 1538, 1539, 1540, 1541, 1542, 1543, 1544, 1545, 1546, 1547, 1548, 1549, 1550, 1570, 1571, 1572, 1573, 1574] rfl (by decide +kernel)) (goodIn_sub (fun _ h => List.mem_append_left _ (List.mem_append_left _ (List.mem_append_right _ h))) (by decide +kernel))
set_option maxRecDepth 20000 in
theorem gL_law_L_setMerge : GoodIn wsL_law (va_wsS RL 193 yL_setMerge wsL_setMerge) := goodIn_app (goodIn_of _ (by decide +kernel)) ggL_law_L_setMerge
theorem dL_law_1150 : decode cL_law 1150 = .ok (.invokestatic 193, 3) := by decide +kernel
theorem dL_law_1153 : decode cL_law 1153 = .ok (.istore 6, 2) := by decide +kernel
theorem dL_law_1155 : decode cL_law 1155 = .ok (.aload_n 2, 1) := by decide +kernel
theorem dL_law_1156 : decode cL_law 1156 = .ok (.aload_n 0, 1) := by decide +kernel
theorem dL_law_1157 : decode cL_law 1157 = .ok (.iload 5, 2) := by decide +kernel
theorem dL_law_1159 : decode cL_law 1159 = .ok (.iconst 1, 1) := by decide +kernel
theorem dL_law_1160 : decode cL_law 1160 = .ok (.iadd, 1) := by decide +kernel
theorem dL_law_1161 : decode cL_law 1161 = .ok (.iaload, 1) := by decide +kernel
theorem dL_law_1162 : decode cL_law 1162 = .ok (.aload_n 0, 1) := by decide +kernel
theorem dL_law_1163 : decode cL_law 1163 = .ok (.iload 5, 2) := by decide +kernel
theorem dL_law_1165 : decode cL_law 1165 = .ok (.iconst 2, 1) := by decide +kernel
theorem dL_law_1166 : decode cL_law 1166 = .ok (.iadd, 1) := by decide +kernel
theorem dL_law_1167 : decode cL_law 1167 = .ok (.iaload, 1) := by decide +kernel
set_option maxRecDepth 200000 in
theorem ggL_law_X13_setMerge : GoodIn wsL_law wsX13_setMerge := goodIn_r _ [467, 184, 229, 230, 5, 231, 239, 240, 241, 242, 243, 1551, 1552, 1553, 1554, 1555, 1556, 1557, 1558, 1559, 1560, 1561, 1562, 1563, 1564] rfl (by decide +kernel)
set_option maxRecDepth 20000 in
theorem gL_law_X13_setMerge : GoodIn wsL_law (wsV RL 195 RX13 yX13_setMerge wsX13_setMerge) := goodIn_app (goodIn_of _ (by decide +kernel)) ggL_law_X13_setMerge
theorem dL_law_1168 : decode cL_law 1168 = .ok (.invokevirtual 195, 3) := by decide +kernel
theorem dL_law_1171 : decode cL_law 1171 = .ok (.istore 7, 2) := by decide +kernel
theorem dL_law_1173 : decode cL_law 1173 = .ok (.aload_n 2, 1) := by decide +kernel
theorem dL_law_1174 : decode cL_law 1174 = .ok (.invokevirtual 147, 3) := by decide +kernel
theorem dL_law_1177 : decode cL_law 1177 = .ok (.iload 6, 2) := by decide +kernel
theorem dL_law_1179 : decode cL_law 1179 = .ok (.if_icmp .eq 5, 3) := by decide +kernel
theorem dL_law_1184 : decode cL_law 1184 = .ok (.iload 6, 2) := by decide +kernel
theorem dL_law_1186 : decode cL_law 1186 = .ok (.ifCond .ne 15, 3) := by decide +kernel
theorem dL_law_1201 : decode cL_law 1201 = .ok (.goto 1611, 3) := by decide +kernel
theorem dL_law_1189 : decode cL_law 1189 = .ok (.aload_n 3, 1) := by decide +kernel
theorem dL_law_1190 : decode cL_law 1190 = .ok (.iconst 0, 1) := by decide +kernel
theorem dL_law_1191 : decode cL_law 1191 = .ok (.laload, 1) := by decide +kernel
theorem dL_law_1192 : decode cL_law 1192 = .ok (.iload 7, 2) := by decide +kernel
theorem dL_law_1194 : decode cL_law 1194 = .ok (.i2l, 1) := by decide +kernel
theorem dL_law_1195 : decode cL_law 1195 = .ok (.lcmp, 1) := by decide +kernel
theorem dL_law_1196 : decode cL_law 1196 = .ok (.ifCond .eq 5, 3) := by decide +kernel
theorem dL_law_1204 : decode cL_law 1204 = .ok (.aload_n 1, 1) := by decide +kernel
theorem dL_law_1205 : decode cL_law 1205 = .ok (.aload_n 0, 1) := by decide +kernel
theorem dL_law_1206 : decode cL_law 1206 = .ok (.iload 5, 2) := by decide +kernel
theorem dL_law_1208 : decode cL_law 1208 = .ok (.iconst 1, 1) := by decide +kernel
theorem dL_law_1209 : decode cL_law 1209 = .ok (.iadd, 1) := by decide +kernel
theorem dL_law_1210 : decode cL_law 1210 = .ok (.iaload, 1) := by decide +kernel
theorem dL_law_1211 : decode cL_law 1211 = .ok (.aload_n 3, 1) := by decide +kernel
set_option maxRecDepth 200000 in
theorem ggL_law_L_setting : GoodIn wsL_law wsL_setting := goodIn_ca (goodIn_r _ [470, 448, 471, 472, 473, 2, 474, 206, 207, 28, 1538, 1539, 1540, 1541, 1542, 1543, 1544, 1545, 1546, 1547, 1548, 1549, 1550, 1570, 1571, 1572, 1573, 1574] rfl (by decide +kernel)) (goodIn_sub (fun _ h => List.mem_append_left _ (List.mem_append_left _ (List.mem_append_right _ h))) (by decide +kernel))
set_option maxRecDepth 20000 in
theorem gL_law_L_setting : GoodIn wsL_law (va_wsS RL 196 yL_setting wsL_setting) := goodIn_app (goodIn_of _ (by decide +kernel)) ggL_law_L_setting
theorem dL_law_1212 : decode cL_law 1212 = .ok (.invokestatic 196, 3) := by decide +kernel
theorem dL_law_1215 : decode cL_law 1215 = .ok (.istore 6, 2) := by decide +kernel
theorem dL_law_1217 : decode cL_law 1217 = .ok (.aload_n 2, 1) := by decide +kernel
theorem dL_law_1218 : decode cL_law 1218 = .ok (.aload_n 0, 1) := by decide +kernel
theorem dL_law_1219 : decode cL_law 1219 = .ok (.iload 5, 2) := by decide +kernel
theorem dL_law_1221 : decode cL_law 1221 = .ok (.iconst 1, 1) := by decide +kernel
theorem dL_law_1222 : decode cL_law 1222 = .ok (.iadd, 1) := by decide +kernel
theorem dL_law_1223 : decode cL_law 1223 = .ok (.iaload, 1) := by decide +kernel
set_option maxRecDepth 200000 in
theorem ggL_law_X13_setting : GoodIn wsL_law wsX13_setting := goodIn_r _ [478, 184, 229, 230, 5, 231, 239, 240, 241, 242, 243, 1551, 1552, 1553, 1554, 1555, 1556, 1557, 1558, 1559, 1560, 1561, 1562, 1563, 1564] rfl (by decide +kernel)
set_option maxRecDepth 20000 in
theorem gL_law_X13_setting : GoodIn wsL_law (wsV RL 198 RX13 yX13_setting wsX13_setting) := goodIn_app (goodIn_of _ (by decide +kernel)) ggL_law_X13_setting
theorem dL_law_1224 : decode cL_law 1224 = .ok (.invokevirtual 198, 3) := by decide +kernel
theorem dL_law_1227 : decode cL_law 1227 = .ok (.istore 7, 2) := by decide +kernel
theorem dL_law_1229 : decode cL_law 1229 = .ok (.aload_n 2, 1) := by decide +kernel
theorem dL_law_1230 : decode cL_law 1230 = .ok (.invokevirtual 147, 3) := by decide +kernel
theorem dL_law_1233 : decode cL_law 1233 = .ok (.iload 6, 2) := by decide +kernel
theorem dL_law_1235 : decode cL_law 1235 = .ok (.if_icmp .eq 5, 3) := by decide +kernel
theorem dL_law_1240 : decode cL_law 1240 = .ok (.iload 6, 2) := by decide +kernel
theorem dL_law_1242 : decode cL_law 1242 = .ok (.ifCond .ne 15, 3) := by decide +kernel
theorem dL_law_1257 : decode cL_law 1257 = .ok (.goto 1555, 3) := by decide +kernel
theorem dL_law_1245 : decode cL_law 1245 = .ok (.aload_n 3, 1) := by decide +kernel
theorem dL_law_1246 : decode cL_law 1246 = .ok (.iconst 0, 1) := by decide +kernel
theorem dL_law_1247 : decode cL_law 1247 = .ok (.laload, 1) := by decide +kernel
theorem dL_law_1248 : decode cL_law 1248 = .ok (.iload 7, 2) := by decide +kernel
theorem dL_law_1250 : decode cL_law 1250 = .ok (.i2l, 1) := by decide +kernel
theorem dL_law_1251 : decode cL_law 1251 = .ok (.lcmp, 1) := by decide +kernel
theorem dL_law_1252 : decode cL_law 1252 = .ok (.ifCond .eq 5, 3) := by decide +kernel
theorem dL_law_1260 : decode cL_law 1260 = .ok (.aload_n 1, 1) := by decide +kernel
theorem dL_law_1261 : decode cL_law 1261 = .ok (.aload_n 0, 1) := by decide +kernel
theorem dL_law_1262 : decode cL_law 1262 = .ok (.iload 5, 2) := by decide +kernel
theorem dL_law_1264 : decode cL_law 1264 = .ok (.iconst 1, 1) := by decide +kernel
theorem dL_law_1265 : decode cL_law 1265 = .ok (.iadd, 1) := by decide +kernel
theorem dL_law_1266 : decode cL_law 1266 = .ok (.iaload, 1) := by decide +kernel
theorem dL_law_1267 : decode cL_law 1267 = .ok (.aload_n 3, 1) := by decide +kernel
set_option maxRecDepth 200000 in
theorem ggL_law_L_runs : GoodIn wsL_law wsL_runs := goodIn_ca (goodIn_r _ [481, 191, 482, 483, 484, 2, 485, 32, 18, 28, 36, 196, 197, 198, 199, 200, 201, 20, 486, 487, 488, 31, 489, 490, 420, 421, 422, 491, 492, 493, 494, 495, 496, 35, 497, 87, 88, 498, 499, 500, 501, 80, 78, 502, 347, 348, 23, 349, 66, 65, 503, 378, 379, 17, 380, 59, 504, 505, 506, 507, 508, 509, 510, 511, 85, 86, 512, 513, 514, 515, 84, 516, 517, 518, 519, 520, 521, 522, 523, 79, 524, 525, 526, 527, 528, 529, 530, 531, 532, 533, 534, 535, 1538, 1539, 1540, 1541, 1542, 1543, 1544, 1545, 1546, 1547, 1548, 1549, 1550, 1578, 1579, 1580, 1581, 1582, 1570, 1571, 1572, 1573, 1574, 1575, 1576, 1577, 1568, 1569, 1565, 1566, 1567] rfl (by decide +kernel)) (goodIn_sub (fun _ h => List.mem_append_left _ (List.mem_append_left _ (List.mem_append_left _ (List.mem_append_right _ h)))) (by decide +kernel))
set_option maxRecDepth 20000 in
theorem gL_law_L_runs : GoodIn wsL_law (va_wsS RL 199 yL_runs wsL_runs) := goodIn_app (goodIn_of _ (by decide +kernel)) ggL_law_L_runs
theorem dL_law_1268 : decode cL_law 1268 = .ok (.invokestatic 199, 3) := by decide +kernel
theorem dL_law_1271 : decode cL_law 1271 = .ok (.istore 6, 2) := by decide +kernel
theorem dL_law_1273 : decode cL_law 1273 = .ok (.aload_n 2, 1) := by decide +kernel
theorem dL_law_1274 : decode cL_law 1274 = .ok (.aload_n 0, 1) := by decide +kernel
theorem dL_law_1275 : decode cL_law 1275 = .ok (.iload 5, 2) := by decide +kernel
theorem dL_law_1277 : decode cL_law 1277 = .ok (.iconst 1, 1) := by decide +kernel
theorem dL_law_1278 : decode cL_law 1278 = .ok (.iadd, 1) := by decide +kernel
theorem dL_law_1279 : decode cL_law 1279 = .ok (.iaload, 1) := by decide +kernel
set_option maxRecDepth 200000 in
theorem ggL_law_X13_runs : GoodIn wsL_law wsX13_runs := goodIn_r _ [539, 226, 227, 5, 228, 229, 230, 231, 239, 240, 241, 242, 243, 540, 541, 542, 543, 182, 184, 544, 545, 546, 547, 548, 549, 550, 551, 552, 553, 554, 555, 420, 421, 422, 556, 557, 558, 559, 560, 561, 562, 563, 564, 565, 566, 567, 568, 569, 570, 571, 13, 14, 572, 573, 574, 575, 576, 577, 578, 579, 580, 581, 582, 583, 584, 585, 586, 587, 588, 589, 590, 591, 592, 593, 594, 595, 596, 597, 598, 599, 600, 601, 602, 603, 604, 605, 606, 607, 608, 492, 493, 609, 610, 611, 612, 613, 614, 615, 616, 617, 618, 619, 620, 621, 622, 623, 624, 625, 626, 627, 628, 629, 630, 631, 632, 633, 634, 635, 636, 637, 638, 639, 640, 641, 642, 643, 644, 645, 646, 647, 648, 649, 650, 651, 652, 653, 654, 655, 656, 657, 658, 659, 660, 661, 662, 663, 664, 665, 666, 667, 668, 389, 390, 391, 392, 179, 669, 670, 671, 672, 673, 674, 675, 676, 677, 678, 679, 680, 58, 681, 682, 683, 684, 685, 686, 687, 1551, 1552, 1553, 1554, 1555, 1556, 1557, 1558, 1559, 1560, 1561, 1562, 1563, 1564, 1635, 1636, 1637, 1638] rfl (by decide +kernel)
set_option maxRecDepth 20000 in
theorem gL_law_X13_runs : GoodIn wsL_law (wsV RL 201 RX13 yX13_runs wsX13_runs) := goodIn_app (goodIn_of _ (by decide +kernel)) ggL_law_X13_runs
theorem dL_law_1280 : decode cL_law 1280 = .ok (.invokevirtual 201, 3) := by decide +kernel
theorem dL_law_1283 : decode cL_law 1283 = .ok (.istore 7, 2) := by decide +kernel
theorem dL_law_1285 : decode cL_law 1285 = .ok (.aload_n 2, 1) := by decide +kernel
theorem dL_law_1286 : decode cL_law 1286 = .ok (.invokevirtual 147, 3) := by decide +kernel
theorem dL_law_1289 : decode cL_law 1289 = .ok (.iload 6, 2) := by decide +kernel
theorem dL_law_1291 : decode cL_law 1291 = .ok (.if_icmp .eq 5, 3) := by decide +kernel
theorem dL_law_1296 : decode cL_law 1296 = .ok (.iload 6, 2) := by decide +kernel
theorem dL_law_1298 : decode cL_law 1298 = .ok (.ifCond .ne 15, 3) := by decide +kernel
theorem dL_law_1313 : decode cL_law 1313 = .ok (.goto 1499, 3) := by decide +kernel
theorem dL_law_1301 : decode cL_law 1301 = .ok (.aload_n 3, 1) := by decide +kernel
theorem dL_law_1302 : decode cL_law 1302 = .ok (.iconst 0, 1) := by decide +kernel
theorem dL_law_1303 : decode cL_law 1303 = .ok (.laload, 1) := by decide +kernel
theorem dL_law_1304 : decode cL_law 1304 = .ok (.iload 7, 2) := by decide +kernel
theorem dL_law_1306 : decode cL_law 1306 = .ok (.i2l, 1) := by decide +kernel
theorem dL_law_1307 : decode cL_law 1307 = .ok (.lcmp, 1) := by decide +kernel
theorem dL_law_1308 : decode cL_law 1308 = .ok (.ifCond .eq 5, 3) := by decide +kernel
theorem dL_law_1316 : decode cL_law 1316 = .ok (.aload_n 1, 1) := by decide +kernel
theorem dL_law_1317 : decode cL_law 1317 = .ok (.aload_n 0, 1) := by decide +kernel
theorem dL_law_1318 : decode cL_law 1318 = .ok (.iload 5, 2) := by decide +kernel
theorem dL_law_1320 : decode cL_law 1320 = .ok (.iconst 1, 1) := by decide +kernel
theorem dL_law_1321 : decode cL_law 1321 = .ok (.iadd, 1) := by decide +kernel
theorem dL_law_1322 : decode cL_law 1322 = .ok (.iaload, 1) := by decide +kernel
theorem dL_law_1323 : decode cL_law 1323 = .ok (.aload_n 0, 1) := by decide +kernel
theorem dL_law_1324 : decode cL_law 1324 = .ok (.iload 5, 2) := by decide +kernel
theorem dL_law_1326 : decode cL_law 1326 = .ok (.iconst 2, 1) := by decide +kernel
theorem dL_law_1327 : decode cL_law 1327 = .ok (.iadd, 1) := by decide +kernel
theorem dL_law_1328 : decode cL_law 1328 = .ok (.iaload, 1) := by decide +kernel
theorem dL_law_1329 : decode cL_law 1329 = .ok (.aload_n 3, 1) := by decide +kernel
set_option maxRecDepth 200000 in
theorem ggL_law_L_runLength : GoodIn wsL_law wsL_runLength := goodIn_ca (goodIn_r _ [690, 191, 691, 692, 693, 2, 694, 36, 695, 696, 697, 698, 200, 201, 32, 18, 28, 196, 197, 198, 199, 20, 486, 487, 488, 31, 489, 490, 420, 421, 422, 491, 492, 493, 494, 495, 496, 35, 497, 87, 88, 498, 499, 500, 501, 80, 78, 502, 347, 348, 23, 349, 66, 65, 503, 378, 379, 17, 380, 59, 504, 505, 506, 507, 508, 509, 510, 511, 85, 86, 512, 513, 514, 515, 84, 516, 517, 518, 519, 520, 521, 522, 523, 79, 524, 525, 526, 527, 528, 529, 530, 531, 532, 533, 534, 535, 699, 700, 701, 702, 1538, 1539, 1540, 1541, 1542, 1543, 1544, 1545, 1546, 1547, 1548, 1549, 1550, 1578, 1579, 1580, 1581, 1582, 1570, 1571, 1572, 1573, 1574, 1575, 1576, 1577, 1568, 1569, 1565, 1566, 1567] rfl (by decide +kernel)) (goodIn_sub (fun _ h => List.mem_append_left _ (List.mem_append_left _ (List.mem_append_left _ (List.mem_append_right _ h)))) (by decide +kernel))
set_option maxRecDepth 20000 in
theorem gL_law_L_runLength : GoodIn wsL_law (va_wsS RL 202 yL_runLength wsL_runLength) := goodIn_app (goodIn_of _ (by decide +kernel)) ggL_law_L_runLength
theorem dL_law_1330 : decode cL_law 1330 = .ok (.invokestatic 202, 3) := by decide +kernel
theorem dL_law_1333 : decode cL_law 1333 = .ok (.istore 6, 2) := by decide +kernel
theorem dL_law_1335 : decode cL_law 1335 = .ok (.aload_n 2, 1) := by decide +kernel
theorem dL_law_1336 : decode cL_law 1336 = .ok (.aload_n 0, 1) := by decide +kernel
theorem dL_law_1337 : decode cL_law 1337 = .ok (.iload 5, 2) := by decide +kernel
theorem dL_law_1339 : decode cL_law 1339 = .ok (.iconst 1, 1) := by decide +kernel
theorem dL_law_1340 : decode cL_law 1340 = .ok (.iadd, 1) := by decide +kernel
theorem dL_law_1341 : decode cL_law 1341 = .ok (.iaload, 1) := by decide +kernel
theorem dL_law_1342 : decode cL_law 1342 = .ok (.aload_n 0, 1) := by decide +kernel
theorem dL_law_1343 : decode cL_law 1343 = .ok (.iload 5, 2) := by decide +kernel
theorem dL_law_1345 : decode cL_law 1345 = .ok (.iconst 2, 1) := by decide +kernel
theorem dL_law_1346 : decode cL_law 1346 = .ok (.iadd, 1) := by decide +kernel
theorem dL_law_1347 : decode cL_law 1347 = .ok (.iaload, 1) := by decide +kernel
set_option maxRecDepth 200000 in
theorem ggL_law_X13_runLength : GoodIn wsL_law wsX13_runLength := goodIn_r _ [706, 707, 226, 227, 5, 228, 229, 230, 231, 540, 541, 542, 543, 182, 184, 544, 545, 546, 547, 548, 549, 550, 551, 552, 553, 554, 555, 420, 421, 422, 556, 557, 558, 559, 560, 561, 562, 563, 564, 565, 566, 567, 568, 569, 570, 571, 13, 14, 572, 573, 574, 575, 576, 577, 578, 579, 580, 581, 582, 583, 584, 585, 586, 587, 588, 589, 590, 591, 592, 593, 594, 595, 596, 597, 598, 599, 600, 601, 602, 603, 604, 605, 606, 607, 608, 492, 493, 609, 610, 611, 612, 613, 614, 615, 616, 617, 618, 619, 620, 621, 622, 623, 624, 625, 626, 627, 628, 629, 630, 631, 632, 633, 634, 635, 636, 637, 638, 639, 640, 641, 642, 643, 644, 645, 646, 647, 648, 649, 650, 651, 652, 653, 654, 655, 656, 657, 658, 659, 660, 661, 662, 663, 664, 665, 666, 667, 668, 389, 390, 391, 392, 179, 669, 670, 671, 672, 673, 674, 675, 676, 677, 678, 679, 680, 58, 681, 682, 683, 684, 685, 686, 687, 239, 240, 241, 242, 243, 1551, 1552, 1553, 1554, 1555, 1556, 1557, 1558, 1559, 1560, 1561, 1562, 1563, 1564, 1635, 1636, 1637, 1638] rfl (by decide +kernel)
set_option maxRecDepth 20000 in
theorem gL_law_X13_runLength : GoodIn wsL_law (wsV RL 204 RX13 yX13_runLength wsX13_runLength) := goodIn_app (goodIn_of _ (by decide +kernel)) ggL_law_X13_runLength
theorem dL_law_1348 : decode cL_law 1348 = .ok (.invokevirtual 204, 3) := by decide +kernel
theorem dL_law_1351 : decode cL_law 1351 = .ok (.istore 7, 2) := by decide +kernel
theorem dL_law_1353 : decode cL_law 1353 = .ok (.aload_n 2, 1) := by decide +kernel
theorem dL_law_1354 : decode cL_law 1354 = .ok (.invokevirtual 147, 3) := by decide +kernel
theorem dL_law_1357 : decode cL_law 1357 = .ok (.iload 6, 2) := by decide +kernel
theorem dL_law_1359 : decode cL_law 1359 = .ok (.if_icmp .eq 5, 3) := by decide +kernel
theorem dL_law_1364 : decode cL_law 1364 = .ok (.iload 6, 2) := by decide +kernel
theorem dL_law_1366 : decode cL_law 1366 = .ok (.ifCond .ne 15, 3) := by decide +kernel
theorem dL_law_1381 : decode cL_law 1381 = .ok (.goto 1431, 3) := by decide +kernel
theorem dL_law_1384 : decode cL_law 1384 = .ok (.aload_n 1, 1) := by decide +kernel
theorem dL_law_1385 : decode cL_law 1385 = .ok (.aload_n 0, 1) := by decide +kernel
theorem dL_law_1386 : decode cL_law 1386 = .ok (.iload 5, 2) := by decide +kernel
theorem dL_law_1388 : decode cL_law 1388 = .ok (.iconst 1, 1) := by decide +kernel
theorem dL_law_1389 : decode cL_law 1389 = .ok (.iadd, 1) := by decide +kernel
theorem dL_law_1390 : decode cL_law 1390 = .ok (.iaload, 1) := by decide +kernel
theorem dL_law_1391 : decode cL_law 1391 = .ok (.aload_n 0, 1) := by decide +kernel
theorem dL_law_1392 : decode cL_law 1392 = .ok (.iload 5, 2) := by decide +kernel
theorem dL_law_1394 : decode cL_law 1394 = .ok (.iconst 2, 1) := by decide +kernel
theorem dL_law_1395 : decode cL_law 1395 = .ok (.iadd, 1) := by decide +kernel
theorem dL_law_1396 : decode cL_law 1396 = .ok (.iaload, 1) := by decide +kernel
theorem dL_law_1397 : decode cL_law 1397 = .ok (.aload_n 0, 1) := by decide +kernel
theorem dL_law_1398 : decode cL_law 1398 = .ok (.iload 5, 2) := by decide +kernel
theorem dL_law_1400 : decode cL_law 1400 = .ok (.iconst 3, 1) := by decide +kernel
theorem dL_law_1401 : decode cL_law 1401 = .ok (.iadd, 1) := by decide +kernel
theorem dL_law_1402 : decode cL_law 1402 = .ok (.iaload, 1) := by decide +kernel
theorem dL_law_1403 : decode cL_law 1403 = .ok (.aload_n 3, 1) := by decide +kernel
set_option maxRecDepth 200000 in
theorem ggL_law_L_runAt : GoodIn wsL_law wsL_runAt := goodIn_ca (goodIn_r _ [710, 191, 711, 712, 713, 2, 714, 200, 201, 36, 695, 696, 697, 698, 32, 18, 28, 196, 197, 198, 199, 20, 486, 487, 488, 31, 489, 490, 420, 421, 422, 491, 492, 493, 494, 495, 496, 35, 497, 87, 88, 498, 499, 500, 501, 80, 78, 502, 347, 348, 23, 349, 66, 65, 503, 378, 379, 17, 380, 59, 504, 505, 506, 507, 508, 509, 510, 511, 85, 86, 512, 513, 514, 515, 84, 516, 517, 518, 519, 520, 521, 522, 523, 79, 524, 525, 526, 527, 528, 529, 530, 531, 532, 533, 534, 535, 699, 700, 701, 702, 715, 716, 717, 718, 719, 720, 721, 1538, 1539, 1540, 1541, 1542, 1543, 1544, 1545, 1546, 1547, 1548, 1549, 1550, 1578, 1579, 1580, 1581, 1582, 1570, 1571, 1572, 1573, 1574, 1575, 1576, 1577, 1568, 1569, 1565, 1566, 1567] rfl (by decide +kernel)) (goodIn_sub (fun _ h => List.mem_append_left _ (List.mem_append_left _ (List.mem_append_left _ (List.mem_append_right _ h)))) (by decide +kernel))
set_option maxRecDepth 20000 in
theorem gL_law_L_runAt : GoodIn wsL_law (va_wsS RL 205 yL_runAt wsL_runAt) := goodIn_app (goodIn_of _ (by decide +kernel)) ggL_law_L_runAt
theorem dL_law_1404 : decode cL_law 1404 = .ok (.invokestatic 205, 3) := by decide +kernel
theorem dL_law_1407 : decode cL_law 1407 = .ok (.istore 6, 2) := by decide +kernel
theorem dL_law_1409 : decode cL_law 1409 = .ok (.aload_n 2, 1) := by decide +kernel
theorem dL_law_1410 : decode cL_law 1410 = .ok (.aload_n 0, 1) := by decide +kernel
theorem dL_law_1411 : decode cL_law 1411 = .ok (.iload 5, 2) := by decide +kernel
theorem dL_law_1413 : decode cL_law 1413 = .ok (.iconst 1, 1) := by decide +kernel
theorem dL_law_1414 : decode cL_law 1414 = .ok (.iadd, 1) := by decide +kernel
theorem dL_law_1415 : decode cL_law 1415 = .ok (.iaload, 1) := by decide +kernel
theorem dL_law_1416 : decode cL_law 1416 = .ok (.aload_n 0, 1) := by decide +kernel
theorem dL_law_1417 : decode cL_law 1417 = .ok (.iload 5, 2) := by decide +kernel
theorem dL_law_1419 : decode cL_law 1419 = .ok (.iconst 2, 1) := by decide +kernel
theorem dL_law_1420 : decode cL_law 1420 = .ok (.iadd, 1) := by decide +kernel
theorem dL_law_1421 : decode cL_law 1421 = .ok (.iaload, 1) := by decide +kernel
theorem dL_law_1422 : decode cL_law 1422 = .ok (.aload_n 0, 1) := by decide +kernel
theorem dL_law_1423 : decode cL_law 1423 = .ok (.iload 5, 2) := by decide +kernel
theorem dL_law_1425 : decode cL_law 1425 = .ok (.iconst 3, 1) := by decide +kernel
theorem dL_law_1426 : decode cL_law 1426 = .ok (.iadd, 1) := by decide +kernel
theorem dL_law_1427 : decode cL_law 1427 = .ok (.iaload, 1) := by decide +kernel
set_option maxRecDepth 200000 in
theorem ggL_law_X13_runAt : GoodIn wsL_law wsX13_runAt := goodIn_r _ [725, 707, 226, 227, 5, 228, 229, 230, 231, 540, 541, 542, 543, 182, 184, 544, 545, 546, 547, 548, 549, 550, 551, 552, 553, 554, 555, 420, 421, 422, 556, 557, 558, 559, 560, 561, 562, 563, 564, 565, 566, 567, 568, 569, 570, 571, 13, 14, 572, 573, 574, 575, 576, 577, 578, 579, 580, 581, 582, 583, 584, 585, 586, 587, 588, 589, 590, 591, 592, 593, 594, 595, 596, 597, 598, 599, 600, 601, 602, 603, 604, 605, 606, 607, 608, 492, 493, 609, 610, 611, 612, 613, 614, 615, 616, 617, 618, 619, 620, 621, 622, 623, 624, 625, 626, 627, 628, 629, 630, 631, 632, 633, 634, 635, 636, 637, 638, 639, 640, 641, 642, 643, 644, 645, 646, 647, 648, 649, 650, 651, 652, 653, 654, 655, 656, 657, 658, 659, 660, 661, 662, 663, 664, 665, 666, 667, 668, 389, 390, 391, 392, 179, 669, 670, 671, 672, 673, 674, 675, 676, 677, 678, 679, 680, 58, 681, 682, 683, 684, 685, 686, 687, 239, 240, 241, 242, 243, 1551, 1552, 1553, 1554, 1555, 1556, 1557, 1558, 1559, 1560, 1561, 1562, 1563, 1564, 1635, 1636, 1637, 1638] rfl (by decide +kernel)
set_option maxRecDepth 20000 in
theorem gL_law_X13_runAt : GoodIn wsL_law (wsV RL 207 RX13 yX13_runAt wsX13_runAt) := goodIn_app (goodIn_of _ (by decide +kernel)) ggL_law_X13_runAt
theorem dL_law_1428 : decode cL_law 1428 = .ok (.invokevirtual 207, 3) := by decide +kernel
theorem dL_law_1431 : decode cL_law 1431 = .ok (.istore 7, 2) := by decide +kernel
theorem dL_law_1433 : decode cL_law 1433 = .ok (.aload_n 2, 1) := by decide +kernel
theorem dL_law_1434 : decode cL_law 1434 = .ok (.invokevirtual 147, 3) := by decide +kernel
theorem dL_law_1437 : decode cL_law 1437 = .ok (.iload 6, 2) := by decide +kernel
theorem dL_law_1439 : decode cL_law 1439 = .ok (.if_icmp .eq 5, 3) := by decide +kernel
theorem dL_law_1444 : decode cL_law 1444 = .ok (.iload 6, 2) := by decide +kernel
theorem dL_law_1446 : decode cL_law 1446 = .ok (.ifCond .ne 15, 3) := by decide +kernel
theorem dL_law_1461 : decode cL_law 1461 = .ok (.goto 1351, 3) := by decide +kernel
set_option maxRecDepth 200000 in
theorem ggL_law_L_plan_h : GoodIn wsL_law [.codeWith yL_plan cL_plan 5 (some .int) [(0, 10, 13, 13), (0, 10, 17, 15)]] := goodIn_r _ [728] rfl (by decide +kernel)
set_option maxRecDepth 200000 in
theorem ggL_law_L_plan_0 : GoodIn wsL_law wsL_plan_r1 := goodIn_r _ [191, 729, 730, 731, 2, 732, 32, 18, 28, 36, 40, 196, 197, 198, 199, 200, 201, 20, 202, 203, 204, 205, 206, 207] rfl (by decide +kernel)
set_option maxRecDepth 200000 in
theorem ggL_law_L_plan_1 : GoodIn wsL_law wsL_plan_r2 := goodIn_r _ [486, 487, 488, 31, 489, 490, 420, 421, 422, 491, 492, 493, 494, 495, 496, 35, 497, 87, 88, 498, 499, 500, 501, 80] rfl (by decide +kernel)
set_option maxRecDepth 200000 in
theorem ggL_law_L_plan_2 : GoodIn wsL_law wsL_plan_r3 := goodIn_r _ [78, 502, 347, 348, 23, 349, 66, 65, 503, 378, 379, 17, 380, 59, 504, 505, 506, 507, 508, 509, 510, 511, 85, 86] rfl (by decide +kernel)
set_option maxRecDepth 200000 in
theorem ggL_law_L_plan_3 : GoodIn wsL_law wsL_plan_r4 := goodIn_r _ [512, 513, 514, 515, 84, 516, 517, 518, 519, 520, 521, 522, 523, 79, 524, 525, 526, 527, 528, 529, 530, 531, 532, 533] rfl (by decide +kernel)
set_option maxRecDepth 200000 in
theorem ggL_law_L_plan_4 : GoodIn wsL_law wsL_plan_r5 := goodIn_r _ [534, 535, 733, 734, 735, 39, 736, 95, 100, 101, 102, 98, 737, 738, 739, 94, 740, 108, 741, 742, 109, 111, 110, 107] rfl (by decide +kernel)
set_option maxRecDepth 200000 in
theorem ggL_law_L_plan_5 : GoodIn wsL_law wsL_plan_r6 := goodIn_r _ [743, 744, 745, 746, 747, 748, 749, 750, 751, 96, 752, 700, 701, 702, 753, 754, 755, 756, 99, 97, 757, 758, 759, 760] rfl (by decide +kernel)
set_option maxRecDepth 200000 in
theorem ggL_law_L_plan_6 : GoodIn wsL_law wsL_plan_r7 := goodIn_r _ [106, 761, 762, 763, 764, 765, 766, 767, 768, 769, 770, 771, 772, 773, 774, 775, 776, 777, 778, 779, 780, 781, 782, 783] rfl (by decide +kernel)
set_option maxRecDepth 200000 in
theorem ggL_law_L_plan_7 : GoodIn wsL_law wsL_plan_r8 := goodIn_r _ [784, 785, 786, 787, 788, 789, 790, 791, 792, 793, 794, 795, 796] rfl (by decide +kernel)
set_option maxRecDepth 200000 in
theorem ggL_law_L_plan_8 : GoodIn wsL_law wsX110 := goodIn_r _ [1538, 1539, 1540, 1541, 1542, 1543, 1544, 1545, 1546, 1547, 1548, 1549, 1550] rfl (by decide +kernel)
set_option maxRecDepth 200000 in
theorem ggL_law_L_plan_9 : GoodIn wsL_law wsX40 := goodIn_r _ [1583, 1584, 1585, 1586, 1587, 1588, 1589, 1590] rfl (by decide +kernel)
set_option maxRecDepth 200000 in
theorem ggL_law_L_plan_10 : GoodIn wsL_law wsX30 := goodIn_r _ [1627, 1628, 1629, 1630, 1631, 1632] rfl (by decide +kernel)
set_option maxRecDepth 200000 in
theorem ggL_law_L_plan_11 : GoodIn wsL_law wsX80 := goodIn_r _ [1570, 1571, 1572, 1573, 1574] rfl (by decide +kernel)
set_option maxRecDepth 200000 in
theorem ggL_law_L_plan_12 : GoodIn wsL_law wsX70 := goodIn_r _ [1578, 1579, 1580, 1581, 1582] rfl (by decide +kernel)
set_option maxRecDepth 200000 in
theorem ggL_law_L_plan_13 : GoodIn wsL_law wsX60 := goodIn_r _ [1575, 1576, 1577] rfl (by decide +kernel)
set_option maxRecDepth 200000 in
theorem ggL_law_L_plan_14 : GoodIn wsL_law wsX90 := goodIn_r _ [1568, 1569] rfl (by decide +kernel)
set_option maxRecDepth 200000 in
theorem ggL_law_L_plan_15 : GoodIn wsL_law wsX00 := goodIn_r _ [1565, 1566, 1567] rfl (by decide +kernel)
set_option maxRecDepth 20000 in
theorem ggL_law_L_plan : GoodIn wsL_law wsL_plan := goodIn_ca (goodIn_ca (fun w h => (List.mem_cons.mp h).elim (fun e => ggL_law_L_plan_h w (List.mem_singleton.mpr e)) (fun h => (goodIn_app (goodIn_app (goodIn_app (goodIn_app (goodIn_app (goodIn_app (goodIn_app (goodIn_app (goodIn_app ggL_law_L_plan_0 (goodIn_app ggL_law_L_plan_1 (goodIn_app ggL_law_L_plan_2 (goodIn_app ggL_law_L_plan_3 (goodIn_app ggL_law_L_plan_4 (goodIn_app ggL_law_L_plan_5 (goodIn_app ggL_law_L_plan_6 ggL_law_L_plan_7))))))) ggL_law_L_plan_8) ggL_law_L_plan_9) ggL_law_L_plan_10) ggL_law_L_plan_11) ggL_law_L_plan_12) ggL_law_L_plan_13) ggL_law_L_plan_14) ggL_law_L_plan_15) w h)) (goodIn_sub (fun _ h => List.mem_append_left _ (List.mem_append_left _ (List.mem_append_left _ (List.mem_append_right _ h)))) (by decide +kernel))) (goodIn_sub (fun _ h => List.mem_append_left _ (List.mem_append_left _ (List.mem_append_right _ h))) (by decide +kernel))
set_option maxRecDepth 20000 in
theorem gL_law_L_plan : GoodIn wsL_law (va_wsS RL 208 yL_plan wsL_plan) := goodIn_app (goodIn_of _ (by decide +kernel)) ggL_law_L_plan
theorem dL_law_1464 : decode cL_law 1464 = .ok (.aload_n 1, 1) := by decide +kernel
theorem dL_law_1465 : decode cL_law 1465 = .ok (.aload_n 0, 1) := by decide +kernel
theorem dL_law_1466 : decode cL_law 1466 = .ok (.iload 5, 2) := by decide +kernel
theorem dL_law_1468 : decode cL_law 1468 = .ok (.iconst 1, 1) := by decide +kernel
theorem dL_law_1469 : decode cL_law 1469 = .ok (.iadd, 1) := by decide +kernel
theorem dL_law_1470 : decode cL_law 1470 = .ok (.iaload, 1) := by decide +kernel
theorem dL_law_1471 : decode cL_law 1471 = .ok (.aload_n 0, 1) := by decide +kernel
theorem dL_law_1472 : decode cL_law 1472 = .ok (.iload 5, 2) := by decide +kernel
theorem dL_law_1474 : decode cL_law 1474 = .ok (.iconst 2, 1) := by decide +kernel
theorem dL_law_1475 : decode cL_law 1475 = .ok (.iadd, 1) := by decide +kernel
theorem dL_law_1476 : decode cL_law 1476 = .ok (.iaload, 1) := by decide +kernel
theorem dL_law_1477 : decode cL_law 1477 = .ok (.aload_n 3, 1) := by decide +kernel
theorem dL_law_1478 : decode cL_law 1478 = .ok (.invokestatic 208, 3) := by decide +kernel
theorem dL_law_1481 : decode cL_law 1481 = .ok (.istore 6, 2) := by decide +kernel
theorem dL_law_1483 : decode cL_law 1483 = .ok (.aload_n 2, 1) := by decide +kernel
theorem dL_law_1484 : decode cL_law 1484 = .ok (.aload_n 0, 1) := by decide +kernel
theorem dL_law_1485 : decode cL_law 1485 = .ok (.iload 5, 2) := by decide +kernel
theorem dL_law_1487 : decode cL_law 1487 = .ok (.iconst 1, 1) := by decide +kernel
theorem dL_law_1488 : decode cL_law 1488 = .ok (.iadd, 1) := by decide +kernel
theorem dL_law_1489 : decode cL_law 1489 = .ok (.iaload, 1) := by decide +kernel
theorem dL_law_1490 : decode cL_law 1490 = .ok (.aload_n 0, 1) := by decide +kernel
theorem dL_law_1491 : decode cL_law 1491 = .ok (.iload 5, 2) := by decide +kernel
theorem dL_law_1493 : decode cL_law 1493 = .ok (.iconst 2, 1) := by decide +kernel
theorem dL_law_1494 : decode cL_law 1494 = .ok (.iadd, 1) := by decide +kernel
theorem dL_law_1495 : decode cL_law 1495 = .ok (.iaload, 1) := by decide +kernel
set_option maxRecDepth 200000 in
theorem ggL_law_X13_plan_h : GoodIn wsL_law [.code yX13_plan cX13_plan 6 (some .int)] := goodIn_r _ [800] rfl (by decide +kernel)
set_option maxRecDepth 200000 in
theorem ggL_law_X13_plan_0 : GoodIn wsL_law wsX13_plan_r1 := goodIn_r _ [801, 802, 803, 182, 184, 58, 226, 227, 5, 228, 229, 230, 231, 239, 240, 241, 242, 243, 804, 805, 806, 807, 808, 13] rfl (by decide +kernel)
set_option maxRecDepth 200000 in
theorem ggL_law_X13_plan_1 : GoodIn wsL_law wsX13_plan_r2 := goodIn_r _ [14, 809, 810, 549, 550, 811, 812, 813, 814, 815, 558, 559, 560, 561, 562, 563, 564, 565, 566, 567, 568, 569, 570, 571] rfl (by decide +kernel)
set_option maxRecDepth 200000 in
theorem ggL_law_X13_plan_2 : GoodIn wsL_law wsX13_plan_r3 := goodIn_r _ [545, 546, 547, 548, 551, 552, 553, 554, 555, 420, 421, 422, 556, 557, 572, 573, 574, 575, 576, 577, 578, 579, 580, 581] rfl (by decide +kernel)
set_option maxRecDepth 200000 in
theorem ggL_law_X13_plan_3 : GoodIn wsL_law wsX13_plan_r4 := goodIn_r _ [582, 583, 584, 585, 586, 587, 588, 589, 590, 591, 592, 593, 594, 595, 596, 597, 598, 599, 600, 601, 602, 603, 604, 605] rfl (by decide +kernel)
set_option maxRecDepth 200000 in
theorem ggL_law_X13_plan_4 : GoodIn wsL_law wsX13_plan_r5 := goodIn_r _ [606, 607, 608, 492, 493, 609, 610, 611, 612, 613, 614, 615, 616, 617, 618, 619, 620, 621, 622, 623, 624, 625, 626, 627] rfl (by decide +kernel)
set_option maxRecDepth 200000 in
theorem ggL_law_X13_plan_5 : GoodIn wsL_law wsX13_plan_r6 := goodIn_r _ [628, 629, 630, 631, 632, 633, 634, 635, 636, 637, 638, 639, 640, 641, 642, 643, 644, 645, 646, 647, 648, 649, 650, 651] rfl (by decide +kernel)
set_option maxRecDepth 200000 in
theorem ggL_law_X13_plan_6 : GoodIn wsL_law wsX13_plan_r7 := goodIn_r _ [652, 653, 654, 655, 656, 657, 658, 659, 660, 661, 662, 663, 664, 665, 666, 667, 668, 389, 390, 391, 392, 179, 669, 670] rfl (by decide +kernel)
set_option maxRecDepth 200000 in
theorem ggL_law_X13_plan_7 : GoodIn wsL_law wsX13_plan_r8 := goodIn_r _ [671, 672, 673, 674, 675, 676, 677, 678, 679, 680, 681, 682, 683, 684, 685, 686, 687, 816, 817, 818, 819, 820, 821, 822] rfl (by decide +kernel)
set_option maxRecDepth 200000 in
theorem ggL_law_X13_plan_8 : GoodIn wsL_law wsX13_plan_r9 := goodIn_r _ [823, 824, 825, 826, 827, 828, 829, 830, 831, 832, 833, 834, 835, 836, 837, 838, 839, 840, 841, 842, 843, 844, 845, 846] rfl (by decide +kernel)
set_option maxRecDepth 200000 in
theorem ggL_law_X13_plan_9 : GoodIn wsL_law wsX13_plan_r10 := goodIn_r _ [847, 848, 849, 850, 851, 852, 853, 854, 855, 856, 857, 858, 859, 860, 861, 862, 863, 864, 865, 866, 867, 868, 869] rfl (by decide +kernel)
set_option maxRecDepth 200000 in
theorem ggL_law_X13_plan_10 : GoodIn wsL_law wsX120 := goodIn_r _ [1639, 1640, 1641, 1642, 1643, 1644, 1645, 1646, 1647, 1648, 1649, 1650] rfl (by decide +kernel)
set_option maxRecDepth 200000 in
theorem ggL_law_X13_plan_11 : GoodIn wsL_law wsX130 := goodIn_r _ [1551, 1552, 1553, 1554, 1555, 1556, 1557, 1558, 1559, 1560, 1561, 1562, 1563, 1564] rfl (by decide +kernel)
set_option maxRecDepth 200000 in
theorem ggL_law_X13_plan_12 : GoodIn wsL_law wsJx4a65c0 := goodIn_r _ [1635, 1636, 1637] rfl (by decide +kernel)
set_option maxRecDepth 200000 in
theorem ggL_law_X13_plan_13 : GoodIn wsL_law wsJ60 := goodIn_r _ [1638] rfl (by decide +kernel)
set_option maxRecDepth 20000 in
theorem ggL_law_X13_plan : GoodIn wsL_law wsX13_plan := (fun w h => (List.mem_cons.mp h).elim (fun e => ggL_law_X13_plan_h w (List.mem_singleton.mpr e)) (fun h => (goodIn_app (goodIn_app (goodIn_app (goodIn_app (goodIn_app ggL_law_X13_plan_0 (goodIn_app ggL_law_X13_plan_1 (goodIn_app ggL_law_X13_plan_2 (goodIn_app ggL_law_X13_plan_3 (goodIn_app ggL_law_X13_plan_4 (goodIn_app ggL_law_X13_plan_5 (goodIn_app ggL_law_X13_plan_6 (goodIn_app ggL_law_X13_plan_7 (goodIn_app ggL_law_X13_plan_8 ggL_law_X13_plan_9))))))))) ggL_law_X13_plan_10) ggL_law_X13_plan_11) ggL_law_X13_plan_12) ggL_law_X13_plan_13) w h))
set_option maxRecDepth 20000 in
theorem gL_law_X13_plan : GoodIn wsL_law (wsV RL 210 RX13 yX13_plan wsX13_plan) := goodIn_app (goodIn_of _ (by decide +kernel)) ggL_law_X13_plan
theorem dL_law_1496 : decode cL_law 1496 = .ok (.invokevirtual 210, 3) := by decide +kernel
theorem dL_law_1499 : decode cL_law 1499 = .ok (.istore 7, 2) := by decide +kernel
theorem dL_law_1501 : decode cL_law 1501 = .ok (.aload_n 2, 1) := by decide +kernel
theorem dL_law_1502 : decode cL_law 1502 = .ok (.invokevirtual 147, 3) := by decide +kernel
theorem dL_law_1505 : decode cL_law 1505 = .ok (.iload 6, 2) := by decide +kernel
theorem dL_law_1507 : decode cL_law 1507 = .ok (.if_icmp .eq 5, 3) := by decide +kernel
theorem dL_law_1512 : decode cL_law 1512 = .ok (.iload 6, 2) := by decide +kernel
theorem dL_law_1514 : decode cL_law 1514 = .ok (.ifCond .ne 15, 3) := by decide +kernel
theorem dL_law_1529 : decode cL_law 1529 = .ok (.goto 1283, 3) := by decide +kernel
theorem dL_law_1517 : decode cL_law 1517 = .ok (.aload_n 3, 1) := by decide +kernel
theorem dL_law_1518 : decode cL_law 1518 = .ok (.iconst 0, 1) := by decide +kernel
theorem dL_law_1519 : decode cL_law 1519 = .ok (.laload, 1) := by decide +kernel
theorem dL_law_1520 : decode cL_law 1520 = .ok (.iload 7, 2) := by decide +kernel
theorem dL_law_1522 : decode cL_law 1522 = .ok (.i2l, 1) := by decide +kernel
theorem dL_law_1523 : decode cL_law 1523 = .ok (.lcmp, 1) := by decide +kernel
theorem dL_law_1524 : decode cL_law 1524 = .ok (.ifCond .eq 5, 3) := by decide +kernel
theorem dL_law_1532 : decode cL_law 1532 = .ok (.aload_n 1, 1) := by decide +kernel
theorem dL_law_1533 : decode cL_law 1533 = .ok (.aload_n 0, 1) := by decide +kernel
theorem dL_law_1534 : decode cL_law 1534 = .ok (.iload 5, 2) := by decide +kernel
theorem dL_law_1536 : decode cL_law 1536 = .ok (.iconst 1, 1) := by decide +kernel
theorem dL_law_1537 : decode cL_law 1537 = .ok (.iadd, 1) := by decide +kernel
theorem dL_law_1538 : decode cL_law 1538 = .ok (.iaload, 1) := by decide +kernel
theorem dL_law_1539 : decode cL_law 1539 = .ok (.aload_n 3, 1) := by decide +kernel
set_option maxRecDepth 200000 in
theorem ggL_law_L_leastMoves : GoodIn wsL_law wsL_leastMoves := goodIn_ca (goodIn_r _ [872, 191, 873, 874, 875, 2, 876, 32, 18, 28, 36, 40, 196, 197, 198, 199, 200, 201, 20, 486, 487, 488, 31, 489, 490, 420, 421, 422, 491, 492, 493, 494, 495, 496, 35, 497, 87, 88, 498, 499, 500, 501, 80, 78, 502, 347, 348, 23, 349, 66, 65, 503, 378, 379, 17, 380, 59, 504, 505, 506, 507, 508, 509, 510, 511, 85, 86, 512, 513, 514, 515, 84, 516, 517, 518, 519, 520, 521, 522, 523, 79, 524, 525, 526, 527, 528, 529, 530, 531, 532, 533, 534, 535, 877, 878, 879, 39, 880, 98, 96, 747, 748, 749, 750, 751, 752, 700, 701, 702, 881, 882, 883, 884, 1538, 1539, 1540, 1541, 1542, 1543, 1544, 1545, 1546, 1547, 1548, 1549, 1550, 1570, 1571, 1572, 1573, 1574, 1578, 1579, 1580, 1581, 1582, 1575, 1576, 1577, 1568, 1569, 1565, 1566, 1567, 1583, 1584, 1585, 1586, 1587, 1588, 1589, 1590] rfl (by decide +kernel)) (goodIn_sub (fun _ h => List.mem_append_left _ (List.mem_append_left _ (List.mem_append_left _ (List.mem_append_right _ h)))) (by decide +kernel))
set_option maxRecDepth 20000 in
theorem gL_law_L_leastMoves : GoodIn wsL_law (va_wsS RL 211 yL_leastMoves wsL_leastMoves) := goodIn_app (goodIn_of _ (by decide +kernel)) ggL_law_L_leastMoves
theorem dL_law_1540 : decode cL_law 1540 = .ok (.invokestatic 211, 3) := by decide +kernel
theorem dL_law_1543 : decode cL_law 1543 = .ok (.istore 6, 2) := by decide +kernel
theorem dL_law_1545 : decode cL_law 1545 = .ok (.aload_n 2, 1) := by decide +kernel
theorem dL_law_1546 : decode cL_law 1546 = .ok (.aload_n 0, 1) := by decide +kernel
theorem dL_law_1547 : decode cL_law 1547 = .ok (.iload 5, 2) := by decide +kernel
theorem dL_law_1549 : decode cL_law 1549 = .ok (.iconst 1, 1) := by decide +kernel
theorem dL_law_1550 : decode cL_law 1550 = .ok (.iadd, 1) := by decide +kernel
theorem dL_law_1551 : decode cL_law 1551 = .ok (.iaload, 1) := by decide +kernel
set_option maxRecDepth 200000 in
theorem ggL_law_X13_leastMoves_h : GoodIn wsL_law [.code yX13_leastMoves cX13_leastMoves 5 (some .int)] := goodIn_r _ [888] rfl (by decide +kernel)
set_option maxRecDepth 200000 in
theorem ggL_law_X13_leastMoves_0 : GoodIn wsL_law wsX13_leastMoves_r1 := goodIn_r _ [58, 184, 801, 802, 803, 182, 226, 227, 5, 228, 229, 230, 231, 239, 240, 241, 242, 243, 804, 805, 806, 807, 808, 13] rfl (by decide +kernel)
set_option maxRecDepth 200000 in
theorem ggL_law_X13_leastMoves_1 : GoodIn wsL_law wsX13_leastMoves_r2 := goodIn_r _ [14, 809, 810, 549, 550, 811, 812, 813, 814, 815, 558, 559, 560, 561, 562, 563, 564, 565, 566, 567, 568, 569, 570, 571] rfl (by decide +kernel)
set_option maxRecDepth 200000 in
theorem ggL_law_X13_leastMoves_2 : GoodIn wsL_law wsX13_leastMoves_r3 := goodIn_r _ [545, 546, 547, 548, 551, 552, 553, 554, 555, 420, 421, 422, 556, 557, 572, 573, 574, 575, 576, 577, 578, 579, 580, 581] rfl (by decide +kernel)
set_option maxRecDepth 200000 in
theorem ggL_law_X13_leastMoves_3 : GoodIn wsL_law wsX13_leastMoves_r4 := goodIn_r _ [582, 583, 584, 585, 586, 587, 588, 589, 590, 591, 592, 593, 594, 595, 596, 597, 598, 599, 600, 601, 602, 603, 604, 605] rfl (by decide +kernel)
set_option maxRecDepth 200000 in
theorem ggL_law_X13_leastMoves_4 : GoodIn wsL_law wsX13_leastMoves_r5 := goodIn_r _ [606, 607, 608, 492, 493, 609, 610, 611, 612, 613, 614, 615, 616, 617, 618, 619, 620, 621, 622, 623, 624, 625, 626, 627] rfl (by decide +kernel)
set_option maxRecDepth 200000 in
theorem ggL_law_X13_leastMoves_5 : GoodIn wsL_law wsX13_leastMoves_r6 := goodIn_r _ [628, 629, 630, 631, 632, 633, 634, 635, 636, 637, 638, 639, 640, 641, 642, 643, 644, 645, 646, 647, 648, 649, 650, 651] rfl (by decide +kernel)
set_option maxRecDepth 200000 in
theorem ggL_law_X13_leastMoves_6 : GoodIn wsL_law wsX13_leastMoves_r7 := goodIn_r _ [652, 653, 654, 655, 656, 657, 658, 659, 660, 661, 662, 663, 664, 665, 666, 667, 668, 389, 390, 391, 392, 179, 669, 670] rfl (by decide +kernel)
set_option maxRecDepth 200000 in
theorem ggL_law_X13_leastMoves_7 : GoodIn wsL_law wsX13_leastMoves_r8 := goodIn_r _ [671, 672, 673, 674, 675, 676, 677, 678, 679, 680, 681, 682, 683, 684, 685, 686, 687, 816, 817, 818, 819, 820, 821, 822] rfl (by decide +kernel)
set_option maxRecDepth 200000 in
theorem ggL_law_X13_leastMoves_8 : GoodIn wsL_law wsX13_leastMoves_r9 := goodIn_r _ [823, 824, 825, 826, 827, 828, 829, 830, 831, 832, 833, 834, 835, 836, 837, 838, 839, 840, 841, 842, 843, 844, 845, 846] rfl (by decide +kernel)
set_option maxRecDepth 200000 in
theorem ggL_law_X13_leastMoves_9 : GoodIn wsL_law wsX13_leastMoves_r10 := goodIn_r _ [847, 848, 849, 850, 851, 852, 853, 854, 855, 856, 857, 858, 859, 860, 861, 862, 863, 864, 865, 866, 867, 868, 869] rfl (by decide +kernel)
set_option maxRecDepth 200000 in
theorem ggL_law_X13_leastMoves_10 : GoodIn wsL_law wsX130 := goodIn_r _ [1551, 1552, 1553, 1554, 1555, 1556, 1557, 1558, 1559, 1560, 1561, 1562, 1563, 1564] rfl (by decide +kernel)
set_option maxRecDepth 200000 in
theorem ggL_law_X13_leastMoves_11 : GoodIn wsL_law wsX120 := goodIn_r _ [1639, 1640, 1641, 1642, 1643, 1644, 1645, 1646, 1647, 1648, 1649, 1650] rfl (by decide +kernel)
set_option maxRecDepth 200000 in
theorem ggL_law_X13_leastMoves_12 : GoodIn wsL_law wsJx4a65c0 := goodIn_r _ [1635, 1636, 1637] rfl (by decide +kernel)
set_option maxRecDepth 200000 in
theorem ggL_law_X13_leastMoves_13 : GoodIn wsL_law wsJ60 := goodIn_r _ [1638] rfl (by decide +kernel)
set_option maxRecDepth 20000 in
theorem ggL_law_X13_leastMoves : GoodIn wsL_law wsX13_leastMoves := (fun w h => (List.mem_cons.mp h).elim (fun e => ggL_law_X13_leastMoves_h w (List.mem_singleton.mpr e)) (fun h => (goodIn_app (goodIn_app (goodIn_app (goodIn_app (goodIn_app ggL_law_X13_leastMoves_0 (goodIn_app ggL_law_X13_leastMoves_1 (goodIn_app ggL_law_X13_leastMoves_2 (goodIn_app ggL_law_X13_leastMoves_3 (goodIn_app ggL_law_X13_leastMoves_4 (goodIn_app ggL_law_X13_leastMoves_5 (goodIn_app ggL_law_X13_leastMoves_6 (goodIn_app ggL_law_X13_leastMoves_7 (goodIn_app ggL_law_X13_leastMoves_8 ggL_law_X13_leastMoves_9))))))))) ggL_law_X13_leastMoves_10) ggL_law_X13_leastMoves_11) ggL_law_X13_leastMoves_12) ggL_law_X13_leastMoves_13) w h))
set_option maxRecDepth 20000 in
theorem gL_law_X13_leastMoves : GoodIn wsL_law (wsV RL 213 RX13 yX13_leastMoves wsX13_leastMoves) := goodIn_app (goodIn_of _ (by decide +kernel)) ggL_law_X13_leastMoves
theorem dL_law_1552 : decode cL_law 1552 = .ok (.invokevirtual 213, 3) := by decide +kernel
theorem dL_law_1555 : decode cL_law 1555 = .ok (.istore 7, 2) := by decide +kernel
theorem dL_law_1557 : decode cL_law 1557 = .ok (.aload_n 2, 1) := by decide +kernel
theorem dL_law_1558 : decode cL_law 1558 = .ok (.invokevirtual 147, 3) := by decide +kernel
theorem dL_law_1561 : decode cL_law 1561 = .ok (.iload 6, 2) := by decide +kernel
theorem dL_law_1563 : decode cL_law 1563 = .ok (.if_icmp .eq 5, 3) := by decide +kernel
theorem dL_law_1568 : decode cL_law 1568 = .ok (.iload 6, 2) := by decide +kernel
theorem dL_law_1570 : decode cL_law 1570 = .ok (.ifCond .ne 15, 3) := by decide +kernel
theorem dL_law_1585 : decode cL_law 1585 = .ok (.goto 1227, 3) := by decide +kernel
theorem dL_law_1573 : decode cL_law 1573 = .ok (.aload_n 3, 1) := by decide +kernel
theorem dL_law_1574 : decode cL_law 1574 = .ok (.iconst 0, 1) := by decide +kernel
theorem dL_law_1575 : decode cL_law 1575 = .ok (.laload, 1) := by decide +kernel
theorem dL_law_1576 : decode cL_law 1576 = .ok (.iload 7, 2) := by decide +kernel
theorem dL_law_1578 : decode cL_law 1578 = .ok (.i2l, 1) := by decide +kernel
theorem dL_law_1579 : decode cL_law 1579 = .ok (.lcmp, 1) := by decide +kernel
theorem dL_law_1580 : decode cL_law 1580 = .ok (.ifCond .eq 5, 3) := by decide +kernel
theorem dL_law_1588 : decode cL_law 1588 = .ok (.aload_n 1, 1) := by decide +kernel
theorem dL_law_1589 : decode cL_law 1589 = .ok (.aload_n 0, 1) := by decide +kernel
theorem dL_law_1590 : decode cL_law 1590 = .ok (.iload 5, 2) := by decide +kernel
theorem dL_law_1592 : decode cL_law 1592 = .ok (.iconst 1, 1) := by decide +kernel
theorem dL_law_1593 : decode cL_law 1593 = .ok (.iadd, 1) := by decide +kernel
theorem dL_law_1594 : decode cL_law 1594 = .ok (.iaload, 1) := by decide +kernel
theorem dL_law_1595 : decode cL_law 1595 = .ok (.aload_n 0, 1) := by decide +kernel
theorem dL_law_1596 : decode cL_law 1596 = .ok (.iload 5, 2) := by decide +kernel
theorem dL_law_1598 : decode cL_law 1598 = .ok (.iconst 2, 1) := by decide +kernel
theorem dL_law_1599 : decode cL_law 1599 = .ok (.iadd, 1) := by decide +kernel
theorem dL_law_1600 : decode cL_law 1600 = .ok (.iaload, 1) := by decide +kernel
theorem dL_law_1601 : decode cL_law 1601 = .ok (.aload_n 3, 1) := by decide +kernel
set_option maxRecDepth 200000 in
theorem ggL_law_L_begin_h : GoodIn wsL_law [.codeWith yL_begin cL_begin 5 (some .int) [(0, 10, 13, 13)]] := goodIn_r _ [891] rfl (by decide +kernel)
set_option maxRecDepth 200000 in
theorem ggL_law_L_begin_0 : GoodIn wsL_law wsL_begin_r1 := goodIn_r _ [191, 892, 893, 894, 2, 895, 44, 18, 28, 54, 196, 197, 198, 199, 200, 201, 20, 896, 897, 898, 43, 899, 116, 123] rfl (by decide +kernel)
set_option maxRecDepth 200000 in
theorem ggL_law_L_begin_1 : GoodIn wsL_law wsL_begin_r2 := goodIn_r _ [118, 124, 126, 127, 128, 129, 130, 131, 132, 900, 487, 488, 31, 489, 490, 420, 421, 422, 491, 492, 493, 494, 495, 496] rfl (by decide +kernel)
set_option maxRecDepth 200000 in
theorem ggL_law_L_begin_2 : GoodIn wsL_law wsL_begin_r3 := goodIn_r _ [35, 497, 87, 88, 498, 499, 500, 501, 80, 78, 502, 347, 348, 23, 349, 66, 65, 503, 378, 379, 17, 380, 59, 504] rfl (by decide +kernel)
set_option maxRecDepth 200000 in
theorem ggL_law_L_begin_3 : GoodIn wsL_law wsL_begin_r4 := goodIn_r _ [505, 506, 507, 508, 509, 510, 511, 85, 86, 512, 513, 514, 515, 84, 516, 517, 518, 519, 520, 521, 522, 523, 79, 524] rfl (by decide +kernel)
set_option maxRecDepth 200000 in
theorem ggL_law_L_begin_4 : GoodIn wsL_law wsL_begin_r5 := goodIn_r _ [525, 526, 527, 528, 529, 530, 531, 532, 533, 534, 535, 901, 738, 739, 94, 740, 108, 741, 742, 109, 111, 110, 107, 743] rfl (by decide +kernel)
set_option maxRecDepth 200000 in
theorem ggL_law_L_begin_5 : GoodIn wsL_law wsL_begin_r6 := goodIn_r _ [744, 745, 746, 902, 903, 904, 905, 906, 907, 908, 909, 910, 911, 912, 401, 402, 403, 913, 700, 701, 702, 914, 716, 717] rfl (by decide +kernel)
set_option maxRecDepth 200000 in
theorem ggL_law_L_begin_6 : GoodIn wsL_law wsL_begin_r7 := goodIn_r _ [718, 915, 720, 721, 916, 219, 220, 221] rfl (by decide +kernel)
set_option maxRecDepth 200000 in
theorem ggL_law_L_begin_7 : GoodIn wsL_law wsX110 := goodIn_r _ [1538, 1539, 1540, 1541, 1542, 1543, 1544, 1545, 1546, 1547, 1548, 1549, 1550] rfl (by decide +kernel)
set_option maxRecDepth 200000 in
theorem ggL_law_L_begin_8 : GoodIn wsL_law wsX20 := goodIn_r _ [1591, 1592, 1593, 1594, 1595, 1596, 1597, 1598, 1599, 1600, 1601, 1602, 1603, 1604, 1605] rfl (by decide +kernel)
set_option maxRecDepth 200000 in
theorem ggL_law_L_begin_9 : GoodIn wsL_law wsX70 := goodIn_r _ [1578, 1579, 1580, 1581, 1582] rfl (by decide +kernel)
set_option maxRecDepth 200000 in
theorem ggL_law_L_begin_10 : GoodIn wsL_law wsX90 := goodIn_r _ [1568, 1569] rfl (by decide +kernel)
set_option maxRecDepth 200000 in
theorem ggL_law_L_begin_11 : GoodIn wsL_law wsX80 := goodIn_r _ [1570, 1571, 1572, 1573, 1574] rfl (by decide +kernel)
set_option maxRecDepth 200000 in
theorem ggL_law_L_begin_12 : GoodIn wsL_law wsX60 := goodIn_r _ [1575, 1576, 1577] rfl (by decide +kernel)
set_option maxRecDepth 200000 in
theorem ggL_law_L_begin_13 : GoodIn wsL_law wsX00 := goodIn_r _ [1565, 1566, 1567] rfl (by decide +kernel)
set_option maxRecDepth 200000 in
theorem ggL_law_L_begin_14 : GoodIn wsL_law wsX30 := goodIn_r _ [1627, 1628, 1629, 1630, 1631, 1632] rfl (by decide +kernel)
set_option maxRecDepth 20000 in
theorem ggL_law_L_begin : GoodIn wsL_law wsL_begin := goodIn_ca (fun w h => (List.mem_cons.mp h).elim (fun e => ggL_law_L_begin_h w (List.mem_singleton.mpr e)) (fun h => (goodIn_app (goodIn_app (goodIn_app (goodIn_app (goodIn_app (goodIn_app (goodIn_app (goodIn_app (goodIn_app ggL_law_L_begin_0 (goodIn_app ggL_law_L_begin_1 (goodIn_app ggL_law_L_begin_2 (goodIn_app ggL_law_L_begin_3 (goodIn_app ggL_law_L_begin_4 (goodIn_app ggL_law_L_begin_5 ggL_law_L_begin_6)))))) ggL_law_L_begin_7) ggL_law_L_begin_8) ggL_law_L_begin_9) ggL_law_L_begin_10) ggL_law_L_begin_11) ggL_law_L_begin_12) ggL_law_L_begin_13) ggL_law_L_begin_14) w h)) (goodIn_sub (fun _ h => List.mem_append_left _ (List.mem_append_left _ (List.mem_append_left _ (List.mem_append_right _ h)))) (by decide +kernel))
set_option maxRecDepth 20000 in
theorem gL_law_L_begin : GoodIn wsL_law (va_wsS RL 214 yL_begin wsL_begin) := goodIn_app (goodIn_of _ (by decide +kernel)) ggL_law_L_begin
theorem dL_law_1602 : decode cL_law 1602 = .ok (.invokestatic 214, 3) := by decide +kernel
theorem dL_law_1605 : decode cL_law 1605 = .ok (.istore 6, 2) := by decide +kernel
theorem dL_law_1607 : decode cL_law 1607 = .ok (.aload_n 2, 1) := by decide +kernel
theorem dL_law_1608 : decode cL_law 1608 = .ok (.aload_n 0, 1) := by decide +kernel
theorem dL_law_1609 : decode cL_law 1609 = .ok (.iload 5, 2) := by decide +kernel
theorem dL_law_1611 : decode cL_law 1611 = .ok (.iconst 1, 1) := by decide +kernel
theorem dL_law_1612 : decode cL_law 1612 = .ok (.iadd, 1) := by decide +kernel
theorem dL_law_1613 : decode cL_law 1613 = .ok (.iaload, 1) := by decide +kernel
theorem dL_law_1614 : decode cL_law 1614 = .ok (.aload_n 0, 1) := by decide +kernel
theorem dL_law_1615 : decode cL_law 1615 = .ok (.iload 5, 2) := by decide +kernel
theorem dL_law_1617 : decode cL_law 1617 = .ok (.iconst 2, 1) := by decide +kernel
theorem dL_law_1618 : decode cL_law 1618 = .ok (.iadd, 1) := by decide +kernel
theorem dL_law_1619 : decode cL_law 1619 = .ok (.iaload, 1) := by decide +kernel
set_option maxRecDepth 200000 in
theorem ggL_law_X13_begin_h : GoodIn wsL_law [.code yX13_begin cX13_begin 4 (some .int)] := goodIn_r _ [920] rfl (by decide +kernel)
set_option maxRecDepth 200000 in
theorem ggL_law_X13_begin_0 : GoodIn wsL_law wsX13_begin_r1 := goodIn_r _ [801, 802, 803, 182, 184, 921, 226, 227, 5, 228, 229, 230, 231, 239, 240, 241, 242, 243, 540, 541, 542, 543, 544, 545] rfl (by decide +kernel)
set_option maxRecDepth 200000 in
theorem ggL_law_X13_begin_1 : GoodIn wsL_law wsX13_begin_r2 := goodIn_r _ [546, 547, 548, 549, 550, 551, 552, 553, 554, 555, 420, 421, 422, 556, 557, 558, 559, 560, 561, 562, 563, 564, 565, 566] rfl (by decide +kernel)
set_option maxRecDepth 200000 in
theorem ggL_law_X13_begin_2 : GoodIn wsL_law wsX13_begin_r3 := goodIn_r _ [567, 568, 569, 570, 571, 13, 14, 572, 573, 574, 575, 576, 577, 578, 579, 580, 581, 582, 583, 584, 585, 586, 587, 588] rfl (by decide +kernel)
set_option maxRecDepth 200000 in
theorem ggL_law_X13_begin_3 : GoodIn wsL_law wsX13_begin_r4 := goodIn_r _ [589, 590, 591, 592, 593, 594, 595, 596, 597, 598, 599, 600, 601, 602, 603, 604, 605, 606, 607, 608, 492, 493, 609, 610] rfl (by decide +kernel)
set_option maxRecDepth 200000 in
theorem ggL_law_X13_begin_4 : GoodIn wsL_law wsX13_begin_r5 := goodIn_r _ [611, 612, 613, 614, 615, 616, 617, 618, 619, 620, 621, 622, 623, 624, 625, 626, 627, 628, 629, 630, 631, 632, 633, 634] rfl (by decide +kernel)
set_option maxRecDepth 200000 in
theorem ggL_law_X13_begin_5 : GoodIn wsL_law wsX13_begin_r6 := goodIn_r _ [635, 636, 637, 638, 639, 640, 641, 642, 643, 644, 645, 646, 647, 648, 649, 650, 651, 652, 653, 654, 655, 656, 657, 658] rfl (by decide +kernel)
set_option maxRecDepth 200000 in
theorem ggL_law_X13_begin_6 : GoodIn wsL_law wsX13_begin_r7 := goodIn_r _ [659, 660, 661, 662, 663, 664, 665, 666, 667, 668, 389, 390, 391, 392, 179, 669, 670, 671, 672, 673, 674, 675, 676, 677] rfl (by decide +kernel)
set_option maxRecDepth 200000 in
theorem ggL_law_X13_begin_7 : GoodIn wsL_law wsX13_begin_r8 := goodIn_r _ [678, 679, 680, 58, 681, 682, 683, 684, 685, 686, 687, 804, 805, 806, 807, 808, 809, 810, 811, 812, 813, 814, 815, 816] rfl (by decide +kernel)
set_option maxRecDepth 200000 in
theorem ggL_law_X13_begin_8 : GoodIn wsL_law wsX13_begin_r9 := goodIn_r _ [817, 818, 819, 820, 821, 822, 823, 824, 825, 826, 827, 828, 922, 923, 924, 925, 926, 834, 835, 836, 837, 838, 839, 840] rfl (by decide +kernel)
set_option maxRecDepth 200000 in
theorem ggL_law_X13_begin_9 : GoodIn wsL_law wsX13_begin_r10 := goodIn_r _ [841, 927, 928, 929, 930] rfl (by decide +kernel)
set_option maxRecDepth 200000 in
theorem ggL_law_X13_begin_10 : GoodIn wsL_law wsX120 := goodIn_r _ [1639, 1640, 1641, 1642, 1643, 1644, 1645, 1646, 1647, 1648, 1649, 1650] rfl (by decide +kernel)
set_option maxRecDepth 200000 in
theorem ggL_law_X13_begin_11 : GoodIn wsL_law wsX130 := goodIn_r _ [1551, 1552, 1553, 1554, 1555, 1556, 1557, 1558, 1559, 1560, 1561, 1562, 1563, 1564] rfl (by decide +kernel)
set_option maxRecDepth 200000 in
theorem ggL_law_X13_begin_12 : GoodIn wsL_law wsJx4a65c0 := goodIn_r _ [1635, 1636, 1637] rfl (by decide +kernel)
set_option maxRecDepth 200000 in
theorem ggL_law_X13_begin_13 : GoodIn wsL_law wsJ60 := goodIn_r _ [1638] rfl (by decide +kernel)
set_option maxRecDepth 20000 in
theorem ggL_law_X13_begin : GoodIn wsL_law wsX13_begin := (fun w h => (List.mem_cons.mp h).elim (fun e => ggL_law_X13_begin_h w (List.mem_singleton.mpr e)) (fun h => (goodIn_app (goodIn_app (goodIn_app (goodIn_app (goodIn_app ggL_law_X13_begin_0 (goodIn_app ggL_law_X13_begin_1 (goodIn_app ggL_law_X13_begin_2 (goodIn_app ggL_law_X13_begin_3 (goodIn_app ggL_law_X13_begin_4 (goodIn_app ggL_law_X13_begin_5 (goodIn_app ggL_law_X13_begin_6 (goodIn_app ggL_law_X13_begin_7 (goodIn_app ggL_law_X13_begin_8 ggL_law_X13_begin_9))))))))) ggL_law_X13_begin_10) ggL_law_X13_begin_11) ggL_law_X13_begin_12) ggL_law_X13_begin_13) w h))
set_option maxRecDepth 20000 in
theorem gL_law_X13_begin : GoodIn wsL_law (wsV RL 216 RX13 yX13_begin wsX13_begin) := goodIn_app (goodIn_of _ (by decide +kernel)) ggL_law_X13_begin
theorem dL_law_1620 : decode cL_law 1620 = .ok (.invokevirtual 216, 3) := by decide +kernel
theorem dL_law_1623 : decode cL_law 1623 = .ok (.istore 7, 2) := by decide +kernel
theorem dL_law_1625 : decode cL_law 1625 = .ok (.aload_n 2, 1) := by decide +kernel
theorem dL_law_1626 : decode cL_law 1626 = .ok (.invokevirtual 147, 3) := by decide +kernel
theorem dL_law_1629 : decode cL_law 1629 = .ok (.iload 6, 2) := by decide +kernel
theorem dL_law_1631 : decode cL_law 1631 = .ok (.if_icmp .eq 5, 3) := by decide +kernel
theorem dL_law_1636 : decode cL_law 1636 = .ok (.iload 6, 2) := by decide +kernel
theorem dL_law_1638 : decode cL_law 1638 = .ok (.ifCond .ne 15, 3) := by decide +kernel
theorem dL_law_1653 : decode cL_law 1653 = .ok (.goto 1159, 3) := by decide +kernel
theorem dL_law_1641 : decode cL_law 1641 = .ok (.aload_n 3, 1) := by decide +kernel
theorem dL_law_1642 : decode cL_law 1642 = .ok (.iconst 0, 1) := by decide +kernel
theorem dL_law_1643 : decode cL_law 1643 = .ok (.laload, 1) := by decide +kernel
theorem dL_law_1644 : decode cL_law 1644 = .ok (.iload 7, 2) := by decide +kernel
theorem dL_law_1646 : decode cL_law 1646 = .ok (.i2l, 1) := by decide +kernel
theorem dL_law_1647 : decode cL_law 1647 = .ok (.lcmp, 1) := by decide +kernel
theorem dL_law_1648 : decode cL_law 1648 = .ok (.ifCond .eq 5, 3) := by decide +kernel
set_option maxHeartbeats 4000000 in
set_option maxRecDepth 100000 in
theorem law_11 {l : Launch} {p : Program} {e : Env} {s : State} {m : MethodId} {below : List Frame} {meth : Method} {c : Code} {bs : Nat} {xs : Nat → Int32} {A : Nat → Prop} {dC : Nat → ClassId} {dI : Nat → Nat → Nat} {g : Nat → ClassId} {a b r1 r2 : Nat → Nat} {ou od : Nat} {Q : State → Prop} {H : Heap} {locs : List Loc} {ls : Array Slot} (C9 : LC l p s m c bs xs A dC dI g a b r1 r2 ou od) (hP : va_P (dC, dI) vwCl (lawL a g ou ++ lawR b r1 r2 g od) H) (hS : va_S A s.heap H locs) (hl : lv_has ls 10 [(5, .int 0), (0, .ref bs), (1, .ref (a 0)), (2, .ref (b 0)), (3, .ref ou), (4, .ref od)]) (hend : ∀ (H : Heap) (locs : List Loc), va_S A s.heap H locs → ∀ (ls : Array Slot), lv_has ls 10 [(5, .int 0), (0, .ref bs)] → W p l e room_1 s m #[Value.ref bs] below meth c H locs 6000 90000 Q (F0 m 2812 ls [])) : W p l e room_1 s m #[Value.ref bs] below meth c H locs 2000 30000 Q (F0 m 932 ls []) := by
  obtain ⟨hlf, hx, hb, hml, hown, hts, hX, hbl, hbA, hK, hG, hA, hDD⟩ := C9
  refine lv_aload_n hx hb dL_law_932 rfl (lv_at hl 2 rfl) ?_
  refine lv_aload_n hx hb dL_law_933 rfl (lv_at hl 1 rfl) ?_
  refine lv_iload hx hb dL_law_934 (lv_at hl 0 rfl) ?_
  refine lv_iconst (v := 1) hx hb dL_law_936 (by decide) ?_
  refine lv_iadd hx hb dL_law_937 ?_
  refine lv_topi (fun x_1 ex_1 => ?_)
  obtain rfl : x_1 = 1 := ex_1.trans (by decide)
  refine va_sld hx hb hX hbl hbA hS (by unfold vp_in; decide) dL_law_938 ?_
  refine W.eq (g2 := F0 m 939 ls [.int (xs 1), .ref (a 0)]) rfl ?_
  refine lv_aload_n hx hb dL_law_939 rfl (lv_at hl 1 rfl) ?_
  refine lv_iload hx hb dL_law_940 (lv_at hl 0 rfl) ?_
  refine lv_iconst (v := 2) hx hb dL_law_942 (by decide) ?_
  refine lv_iadd hx hb dL_law_943 ?_
  refine lv_topi (fun x_2 ex_2 => ?_)
  obtain rfl : x_2 = 2 := ex_2.trans (by decide)
  refine va_sld hx hb hX hbl hbA hS (by unfold vp_in; decide) dL_law_944 ?_
  refine W.eq (g2 := F0 m 945 ls [.int (xs 2), .int (xs 1), .ref (a 0)]) rfl ?_
  refine lv_aload_n hx hb dL_law_945 rfl (lv_at hl 4 rfl) ?_
  have hPc : va_P (dC, dI) vwCl (offW a g ++ [(ou, .inl (g 2, 1, .inr (.inl (fun _ => 0))))]) H := P_l hP
  have hDc : va_D A (offW a g ++ [(ou, .inl (g 2, 1, .inr (.inl (fun _ => 0))))]) := D_l hDD
  have hPm0 : va_P (dC, dI) vwCl (modW b r1 r2 g 0) H := P_l (P_r hP)
  have hFc : ∀ q, va_A (offW a g ++ [(ou, .inl (g 2, 1, .inr (.inl (fun _ => 0))))]) H.size q → A q := A_all hDc hA hS.1
  refine va_calli (vx_runSW (As := [.ref (a 0), .int (xs 1), .int (xs 2), .ref ou]) (rest := []) ⟨hx, hb, hml, hown, hts⟩ (c_L_copy l hlf dC dI g a (xs 1) (xs 2) ou (fun _ => 0) H.size) (vx_cwSW 4 hts (gX gL_law_L_copy) rfl rfl rfl (by decide +kernel) ⟨Nat.le_of_ble_eq_true rfl, Nat.le_of_ble_eq_true rfl⟩) ⟨PG_blind, PG_call hK hG hS hPc hDc hFc⟩ rfl rfl hl.1 rfl (lv_room (Nat.le_of_ble_eq_true rfl)) dL_law_946 ⟨Nat.le_of_ble_eq_true rfl, Nat.le_of_ble_eq_true rfl⟩) hS (fun q _ h => hFc q h) hFc (fun r_1 f_1 t_1 H_1 L_1 ht_1 hvm_1 hw_1 hB_1 hz_1 hk_1 hS => ?_)
  rw [ht_1] at hB_1
  have hPm : va_P (dC, dI) vwCl (modW b r1 r2 g 0) H_1 := P_l (rest_kept hP hDD hk_1)
  obtain ⟨hr1, hv1⟩ := hw_1
  obtain rfl : r_1 = (cd (TOKb (xs 1) && TOKb (xs 2)) true true) := hr1
  refine lv_istore (lv' := [(6, .int (cd (TOKb (xs 1) && TOKb (xs 2)) true true)), (5, .int 0), (0, .ref bs), (1, .ref (a 0)), (2, .ref (b 0)), (3, .ref ou), (4, .ref od)]) hx hb dL_law_949 hl (by decide) rfl (fun ls hl => ?_)
  refine lv_aload_n hx hb dL_law_951 rfl (lv_at hl 4 rfl) ?_
  refine lv_aload_n hx hb dL_law_952 rfl (lv_at hl 2 rfl) ?_
  refine lv_iload hx hb dL_law_953 (lv_at hl 1 rfl) ?_
  refine lv_iconst (v := 1) hx hb dL_law_955 (by decide) ?_
  refine lv_iadd hx hb dL_law_956 ?_
  refine lv_topi (fun x_3 ex_3 => ?_)
  obtain rfl : x_3 = 1 := ex_3.trans (by decide)
  refine va_sld hx hb hX hbl hbA hS (by unfold vp_in; decide) dL_law_957 ?_
  refine W.eq (g2 := F0 m 958 ls [.int (xs 1), .ref (b 0)]) rfl ?_
  refine lv_aload_n hx hb dL_law_958 rfl (lv_at hl 2 rfl) ?_
  refine lv_iload hx hb dL_law_959 (lv_at hl 1 rfl) ?_
  refine lv_iconst (v := 2) hx hb dL_law_961 (by decide) ?_
  refine lv_iadd hx hb dL_law_962 ?_
  refine lv_topi (fun x_4 ex_4 => ?_)
  obtain rfl : x_4 = 2 := ex_4.trans (by decide)
  refine va_sld hx hb hX hbl hbA hS (by unfold vp_in; decide) dL_law_963 ?_
  refine W.eq (g2 := F0 m 964 ls [.int (xs 2), .int (xs 1), .ref (b 0)]) rfl ?_
  have hDm : va_D A (modW b r1 r2 g 0) := D_l (D_r hDD)
  have hFm : ∀ q, va_A (modW b r1 r2 g 0) H_1.size q → A q := A_all hDm hA hS.1
  refine va_calli (va_runV (As := [.int (xs 1), .int (xs 2)]) (rest := []) ⟨hx, hb, hml, hown, hts⟩ (c_X13_copy l dC dI g b r1 r2 (xs 1) (xs 2) 0 H_1.size) (cwV 2 hts (gX gL_law_X13_copy) rfl rfl rfl (by decide +kernel) ⟨Nat.le_of_ble_eq_true rfl, Nat.le_of_ble_eq_true rfl⟩) ⟨PG_blind, va_recv hK hPm (ci := 15) (q0 := 0) rfl (m_0 b r1 r2 g 0), PG_call hK hG hS hPm hDm hFm⟩ rfl rfl hl.1 rfl (lv_room (Nat.le_of_ble_eq_true rfl)) dL_law_964 ⟨Nat.le_of_ble_eq_true rfl, Nat.le_of_ble_eq_true rfl⟩) hS (fun q _ h => hFm q h) hFm (fun r_2 u_2 t_2 H_2 L_2 ht_2 hvm_2 hw_2 hB_2 hz_2 hk_2 hS => ?_)
  replace hB_1 := kept_by hB_1 hk_2 (ap_ou hDD)
  obtain ⟨fs, hB_2⟩ := hB_2
  rw [ht_2] at hB_2
  refine lv_istore (lv' := [(7, .int r_2), (6, .int (cd (TOKb (xs 1) && TOKb (xs 2)) true true)), (5, .int 0), (0, .ref bs), (1, .ref (a 0)), (2, .ref (b 0)), (3, .ref ou), (4, .ref od)]) hx hb dL_law_967 hl (by decide) rfl (fun ls hl => ?_)
  refine lv_aload_n hx hb dL_law_969 rfl (lv_at hl 5 rfl) ?_
  have hFt := A_one (e := .inr (15, .int ((cd (TOKb (xs 1) && TOKb (xs 2)) true true)) :: fs)) (sz := 0) (H0 := H) (A_b0 hDD) hA hS
  have hDt : va_D A [(b 0, .inr (15, .int ((cd (TOKb (xs 1) && TOKb (xs 2)) true true)) :: fs))] := D_one (A_b0 hDD)
  refine va_calli (va_runV (As := []) (rest := []) ⟨hx, hb, hml, hown, hts⟩ (c_X13_thrown l dC dI g [(b 0, .inr (15, .int ((cd (TOKb (xs 1) && TOKb (xs 2)) true true)) :: fs))] (b 0) ((cd (TOKb (xs 1) && TOKb (xs 2)) true true)) fs 0 rfl H_2.size) (cwV 0 hts (gX gL_law_X13_thrown) rfl rfl rfl (by decide +kernel) ⟨Nat.le_of_ble_eq_true rfl, Nat.le_of_ble_eq_true rfl⟩) ⟨PG_blind, va_recv hK hB_2 (ci := 15) (q0 := 0) rfl rfl, PG_call hK hG hS hB_2 hDt hFt⟩ rfl rfl hl.1 rfl (lv_room (Nat.le_of_ble_eq_true rfl)) dL_law_970 ⟨Nat.le_of_ble_eq_true rfl, Nat.le_of_ble_eq_true rfl⟩) hS (fun q _ h => hFt q h) hFt (fun r_3 u_3 t_3 H_3 L_3 ht_3 hvm_3 hw_3 hB_3 hz_3 hk_3 hS => ?_)
  obtain rfl : r_3 = (cd (TOKb (xs 1) && TOKb (xs 2)) true true) := hw_3
  replace hB_1 := kept_by hB_1 hk_3 (fun j k p q hj hk e => by
      obtain rfl : j = 0 := by
        have h1 := (List.getElem?_eq_some_iff.mp hj).1
        simp only [List.length_singleton] at h1
        omega
      cases hj
      exact ap_ou hDD 0 k _ q (m_0 b r1 r2 g 0) hk e)
  refine lv_iload hx hb dL_law_973 (lv_at hl 1 rfl) ?_
  refine lv_icmp_eq (tgt := 980) hx hb dL_law_975 (by decide) (fun _ => ?_) (fun c9 => absurd rfl c9)
  refine lv_iload hx hb dL_law_980 (lv_at hl 1 rfl) ?_
  refine lv_if_ne (tgt := 997) hx hb dL_law_982 (by decide) (fun h0 => ?_) (fun h0 => ?_)
  · refine lv_goto (tgt := 2812) hx hb dL_law_997 (by decide) ?_
    refine W.widen (k := 6000) (n := 90000) (Nat.le_of_ble_eq_true rfl) (Nat.le_of_ble_eq_true rfl) ?_
    exact hend _ _ hS _ (lv_sub hl [2, 3] rfl)
  · obtain rfl : r_2 = 0 := hw_2 h0
    refine lv_aload_n hx hb dL_law_985 rfl (lv_at hl 6 rfl) ?_
    refine lv_iconst (v := 0) hx hb dL_law_986 (by decide) ?_
    refine va_lald hx hb hK hB_1 0 2 rfl rfl (by unfold vp_in; decide) dL_law_987 ?_
    refine W.eq (g2 := F0 m 988 ls [.long ((0 : Int32).toInt64)]) (by rw [show f_1 (0 : Int32).toNatClampNeg = (0 : Int32).toInt64 from hv1 h0]) ?_
    refine lv_iload hx hb dL_law_988 (lv_at hl 0 rfl) ?_
    refine lv_i2l (v := (0 : Int32).toInt64) hx hb dL_law_990 rfl ?_
    refine W.lcmp hx hb dL_law_991 ?_
    refine W.eq (g2 := F0 m 992 ls [.int 0]) (by first | rw [lg_cmp_self] | exact congrArg (fun z => F0 m 992 ls [.int z]) (lg_cmp_self _)) ?_
    refine lv_if_eq (tgt := 997) hx hb dL_law_992 (by decide) (fun c_5 => ?_) (fun c_5 => absurd (by decide) c_5)
    refine lv_goto (tgt := 2812) hx hb dL_law_997 (by decide) ?_
    refine W.widen (k := 6000) (n := 90000) (Nat.le_of_ble_eq_true rfl) (Nat.le_of_ble_eq_true rfl) ?_
    exact hend _ _ hS _ (lv_sub hl [2, 3] rfl)
set_option maxHeartbeats 4000000 in
set_option maxRecDepth 100000 in
theorem law_12 {l : Launch} {p : Program} {e : Env} {s : State} {m : MethodId} {below : List Frame} {meth : Method} {c : Code} {bs : Nat} {xs : Nat → Int32} {A : Nat → Prop} {dC : Nat → ClassId} {dI : Nat → Nat → Nat} {g : Nat → ClassId} {a b r1 r2 : Nat → Nat} {ou od : Nat} {Q : State → Prop} {H : Heap} {locs : List Loc} {ls : Array Slot} (C9 : LC l p s m c bs xs A dC dI g a b r1 r2 ou od) (hP : va_P (dC, dI) vwCl (lawL a g ou ++ lawR b r1 r2 g od) H) (hS : va_S A s.heap H locs) (hl : lv_has ls 10 [(5, .int 0), (0, .ref bs), (1, .ref (a 0)), (2, .ref (b 0)), (3, .ref ou), (4, .ref od)]) (hend : ∀ (H : Heap) (locs : List Loc), va_S A s.heap H locs → ∀ (ls : Array Slot), lv_has ls 10 [(5, .int 0), (0, .ref bs)] → W p l e room_1 s m #[Value.ref bs] below meth c H locs 6000 90000 Q (F0 m 2812 ls [])) : W p l e room_1 s m #[Value.ref bs] below meth c H locs 2000 30000 Q (F0 m 1000 ls []) := by
  obtain ⟨hlf, hx, hb, hml, hown, hts, hX, hbl, hbA, hK, hG, hA, hDD⟩ := C9
  refine lv_aload_n hx hb dL_law_1000 rfl (lv_at hl 2 rfl) ?_
  refine lv_aload_n hx hb dL_law_1001 rfl (lv_at hl 1 rfl) ?_
  refine lv_iload hx hb dL_law_1002 (lv_at hl 0 rfl) ?_
  refine lv_iconst (v := 1) hx hb dL_law_1004 (by decide) ?_
  refine lv_iadd hx hb dL_law_1005 ?_
  refine lv_topi (fun x_1 ex_1 => ?_)
  obtain rfl : x_1 = 1 := ex_1.trans (by decide)
  refine va_sld hx hb hX hbl hbA hS (by unfold vp_in; decide) dL_law_1006 ?_
  refine W.eq (g2 := F0 m 1007 ls [.int (xs 1), .ref (a 0)]) rfl ?_
  refine lv_aload_n hx hb dL_law_1007 rfl (lv_at hl 4 rfl) ?_
  have hPc : va_P (dC, dI) vwCl (offW a g ++ [(ou, .inl (g 2, 1, .inr (.inl (fun _ => 0))))]) H := P_l hP
  have hDc : va_D A (offW a g ++ [(ou, .inl (g 2, 1, .inr (.inl (fun _ => 0))))]) := D_l hDD
  have hPm0 : va_P (dC, dI) vwCl (modW b r1 r2 g 0) H := P_l (P_r hP)
  have hFc : ∀ q, va_A (offW a g ++ [(ou, .inl (g 2, 1, .inr (.inl (fun _ => 0))))]) H.size q → A q := A_all hDc hA hS.1
  refine va_calli (vx_runSW (As := [.ref (a 0), .int (xs 1), .ref ou]) (rest := []) ⟨hx, hb, hml, hown, hts⟩ (c_L_turn l hlf dC dI g a (xs 1) ou (fun _ => 0) H.size) (vx_cwSW 3 hts (gX gL_law_L_turn) rfl rfl rfl (by decide +kernel) ⟨Nat.le_of_ble_eq_true rfl, Nat.le_of_ble_eq_true rfl⟩) ⟨PG_blind, PG_call hK hG hS hPc hDc hFc⟩ rfl rfl hl.1 rfl (lv_room (Nat.le_of_ble_eq_true rfl)) dL_law_1008 ⟨Nat.le_of_ble_eq_true rfl, Nat.le_of_ble_eq_true rfl⟩) hS (fun q _ h => hFc q h) hFc (fun r_1 f_1 t_1 H_1 L_1 ht_1 hvm_1 hw_1 hB_1 hz_1 hk_1 hS => ?_)
  rw [ht_1] at hB_1
  have hPm : va_P (dC, dI) vwCl (modW b r1 r2 g 0) H_1 := P_l (rest_kept hP hDD hk_1)
  obtain ⟨hr1, hv1⟩ := hw_1
  obtain rfl : r_1 = (cd (TOKb (xs 1)) true true) := hr1
  refine lv_istore (lv' := [(6, .int (cd (TOKb (xs 1)) true true)), (5, .int 0), (0, .ref bs), (1, .ref (a 0)), (2, .ref (b 0)), (3, .ref ou), (4, .ref od)]) hx hb dL_law_1011 hl (by decide) rfl (fun ls hl => ?_)
  refine lv_aload_n hx hb dL_law_1013 rfl (lv_at hl 4 rfl) ?_
  refine lv_aload_n hx hb dL_law_1014 rfl (lv_at hl 2 rfl) ?_
  refine lv_iload hx hb dL_law_1015 (lv_at hl 1 rfl) ?_
  refine lv_iconst (v := 1) hx hb dL_law_1017 (by decide) ?_
  refine lv_iadd hx hb dL_law_1018 ?_
  refine lv_topi (fun x_2 ex_2 => ?_)
  obtain rfl : x_2 = 1 := ex_2.trans (by decide)
  refine va_sld hx hb hX hbl hbA hS (by unfold vp_in; decide) dL_law_1019 ?_
  refine W.eq (g2 := F0 m 1020 ls [.int (xs 1), .ref (b 0)]) rfl ?_
  have hDm : va_D A (modW b r1 r2 g 0) := D_l (D_r hDD)
  have hFm : ∀ q, va_A (modW b r1 r2 g 0) H_1.size q → A q := A_all hDm hA hS.1
  refine va_calli (va_runV (As := [.int (xs 1)]) (rest := []) ⟨hx, hb, hml, hown, hts⟩ (c_X13_turn l dC dI g b r1 r2 (xs 1) 0 H_1.size) (cwV 1 hts (gX gL_law_X13_turn) rfl rfl rfl (by decide +kernel) ⟨Nat.le_of_ble_eq_true rfl, Nat.le_of_ble_eq_true rfl⟩) ⟨PG_blind, va_recv hK hPm (ci := 15) (q0 := 0) rfl (m_0 b r1 r2 g 0), PG_call hK hG hS hPm hDm hFm⟩ rfl rfl hl.1 rfl (lv_room (Nat.le_of_ble_eq_true rfl)) dL_law_1020 ⟨Nat.le_of_ble_eq_true rfl, Nat.le_of_ble_eq_true rfl⟩) hS (fun q _ h => hFm q h) hFm (fun r_2 u_2 t_2 H_2 L_2 ht_2 hvm_2 hw_2 hB_2 hz_2 hk_2 hS => ?_)
  replace hB_1 := kept_by hB_1 hk_2 (ap_ou hDD)
  obtain ⟨fs, hB_2⟩ := hB_2
  rw [ht_2] at hB_2
  refine lv_istore (lv' := [(7, .int r_2), (6, .int (cd (TOKb (xs 1)) true true)), (5, .int 0), (0, .ref bs), (1, .ref (a 0)), (2, .ref (b 0)), (3, .ref ou), (4, .ref od)]) hx hb dL_law_1023 hl (by decide) rfl (fun ls hl => ?_)
  refine lv_aload_n hx hb dL_law_1025 rfl (lv_at hl 5 rfl) ?_
  have hFt := A_one (e := .inr (15, .int ((cd (TOKb (xs 1)) true true)) :: fs)) (sz := 0) (H0 := H) (A_b0 hDD) hA hS
  have hDt : va_D A [(b 0, .inr (15, .int ((cd (TOKb (xs 1)) true true)) :: fs))] := D_one (A_b0 hDD)
  refine va_calli (va_runV (As := []) (rest := []) ⟨hx, hb, hml, hown, hts⟩ (c_X13_thrown l dC dI g [(b 0, .inr (15, .int ((cd (TOKb (xs 1)) true true)) :: fs))] (b 0) ((cd (TOKb (xs 1)) true true)) fs 0 rfl H_2.size) (cwV 0 hts (gX gL_law_X13_thrown) rfl rfl rfl (by decide +kernel) ⟨Nat.le_of_ble_eq_true rfl, Nat.le_of_ble_eq_true rfl⟩) ⟨PG_blind, va_recv hK hB_2 (ci := 15) (q0 := 0) rfl rfl, PG_call hK hG hS hB_2 hDt hFt⟩ rfl rfl hl.1 rfl (lv_room (Nat.le_of_ble_eq_true rfl)) dL_law_1026 ⟨Nat.le_of_ble_eq_true rfl, Nat.le_of_ble_eq_true rfl⟩) hS (fun q _ h => hFt q h) hFt (fun r_3 u_3 t_3 H_3 L_3 ht_3 hvm_3 hw_3 hB_3 hz_3 hk_3 hS => ?_)
  obtain rfl : r_3 = (cd (TOKb (xs 1)) true true) := hw_3
  replace hB_1 := kept_by hB_1 hk_3 (fun j k p q hj hk e => by
      obtain rfl : j = 0 := by
        have h1 := (List.getElem?_eq_some_iff.mp hj).1
        simp only [List.length_singleton] at h1
        omega
      cases hj
      exact ap_ou hDD 0 k _ q (m_0 b r1 r2 g 0) hk e)
  refine lv_iload hx hb dL_law_1029 (lv_at hl 1 rfl) ?_
  refine lv_icmp_eq (tgt := 1036) hx hb dL_law_1031 (by decide) (fun _ => ?_) (fun c9 => absurd rfl c9)
  refine lv_iload hx hb dL_law_1036 (lv_at hl 1 rfl) ?_
  refine lv_if_ne (tgt := 1053) hx hb dL_law_1038 (by decide) (fun h0 => ?_) (fun h0 => ?_)
  · refine lv_goto (tgt := 2812) hx hb dL_law_1053 (by decide) ?_
    refine W.widen (k := 6000) (n := 90000) (Nat.le_of_ble_eq_true rfl) (Nat.le_of_ble_eq_true rfl) ?_
    exact hend _ _ hS _ (lv_sub hl [2, 3] rfl)
  · obtain rfl : r_2 = 0 := hw_2 h0
    refine lv_aload_n hx hb dL_law_1041 rfl (lv_at hl 6 rfl) ?_
    refine lv_iconst (v := 0) hx hb dL_law_1042 (by decide) ?_
    refine va_lald hx hb hK hB_1 0 2 rfl rfl (by unfold vp_in; decide) dL_law_1043 ?_
    refine W.eq (g2 := F0 m 1044 ls [.long ((0 : Int32).toInt64)]) (by rw [show f_1 (0 : Int32).toNatClampNeg = (0 : Int32).toInt64 from hv1 h0]) ?_
    refine lv_iload hx hb dL_law_1044 (lv_at hl 0 rfl) ?_
    refine lv_i2l (v := (0 : Int32).toInt64) hx hb dL_law_1046 rfl ?_
    refine W.lcmp hx hb dL_law_1047 ?_
    refine W.eq (g2 := F0 m 1048 ls [.int 0]) (by first | rw [lg_cmp_self] | exact congrArg (fun z => F0 m 1048 ls [.int z]) (lg_cmp_self _)) ?_
    refine lv_if_eq (tgt := 1053) hx hb dL_law_1048 (by decide) (fun c_3 => ?_) (fun c_3 => absurd (by decide) c_3)
    refine lv_goto (tgt := 2812) hx hb dL_law_1053 (by decide) ?_
    refine W.widen (k := 6000) (n := 90000) (Nat.le_of_ble_eq_true rfl) (Nat.le_of_ble_eq_true rfl) ?_
    exact hend _ _ hS _ (lv_sub hl [2, 3] rfl)
set_option maxHeartbeats 4000000 in
set_option maxRecDepth 100000 in
theorem law_13 {l : Launch} {p : Program} {e : Env} {s : State} {m : MethodId} {below : List Frame} {meth : Method} {c : Code} {bs : Nat} {xs : Nat → Int32} {A : Nat → Prop} {dC : Nat → ClassId} {dI : Nat → Nat → Nat} {g : Nat → ClassId} {a b r1 r2 : Nat → Nat} {ou od : Nat} {Q : State → Prop} {H : Heap} {locs : List Loc} {ls : Array Slot} (C9 : LC l p s m c bs xs A dC dI g a b r1 r2 ou od) (hP : va_P (dC, dI) vwCl (lawL a g ou ++ lawR b r1 r2 g od) H) (hS : va_S A s.heap H locs) (hl : lv_has ls 10 [(5, .int 0), (0, .ref bs), (1, .ref (a 0)), (2, .ref (b 0)), (3, .ref ou), (4, .ref od)]) (hend : ∀ (H : Heap) (locs : List Loc), va_S A s.heap H locs → ∀ (ls : Array Slot), lv_has ls 10 [(5, .int 0), (0, .ref bs)] → W p l e room_1 s m #[Value.ref bs] below meth c H locs 6000 90000 Q (F0 m 2812 ls [])) : W p l e room_1 s m #[Value.ref bs] below meth c H locs 2000 30000 Q (F0 m 1056 ls []) := by
  obtain ⟨hlf, hx, hb, hml, hown, hts, hX, hbl, hbA, hK, hG, hA, hDD⟩ := C9
  refine lv_aload_n hx hb dL_law_1056 rfl (lv_at hl 2 rfl) ?_
  refine lv_aload_n hx hb dL_law_1057 rfl (lv_at hl 1 rfl) ?_
  refine lv_iload hx hb dL_law_1058 (lv_at hl 0 rfl) ?_
  refine lv_iconst (v := 1) hx hb dL_law_1060 (by decide) ?_
  refine lv_iadd hx hb dL_law_1061 ?_
  refine lv_topi (fun x_1 ex_1 => ?_)
  obtain rfl : x_1 = 1 := ex_1.trans (by decide)
  refine va_sld hx hb hX hbl hbA hS (by unfold vp_in; decide) dL_law_1062 ?_
  refine W.eq (g2 := F0 m 1063 ls [.int (xs 1), .ref (a 0)]) rfl ?_
  refine lv_aload_n hx hb dL_law_1063 rfl (lv_at hl 1 rfl) ?_
  refine lv_iload hx hb dL_law_1064 (lv_at hl 0 rfl) ?_
  refine lv_iconst (v := 2) hx hb dL_law_1066 (by decide) ?_
  refine lv_iadd hx hb dL_law_1067 ?_
  refine lv_topi (fun x_2 ex_2 => ?_)
  obtain rfl : x_2 = 2 := ex_2.trans (by decide)
  refine va_sld hx hb hX hbl hbA hS (by unfold vp_in; decide) dL_law_1068 ?_
  refine W.eq (g2 := F0 m 1069 ls [.int (xs 2), .int (xs 1), .ref (a 0)]) rfl ?_
  refine lv_aload_n hx hb dL_law_1069 rfl (lv_at hl 1 rfl) ?_
  refine lv_iload hx hb dL_law_1070 (lv_at hl 0 rfl) ?_
  refine lv_iconst (v := 3) hx hb dL_law_1072 (by decide) ?_
  refine lv_iadd hx hb dL_law_1073 ?_
  refine lv_topi (fun x_3 ex_3 => ?_)
  obtain rfl : x_3 = 3 := ex_3.trans (by decide)
  refine va_sld hx hb hX hbl hbA hS (by unfold vp_in; decide) dL_law_1074 ?_
  refine W.eq (g2 := F0 m 1075 ls [.int (xs 3), .int (xs 2), .int (xs 1), .ref (a 0)]) rfl ?_
  refine lv_aload_n hx hb dL_law_1075 rfl (lv_at hl 4 rfl) ?_
  have hPc : va_P (dC, dI) vwCl (offW a g ++ [(ou, .inl (g 2, 1, .inr (.inl (fun _ => 0))))]) H := P_l hP
  have hDc : va_D A (offW a g ++ [(ou, .inl (g 2, 1, .inr (.inl (fun _ => 0))))]) := D_l hDD
  have hPm0 : va_P (dC, dI) vwCl (modW b r1 r2 g 0) H := P_l (P_r hP)
  have hFc : ∀ q, va_A (offW a g ++ [(ou, .inl (g 2, 1, .inr (.inl (fun _ => 0))))]) H.size q → A q := A_all hDc hA hS.1
  refine va_calli (vx_runSW (As := [.ref (a 0), .int (xs 1), .int (xs 2), .int (xs 3), .ref ou]) (rest := []) ⟨hx, hb, hml, hown, hts⟩ (c_L_setRuns l hlf dC dI g a (xs 1) (xs 2) (xs 3) ou (fun _ => 0) H.size) (vx_cwSW 5 hts (gX gL_law_L_setRuns) rfl rfl rfl (by decide +kernel) ⟨Nat.le_of_ble_eq_true rfl, Nat.le_of_ble_eq_true rfl⟩) ⟨PG_blind, PG_call hK hG hS hPc hDc hFc⟩ rfl rfl hl.1 rfl (lv_room (Nat.le_of_ble_eq_true rfl)) dL_law_1076 ⟨Nat.le_of_ble_eq_true rfl, Nat.le_of_ble_eq_true rfl⟩) hS (fun q _ h => hFc q h) hFc (fun r_1 f_1 t_1 H_1 L_1 ht_1 hvm_1 hw_1 hB_1 hz_1 hk_1 hS => ?_)
  rw [ht_1] at hB_1
  have hPm : va_P (dC, dI) vwCl (modW b r1 r2 g 0) H_1 := P_l (rest_kept hP hDD hk_1)
  obtain ⟨hr1, hv1⟩ := hw_1
  obtain rfl : r_1 = (cd (rngb (xs 1) 0 1 && rngb (xs 2) 0 2 && rngb (xs 3) 1 50) true true) := hr1
  refine lv_istore (lv' := [(6, .int (cd (rngb (xs 1) 0 1 && rngb (xs 2) 0 2 && rngb (xs 3) 1 50) true true)), (5, .int 0), (0, .ref bs), (1, .ref (a 0)), (2, .ref (b 0)), (3, .ref ou), (4, .ref od)]) hx hb dL_law_1079 hl (by decide) rfl (fun ls hl => ?_)
  refine lv_aload_n hx hb dL_law_1081 rfl (lv_at hl 4 rfl) ?_
  refine lv_aload_n hx hb dL_law_1082 rfl (lv_at hl 2 rfl) ?_
  refine lv_iload hx hb dL_law_1083 (lv_at hl 1 rfl) ?_
  refine lv_iconst (v := 1) hx hb dL_law_1085 (by decide) ?_
  refine lv_iadd hx hb dL_law_1086 ?_
  refine lv_topi (fun x_4 ex_4 => ?_)
  obtain rfl : x_4 = 1 := ex_4.trans (by decide)
  refine va_sld hx hb hX hbl hbA hS (by unfold vp_in; decide) dL_law_1087 ?_
  refine W.eq (g2 := F0 m 1088 ls [.int (xs 1), .ref (b 0)]) rfl ?_
  refine lv_aload_n hx hb dL_law_1088 rfl (lv_at hl 2 rfl) ?_
  refine lv_iload hx hb dL_law_1089 (lv_at hl 1 rfl) ?_
  refine lv_iconst (v := 2) hx hb dL_law_1091 (by decide) ?_
  refine lv_iadd hx hb dL_law_1092 ?_
  refine lv_topi (fun x_5 ex_5 => ?_)
  obtain rfl : x_5 = 2 := ex_5.trans (by decide)
  refine va_sld hx hb hX hbl hbA hS (by unfold vp_in; decide) dL_law_1093 ?_
  refine W.eq (g2 := F0 m 1094 ls [.int (xs 2), .int (xs 1), .ref (b 0)]) rfl ?_
  refine lv_aload_n hx hb dL_law_1094 rfl (lv_at hl 2 rfl) ?_
  refine lv_iload hx hb dL_law_1095 (lv_at hl 1 rfl) ?_
  refine lv_iconst (v := 3) hx hb dL_law_1097 (by decide) ?_
  refine lv_iadd hx hb dL_law_1098 ?_
  refine lv_topi (fun x_6 ex_6 => ?_)
  obtain rfl : x_6 = 3 := ex_6.trans (by decide)
  refine va_sld hx hb hX hbl hbA hS (by unfold vp_in; decide) dL_law_1099 ?_
  refine W.eq (g2 := F0 m 1100 ls [.int (xs 3), .int (xs 2), .int (xs 1), .ref (b 0)]) rfl ?_
  have hDm : va_D A (modW b r1 r2 g 0) := D_l (D_r hDD)
  have hFm : ∀ q, va_A (modW b r1 r2 g 0) H_1.size q → A q := A_all hDm hA hS.1
  refine va_calli (va_runV (As := [.int (xs 1), .int (xs 2), .int (xs 3)]) (rest := []) ⟨hx, hb, hml, hown, hts⟩ (c_X13_setRuns l dC dI g b r1 r2 (xs 1) (xs 2) (xs 3) 0 H_1.size) (cwV 3 hts (gX gL_law_X13_setRuns) rfl rfl rfl (by decide +kernel) ⟨Nat.le_of_ble_eq_true rfl, Nat.le_of_ble_eq_true rfl⟩) ⟨PG_blind, va_recv hK hPm (ci := 15) (q0 := 0) rfl (m_0 b r1 r2 g 0), PG_call hK hG hS hPm hDm hFm⟩ rfl rfl hl.1 rfl (lv_room (Nat.le_of_ble_eq_true rfl)) dL_law_1100 ⟨Nat.le_of_ble_eq_true rfl, Nat.le_of_ble_eq_true rfl⟩) hS (fun q _ h => hFm q h) hFm (fun r_2 u_2 t_2 H_2 L_2 ht_2 hvm_2 hw_2 hB_2 hz_2 hk_2 hS => ?_)
  replace hB_1 := kept_by hB_1 hk_2 (ap_ou hDD)
  obtain ⟨fs, hB_2⟩ := hB_2
  rw [ht_2] at hB_2
  refine lv_istore (lv' := [(7, .int r_2), (6, .int (cd (rngb (xs 1) 0 1 && rngb (xs 2) 0 2 && rngb (xs 3) 1 50) true true)), (5, .int 0), (0, .ref bs), (1, .ref (a 0)), (2, .ref (b 0)), (3, .ref ou), (4, .ref od)]) hx hb dL_law_1103 hl (by decide) rfl (fun ls hl => ?_)
  refine lv_aload_n hx hb dL_law_1105 rfl (lv_at hl 5 rfl) ?_
  have hFt := A_one (e := .inr (15, .int ((cd (rngb (xs 1) 0 1 && rngb (xs 2) 0 2 && rngb (xs 3) 1 50) true true)) :: fs)) (sz := 0) (H0 := H) (A_b0 hDD) hA hS
  have hDt : va_D A [(b 0, .inr (15, .int ((cd (rngb (xs 1) 0 1 && rngb (xs 2) 0 2 && rngb (xs 3) 1 50) true true)) :: fs))] := D_one (A_b0 hDD)
  refine va_calli (va_runV (As := []) (rest := []) ⟨hx, hb, hml, hown, hts⟩ (c_X13_thrown l dC dI g [(b 0, .inr (15, .int ((cd (rngb (xs 1) 0 1 && rngb (xs 2) 0 2 && rngb (xs 3) 1 50) true true)) :: fs))] (b 0) ((cd (rngb (xs 1) 0 1 && rngb (xs 2) 0 2 && rngb (xs 3) 1 50) true true)) fs 0 rfl H_2.size) (cwV 0 hts (gX gL_law_X13_thrown) rfl rfl rfl (by decide +kernel) ⟨Nat.le_of_ble_eq_true rfl, Nat.le_of_ble_eq_true rfl⟩) ⟨PG_blind, va_recv hK hB_2 (ci := 15) (q0 := 0) rfl rfl, PG_call hK hG hS hB_2 hDt hFt⟩ rfl rfl hl.1 rfl (lv_room (Nat.le_of_ble_eq_true rfl)) dL_law_1106 ⟨Nat.le_of_ble_eq_true rfl, Nat.le_of_ble_eq_true rfl⟩) hS (fun q _ h => hFt q h) hFt (fun r_3 u_3 t_3 H_3 L_3 ht_3 hvm_3 hw_3 hB_3 hz_3 hk_3 hS => ?_)
  obtain rfl : r_3 = (cd (rngb (xs 1) 0 1 && rngb (xs 2) 0 2 && rngb (xs 3) 1 50) true true) := hw_3
  replace hB_1 := kept_by hB_1 hk_3 (fun j k p q hj hk e => by
      obtain rfl : j = 0 := by
        have h1 := (List.getElem?_eq_some_iff.mp hj).1
        simp only [List.length_singleton] at h1
        omega
      cases hj
      exact ap_ou hDD 0 k _ q (m_0 b r1 r2 g 0) hk e)
  refine lv_iload hx hb dL_law_1109 (lv_at hl 1 rfl) ?_
  refine lv_icmp_eq (tgt := 1116) hx hb dL_law_1111 (by decide) (fun _ => ?_) (fun c9 => absurd rfl c9)
  refine lv_iload hx hb dL_law_1116 (lv_at hl 1 rfl) ?_
  refine lv_if_ne (tgt := 1133) hx hb dL_law_1118 (by decide) (fun h0 => ?_) (fun h0 => ?_)
  · refine lv_goto (tgt := 2812) hx hb dL_law_1133 (by decide) ?_
    refine W.widen (k := 6000) (n := 90000) (Nat.le_of_ble_eq_true rfl) (Nat.le_of_ble_eq_true rfl) ?_
    exact hend _ _ hS _ (lv_sub hl [2, 3] rfl)
  · obtain rfl : r_2 = 4 := hw_2 h0
    refine lv_aload_n hx hb dL_law_1121 rfl (lv_at hl 6 rfl) ?_
    refine lv_iconst (v := 0) hx hb dL_law_1122 (by decide) ?_
    refine va_lald hx hb hK hB_1 0 2 rfl rfl (by unfold vp_in; decide) dL_law_1123 ?_
    refine W.eq (g2 := F0 m 1124 ls [.long ((4 : Int32).toInt64)]) (by rw [show f_1 (0 : Int32).toNatClampNeg = (4 : Int32).toInt64 from hv1 h0]) ?_
    refine lv_iload hx hb dL_law_1124 (lv_at hl 0 rfl) ?_
    refine lv_i2l (v := (4 : Int32).toInt64) hx hb dL_law_1126 rfl ?_
    refine W.lcmp hx hb dL_law_1127 ?_
    refine W.eq (g2 := F0 m 1128 ls [.int 0]) (by first | rw [lg_cmp_self] | exact congrArg (fun z => F0 m 1128 ls [.int z]) (lg_cmp_self _)) ?_
    refine lv_if_eq (tgt := 1133) hx hb dL_law_1128 (by decide) (fun c_7 => ?_) (fun c_7 => absurd (by decide) c_7)
    refine lv_goto (tgt := 2812) hx hb dL_law_1133 (by decide) ?_
    refine W.widen (k := 6000) (n := 90000) (Nat.le_of_ble_eq_true rfl) (Nat.le_of_ble_eq_true rfl) ?_
    exact hend _ _ hS _ (lv_sub hl [2, 3] rfl)
set_option maxHeartbeats 4000000 in
set_option maxRecDepth 100000 in
theorem law_14 {l : Launch} {p : Program} {e : Env} {s : State} {m : MethodId} {below : List Frame} {meth : Method} {c : Code} {bs : Nat} {xs : Nat → Int32} {A : Nat → Prop} {dC : Nat → ClassId} {dI : Nat → Nat → Nat} {g : Nat → ClassId} {a b r1 r2 : Nat → Nat} {ou od : Nat} {Q : State → Prop} {H : Heap} {locs : List Loc} {ls : Array Slot} (C9 : LC l p s m c bs xs A dC dI g a b r1 r2 ou od) (hP : va_P (dC, dI) vwCl (lawL a g ou ++ lawR b r1 r2 g od) H) (hS : va_S A s.heap H locs) (hl : lv_has ls 10 [(5, .int 0), (0, .ref bs), (1, .ref (a 0)), (2, .ref (b 0)), (3, .ref ou), (4, .ref od)]) (hend : ∀ (H : Heap) (locs : List Loc), va_S A s.heap H locs → ∀ (ls : Array Slot), lv_has ls 10 [(5, .int 0), (0, .ref bs)] → W p l e room_1 s m #[Value.ref bs] below meth c H locs 6000 90000 Q (F0 m 2812 ls [])) : W p l e room_1 s m #[Value.ref bs] below meth c H locs 2000 30000 Q (F0 m 1136 ls []) := by
  obtain ⟨hlf, hx, hb, hml, hown, hts, hX, hbl, hbA, hK, hG, hA, hDD⟩ := C9
  refine lv_aload_n hx hb dL_law_1136 rfl (lv_at hl 2 rfl) ?_
  refine lv_aload_n hx hb dL_law_1137 rfl (lv_at hl 1 rfl) ?_
  refine lv_iload hx hb dL_law_1138 (lv_at hl 0 rfl) ?_
  refine lv_iconst (v := 1) hx hb dL_law_1140 (by decide) ?_
  refine lv_iadd hx hb dL_law_1141 ?_
  refine lv_topi (fun x_1 ex_1 => ?_)
  obtain rfl : x_1 = 1 := ex_1.trans (by decide)
  refine va_sld hx hb hX hbl hbA hS (by unfold vp_in; decide) dL_law_1142 ?_
  refine W.eq (g2 := F0 m 1143 ls [.int (xs 1), .ref (a 0)]) rfl ?_
  refine lv_aload_n hx hb dL_law_1143 rfl (lv_at hl 1 rfl) ?_
  refine lv_iload hx hb dL_law_1144 (lv_at hl 0 rfl) ?_
  refine lv_iconst (v := 2) hx hb dL_law_1146 (by decide) ?_
  refine lv_iadd hx hb dL_law_1147 ?_
  refine lv_topi (fun x_2 ex_2 => ?_)
  obtain rfl : x_2 = 2 := ex_2.trans (by decide)
  refine va_sld hx hb hX hbl hbA hS (by unfold vp_in; decide) dL_law_1148 ?_
  refine W.eq (g2 := F0 m 1149 ls [.int (xs 2), .int (xs 1), .ref (a 0)]) rfl ?_
  refine lv_aload_n hx hb dL_law_1149 rfl (lv_at hl 4 rfl) ?_
  have hPc : va_P (dC, dI) vwCl (offW a g ++ [(ou, .inl (g 2, 1, .inr (.inl (fun _ => 0))))]) H := P_l hP
  have hDc : va_D A (offW a g ++ [(ou, .inl (g 2, 1, .inr (.inl (fun _ => 0))))]) := D_l hDD
  have hPm0 : va_P (dC, dI) vwCl (modW b r1 r2 g 0) H := P_l (P_r hP)
  have hFc : ∀ q, va_A (offW a g ++ [(ou, .inl (g 2, 1, .inr (.inl (fun _ => 0))))]) H.size q → A q := A_all hDc hA hS.1
  refine va_calli (vx_runSW (As := [.ref (a 0), .int (xs 1), .int (xs 2), .ref ou]) (rest := []) ⟨hx, hb, hml, hown, hts⟩ (c_L_setMerge l hlf dC dI g a (xs 1) (xs 2) ou (fun _ => 0) H.size) (vx_cwSW 4 hts (gX gL_law_L_setMerge) rfl rfl rfl (by decide +kernel) ⟨Nat.le_of_ble_eq_true rfl, Nat.le_of_ble_eq_true rfl⟩) ⟨PG_blind, PG_call hK hG hS hPc hDc hFc⟩ rfl rfl hl.1 rfl (lv_room (Nat.le_of_ble_eq_true rfl)) dL_law_1150 ⟨Nat.le_of_ble_eq_true rfl, Nat.le_of_ble_eq_true rfl⟩) hS (fun q _ h => hFc q h) hFc (fun r_1 f_1 t_1 H_1 L_1 ht_1 hvm_1 hw_1 hB_1 hz_1 hk_1 hS => ?_)
  rw [ht_1] at hB_1
  have hPm : va_P (dC, dI) vwCl (modW b r1 r2 g 0) H_1 := P_l (rest_kept hP hDD hk_1)
  obtain ⟨hr1, hv1⟩ := hw_1
  obtain rfl : r_1 = (cd (rngb (xs 1) 0 2 && rngb (xs 2) 2 6) true true) := hr1
  refine lv_istore (lv' := [(6, .int (cd (rngb (xs 1) 0 2 && rngb (xs 2) 2 6) true true)), (5, .int 0), (0, .ref bs), (1, .ref (a 0)), (2, .ref (b 0)), (3, .ref ou), (4, .ref od)]) hx hb dL_law_1153 hl (by decide) rfl (fun ls hl => ?_)
  refine lv_aload_n hx hb dL_law_1155 rfl (lv_at hl 4 rfl) ?_
  refine lv_aload_n hx hb dL_law_1156 rfl (lv_at hl 2 rfl) ?_
  refine lv_iload hx hb dL_law_1157 (lv_at hl 1 rfl) ?_
  refine lv_iconst (v := 1) hx hb dL_law_1159 (by decide) ?_
  refine lv_iadd hx hb dL_law_1160 ?_
  refine lv_topi (fun x_3 ex_3 => ?_)
  obtain rfl : x_3 = 1 := ex_3.trans (by decide)
  refine va_sld hx hb hX hbl hbA hS (by unfold vp_in; decide) dL_law_1161 ?_
  refine W.eq (g2 := F0 m 1162 ls [.int (xs 1), .ref (b 0)]) rfl ?_
  refine lv_aload_n hx hb dL_law_1162 rfl (lv_at hl 2 rfl) ?_
  refine lv_iload hx hb dL_law_1163 (lv_at hl 1 rfl) ?_
  refine lv_iconst (v := 2) hx hb dL_law_1165 (by decide) ?_
  refine lv_iadd hx hb dL_law_1166 ?_
  refine lv_topi (fun x_4 ex_4 => ?_)
  obtain rfl : x_4 = 2 := ex_4.trans (by decide)
  refine va_sld hx hb hX hbl hbA hS (by unfold vp_in; decide) dL_law_1167 ?_
  refine W.eq (g2 := F0 m 1168 ls [.int (xs 2), .int (xs 1), .ref (b 0)]) rfl ?_
  have hDm : va_D A (modW b r1 r2 g 0) := D_l (D_r hDD)
  have hFm : ∀ q, va_A (modW b r1 r2 g 0) H_1.size q → A q := A_all hDm hA hS.1
  refine va_calli (va_runV (As := [.int (xs 1), .int (xs 2)]) (rest := []) ⟨hx, hb, hml, hown, hts⟩ (c_X13_setMerge l dC dI g b r1 r2 (xs 1) (xs 2) 0 H_1.size) (cwV 2 hts (gX gL_law_X13_setMerge) rfl rfl rfl (by decide +kernel) ⟨Nat.le_of_ble_eq_true rfl, Nat.le_of_ble_eq_true rfl⟩) ⟨PG_blind, va_recv hK hPm (ci := 15) (q0 := 0) rfl (m_0 b r1 r2 g 0), PG_call hK hG hS hPm hDm hFm⟩ rfl rfl hl.1 rfl (lv_room (Nat.le_of_ble_eq_true rfl)) dL_law_1168 ⟨Nat.le_of_ble_eq_true rfl, Nat.le_of_ble_eq_true rfl⟩) hS (fun q _ h => hFm q h) hFm (fun r_2 u_2 t_2 H_2 L_2 ht_2 hvm_2 hw_2 hB_2 hz_2 hk_2 hS => ?_)
  replace hB_1 := kept_by hB_1 hk_2 (ap_ou hDD)
  obtain ⟨fs, hB_2⟩ := hB_2
  rw [ht_2] at hB_2
  refine lv_istore (lv' := [(7, .int r_2), (6, .int (cd (rngb (xs 1) 0 2 && rngb (xs 2) 2 6) true true)), (5, .int 0), (0, .ref bs), (1, .ref (a 0)), (2, .ref (b 0)), (3, .ref ou), (4, .ref od)]) hx hb dL_law_1171 hl (by decide) rfl (fun ls hl => ?_)
  refine lv_aload_n hx hb dL_law_1173 rfl (lv_at hl 5 rfl) ?_
  have hFt := A_one (e := .inr (15, .int ((cd (rngb (xs 1) 0 2 && rngb (xs 2) 2 6) true true)) :: fs)) (sz := 0) (H0 := H) (A_b0 hDD) hA hS
  have hDt : va_D A [(b 0, .inr (15, .int ((cd (rngb (xs 1) 0 2 && rngb (xs 2) 2 6) true true)) :: fs))] := D_one (A_b0 hDD)
  refine va_calli (va_runV (As := []) (rest := []) ⟨hx, hb, hml, hown, hts⟩ (c_X13_thrown l dC dI g [(b 0, .inr (15, .int ((cd (rngb (xs 1) 0 2 && rngb (xs 2) 2 6) true true)) :: fs))] (b 0) ((cd (rngb (xs 1) 0 2 && rngb (xs 2) 2 6) true true)) fs 0 rfl H_2.size) (cwV 0 hts (gX gL_law_X13_thrown) rfl rfl rfl (by decide +kernel) ⟨Nat.le_of_ble_eq_true rfl, Nat.le_of_ble_eq_true rfl⟩) ⟨PG_blind, va_recv hK hB_2 (ci := 15) (q0 := 0) rfl rfl, PG_call hK hG hS hB_2 hDt hFt⟩ rfl rfl hl.1 rfl (lv_room (Nat.le_of_ble_eq_true rfl)) dL_law_1174 ⟨Nat.le_of_ble_eq_true rfl, Nat.le_of_ble_eq_true rfl⟩) hS (fun q _ h => hFt q h) hFt (fun r_3 u_3 t_3 H_3 L_3 ht_3 hvm_3 hw_3 hB_3 hz_3 hk_3 hS => ?_)
  obtain rfl : r_3 = (cd (rngb (xs 1) 0 2 && rngb (xs 2) 2 6) true true) := hw_3
  replace hB_1 := kept_by hB_1 hk_3 (fun j k p q hj hk e => by
      obtain rfl : j = 0 := by
        have h1 := (List.getElem?_eq_some_iff.mp hj).1
        simp only [List.length_singleton] at h1
        omega
      cases hj
      exact ap_ou hDD 0 k _ q (m_0 b r1 r2 g 0) hk e)
  refine lv_iload hx hb dL_law_1177 (lv_at hl 1 rfl) ?_
  refine lv_icmp_eq (tgt := 1184) hx hb dL_law_1179 (by decide) (fun _ => ?_) (fun c9 => absurd rfl c9)
  refine lv_iload hx hb dL_law_1184 (lv_at hl 1 rfl) ?_
  refine lv_if_ne (tgt := 1201) hx hb dL_law_1186 (by decide) (fun h0 => ?_) (fun h0 => ?_)
  · refine lv_goto (tgt := 2812) hx hb dL_law_1201 (by decide) ?_
    refine W.widen (k := 6000) (n := 90000) (Nat.le_of_ble_eq_true rfl) (Nat.le_of_ble_eq_true rfl) ?_
    exact hend _ _ hS _ (lv_sub hl [2, 3] rfl)
  · obtain rfl : r_2 = 2 := hw_2 h0
    refine lv_aload_n hx hb dL_law_1189 rfl (lv_at hl 6 rfl) ?_
    refine lv_iconst (v := 0) hx hb dL_law_1190 (by decide) ?_
    refine va_lald hx hb hK hB_1 0 2 rfl rfl (by unfold vp_in; decide) dL_law_1191 ?_
    refine W.eq (g2 := F0 m 1192 ls [.long ((2 : Int32).toInt64)]) (by rw [show f_1 (0 : Int32).toNatClampNeg = (2 : Int32).toInt64 from hv1 h0]) ?_
    refine lv_iload hx hb dL_law_1192 (lv_at hl 0 rfl) ?_
    refine lv_i2l (v := (2 : Int32).toInt64) hx hb dL_law_1194 rfl ?_
    refine W.lcmp hx hb dL_law_1195 ?_
    refine W.eq (g2 := F0 m 1196 ls [.int 0]) (by first | rw [lg_cmp_self] | exact congrArg (fun z => F0 m 1196 ls [.int z]) (lg_cmp_self _)) ?_
    refine lv_if_eq (tgt := 1201) hx hb dL_law_1196 (by decide) (fun c_5 => ?_) (fun c_5 => absurd (by decide) c_5)
    refine lv_goto (tgt := 2812) hx hb dL_law_1201 (by decide) ?_
    refine W.widen (k := 6000) (n := 90000) (Nat.le_of_ble_eq_true rfl) (Nat.le_of_ble_eq_true rfl) ?_
    exact hend _ _ hS _ (lv_sub hl [2, 3] rfl)
set_option maxHeartbeats 4000000 in
set_option maxRecDepth 100000 in
theorem law_15 {l : Launch} {p : Program} {e : Env} {s : State} {m : MethodId} {below : List Frame} {meth : Method} {c : Code} {bs : Nat} {xs : Nat → Int32} {A : Nat → Prop} {dC : Nat → ClassId} {dI : Nat → Nat → Nat} {g : Nat → ClassId} {a b r1 r2 : Nat → Nat} {ou od : Nat} {Q : State → Prop} {H : Heap} {locs : List Loc} {ls : Array Slot} (C9 : LC l p s m c bs xs A dC dI g a b r1 r2 ou od) (hP : va_P (dC, dI) vwCl (lawL a g ou ++ lawR b r1 r2 g od) H) (hS : va_S A s.heap H locs) (hl : lv_has ls 10 [(5, .int 0), (0, .ref bs), (1, .ref (a 0)), (2, .ref (b 0)), (3, .ref ou), (4, .ref od)]) (hend : ∀ (H : Heap) (locs : List Loc), va_S A s.heap H locs → ∀ (ls : Array Slot), lv_has ls 10 [(5, .int 0), (0, .ref bs)] → W p l e room_1 s m #[Value.ref bs] below meth c H locs 6000 90000 Q (F0 m 2812 ls [])) : W p l e room_1 s m #[Value.ref bs] below meth c H locs 2000 30000 Q (F0 m 1204 ls []) := by
  obtain ⟨hlf, hx, hb, hml, hown, hts, hX, hbl, hbA, hK, hG, hA, hDD⟩ := C9
  refine lv_aload_n hx hb dL_law_1204 rfl (lv_at hl 2 rfl) ?_
  refine lv_aload_n hx hb dL_law_1205 rfl (lv_at hl 1 rfl) ?_
  refine lv_iload hx hb dL_law_1206 (lv_at hl 0 rfl) ?_
  refine lv_iconst (v := 1) hx hb dL_law_1208 (by decide) ?_
  refine lv_iadd hx hb dL_law_1209 ?_
  refine lv_topi (fun x_1 ex_1 => ?_)
  obtain rfl : x_1 = 1 := ex_1.trans (by decide)
  refine va_sld hx hb hX hbl hbA hS (by unfold vp_in; decide) dL_law_1210 ?_
  refine W.eq (g2 := F0 m 1211 ls [.int (xs 1), .ref (a 0)]) rfl ?_
  refine lv_aload_n hx hb dL_law_1211 rfl (lv_at hl 4 rfl) ?_
  have hPc : va_P (dC, dI) vwCl (offW a g ++ [(ou, .inl (g 2, 1, .inr (.inl (fun _ => 0))))]) H := P_l hP
  have hDc : va_D A (offW a g ++ [(ou, .inl (g 2, 1, .inr (.inl (fun _ => 0))))]) := D_l hDD
  have hPm0 : va_P (dC, dI) vwCl (modW b r1 r2 g 0) H := P_l (P_r hP)
  have hFc : ∀ q, va_A (offW a g ++ [(ou, .inl (g 2, 1, .inr (.inl (fun _ => 0))))]) H.size q → A q := A_all hDc hA hS.1
  refine va_calli (vx_runSW (As := [.ref (a 0), .int (xs 1), .ref ou]) (rest := []) ⟨hx, hb, hml, hown, hts⟩ (c_L_setting l hlf dC dI g a (xs 1) ou (fun _ => 0) H.size) (vx_cwSW 3 hts (gX gL_law_L_setting) rfl rfl rfl (by decide +kernel) ⟨Nat.le_of_ble_eq_true rfl, Nat.le_of_ble_eq_true rfl⟩) ⟨PG_blind, PG_call hK hG hS hPc hDc hFc⟩ rfl rfl hl.1 rfl (lv_room (Nat.le_of_ble_eq_true rfl)) dL_law_1212 ⟨Nat.le_of_ble_eq_true rfl, Nat.le_of_ble_eq_true rfl⟩) hS (fun q _ h => hFc q h) hFc (fun r_1 f_1 t_1 H_1 L_1 ht_1 hvm_1 hw_1 hB_1 hz_1 hk_1 hS => ?_)
  rw [ht_1] at hB_1
  have hPm : va_P (dC, dI) vwCl (modW b r1 r2 g 0) H_1 := P_l (rest_kept hP hDD hk_1)
  obtain ⟨hr1, hv1⟩ := hw_1
  obtain rfl : r_1 = (cd (rngb (xs 1) 0 4) true true) := hr1
  refine lv_istore (lv' := [(6, .int (cd (rngb (xs 1) 0 4) true true)), (5, .int 0), (0, .ref bs), (1, .ref (a 0)), (2, .ref (b 0)), (3, .ref ou), (4, .ref od)]) hx hb dL_law_1215 hl (by decide) rfl (fun ls hl => ?_)
  refine lv_aload_n hx hb dL_law_1217 rfl (lv_at hl 4 rfl) ?_
  refine lv_aload_n hx hb dL_law_1218 rfl (lv_at hl 2 rfl) ?_
  refine lv_iload hx hb dL_law_1219 (lv_at hl 1 rfl) ?_
  refine lv_iconst (v := 1) hx hb dL_law_1221 (by decide) ?_
  refine lv_iadd hx hb dL_law_1222 ?_
  refine lv_topi (fun x_2 ex_2 => ?_)
  obtain rfl : x_2 = 1 := ex_2.trans (by decide)
  refine va_sld hx hb hX hbl hbA hS (by unfold vp_in; decide) dL_law_1223 ?_
  refine W.eq (g2 := F0 m 1224 ls [.int (xs 1), .ref (b 0)]) rfl ?_
  have hDm : va_D A (modW b r1 r2 g 0) := D_l (D_r hDD)
  have hFm : ∀ q, va_A (modW b r1 r2 g 0) H_1.size q → A q := A_all hDm hA hS.1
  refine va_calli (va_runV (As := [.int (xs 1)]) (rest := []) ⟨hx, hb, hml, hown, hts⟩ (c_X13_setting l dC dI g b r1 r2 (xs 1) 0 H_1.size) (cwV 1 hts (gX gL_law_X13_setting) rfl rfl rfl (by decide +kernel) ⟨Nat.le_of_ble_eq_true rfl, Nat.le_of_ble_eq_true rfl⟩) ⟨PG_blind, va_recv hK hPm (ci := 15) (q0 := 0) rfl (m_0 b r1 r2 g 0), PG_call hK hG hS hPm hDm hFm⟩ rfl rfl hl.1 rfl (lv_room (Nat.le_of_ble_eq_true rfl)) dL_law_1224 ⟨Nat.le_of_ble_eq_true rfl, Nat.le_of_ble_eq_true rfl⟩) hS (fun q _ h => hFm q h) hFm (fun r_2 u_2 t_2 H_2 L_2 ht_2 hvm_2 hw_2 hB_2 hz_2 hk_2 hS => ?_)
  replace hB_1 := kept_by hB_1 hk_2 (ap_ou hDD)
  obtain ⟨fs, hB_2⟩ := hB_2
  rw [ht_2] at hB_2
  refine lv_istore (lv' := [(7, .int r_2), (6, .int (cd (rngb (xs 1) 0 4) true true)), (5, .int 0), (0, .ref bs), (1, .ref (a 0)), (2, .ref (b 0)), (3, .ref ou), (4, .ref od)]) hx hb dL_law_1227 hl (by decide) rfl (fun ls hl => ?_)
  refine lv_aload_n hx hb dL_law_1229 rfl (lv_at hl 5 rfl) ?_
  have hFt := A_one (e := .inr (15, .int ((cd (rngb (xs 1) 0 4) true true)) :: fs)) (sz := 0) (H0 := H) (A_b0 hDD) hA hS
  have hDt : va_D A [(b 0, .inr (15, .int ((cd (rngb (xs 1) 0 4) true true)) :: fs))] := D_one (A_b0 hDD)
  refine va_calli (va_runV (As := []) (rest := []) ⟨hx, hb, hml, hown, hts⟩ (c_X13_thrown l dC dI g [(b 0, .inr (15, .int ((cd (rngb (xs 1) 0 4) true true)) :: fs))] (b 0) ((cd (rngb (xs 1) 0 4) true true)) fs 0 rfl H_2.size) (cwV 0 hts (gX gL_law_X13_thrown) rfl rfl rfl (by decide +kernel) ⟨Nat.le_of_ble_eq_true rfl, Nat.le_of_ble_eq_true rfl⟩) ⟨PG_blind, va_recv hK hB_2 (ci := 15) (q0 := 0) rfl rfl, PG_call hK hG hS hB_2 hDt hFt⟩ rfl rfl hl.1 rfl (lv_room (Nat.le_of_ble_eq_true rfl)) dL_law_1230 ⟨Nat.le_of_ble_eq_true rfl, Nat.le_of_ble_eq_true rfl⟩) hS (fun q _ h => hFt q h) hFt (fun r_3 u_3 t_3 H_3 L_3 ht_3 hvm_3 hw_3 hB_3 hz_3 hk_3 hS => ?_)
  obtain rfl : r_3 = (cd (rngb (xs 1) 0 4) true true) := hw_3
  replace hB_1 := kept_by hB_1 hk_3 (fun j k p q hj hk e => by
      obtain rfl : j = 0 := by
        have h1 := (List.getElem?_eq_some_iff.mp hj).1
        simp only [List.length_singleton] at h1
        omega
      cases hj
      exact ap_ou hDD 0 k _ q (m_0 b r1 r2 g 0) hk e)
  refine lv_iload hx hb dL_law_1233 (lv_at hl 1 rfl) ?_
  refine lv_icmp_eq (tgt := 1240) hx hb dL_law_1235 (by decide) (fun _ => ?_) (fun c9 => absurd rfl c9)
  refine lv_iload hx hb dL_law_1240 (lv_at hl 1 rfl) ?_
  refine lv_if_ne (tgt := 1257) hx hb dL_law_1242 (by decide) (fun h0 => ?_) (fun h0 => ?_)
  · refine lv_goto (tgt := 2812) hx hb dL_law_1257 (by decide) ?_
    refine W.widen (k := 6000) (n := 90000) (Nat.le_of_ble_eq_true rfl) (Nat.le_of_ble_eq_true rfl) ?_
    exact hend _ _ hS _ (lv_sub hl [2, 3] rfl)
  · obtain rfl : r_2 = stv (xs 1) := hw_2 h0
    refine lv_aload_n hx hb dL_law_1245 rfl (lv_at hl 6 rfl) ?_
    refine lv_iconst (v := 0) hx hb dL_law_1246 (by decide) ?_
    refine va_lald hx hb hK hB_1 0 2 rfl rfl (by unfold vp_in; decide) dL_law_1247 ?_
    refine W.eq (g2 := F0 m 1248 ls [.long ((stv (xs 1) : Int32).toInt64)]) (by rw [show f_1 (0 : Int32).toNatClampNeg = (stv (xs 1) : Int32).toInt64 from hv1 h0]) ?_
    refine lv_iload hx hb dL_law_1248 (lv_at hl 0 rfl) ?_
    refine lv_i2l (v := (stv (xs 1)).toInt64) hx hb dL_law_1250 rfl ?_
    refine W.lcmp hx hb dL_law_1251 ?_
    refine W.eq (g2 := F0 m 1252 ls [.int 0]) (by first | rw [lg_cmp_self] | exact congrArg (fun z => F0 m 1252 ls [.int z]) (lg_cmp_self _)) ?_
    refine lv_if_eq (tgt := 1257) hx hb dL_law_1252 (by decide) (fun c_3 => ?_) (fun c_3 => absurd (by decide) c_3)
    refine lv_goto (tgt := 2812) hx hb dL_law_1257 (by decide) ?_
    refine W.widen (k := 6000) (n := 90000) (Nat.le_of_ble_eq_true rfl) (Nat.le_of_ble_eq_true rfl) ?_
    exact hend _ _ hS _ (lv_sub hl [2, 3] rfl)
set_option maxHeartbeats 4000000 in
set_option maxRecDepth 100000 in
theorem law_16 {l : Launch} {p : Program} {e : Env} {s : State} {m : MethodId} {below : List Frame} {meth : Method} {c : Code} {bs : Nat} {xs : Nat → Int32} {A : Nat → Prop} {dC : Nat → ClassId} {dI : Nat → Nat → Nat} {g : Nat → ClassId} {a b r1 r2 : Nat → Nat} {ou od : Nat} {Q : State → Prop} {H : Heap} {locs : List Loc} {ls : Array Slot} (C9 : LC l p s m c bs xs A dC dI g a b r1 r2 ou od) (hP : va_P (dC, dI) vwCl (lawL a g ou ++ lawR b r1 r2 g od) H) (hS : va_S A s.heap H locs) (hl : lv_has ls 10 [(5, .int 0), (0, .ref bs), (1, .ref (a 0)), (2, .ref (b 0)), (3, .ref ou), (4, .ref od)]) (hend : ∀ (H : Heap) (locs : List Loc), va_S A s.heap H locs → ∀ (ls : Array Slot), lv_has ls 10 [(5, .int 0), (0, .ref bs)] → W p l e room_1 s m #[Value.ref bs] below meth c H locs 6000 90000 Q (F0 m 2812 ls [])) : W p l e room_1 s m #[Value.ref bs] below meth c H locs 2000 30000 Q (F0 m 1260 ls []) := by
  obtain ⟨hlf, hx, hb, hml, hown, hts, hX, hbl, hbA, hK, hG, hA, hDD⟩ := C9
  refine lv_aload_n hx hb dL_law_1260 rfl (lv_at hl 2 rfl) ?_
  refine lv_aload_n hx hb dL_law_1261 rfl (lv_at hl 1 rfl) ?_
  refine lv_iload hx hb dL_law_1262 (lv_at hl 0 rfl) ?_
  refine lv_iconst (v := 1) hx hb dL_law_1264 (by decide) ?_
  refine lv_iadd hx hb dL_law_1265 ?_
  refine lv_topi (fun x_1 ex_1 => ?_)
  obtain rfl : x_1 = 1 := ex_1.trans (by decide)
  refine va_sld hx hb hX hbl hbA hS (by unfold vp_in; decide) dL_law_1266 ?_
  refine W.eq (g2 := F0 m 1267 ls [.int (xs 1), .ref (a 0)]) rfl ?_
  refine lv_aload_n hx hb dL_law_1267 rfl (lv_at hl 4 rfl) ?_
  have hPc : va_P (dC, dI) vwCl (offW a g ++ [(ou, .inl (g 2, 1, .inr (.inl (fun _ => 0))))]) H := P_l hP
  have hDc : va_D A (offW a g ++ [(ou, .inl (g 2, 1, .inr (.inl (fun _ => 0))))]) := D_l hDD
  have hPm0 : va_P (dC, dI) vwCl (modW b r1 r2 g 0) H := P_l (P_r hP)
  have hFc : ∀ q, va_A (offW a g ++ [(ou, .inl (g 2, 1, .inr (.inl (fun _ => 0))))]) H.size q → A q := A_all hDc hA hS.1
  refine va_calli (vx_runSW (As := [.ref (a 0), .int (xs 1), .ref ou]) (rest := []) ⟨hx, hb, hml, hown, hts⟩ (c_L_runs l hlf dC dI g a (xs 1) ou (fun _ => 0) H.size) (vx_cwSW 3 hts (gX gL_law_L_runs) rfl rfl rfl (by decide +kernel) ⟨Nat.le_of_ble_eq_true rfl, Nat.le_of_ble_eq_true rfl⟩) ⟨PG_blind, PG_call hK hG hS hPc hDc hFc⟩ rfl rfl hl.1 rfl (lv_room (Nat.le_of_ble_eq_true rfl)) dL_law_1268 ⟨Nat.le_of_ble_eq_true rfl, Nat.le_of_ble_eq_true rfl⟩) hS (fun q _ h => hFc q h) hFc (fun r_1 f_1 t_1 H_1 L_1 ht_1 hvm_1 hw_1 hB_1 hz_1 hk_1 hS => ?_)
  rw [ht_1] at hB_1
  have hPm : va_P (dC, dI) vwCl (modW b r1 r2 g 0) H_1 := P_l (rest_kept hP hDD hk_1)
  obtain ⟨hr1, hv1⟩ := hw_1
  obtain rfl : r_1 = (cd (TOKb (xs 1)) true true) := hr1
  refine lv_istore (lv' := [(6, .int (cd (TOKb (xs 1)) true true)), (5, .int 0), (0, .ref bs), (1, .ref (a 0)), (2, .ref (b 0)), (3, .ref ou), (4, .ref od)]) hx hb dL_law_1271 hl (by decide) rfl (fun ls hl => ?_)
  refine lv_aload_n hx hb dL_law_1273 rfl (lv_at hl 4 rfl) ?_
  refine lv_aload_n hx hb dL_law_1274 rfl (lv_at hl 2 rfl) ?_
  refine lv_iload hx hb dL_law_1275 (lv_at hl 1 rfl) ?_
  refine lv_iconst (v := 1) hx hb dL_law_1277 (by decide) ?_
  refine lv_iadd hx hb dL_law_1278 ?_
  refine lv_topi (fun x_2 ex_2 => ?_)
  obtain rfl : x_2 = 1 := ex_2.trans (by decide)
  refine va_sld hx hb hX hbl hbA hS (by unfold vp_in; decide) dL_law_1279 ?_
  refine W.eq (g2 := F0 m 1280 ls [.int (xs 1), .ref (b 0)]) rfl ?_
  have hDm : va_D A (modW b r1 r2 g 0) := D_l (D_r hDD)
  have hFm : ∀ q, va_A (modW b r1 r2 g 0) H_1.size q → A q := A_all hDm hA hS.1
  refine va_calli (va_runV (As := [.int (xs 1)]) (rest := []) ⟨hx, hb, hml, hown, hts⟩ (c_X13_runs l dC dI g b r1 r2 (xs 1) 0 H_1.size) (cwV 1 hts (gX gL_law_X13_runs) rfl rfl rfl (by decide +kernel) ⟨Nat.le_of_ble_eq_true rfl, Nat.le_of_ble_eq_true rfl⟩) ⟨PG_blind, va_recv hK hPm (ci := 15) (q0 := 0) rfl (m_0 b r1 r2 g 0), PG_call hK hG hS hPm hDm hFm⟩ rfl rfl hl.1 rfl (lv_room (Nat.le_of_ble_eq_true rfl)) dL_law_1280 ⟨Nat.le_of_ble_eq_true rfl, Nat.le_of_ble_eq_true rfl⟩) hS (fun q _ h => hFm q h) hFm (fun r_2 u_2 t_2 H_2 L_2 ht_2 hvm_2 hw_2 hB_2 hz_2 hk_2 hS => ?_)
  replace hB_1 := kept_by hB_1 hk_2 (ap_ou hDD)
  obtain ⟨fs, hB_2⟩ := hB_2
  rw [ht_2] at hB_2
  refine lv_istore (lv' := [(7, .int r_2), (6, .int (cd (TOKb (xs 1)) true true)), (5, .int 0), (0, .ref bs), (1, .ref (a 0)), (2, .ref (b 0)), (3, .ref ou), (4, .ref od)]) hx hb dL_law_1283 hl (by decide) rfl (fun ls hl => ?_)
  refine lv_aload_n hx hb dL_law_1285 rfl (lv_at hl 5 rfl) ?_
  have hFt := A_one (e := .inr (15, .int ((cd (TOKb (xs 1)) true true)) :: fs)) (sz := 0) (H0 := H) (A_b0 hDD) hA hS
  have hDt : va_D A [(b 0, .inr (15, .int ((cd (TOKb (xs 1)) true true)) :: fs))] := D_one (A_b0 hDD)
  refine va_calli (va_runV (As := []) (rest := []) ⟨hx, hb, hml, hown, hts⟩ (c_X13_thrown l dC dI g [(b 0, .inr (15, .int ((cd (TOKb (xs 1)) true true)) :: fs))] (b 0) ((cd (TOKb (xs 1)) true true)) fs 0 rfl H_2.size) (cwV 0 hts (gX gL_law_X13_thrown) rfl rfl rfl (by decide +kernel) ⟨Nat.le_of_ble_eq_true rfl, Nat.le_of_ble_eq_true rfl⟩) ⟨PG_blind, va_recv hK hB_2 (ci := 15) (q0 := 0) rfl rfl, PG_call hK hG hS hB_2 hDt hFt⟩ rfl rfl hl.1 rfl (lv_room (Nat.le_of_ble_eq_true rfl)) dL_law_1286 ⟨Nat.le_of_ble_eq_true rfl, Nat.le_of_ble_eq_true rfl⟩) hS (fun q _ h => hFt q h) hFt (fun r_3 u_3 t_3 H_3 L_3 ht_3 hvm_3 hw_3 hB_3 hz_3 hk_3 hS => ?_)
  obtain rfl : r_3 = (cd (TOKb (xs 1)) true true) := hw_3
  replace hB_1 := kept_by hB_1 hk_3 (fun j k p q hj hk e => by
      obtain rfl : j = 0 := by
        have h1 := (List.getElem?_eq_some_iff.mp hj).1
        simp only [List.length_singleton] at h1
        omega
      cases hj
      exact ap_ou hDD 0 k _ q (m_0 b r1 r2 g 0) hk e)
  refine lv_iload hx hb dL_law_1289 (lv_at hl 1 rfl) ?_
  refine lv_icmp_eq (tgt := 1296) hx hb dL_law_1291 (by decide) (fun _ => ?_) (fun c9 => absurd rfl c9)
  refine lv_iload hx hb dL_law_1296 (lv_at hl 1 rfl) ?_
  refine lv_if_ne (tgt := 1313) hx hb dL_law_1298 (by decide) (fun h0 => ?_) (fun h0 => ?_)
  · refine lv_goto (tgt := 2812) hx hb dL_law_1313 (by decide) ?_
    refine W.widen (k := 6000) (n := 90000) (Nat.le_of_ble_eq_true rfl) (Nat.le_of_ble_eq_true rfl) ?_
    exact hend _ _ hS _ (lv_sub hl [2, 3] rfl)
  · obtain rfl : r_2 = 0 := hw_2 h0
    refine lv_aload_n hx hb dL_law_1301 rfl (lv_at hl 6 rfl) ?_
    refine lv_iconst (v := 0) hx hb dL_law_1302 (by decide) ?_
    refine va_lald hx hb hK hB_1 0 2 rfl rfl (by unfold vp_in; decide) dL_law_1303 ?_
    refine W.eq (g2 := F0 m 1304 ls [.long ((0 : Int32).toInt64)]) (by rw [show f_1 (0 : Int32).toNatClampNeg = (0 : Int32).toInt64 from hv1 h0]) ?_
    refine lv_iload hx hb dL_law_1304 (lv_at hl 0 rfl) ?_
    refine lv_i2l (v := (0 : Int32).toInt64) hx hb dL_law_1306 rfl ?_
    refine W.lcmp hx hb dL_law_1307 ?_
    refine W.eq (g2 := F0 m 1308 ls [.int 0]) (by first | rw [lg_cmp_self] | exact congrArg (fun z => F0 m 1308 ls [.int z]) (lg_cmp_self _)) ?_
    refine lv_if_eq (tgt := 1313) hx hb dL_law_1308 (by decide) (fun c_3 => ?_) (fun c_3 => absurd (by decide) c_3)
    refine lv_goto (tgt := 2812) hx hb dL_law_1313 (by decide) ?_
    refine W.widen (k := 6000) (n := 90000) (Nat.le_of_ble_eq_true rfl) (Nat.le_of_ble_eq_true rfl) ?_
    exact hend _ _ hS _ (lv_sub hl [2, 3] rfl)
set_option maxHeartbeats 4000000 in
set_option maxRecDepth 100000 in
theorem law_17 {l : Launch} {p : Program} {e : Env} {s : State} {m : MethodId} {below : List Frame} {meth : Method} {c : Code} {bs : Nat} {xs : Nat → Int32} {A : Nat → Prop} {dC : Nat → ClassId} {dI : Nat → Nat → Nat} {g : Nat → ClassId} {a b r1 r2 : Nat → Nat} {ou od : Nat} {Q : State → Prop} {H : Heap} {locs : List Loc} {ls : Array Slot} (C9 : LC l p s m c bs xs A dC dI g a b r1 r2 ou od) (hP : va_P (dC, dI) vwCl (lawL a g ou ++ lawR b r1 r2 g od) H) (hS : va_S A s.heap H locs) (hl : lv_has ls 10 [(5, .int 0), (0, .ref bs), (1, .ref (a 0)), (2, .ref (b 0)), (3, .ref ou), (4, .ref od)]) (hend : ∀ (H : Heap) (locs : List Loc), va_S A s.heap H locs → ∀ (ls : Array Slot), lv_has ls 10 [(5, .int 0), (0, .ref bs)] → W p l e room_1 s m #[Value.ref bs] below meth c H locs 6000 90000 Q (F0 m 2812 ls [])) : W p l e room_1 s m #[Value.ref bs] below meth c H locs 2000 30000 Q (F0 m 1316 ls []) := by
  obtain ⟨hlf, hx, hb, hml, hown, hts, hX, hbl, hbA, hK, hG, hA, hDD⟩ := C9
  refine lv_aload_n hx hb dL_law_1316 rfl (lv_at hl 2 rfl) ?_
  refine lv_aload_n hx hb dL_law_1317 rfl (lv_at hl 1 rfl) ?_
  refine lv_iload hx hb dL_law_1318 (lv_at hl 0 rfl) ?_
  refine lv_iconst (v := 1) hx hb dL_law_1320 (by decide) ?_
  refine lv_iadd hx hb dL_law_1321 ?_
  refine lv_topi (fun x_1 ex_1 => ?_)
  obtain rfl : x_1 = 1 := ex_1.trans (by decide)
  refine va_sld hx hb hX hbl hbA hS (by unfold vp_in; decide) dL_law_1322 ?_
  refine W.eq (g2 := F0 m 1323 ls [.int (xs 1), .ref (a 0)]) rfl ?_
  refine lv_aload_n hx hb dL_law_1323 rfl (lv_at hl 1 rfl) ?_
  refine lv_iload hx hb dL_law_1324 (lv_at hl 0 rfl) ?_
  refine lv_iconst (v := 2) hx hb dL_law_1326 (by decide) ?_
  refine lv_iadd hx hb dL_law_1327 ?_
  refine lv_topi (fun x_2 ex_2 => ?_)
  obtain rfl : x_2 = 2 := ex_2.trans (by decide)
  refine va_sld hx hb hX hbl hbA hS (by unfold vp_in; decide) dL_law_1328 ?_
  refine W.eq (g2 := F0 m 1329 ls [.int (xs 2), .int (xs 1), .ref (a 0)]) rfl ?_
  refine lv_aload_n hx hb dL_law_1329 rfl (lv_at hl 4 rfl) ?_
  have hPc : va_P (dC, dI) vwCl (offW a g ++ [(ou, .inl (g 2, 1, .inr (.inl (fun _ => 0))))]) H := P_l hP
  have hDc : va_D A (offW a g ++ [(ou, .inl (g 2, 1, .inr (.inl (fun _ => 0))))]) := D_l hDD
  have hPm0 : va_P (dC, dI) vwCl (modW b r1 r2 g 0) H := P_l (P_r hP)
  have hFc : ∀ q, va_A (offW a g ++ [(ou, .inl (g 2, 1, .inr (.inl (fun _ => 0))))]) H.size q → A q := A_all hDc hA hS.1
  refine va_calli (vx_runSW (As := [.ref (a 0), .int (xs 1), .int (xs 2), .ref ou]) (rest := []) ⟨hx, hb, hml, hown, hts⟩ (c_L_runLength l hlf dC dI g a (xs 1) (xs 2) ou (fun _ => 0) H.size) (vx_cwSW 4 hts (gX gL_law_L_runLength) rfl rfl rfl (by decide +kernel) ⟨Nat.le_of_ble_eq_true rfl, Nat.le_of_ble_eq_true rfl⟩) ⟨PG_blind, PG_call hK hG hS hPc hDc hFc⟩ rfl rfl hl.1 rfl (lv_room (Nat.le_of_ble_eq_true rfl)) dL_law_1330 ⟨Nat.le_of_ble_eq_true rfl, Nat.le_of_ble_eq_true rfl⟩) hS (fun q _ h => hFc q h) hFc (fun r_1 f_1 t_1 H_1 L_1 ht_1 hvm_1 hw_1 hB_1 hz_1 hk_1 hS => ?_)
  rw [ht_1] at hB_1
  have hPm : va_P (dC, dI) vwCl (modW b r1 r2 g 0) H_1 := P_l (rest_kept hP hDD hk_1)
  obtain ⟨hr1, hv1⟩ := hw_1
  obtain rfl : r_1 = (cd false true true) := hr1
  refine lv_istore (lv' := [(6, .int (cd false true true)), (5, .int 0), (0, .ref bs), (1, .ref (a 0)), (2, .ref (b 0)), (3, .ref ou), (4, .ref od)]) hx hb dL_law_1333 hl (by decide) rfl (fun ls hl => ?_)
  refine lv_aload_n hx hb dL_law_1335 rfl (lv_at hl 4 rfl) ?_
  refine lv_aload_n hx hb dL_law_1336 rfl (lv_at hl 2 rfl) ?_
  refine lv_iload hx hb dL_law_1337 (lv_at hl 1 rfl) ?_
  refine lv_iconst (v := 1) hx hb dL_law_1339 (by decide) ?_
  refine lv_iadd hx hb dL_law_1340 ?_
  refine lv_topi (fun x_3 ex_3 => ?_)
  obtain rfl : x_3 = 1 := ex_3.trans (by decide)
  refine va_sld hx hb hX hbl hbA hS (by unfold vp_in; decide) dL_law_1341 ?_
  refine W.eq (g2 := F0 m 1342 ls [.int (xs 1), .ref (b 0)]) rfl ?_
  refine lv_aload_n hx hb dL_law_1342 rfl (lv_at hl 2 rfl) ?_
  refine lv_iload hx hb dL_law_1343 (lv_at hl 1 rfl) ?_
  refine lv_iconst (v := 2) hx hb dL_law_1345 (by decide) ?_
  refine lv_iadd hx hb dL_law_1346 ?_
  refine lv_topi (fun x_4 ex_4 => ?_)
  obtain rfl : x_4 = 2 := ex_4.trans (by decide)
  refine va_sld hx hb hX hbl hbA hS (by unfold vp_in; decide) dL_law_1347 ?_
  refine W.eq (g2 := F0 m 1348 ls [.int (xs 2), .int (xs 1), .ref (b 0)]) rfl ?_
  have hDm : va_D A (modW b r1 r2 g 0) := D_l (D_r hDD)
  have hFm : ∀ q, va_A (modW b r1 r2 g 0) H_1.size q → A q := A_all hDm hA hS.1
  refine va_calli (va_runV (As := [.int (xs 1), .int (xs 2)]) (rest := []) ⟨hx, hb, hml, hown, hts⟩ (c_X13_runLength l dC dI g b r1 r2 (xs 1) (xs 2) 0 H_1.size) (cwV 2 hts (gX gL_law_X13_runLength) rfl rfl rfl (by decide +kernel) ⟨Nat.le_of_ble_eq_true rfl, Nat.le_of_ble_eq_true rfl⟩) ⟨PG_blind, va_recv hK hPm (ci := 15) (q0 := 0) rfl (m_0 b r1 r2 g 0), PG_call hK hG hS hPm hDm hFm⟩ rfl rfl hl.1 rfl (lv_room (Nat.le_of_ble_eq_true rfl)) dL_law_1348 ⟨Nat.le_of_ble_eq_true rfl, Nat.le_of_ble_eq_true rfl⟩) hS (fun q _ h => hFm q h) hFm (fun r_2 u_2 t_2 H_2 L_2 ht_2 hvm_2 hw_2 hB_2 hz_2 hk_2 hS => ?_)
  replace hB_1 := kept_by hB_1 hk_2 (ap_ou hDD)
  obtain ⟨fs, hB_2⟩ := hB_2
  rw [ht_2] at hB_2
  refine lv_istore (lv' := [(7, .int r_2), (6, .int (cd false true true)), (5, .int 0), (0, .ref bs), (1, .ref (a 0)), (2, .ref (b 0)), (3, .ref ou), (4, .ref od)]) hx hb dL_law_1351 hl (by decide) rfl (fun ls hl => ?_)
  refine lv_aload_n hx hb dL_law_1353 rfl (lv_at hl 5 rfl) ?_
  have hFt := A_one (e := .inr (15, .int ((cd false true true)) :: fs)) (sz := 0) (H0 := H) (A_b0 hDD) hA hS
  have hDt : va_D A [(b 0, .inr (15, .int ((cd false true true)) :: fs))] := D_one (A_b0 hDD)
  refine va_calli (va_runV (As := []) (rest := []) ⟨hx, hb, hml, hown, hts⟩ (c_X13_thrown l dC dI g [(b 0, .inr (15, .int ((cd false true true)) :: fs))] (b 0) ((cd false true true)) fs 0 rfl H_2.size) (cwV 0 hts (gX gL_law_X13_thrown) rfl rfl rfl (by decide +kernel) ⟨Nat.le_of_ble_eq_true rfl, Nat.le_of_ble_eq_true rfl⟩) ⟨PG_blind, va_recv hK hB_2 (ci := 15) (q0 := 0) rfl rfl, PG_call hK hG hS hB_2 hDt hFt⟩ rfl rfl hl.1 rfl (lv_room (Nat.le_of_ble_eq_true rfl)) dL_law_1354 ⟨Nat.le_of_ble_eq_true rfl, Nat.le_of_ble_eq_true rfl⟩) hS (fun q _ h => hFt q h) hFt (fun r_3 u_3 t_3 H_3 L_3 ht_3 hvm_3 hw_3 hB_3 hz_3 hk_3 hS => ?_)
  obtain rfl : r_3 = (cd false true true) := hw_3
  replace hB_1 := kept_by hB_1 hk_3 (fun j k p q hj hk e => by
      obtain rfl : j = 0 := by
        have h1 := (List.getElem?_eq_some_iff.mp hj).1
        simp only [List.length_singleton] at h1
        omega
      cases hj
      exact ap_ou hDD 0 k _ q (m_0 b r1 r2 g 0) hk e)
  refine lv_iload hx hb dL_law_1357 (lv_at hl 1 rfl) ?_
  refine lv_icmp_eq (tgt := 1364) hx hb dL_law_1359 (by decide) (fun _ => ?_) (fun c9 => absurd rfl c9)
  refine lv_iload hx hb dL_law_1364 (lv_at hl 1 rfl) ?_
  refine lv_if_ne (tgt := 1381) hx hb dL_law_1366 (by decide) (fun h0 => ?_) (fun h0 => ?_)
  · refine lv_goto (tgt := 2812) hx hb dL_law_1381 (by decide) ?_
    refine W.widen (k := 6000) (n := 90000) (Nat.le_of_ble_eq_true rfl) (Nat.le_of_ble_eq_true rfl) ?_
    exact hend _ _ hS _ (lv_sub hl [2, 3] rfl)
  · exact absurd (cd_0.mp h0) (by simp)
set_option maxHeartbeats 4000000 in
set_option maxRecDepth 100000 in
theorem law_18 {l : Launch} {p : Program} {e : Env} {s : State} {m : MethodId} {below : List Frame} {meth : Method} {c : Code} {bs : Nat} {xs : Nat → Int32} {A : Nat → Prop} {dC : Nat → ClassId} {dI : Nat → Nat → Nat} {g : Nat → ClassId} {a b r1 r2 : Nat → Nat} {ou od : Nat} {Q : State → Prop} {H : Heap} {locs : List Loc} {ls : Array Slot} (C9 : LC l p s m c bs xs A dC dI g a b r1 r2 ou od) (hP : va_P (dC, dI) vwCl (lawL a g ou ++ lawR b r1 r2 g od) H) (hS : va_S A s.heap H locs) (hl : lv_has ls 10 [(5, .int 0), (0, .ref bs), (1, .ref (a 0)), (2, .ref (b 0)), (3, .ref ou), (4, .ref od)]) (hend : ∀ (H : Heap) (locs : List Loc), va_S A s.heap H locs → ∀ (ls : Array Slot), lv_has ls 10 [(5, .int 0), (0, .ref bs)] → W p l e room_1 s m #[Value.ref bs] below meth c H locs 6000 90000 Q (F0 m 2812 ls [])) : W p l e room_1 s m #[Value.ref bs] below meth c H locs 2000 30000 Q (F0 m 1384 ls []) := by
  obtain ⟨hlf, hx, hb, hml, hown, hts, hX, hbl, hbA, hK, hG, hA, hDD⟩ := C9
  refine lv_aload_n hx hb dL_law_1384 rfl (lv_at hl 2 rfl) ?_
  refine lv_aload_n hx hb dL_law_1385 rfl (lv_at hl 1 rfl) ?_
  refine lv_iload hx hb dL_law_1386 (lv_at hl 0 rfl) ?_
  refine lv_iconst (v := 1) hx hb dL_law_1388 (by decide) ?_
  refine lv_iadd hx hb dL_law_1389 ?_
  refine lv_topi (fun x_1 ex_1 => ?_)
  obtain rfl : x_1 = 1 := ex_1.trans (by decide)
  refine va_sld hx hb hX hbl hbA hS (by unfold vp_in; decide) dL_law_1390 ?_
  refine W.eq (g2 := F0 m 1391 ls [.int (xs 1), .ref (a 0)]) rfl ?_
  refine lv_aload_n hx hb dL_law_1391 rfl (lv_at hl 1 rfl) ?_
  refine lv_iload hx hb dL_law_1392 (lv_at hl 0 rfl) ?_
  refine lv_iconst (v := 2) hx hb dL_law_1394 (by decide) ?_
  refine lv_iadd hx hb dL_law_1395 ?_
  refine lv_topi (fun x_2 ex_2 => ?_)
  obtain rfl : x_2 = 2 := ex_2.trans (by decide)
  refine va_sld hx hb hX hbl hbA hS (by unfold vp_in; decide) dL_law_1396 ?_
  refine W.eq (g2 := F0 m 1397 ls [.int (xs 2), .int (xs 1), .ref (a 0)]) rfl ?_
  refine lv_aload_n hx hb dL_law_1397 rfl (lv_at hl 1 rfl) ?_
  refine lv_iload hx hb dL_law_1398 (lv_at hl 0 rfl) ?_
  refine lv_iconst (v := 3) hx hb dL_law_1400 (by decide) ?_
  refine lv_iadd hx hb dL_law_1401 ?_
  refine lv_topi (fun x_3 ex_3 => ?_)
  obtain rfl : x_3 = 3 := ex_3.trans (by decide)
  refine va_sld hx hb hX hbl hbA hS (by unfold vp_in; decide) dL_law_1402 ?_
  refine W.eq (g2 := F0 m 1403 ls [.int (xs 3), .int (xs 2), .int (xs 1), .ref (a 0)]) rfl ?_
  refine lv_aload_n hx hb dL_law_1403 rfl (lv_at hl 4 rfl) ?_
  have hPc : va_P (dC, dI) vwCl (offW a g ++ [(ou, .inl (g 2, 1, .inr (.inl (fun _ => 0))))]) H := P_l hP
  have hDc : va_D A (offW a g ++ [(ou, .inl (g 2, 1, .inr (.inl (fun _ => 0))))]) := D_l hDD
  have hPm0 : va_P (dC, dI) vwCl (modW b r1 r2 g 0) H := P_l (P_r hP)
  have hFc : ∀ q, va_A (offW a g ++ [(ou, .inl (g 2, 1, .inr (.inl (fun _ => 0))))]) H.size q → A q := A_all hDc hA hS.1
  refine va_calli (vx_runSW (As := [.ref (a 0), .int (xs 1), .int (xs 2), .int (xs 3), .ref ou]) (rest := []) ⟨hx, hb, hml, hown, hts⟩ (c_L_runAt l hlf dC dI g a (xs 1) (xs 2) (xs 3) ou (fun _ => 0) H.size) (vx_cwSW 5 hts (gX gL_law_L_runAt) rfl rfl rfl (by decide +kernel) ⟨Nat.le_of_ble_eq_true rfl, Nat.le_of_ble_eq_true rfl⟩) ⟨PG_blind, PG_call hK hG hS hPc hDc hFc⟩ rfl rfl hl.1 rfl (lv_room (Nat.le_of_ble_eq_true rfl)) dL_law_1404 ⟨Nat.le_of_ble_eq_true rfl, Nat.le_of_ble_eq_true rfl⟩) hS (fun q _ h => hFc q h) hFc (fun r_1 f_1 t_1 H_1 L_1 ht_1 hvm_1 hw_1 hB_1 hz_1 hk_1 hS => ?_)
  rw [ht_1] at hB_1
  have hPm : va_P (dC, dI) vwCl (modW b r1 r2 g 0) H_1 := P_l (rest_kept hP hDD hk_1)
  obtain ⟨hr1, hv1⟩ := hw_1
  obtain rfl : r_1 = (cd false true true) := hr1
  refine lv_istore (lv' := [(6, .int (cd false true true)), (5, .int 0), (0, .ref bs), (1, .ref (a 0)), (2, .ref (b 0)), (3, .ref ou), (4, .ref od)]) hx hb dL_law_1407 hl (by decide) rfl (fun ls hl => ?_)
  refine lv_aload_n hx hb dL_law_1409 rfl (lv_at hl 4 rfl) ?_
  refine lv_aload_n hx hb dL_law_1410 rfl (lv_at hl 2 rfl) ?_
  refine lv_iload hx hb dL_law_1411 (lv_at hl 1 rfl) ?_
  refine lv_iconst (v := 1) hx hb dL_law_1413 (by decide) ?_
  refine lv_iadd hx hb dL_law_1414 ?_
  refine lv_topi (fun x_4 ex_4 => ?_)
  obtain rfl : x_4 = 1 := ex_4.trans (by decide)
  refine va_sld hx hb hX hbl hbA hS (by unfold vp_in; decide) dL_law_1415 ?_
  refine W.eq (g2 := F0 m 1416 ls [.int (xs 1), .ref (b 0)]) rfl ?_
  refine lv_aload_n hx hb dL_law_1416 rfl (lv_at hl 2 rfl) ?_
  refine lv_iload hx hb dL_law_1417 (lv_at hl 1 rfl) ?_
  refine lv_iconst (v := 2) hx hb dL_law_1419 (by decide) ?_
  refine lv_iadd hx hb dL_law_1420 ?_
  refine lv_topi (fun x_5 ex_5 => ?_)
  obtain rfl : x_5 = 2 := ex_5.trans (by decide)
  refine va_sld hx hb hX hbl hbA hS (by unfold vp_in; decide) dL_law_1421 ?_
  refine W.eq (g2 := F0 m 1422 ls [.int (xs 2), .int (xs 1), .ref (b 0)]) rfl ?_
  refine lv_aload_n hx hb dL_law_1422 rfl (lv_at hl 2 rfl) ?_
  refine lv_iload hx hb dL_law_1423 (lv_at hl 1 rfl) ?_
  refine lv_iconst (v := 3) hx hb dL_law_1425 (by decide) ?_
  refine lv_iadd hx hb dL_law_1426 ?_
  refine lv_topi (fun x_6 ex_6 => ?_)
  obtain rfl : x_6 = 3 := ex_6.trans (by decide)
  refine va_sld hx hb hX hbl hbA hS (by unfold vp_in; decide) dL_law_1427 ?_
  refine W.eq (g2 := F0 m 1428 ls [.int (xs 3), .int (xs 2), .int (xs 1), .ref (b 0)]) rfl ?_
  have hDm : va_D A (modW b r1 r2 g 0) := D_l (D_r hDD)
  have hFm : ∀ q, va_A (modW b r1 r2 g 0) H_1.size q → A q := A_all hDm hA hS.1
  refine va_calli (va_runV (As := [.int (xs 1), .int (xs 2), .int (xs 3)]) (rest := []) ⟨hx, hb, hml, hown, hts⟩ (c_X13_runAt l dC dI g b r1 r2 (xs 1) (xs 2) (xs 3) 0 H_1.size) (cwV 3 hts (gX gL_law_X13_runAt) rfl rfl rfl (by decide +kernel) ⟨Nat.le_of_ble_eq_true rfl, Nat.le_of_ble_eq_true rfl⟩) ⟨PG_blind, va_recv hK hPm (ci := 15) (q0 := 0) rfl (m_0 b r1 r2 g 0), PG_call hK hG hS hPm hDm hFm⟩ rfl rfl hl.1 rfl (lv_room (Nat.le_of_ble_eq_true rfl)) dL_law_1428 ⟨Nat.le_of_ble_eq_true rfl, Nat.le_of_ble_eq_true rfl⟩) hS (fun q _ h => hFm q h) hFm (fun r_2 u_2 t_2 H_2 L_2 ht_2 hvm_2 hw_2 hB_2 hz_2 hk_2 hS => ?_)
  replace hB_1 := kept_by hB_1 hk_2 (ap_ou hDD)
  obtain ⟨fs, hB_2⟩ := hB_2
  rw [ht_2] at hB_2
  refine lv_istore (lv' := [(7, .int r_2), (6, .int (cd false true true)), (5, .int 0), (0, .ref bs), (1, .ref (a 0)), (2, .ref (b 0)), (3, .ref ou), (4, .ref od)]) hx hb dL_law_1431 hl (by decide) rfl (fun ls hl => ?_)
  refine lv_aload_n hx hb dL_law_1433 rfl (lv_at hl 5 rfl) ?_
  have hFt := A_one (e := .inr (15, .int ((cd false true true)) :: fs)) (sz := 0) (H0 := H) (A_b0 hDD) hA hS
  have hDt : va_D A [(b 0, .inr (15, .int ((cd false true true)) :: fs))] := D_one (A_b0 hDD)
  refine va_calli (va_runV (As := []) (rest := []) ⟨hx, hb, hml, hown, hts⟩ (c_X13_thrown l dC dI g [(b 0, .inr (15, .int ((cd false true true)) :: fs))] (b 0) ((cd false true true)) fs 0 rfl H_2.size) (cwV 0 hts (gX gL_law_X13_thrown) rfl rfl rfl (by decide +kernel) ⟨Nat.le_of_ble_eq_true rfl, Nat.le_of_ble_eq_true rfl⟩) ⟨PG_blind, va_recv hK hB_2 (ci := 15) (q0 := 0) rfl rfl, PG_call hK hG hS hB_2 hDt hFt⟩ rfl rfl hl.1 rfl (lv_room (Nat.le_of_ble_eq_true rfl)) dL_law_1434 ⟨Nat.le_of_ble_eq_true rfl, Nat.le_of_ble_eq_true rfl⟩) hS (fun q _ h => hFt q h) hFt (fun r_3 u_3 t_3 H_3 L_3 ht_3 hvm_3 hw_3 hB_3 hz_3 hk_3 hS => ?_)
  obtain rfl : r_3 = (cd false true true) := hw_3
  replace hB_1 := kept_by hB_1 hk_3 (fun j k p q hj hk e => by
      obtain rfl : j = 0 := by
        have h1 := (List.getElem?_eq_some_iff.mp hj).1
        simp only [List.length_singleton] at h1
        omega
      cases hj
      exact ap_ou hDD 0 k _ q (m_0 b r1 r2 g 0) hk e)
  refine lv_iload hx hb dL_law_1437 (lv_at hl 1 rfl) ?_
  refine lv_icmp_eq (tgt := 1444) hx hb dL_law_1439 (by decide) (fun _ => ?_) (fun c9 => absurd rfl c9)
  refine lv_iload hx hb dL_law_1444 (lv_at hl 1 rfl) ?_
  refine lv_if_ne (tgt := 1461) hx hb dL_law_1446 (by decide) (fun h0 => ?_) (fun h0 => ?_)
  · refine lv_goto (tgt := 2812) hx hb dL_law_1461 (by decide) ?_
    refine W.widen (k := 6000) (n := 90000) (Nat.le_of_ble_eq_true rfl) (Nat.le_of_ble_eq_true rfl) ?_
    exact hend _ _ hS _ (lv_sub hl [2, 3] rfl)
  · exact absurd (cd_0.mp h0) (by simp)
theorem gLX_plan : GoodIn wsLX (va_wsS RL 208 yL_plan wsL_plan2) := fun w hw => (List.mem_append.mp (show w ∈ _ ++ wsL_plan2 from hw)).elim (fun h => (gX gL_law_L_plan) w (List.mem_append_left _ h)) (fun h => (List.mem_cons.mp h).elim (fun e => (gX gL_law_L_plan) w (List.mem_append_right _ (by rw [e]; exact List.mem_cons_self))) (fun h => (List.mem_append.mp h).elim (fun h => (gX gL_law_L_plan) w (List.mem_append_right _ h)) (fun h => gXX w (sub_of (by decide +kernel) h))))
set_option maxHeartbeats 4000000 in
set_option maxRecDepth 100000 in
theorem law_19 {l : Launch} {p : Program} {e : Env} {s : State} {m : MethodId} {below : List Frame} {meth : Method} {c : Code} {bs : Nat} {xs : Nat → Int32} {A : Nat → Prop} {dC : Nat → ClassId} {dI : Nat → Nat → Nat} {g : Nat → ClassId} {a b r1 r2 : Nat → Nat} {ou od : Nat} {Q : State → Prop} {H : Heap} {locs : List Loc} {ls : Array Slot} (C9 : LC l p s m c bs xs A dC dI g a b r1 r2 ou od) (hP : va_P (dC, dI) vwCl (lawL a g ou ++ lawR b r1 r2 g od) H) (hS : va_S A s.heap H locs) (hl : lv_has ls 10 [(5, .int 0), (0, .ref bs), (1, .ref (a 0)), (2, .ref (b 0)), (3, .ref ou), (4, .ref od)]) (hend : ∀ (H : Heap) (locs : List Loc), va_S A s.heap H locs → ∀ (ls : Array Slot), lv_has ls 10 [(5, .int 0), (0, .ref bs)] → W p l e room_1 s m #[Value.ref bs] below meth c H locs 6000 90000 Q (F0 m 2812 ls [])) : W p l e room_1 s m #[Value.ref bs] below meth c H locs 2000 30000 Q (F0 m 1464 ls []) := by
  obtain ⟨hlf, hx, hb, hml, hown, hts, hX, hbl, hbA, hK, hG, hA, hDD⟩ := C9
  refine lv_aload_n hx hb dL_law_1464 rfl (lv_at hl 2 rfl) ?_
  refine lv_aload_n hx hb dL_law_1465 rfl (lv_at hl 1 rfl) ?_
  refine lv_iload hx hb dL_law_1466 (lv_at hl 0 rfl) ?_
  refine lv_iconst (v := 1) hx hb dL_law_1468 (by decide) ?_
  refine lv_iadd hx hb dL_law_1469 ?_
  refine lv_topi (fun x_1 ex_1 => ?_)
  obtain rfl : x_1 = 1 := ex_1.trans (by decide)
  refine va_sld hx hb hX hbl hbA hS (by unfold vp_in; decide) dL_law_1470 ?_
  refine W.eq (g2 := F0 m 1471 ls [.int (xs 1), .ref (a 0)]) rfl ?_
  refine lv_aload_n hx hb dL_law_1471 rfl (lv_at hl 1 rfl) ?_
  refine lv_iload hx hb dL_law_1472 (lv_at hl 0 rfl) ?_
  refine lv_iconst (v := 2) hx hb dL_law_1474 (by decide) ?_
  refine lv_iadd hx hb dL_law_1475 ?_
  refine lv_topi (fun x_2 ex_2 => ?_)
  obtain rfl : x_2 = 2 := ex_2.trans (by decide)
  refine va_sld hx hb hX hbl hbA hS (by unfold vp_in; decide) dL_law_1476 ?_
  refine W.eq (g2 := F0 m 1477 ls [.int (xs 2), .int (xs 1), .ref (a 0)]) rfl ?_
  refine lv_aload_n hx hb dL_law_1477 rfl (lv_at hl 4 rfl) ?_
  have hPc : va_P (dC, dI) vwCl (offW a g ++ [(ou, .inl (g 2, 1, .inr (.inl (fun _ => 0))))]) H := P_l hP
  have hDc : va_D A (offW a g ++ [(ou, .inl (g 2, 1, .inr (.inl (fun _ => 0))))]) := D_l hDD
  have hPm0 : va_P (dC, dI) vwCl (modW b r1 r2 g 0) H := P_l (P_r hP)
  have hFc : ∀ q, va_A (offW a g ++ [(ou, .inl (g 2, 1, .inr (.inl (fun _ => 0))))]) H.size q → A q := A_all hDc hA hS.1
  refine va_calli (vx_runSW (As := [.ref (a 0), .int (xs 1), .int (xs 2), .ref ou]) (rest := []) ⟨hx, hb, hml, hown, hts⟩ (c_L_plan l hlf dC dI g a (xs 1) (xs 2) ou (fun _ => 0) H.size) (vx_cwSW 4 hts (gLX_plan) rfl rfl rfl (by decide +kernel) ⟨Nat.le_of_ble_eq_true rfl, Nat.le_of_ble_eq_true rfl⟩) ⟨PG_blind, PG_call hK hG hS hPc hDc hFc⟩ rfl rfl hl.1 rfl (lv_room (Nat.le_of_ble_eq_true rfl)) dL_law_1478 ⟨Nat.le_of_ble_eq_true rfl, Nat.le_of_ble_eq_true rfl⟩) hS (fun q _ h => hFc q h) hFc (fun r_1 f_1 t_1 H_1 L_1 ht_1 hvm_1 hw_1 hB_1 hz_1 hk_1 hS => ?_)
  rw [ht_1] at hB_1
  have hPm : va_P (dC, dI) vwCl (modW b r1 r2 g 0) H_1 := P_l (rest_kept hP hDD hk_1)
  obtain ⟨hr1, hv1⟩ := hw_1
  obtain rfl : r_1 = (cd (TOKb (xs 1)) (rngb (xs 2) 0 3) true) := hr1
  refine lv_istore (lv' := [(6, .int (cd (TOKb (xs 1)) (rngb (xs 2) 0 3) true)), (5, .int 0), (0, .ref bs), (1, .ref (a 0)), (2, .ref (b 0)), (3, .ref ou), (4, .ref od)]) hx hb dL_law_1481 hl (by decide) rfl (fun ls hl => ?_)
  refine lv_aload_n hx hb dL_law_1483 rfl (lv_at hl 4 rfl) ?_
  refine lv_aload_n hx hb dL_law_1484 rfl (lv_at hl 2 rfl) ?_
  refine lv_iload hx hb dL_law_1485 (lv_at hl 1 rfl) ?_
  refine lv_iconst (v := 1) hx hb dL_law_1487 (by decide) ?_
  refine lv_iadd hx hb dL_law_1488 ?_
  refine lv_topi (fun x_3 ex_3 => ?_)
  obtain rfl : x_3 = 1 := ex_3.trans (by decide)
  refine va_sld hx hb hX hbl hbA hS (by unfold vp_in; decide) dL_law_1489 ?_
  refine W.eq (g2 := F0 m 1490 ls [.int (xs 1), .ref (b 0)]) rfl ?_
  refine lv_aload_n hx hb dL_law_1490 rfl (lv_at hl 2 rfl) ?_
  refine lv_iload hx hb dL_law_1491 (lv_at hl 1 rfl) ?_
  refine lv_iconst (v := 2) hx hb dL_law_1493 (by decide) ?_
  refine lv_iadd hx hb dL_law_1494 ?_
  refine lv_topi (fun x_4 ex_4 => ?_)
  obtain rfl : x_4 = 2 := ex_4.trans (by decide)
  refine va_sld hx hb hX hbl hbA hS (by unfold vp_in; decide) dL_law_1495 ?_
  refine W.eq (g2 := F0 m 1496 ls [.int (xs 2), .int (xs 1), .ref (b 0)]) rfl ?_
  have hDm : va_D A (modW b r1 r2 g 0) := D_l (D_r hDD)
  have hFm : ∀ q, va_A (modW b r1 r2 g 0) H_1.size q → A q := A_all hDm hA hS.1
  refine va_calli (va_runV (As := [.int (xs 1), .int (xs 2)]) (rest := []) ⟨hx, hb, hml, hown, hts⟩ (c_X13_plan l dC dI g b r1 r2 (xs 1) (xs 2) 0 H_1.size) (cwV 2 hts (gX gL_law_X13_plan) rfl rfl rfl (by decide +kernel) ⟨Nat.le_of_ble_eq_true rfl, Nat.le_of_ble_eq_true rfl⟩) ⟨PG_blind, va_recv hK hPm (ci := 15) (q0 := 0) rfl (m_0 b r1 r2 g 0), PG_call hK hG hS hPm hDm hFm⟩ rfl rfl hl.1 rfl (lv_room (Nat.le_of_ble_eq_true rfl)) dL_law_1496 ⟨Nat.le_of_ble_eq_true rfl, Nat.le_of_ble_eq_true rfl⟩) hS (fun q _ h => hFm q h) hFm (fun r_2 u_2 t_2 H_2 L_2 ht_2 hvm_2 hw_2 hB_2 hz_2 hk_2 hS => ?_)
  replace hB_1 := kept_by hB_1 hk_2 (ap_ou hDD)
  obtain ⟨fs, hB_2⟩ := hB_2
  rw [ht_2] at hB_2
  refine lv_istore (lv' := [(7, .int r_2), (6, .int (cd (TOKb (xs 1)) (rngb (xs 2) 0 3) true)), (5, .int 0), (0, .ref bs), (1, .ref (a 0)), (2, .ref (b 0)), (3, .ref ou), (4, .ref od)]) hx hb dL_law_1499 hl (by decide) rfl (fun ls hl => ?_)
  refine lv_aload_n hx hb dL_law_1501 rfl (lv_at hl 5 rfl) ?_
  have hFt := A_one (e := .inr (15, .int ((cd (TOKb (xs 1)) (rngb (xs 2) 0 3) true)) :: fs)) (sz := 0) (H0 := H) (A_b0 hDD) hA hS
  have hDt : va_D A [(b 0, .inr (15, .int ((cd (TOKb (xs 1)) (rngb (xs 2) 0 3) true)) :: fs))] := D_one (A_b0 hDD)
  refine va_calli (va_runV (As := []) (rest := []) ⟨hx, hb, hml, hown, hts⟩ (c_X13_thrown l dC dI g [(b 0, .inr (15, .int ((cd (TOKb (xs 1)) (rngb (xs 2) 0 3) true)) :: fs))] (b 0) ((cd (TOKb (xs 1)) (rngb (xs 2) 0 3) true)) fs 0 rfl H_2.size) (cwV 0 hts (gX gL_law_X13_thrown) rfl rfl rfl (by decide +kernel) ⟨Nat.le_of_ble_eq_true rfl, Nat.le_of_ble_eq_true rfl⟩) ⟨PG_blind, va_recv hK hB_2 (ci := 15) (q0 := 0) rfl rfl, PG_call hK hG hS hB_2 hDt hFt⟩ rfl rfl hl.1 rfl (lv_room (Nat.le_of_ble_eq_true rfl)) dL_law_1502 ⟨Nat.le_of_ble_eq_true rfl, Nat.le_of_ble_eq_true rfl⟩) hS (fun q _ h => hFt q h) hFt (fun r_3 u_3 t_3 H_3 L_3 ht_3 hvm_3 hw_3 hB_3 hz_3 hk_3 hS => ?_)
  obtain rfl : r_3 = (cd (TOKb (xs 1)) (rngb (xs 2) 0 3) true) := hw_3
  replace hB_1 := kept_by hB_1 hk_3 (fun j k p q hj hk e => by
      obtain rfl : j = 0 := by
        have h1 := (List.getElem?_eq_some_iff.mp hj).1
        simp only [List.length_singleton] at h1
        omega
      cases hj
      exact ap_ou hDD 0 k _ q (m_0 b r1 r2 g 0) hk e)
  refine lv_iload hx hb dL_law_1505 (lv_at hl 1 rfl) ?_
  refine lv_icmp_eq (tgt := 1512) hx hb dL_law_1507 (by decide) (fun _ => ?_) (fun c9 => absurd rfl c9)
  refine lv_iload hx hb dL_law_1512 (lv_at hl 1 rfl) ?_
  refine lv_if_ne (tgt := 1529) hx hb dL_law_1514 (by decide) (fun h0 => ?_) (fun h0 => ?_)
  · refine lv_goto (tgt := 2812) hx hb dL_law_1529 (by decide) ?_
    refine W.widen (k := 6000) (n := 90000) (Nat.le_of_ble_eq_true rfl) (Nat.le_of_ble_eq_true rfl) ?_
    exact hend _ _ hS _ (lv_sub hl [2, 3] rfl)
  · obtain rfl : r_2 = 0 := hw_2 h0
    refine lv_aload_n hx hb dL_law_1517 rfl (lv_at hl 6 rfl) ?_
    refine lv_iconst (v := 0) hx hb dL_law_1518 (by decide) ?_
    refine va_lald hx hb hK hB_1 0 2 rfl rfl (by unfold vp_in; decide) dL_law_1519 ?_
    refine W.eq (g2 := F0 m 1520 ls [.long ((0 : Int32).toInt64)]) (by rw [show f_1 (0 : Int32).toNatClampNeg = (0 : Int32).toInt64 from hv1 h0]) ?_
    refine lv_iload hx hb dL_law_1520 (lv_at hl 0 rfl) ?_
    refine lv_i2l (v := (0 : Int32).toInt64) hx hb dL_law_1522 rfl ?_
    refine W.lcmp hx hb dL_law_1523 ?_
    refine W.eq (g2 := F0 m 1524 ls [.int 0]) (by first | rw [lg_cmp_self] | exact congrArg (fun z => F0 m 1524 ls [.int z]) (lg_cmp_self _)) ?_
    refine lv_if_eq (tgt := 1529) hx hb dL_law_1524 (by decide) (fun c_5 => ?_) (fun c_5 => absurd (by decide) c_5)
    refine lv_goto (tgt := 2812) hx hb dL_law_1529 (by decide) ?_
    refine W.widen (k := 6000) (n := 90000) (Nat.le_of_ble_eq_true rfl) (Nat.le_of_ble_eq_true rfl) ?_
    exact hend _ _ hS _ (lv_sub hl [2, 3] rfl)
set_option maxHeartbeats 4000000 in
set_option maxRecDepth 100000 in
theorem law_20 {l : Launch} {p : Program} {e : Env} {s : State} {m : MethodId} {below : List Frame} {meth : Method} {c : Code} {bs : Nat} {xs : Nat → Int32} {A : Nat → Prop} {dC : Nat → ClassId} {dI : Nat → Nat → Nat} {g : Nat → ClassId} {a b r1 r2 : Nat → Nat} {ou od : Nat} {Q : State → Prop} {H : Heap} {locs : List Loc} {ls : Array Slot} (C9 : LC l p s m c bs xs A dC dI g a b r1 r2 ou od) (hP : va_P (dC, dI) vwCl (lawL a g ou ++ lawR b r1 r2 g od) H) (hS : va_S A s.heap H locs) (hl : lv_has ls 10 [(5, .int 0), (0, .ref bs), (1, .ref (a 0)), (2, .ref (b 0)), (3, .ref ou), (4, .ref od)]) (hend : ∀ (H : Heap) (locs : List Loc), va_S A s.heap H locs → ∀ (ls : Array Slot), lv_has ls 10 [(5, .int 0), (0, .ref bs)] → W p l e room_1 s m #[Value.ref bs] below meth c H locs 6000 90000 Q (F0 m 2812 ls [])) : W p l e room_1 s m #[Value.ref bs] below meth c H locs 2000 30000 Q (F0 m 1532 ls []) := by
  obtain ⟨hlf, hx, hb, hml, hown, hts, hX, hbl, hbA, hK, hG, hA, hDD⟩ := C9
  refine lv_aload_n hx hb dL_law_1532 rfl (lv_at hl 2 rfl) ?_
  refine lv_aload_n hx hb dL_law_1533 rfl (lv_at hl 1 rfl) ?_
  refine lv_iload hx hb dL_law_1534 (lv_at hl 0 rfl) ?_
  refine lv_iconst (v := 1) hx hb dL_law_1536 (by decide) ?_
  refine lv_iadd hx hb dL_law_1537 ?_
  refine lv_topi (fun x_1 ex_1 => ?_)
  obtain rfl : x_1 = 1 := ex_1.trans (by decide)
  refine va_sld hx hb hX hbl hbA hS (by unfold vp_in; decide) dL_law_1538 ?_
  refine W.eq (g2 := F0 m 1539 ls [.int (xs 1), .ref (a 0)]) rfl ?_
  refine lv_aload_n hx hb dL_law_1539 rfl (lv_at hl 4 rfl) ?_
  have hPc : va_P (dC, dI) vwCl (offW a g ++ [(ou, .inl (g 2, 1, .inr (.inl (fun _ => 0))))]) H := P_l hP
  have hDc : va_D A (offW a g ++ [(ou, .inl (g 2, 1, .inr (.inl (fun _ => 0))))]) := D_l hDD
  have hPm0 : va_P (dC, dI) vwCl (modW b r1 r2 g 0) H := P_l (P_r hP)
  have hFc : ∀ q, va_A (offW a g ++ [(ou, .inl (g 2, 1, .inr (.inl (fun _ => 0))))]) H.size q → A q := A_all hDc hA hS.1
  refine va_calli (vx_runSW (As := [.ref (a 0), .int (xs 1), .ref ou]) (rest := []) ⟨hx, hb, hml, hown, hts⟩ (c_L_leastMoves l hlf dC dI g a (xs 1) ou (fun _ => 0) H.size) (vx_cwSW 3 hts (gX gL_law_L_leastMoves) rfl rfl rfl (by decide +kernel) ⟨Nat.le_of_ble_eq_true rfl, Nat.le_of_ble_eq_true rfl⟩) ⟨PG_blind, PG_call hK hG hS hPc hDc hFc⟩ rfl rfl hl.1 rfl (lv_room (Nat.le_of_ble_eq_true rfl)) dL_law_1540 ⟨Nat.le_of_ble_eq_true rfl, Nat.le_of_ble_eq_true rfl⟩) hS (fun q _ h => hFc q h) hFc (fun r_1 f_1 t_1 H_1 L_1 ht_1 hvm_1 hw_1 hB_1 hz_1 hk_1 hS => ?_)
  rw [ht_1] at hB_1
  have hPm : va_P (dC, dI) vwCl (modW b r1 r2 g 0) H_1 := P_l (rest_kept hP hDD hk_1)
  obtain ⟨hr1, hv1⟩ := hw_1
  obtain rfl : r_1 = (cd (TOKb (xs 1)) true true) := hr1
  refine lv_istore (lv' := [(6, .int (cd (TOKb (xs 1)) true true)), (5, .int 0), (0, .ref bs), (1, .ref (a 0)), (2, .ref (b 0)), (3, .ref ou), (4, .ref od)]) hx hb dL_law_1543 hl (by decide) rfl (fun ls hl => ?_)
  refine lv_aload_n hx hb dL_law_1545 rfl (lv_at hl 4 rfl) ?_
  refine lv_aload_n hx hb dL_law_1546 rfl (lv_at hl 2 rfl) ?_
  refine lv_iload hx hb dL_law_1547 (lv_at hl 1 rfl) ?_
  refine lv_iconst (v := 1) hx hb dL_law_1549 (by decide) ?_
  refine lv_iadd hx hb dL_law_1550 ?_
  refine lv_topi (fun x_2 ex_2 => ?_)
  obtain rfl : x_2 = 1 := ex_2.trans (by decide)
  refine va_sld hx hb hX hbl hbA hS (by unfold vp_in; decide) dL_law_1551 ?_
  refine W.eq (g2 := F0 m 1552 ls [.int (xs 1), .ref (b 0)]) rfl ?_
  have hDm : va_D A (modW b r1 r2 g 0) := D_l (D_r hDD)
  have hFm : ∀ q, va_A (modW b r1 r2 g 0) H_1.size q → A q := A_all hDm hA hS.1
  refine va_calli (va_runV (As := [.int (xs 1)]) (rest := []) ⟨hx, hb, hml, hown, hts⟩ (c_X13_leastMoves l dC dI g b r1 r2 (xs 1) 0 H_1.size) (cwV 1 hts (gX gL_law_X13_leastMoves) rfl rfl rfl (by decide +kernel) ⟨Nat.le_of_ble_eq_true rfl, Nat.le_of_ble_eq_true rfl⟩) ⟨PG_blind, va_recv hK hPm (ci := 15) (q0 := 0) rfl (m_0 b r1 r2 g 0), PG_call hK hG hS hPm hDm hFm⟩ rfl rfl hl.1 rfl (lv_room (Nat.le_of_ble_eq_true rfl)) dL_law_1552 ⟨Nat.le_of_ble_eq_true rfl, Nat.le_of_ble_eq_true rfl⟩) hS (fun q _ h => hFm q h) hFm (fun r_2 u_2 t_2 H_2 L_2 ht_2 hvm_2 hw_2 hB_2 hz_2 hk_2 hS => ?_)
  replace hB_1 := kept_by hB_1 hk_2 (ap_ou hDD)
  obtain ⟨fs, hB_2⟩ := hB_2
  rw [ht_2] at hB_2
  refine lv_istore (lv' := [(7, .int r_2), (6, .int (cd (TOKb (xs 1)) true true)), (5, .int 0), (0, .ref bs), (1, .ref (a 0)), (2, .ref (b 0)), (3, .ref ou), (4, .ref od)]) hx hb dL_law_1555 hl (by decide) rfl (fun ls hl => ?_)
  refine lv_aload_n hx hb dL_law_1557 rfl (lv_at hl 5 rfl) ?_
  have hFt := A_one (e := .inr (15, .int ((cd (TOKb (xs 1)) true true)) :: fs)) (sz := 0) (H0 := H) (A_b0 hDD) hA hS
  have hDt : va_D A [(b 0, .inr (15, .int ((cd (TOKb (xs 1)) true true)) :: fs))] := D_one (A_b0 hDD)
  refine va_calli (va_runV (As := []) (rest := []) ⟨hx, hb, hml, hown, hts⟩ (c_X13_thrown l dC dI g [(b 0, .inr (15, .int ((cd (TOKb (xs 1)) true true)) :: fs))] (b 0) ((cd (TOKb (xs 1)) true true)) fs 0 rfl H_2.size) (cwV 0 hts (gX gL_law_X13_thrown) rfl rfl rfl (by decide +kernel) ⟨Nat.le_of_ble_eq_true rfl, Nat.le_of_ble_eq_true rfl⟩) ⟨PG_blind, va_recv hK hB_2 (ci := 15) (q0 := 0) rfl rfl, PG_call hK hG hS hB_2 hDt hFt⟩ rfl rfl hl.1 rfl (lv_room (Nat.le_of_ble_eq_true rfl)) dL_law_1558 ⟨Nat.le_of_ble_eq_true rfl, Nat.le_of_ble_eq_true rfl⟩) hS (fun q _ h => hFt q h) hFt (fun r_3 u_3 t_3 H_3 L_3 ht_3 hvm_3 hw_3 hB_3 hz_3 hk_3 hS => ?_)
  obtain rfl : r_3 = (cd (TOKb (xs 1)) true true) := hw_3
  replace hB_1 := kept_by hB_1 hk_3 (fun j k p q hj hk e => by
      obtain rfl : j = 0 := by
        have h1 := (List.getElem?_eq_some_iff.mp hj).1
        simp only [List.length_singleton] at h1
        omega
      cases hj
      exact ap_ou hDD 0 k _ q (m_0 b r1 r2 g 0) hk e)
  refine lv_iload hx hb dL_law_1561 (lv_at hl 1 rfl) ?_
  refine lv_icmp_eq (tgt := 1568) hx hb dL_law_1563 (by decide) (fun _ => ?_) (fun c9 => absurd rfl c9)
  refine lv_iload hx hb dL_law_1568 (lv_at hl 1 rfl) ?_
  refine lv_if_ne (tgt := 1585) hx hb dL_law_1570 (by decide) (fun h0 => ?_) (fun h0 => ?_)
  · refine lv_goto (tgt := 2812) hx hb dL_law_1585 (by decide) ?_
    refine W.widen (k := 6000) (n := 90000) (Nat.le_of_ble_eq_true rfl) (Nat.le_of_ble_eq_true rfl) ?_
    exact hend _ _ hS _ (lv_sub hl [2, 3] rfl)
  · obtain rfl : r_2 = 0 := hw_2 h0
    refine lv_aload_n hx hb dL_law_1573 rfl (lv_at hl 6 rfl) ?_
    refine lv_iconst (v := 0) hx hb dL_law_1574 (by decide) ?_
    refine va_lald hx hb hK hB_1 0 2 rfl rfl (by unfold vp_in; decide) dL_law_1575 ?_
    refine W.eq (g2 := F0 m 1576 ls [.long ((0 : Int32).toInt64)]) (by rw [show f_1 (0 : Int32).toNatClampNeg = (0 : Int32).toInt64 from hv1 h0]) ?_
    refine lv_iload hx hb dL_law_1576 (lv_at hl 0 rfl) ?_
    refine lv_i2l (v := (0 : Int32).toInt64) hx hb dL_law_1578 rfl ?_
    refine W.lcmp hx hb dL_law_1579 ?_
    refine W.eq (g2 := F0 m 1580 ls [.int 0]) (by first | rw [lg_cmp_self] | exact congrArg (fun z => F0 m 1580 ls [.int z]) (lg_cmp_self _)) ?_
    refine lv_if_eq (tgt := 1585) hx hb dL_law_1580 (by decide) (fun c_3 => ?_) (fun c_3 => absurd (by decide) c_3)
    refine lv_goto (tgt := 2812) hx hb dL_law_1585 (by decide) ?_
    refine W.widen (k := 6000) (n := 90000) (Nat.le_of_ble_eq_true rfl) (Nat.le_of_ble_eq_true rfl) ?_
    exact hend _ _ hS _ (lv_sub hl [2, 3] rfl)
set_option maxHeartbeats 4000000 in
set_option maxRecDepth 100000 in
theorem law_21 {l : Launch} {p : Program} {e : Env} {s : State} {m : MethodId} {below : List Frame} {meth : Method} {c : Code} {bs : Nat} {xs : Nat → Int32} {A : Nat → Prop} {dC : Nat → ClassId} {dI : Nat → Nat → Nat} {g : Nat → ClassId} {a b r1 r2 : Nat → Nat} {ou od : Nat} {Q : State → Prop} {H : Heap} {locs : List Loc} {ls : Array Slot} (C9 : LC l p s m c bs xs A dC dI g a b r1 r2 ou od) (hP : va_P (dC, dI) vwCl (lawL a g ou ++ lawR b r1 r2 g od) H) (hS : va_S A s.heap H locs) (hl : lv_has ls 10 [(5, .int 0), (0, .ref bs), (1, .ref (a 0)), (2, .ref (b 0)), (3, .ref ou), (4, .ref od)]) (hend : ∀ (H : Heap) (locs : List Loc), va_S A s.heap H locs → ∀ (ls : Array Slot), lv_has ls 10 [(5, .int 0), (0, .ref bs)] → W p l e room_1 s m #[Value.ref bs] below meth c H locs 6000 90000 Q (F0 m 2812 ls [])) : W p l e room_1 s m #[Value.ref bs] below meth c H locs 2000 30000 Q (F0 m 1588 ls []) := by
  obtain ⟨hlf, hx, hb, hml, hown, hts, hX, hbl, hbA, hK, hG, hA, hDD⟩ := C9
  refine lv_aload_n hx hb dL_law_1588 rfl (lv_at hl 2 rfl) ?_
  refine lv_aload_n hx hb dL_law_1589 rfl (lv_at hl 1 rfl) ?_
  refine lv_iload hx hb dL_law_1590 (lv_at hl 0 rfl) ?_
  refine lv_iconst (v := 1) hx hb dL_law_1592 (by decide) ?_
  refine lv_iadd hx hb dL_law_1593 ?_
  refine lv_topi (fun x_1 ex_1 => ?_)
  obtain rfl : x_1 = 1 := ex_1.trans (by decide)
  refine va_sld hx hb hX hbl hbA hS (by unfold vp_in; decide) dL_law_1594 ?_
  refine W.eq (g2 := F0 m 1595 ls [.int (xs 1), .ref (a 0)]) rfl ?_
  refine lv_aload_n hx hb dL_law_1595 rfl (lv_at hl 1 rfl) ?_
  refine lv_iload hx hb dL_law_1596 (lv_at hl 0 rfl) ?_
  refine lv_iconst (v := 2) hx hb dL_law_1598 (by decide) ?_
  refine lv_iadd hx hb dL_law_1599 ?_
  refine lv_topi (fun x_2 ex_2 => ?_)
  obtain rfl : x_2 = 2 := ex_2.trans (by decide)
  refine va_sld hx hb hX hbl hbA hS (by unfold vp_in; decide) dL_law_1600 ?_
  refine W.eq (g2 := F0 m 1601 ls [.int (xs 2), .int (xs 1), .ref (a 0)]) rfl ?_
  refine lv_aload_n hx hb dL_law_1601 rfl (lv_at hl 4 rfl) ?_
  have hPc : va_P (dC, dI) vwCl (offW a g ++ [(ou, .inl (g 2, 1, .inr (.inl (fun _ => 0))))]) H := P_l hP
  have hDc : va_D A (offW a g ++ [(ou, .inl (g 2, 1, .inr (.inl (fun _ => 0))))]) := D_l hDD
  have hPm0 : va_P (dC, dI) vwCl (modW b r1 r2 g 0) H := P_l (P_r hP)
  have hFc : ∀ q, va_A (offW a g ++ [(ou, .inl (g 2, 1, .inr (.inl (fun _ => 0))))]) H.size q → A q := A_all hDc hA hS.1
  refine va_calli (vx_runSW (As := [.ref (a 0), .int (xs 1), .int (xs 2), .ref ou]) (rest := []) ⟨hx, hb, hml, hown, hts⟩ (c_L_begin l hlf dC dI g a (xs 1) (xs 2) ou (fun _ => 0) H.size) (vx_cwSW 4 hts (gX gL_law_L_begin) rfl rfl rfl (by decide +kernel) ⟨Nat.le_of_ble_eq_true rfl, Nat.le_of_ble_eq_true rfl⟩) ⟨PG_blind, PG_call hK hG hS hPc hDc hFc⟩ rfl rfl hl.1 rfl (lv_room (Nat.le_of_ble_eq_true rfl)) dL_law_1602 ⟨Nat.le_of_ble_eq_true rfl, Nat.le_of_ble_eq_true rfl⟩) hS (fun q _ h => hFc q h) hFc (fun r_1 f_1 t_1 H_1 L_1 ht_1 hvm_1 hw_1 hB_1 hz_1 hk_1 hS => ?_)
  rw [ht_1] at hB_1
  have hPm : va_P (dC, dI) vwCl (modW b r1 r2 g 0) H_1 := P_l (rest_kept hP hDD hk_1)
  obtain ⟨hr1, hv1⟩ := hw_1
  obtain rfl : r_1 = (cd (TOKb (xs 1) && TOKb (xs 2)) true true) := hr1
  refine lv_istore (lv' := [(6, .int (cd (TOKb (xs 1) && TOKb (xs 2)) true true)), (5, .int 0), (0, .ref bs), (1, .ref (a 0)), (2, .ref (b 0)), (3, .ref ou), (4, .ref od)]) hx hb dL_law_1605 hl (by decide) rfl (fun ls hl => ?_)
  refine lv_aload_n hx hb dL_law_1607 rfl (lv_at hl 4 rfl) ?_
  refine lv_aload_n hx hb dL_law_1608 rfl (lv_at hl 2 rfl) ?_
  refine lv_iload hx hb dL_law_1609 (lv_at hl 1 rfl) ?_
  refine lv_iconst (v := 1) hx hb dL_law_1611 (by decide) ?_
  refine lv_iadd hx hb dL_law_1612 ?_
  refine lv_topi (fun x_3 ex_3 => ?_)
  obtain rfl : x_3 = 1 := ex_3.trans (by decide)
  refine va_sld hx hb hX hbl hbA hS (by unfold vp_in; decide) dL_law_1613 ?_
  refine W.eq (g2 := F0 m 1614 ls [.int (xs 1), .ref (b 0)]) rfl ?_
  refine lv_aload_n hx hb dL_law_1614 rfl (lv_at hl 2 rfl) ?_
  refine lv_iload hx hb dL_law_1615 (lv_at hl 1 rfl) ?_
  refine lv_iconst (v := 2) hx hb dL_law_1617 (by decide) ?_
  refine lv_iadd hx hb dL_law_1618 ?_
  refine lv_topi (fun x_4 ex_4 => ?_)
  obtain rfl : x_4 = 2 := ex_4.trans (by decide)
  refine va_sld hx hb hX hbl hbA hS (by unfold vp_in; decide) dL_law_1619 ?_
  refine W.eq (g2 := F0 m 1620 ls [.int (xs 2), .int (xs 1), .ref (b 0)]) rfl ?_
  have hDm : va_D A (modW b r1 r2 g 0) := D_l (D_r hDD)
  have hFm : ∀ q, va_A (modW b r1 r2 g 0) H_1.size q → A q := A_all hDm hA hS.1
  refine va_calli (va_runV (As := [.int (xs 1), .int (xs 2)]) (rest := []) ⟨hx, hb, hml, hown, hts⟩ (c_X13_begin l dC dI g b r1 r2 (xs 1) (xs 2) 0 H_1.size) (cwV 2 hts (gX gL_law_X13_begin) rfl rfl rfl (by decide +kernel) ⟨Nat.le_of_ble_eq_true rfl, Nat.le_of_ble_eq_true rfl⟩) ⟨PG_blind, va_recv hK hPm (ci := 15) (q0 := 0) rfl (m_0 b r1 r2 g 0), PG_call hK hG hS hPm hDm hFm⟩ rfl rfl hl.1 rfl (lv_room (Nat.le_of_ble_eq_true rfl)) dL_law_1620 ⟨Nat.le_of_ble_eq_true rfl, Nat.le_of_ble_eq_true rfl⟩) hS (fun q _ h => hFm q h) hFm (fun r_2 u_2 t_2 H_2 L_2 ht_2 hvm_2 hw_2 hB_2 hz_2 hk_2 hS => ?_)
  replace hB_1 := kept_by hB_1 hk_2 (ap_ou hDD)
  obtain ⟨fs, hB_2⟩ := hB_2
  rw [ht_2] at hB_2
  refine lv_istore (lv' := [(7, .int r_2), (6, .int (cd (TOKb (xs 1) && TOKb (xs 2)) true true)), (5, .int 0), (0, .ref bs), (1, .ref (a 0)), (2, .ref (b 0)), (3, .ref ou), (4, .ref od)]) hx hb dL_law_1623 hl (by decide) rfl (fun ls hl => ?_)
  refine lv_aload_n hx hb dL_law_1625 rfl (lv_at hl 5 rfl) ?_
  have hFt := A_one (e := .inr (15, .int ((cd (TOKb (xs 1) && TOKb (xs 2)) true true)) :: fs)) (sz := 0) (H0 := H) (A_b0 hDD) hA hS
  have hDt : va_D A [(b 0, .inr (15, .int ((cd (TOKb (xs 1) && TOKb (xs 2)) true true)) :: fs))] := D_one (A_b0 hDD)
  refine va_calli (va_runV (As := []) (rest := []) ⟨hx, hb, hml, hown, hts⟩ (c_X13_thrown l dC dI g [(b 0, .inr (15, .int ((cd (TOKb (xs 1) && TOKb (xs 2)) true true)) :: fs))] (b 0) ((cd (TOKb (xs 1) && TOKb (xs 2)) true true)) fs 0 rfl H_2.size) (cwV 0 hts (gX gL_law_X13_thrown) rfl rfl rfl (by decide +kernel) ⟨Nat.le_of_ble_eq_true rfl, Nat.le_of_ble_eq_true rfl⟩) ⟨PG_blind, va_recv hK hB_2 (ci := 15) (q0 := 0) rfl rfl, PG_call hK hG hS hB_2 hDt hFt⟩ rfl rfl hl.1 rfl (lv_room (Nat.le_of_ble_eq_true rfl)) dL_law_1626 ⟨Nat.le_of_ble_eq_true rfl, Nat.le_of_ble_eq_true rfl⟩) hS (fun q _ h => hFt q h) hFt (fun r_3 u_3 t_3 H_3 L_3 ht_3 hvm_3 hw_3 hB_3 hz_3 hk_3 hS => ?_)
  obtain rfl : r_3 = (cd (TOKb (xs 1) && TOKb (xs 2)) true true) := hw_3
  replace hB_1 := kept_by hB_1 hk_3 (fun j k p q hj hk e => by
      obtain rfl : j = 0 := by
        have h1 := (List.getElem?_eq_some_iff.mp hj).1
        simp only [List.length_singleton] at h1
        omega
      cases hj
      exact ap_ou hDD 0 k _ q (m_0 b r1 r2 g 0) hk e)
  refine lv_iload hx hb dL_law_1629 (lv_at hl 1 rfl) ?_
  refine lv_icmp_eq (tgt := 1636) hx hb dL_law_1631 (by decide) (fun _ => ?_) (fun c9 => absurd rfl c9)
  refine lv_iload hx hb dL_law_1636 (lv_at hl 1 rfl) ?_
  refine lv_if_ne (tgt := 1653) hx hb dL_law_1638 (by decide) (fun h0 => ?_) (fun h0 => ?_)
  · refine lv_goto (tgt := 2812) hx hb dL_law_1653 (by decide) ?_
    refine W.widen (k := 6000) (n := 90000) (Nat.le_of_ble_eq_true rfl) (Nat.le_of_ble_eq_true rfl) ?_
    exact hend _ _ hS _ (lv_sub hl [2, 3] rfl)
  · obtain rfl : r_2 = 0 := hw_2 h0
    refine lv_aload_n hx hb dL_law_1641 rfl (lv_at hl 6 rfl) ?_
    refine lv_iconst (v := 0) hx hb dL_law_1642 (by decide) ?_
    refine va_lald hx hb hK hB_1 0 2 rfl rfl (by unfold vp_in; decide) dL_law_1643 ?_
    refine W.eq (g2 := F0 m 1644 ls [.long ((0 : Int32).toInt64)]) (by rw [show f_1 (0 : Int32).toNatClampNeg = (0 : Int32).toInt64 from hv1 h0]) ?_
    refine lv_iload hx hb dL_law_1644 (lv_at hl 0 rfl) ?_
    refine lv_i2l (v := (0 : Int32).toInt64) hx hb dL_law_1646 rfl ?_
    refine W.lcmp hx hb dL_law_1647 ?_
    refine W.eq (g2 := F0 m 1648 ls [.int 0]) (by first | rw [lg_cmp_self] | exact congrArg (fun z => F0 m 1648 ls [.int z]) (lg_cmp_self _)) ?_
    refine lv_if_eq (tgt := 1653) hx hb dL_law_1648 (by decide) (fun c_5 => ?_) (fun c_5 => absurd (by decide) c_5)
    refine lv_goto (tgt := 2812) hx hb dL_law_1653 (by decide) ?_
    refine W.widen (k := 6000) (n := 90000) (Nat.le_of_ble_eq_true rfl) (Nat.le_of_ble_eq_true rfl) ?_
    exact hend _ _ hS _ (lv_sub hl [2, 3] rfl)
