
theorem in_at {big ws : List Cond} (ps : List Nat) (h : ps.map (fun i => big[i]?) = ws.map some) : ∀ w ∈ ws, w ∈ big := by
  intro w hw
  obtain ⟨k, hk, rfl⟩ := List.mem_iff_getElem.mp hw
  have h1 : (ps.map (fun i => big[i]?))[k]? = some (some ws[k]) := by rw [h]; simp [hk]
  rw [List.getElem?_map] at h1
  cases hp : ps[k]? with
  | none => rw [hp] at h1; cases h1
  | some i =>
    rw [hp] at h1
    exact List.mem_of_getElem? (Option.some.inj h1)
abbrev nw : List Cond := flatC (Jvm.Cond.and given_1 narrow_1)
theorem str_R {A : Array Value} {s : State} {own tx : String} {k : Nat} (h : (Cond.stringRef own k tx).before A s = true) : ∃ a : Nat, vk_R own k tx a s := by
  have hcur : ∃ cur, s.vm.findClass own = some cur := by
    have h1 := h
    simp only [Cond.before, Cond.holds, Cond.value] at h1
    cases hc : s.vm.findClass own with
    | none => simp [hc] at h1
    | some cur => exact ⟨cur, rfl⟩
  obtain ⟨cur, hcur⟩ := hcur
  obtain ⟨k', cf, i, a, -, -, -, -, -, hev⟩ := Cond.stringRef_spec hcur h
  exact ⟨a, vk_R.of h hev⟩
theorem arr_c {A : Array Value} {s : State} {ty : FieldType} (h : (Cond.arrayClass ty).before A s = true) : ∃ c : ClassId, ArrOfT s c ty ∧ s.vm.findClass ("[" ++ ty.toString) = some c := by
  obtain ⟨c, k, comp, h1, h2, h3⟩ := Cond.arrayClass_spec h
  exact ⟨c, fun n z => ⟨fun k h => (by cases h), k, h2, comp, h3⟩, h1⟩
theorem arr_o {A : Array Value} {s : State} {C : String} (h : (Cond.arrayOver (.object C)).before A s = true) : ∃ c : ClassId, ArrOfT s c (.object C) ∧ va_RA s c (.object C) := by
  obtain ⟨comp, c, k, h1, -, h2, h3, h4⟩ := Cond.arrayOver_spec h
  exact ⟨c, fun n z => ⟨fun k h => (by cases h), k, h2, comp, h3⟩, k, comp, h2, h3, h1, h4⟩
theorem arr_a {s : State} (h : va_AOA .int s) : ∃ c : ClassId, ArrOfT s c (.array .int) ∧ s.vm.findClass "[[I" = some c := by
  obtain ⟨comp, c, k, h1, h2, h3, h4⟩ := AOA_at h
  exact ⟨c, fun n z => ⟨fun k h => (by cases h), k, h2, comp, h3⟩, h4⟩
def fnW (q : String × Nat × String × String × String × String) : Cond := .fieldLinkNest q.1 q.2.1 q.2.2.1 q.2.2.2.1 q.2.2.2.2.1 q.2.2.2.2.2
def mnW (q : String × Nat × MethodName × String) : Cond := .methodLinkNest q.1 q.2.1 q.2.2.1 q.2.2.2
def stW (q : String × Nat × String) : Cond := .stringRef q.1 q.2.1 q.2.2
theorem fn_in : ∀ w ∈ p_fn.map fnW, w ∈ lw_tbl := in_at [147, 165, 166, 167, 168, 181, 182, 183, 184, 186, 187, 188, 189, 191, 192, 193, 194, 196, 197, 198, 199, 201, 202, 203, 204, 241, 243, 244, 245, 246, 247, 277, 278, 280, 295, 301, 302, 304, 305, 307, 308, 347, 349, 350, 352, 353, 355, 356, 359, 361, 407, 408, 417, 420, 426, 428, 430, 432, 434, 436, 1886, 1888, 1892, 1894, 1896, 1899, 1901] (by decide +kernel)
theorem mn_in : ∀ w ∈ p_mn.map mnW, w ∈ lw_tbl := in_at [140, 159, 176, 218, 234, 262, 268, 328, 333, 335, 337, 395, 401, 415, 466, 471, 473, 475, 477, 479, 481, 1867, 1954] (by decide +kernel)
theorem st_in : ∀ w ∈ p_st.map stW, w ∈ lw_tbl := in_at [594, 670, 679, 680, 681, 682, 683, 684, 685, 686, 687, 692, 697, 698, 699, 700, 705, 706, 989, 1028, 1048, 1074, 1094, 1121, 1179, 1199, 1284, 1304, 1323, 1342, 1369, 1383, 1410, 1422, 1423, 1424, 1440, 2074, 2075, 2076, 2105, 2126, 2135, 2136, 2137, 2138, 2139, 2140, 2141, 2142, 2143, 2144, 2145, 2146, 2151, 2156, 2157, 2158, 2159] (by decide +kernel)
theorem xc_in : ∀ w ∈ p_xc.map (fun X => Cond.castable X X), w ∈ lw_tbl := in_at [949, 1021, 1041, 1362] (by decide +kernel)
theorem cc_in : ∀ w ∈ p_cc.map (fun q => Cond.castable q.1 q.2), w ∈ lw_tbl := in_at [1713, 2213] (by decide +kernel)
theorem nc_in : ∀ w ∈ p_nc.map (fun q => Cond.not (.castable q.1 q.2)), w ∈ nw := in_at [33, 34, 53, 38, 76] (by decide +kernel)
def tmS (own : String) (k : Nat) : Term := .string own k
def hdS (own : String) (k i : Nat) : List Cond := [Cond.exactly (tmS own k) "java/lang/String", Cond.eq (.field (tmS own k) "java/lang/String" "coder" "B") (.int 0), Cond.arrayOf (.field (tmS own k) "java/lang/String" "value" "[B") .byte, Cond.eq (.length (.field (tmS own k) "java/lang/String" "value" "[B")) (.int (Int32.ofNat (lnS i)))]
def elS (own : String) (k i : Nat) : List Cond := (List.range (lnS i)).map (fun j => Cond.eq (.elem (.field (tmS own k) "java/lang/String" "value" "[B") (.int (Int32.ofNat j))) (.int ((p_bx.getD i []).getD j 0)))
theorem hdS_0 : ∀ w ∈ hdS "RunmergeOffice" 316 0, w ∈ nw := in_at [688, 689, 690, 691] (by decide +kernel)
theorem elS_0 : ∀ w ∈ elS "RunmergeOffice" 316 0, w ∈ nw := in_at [692, 693, 694, 695, 696, 697, 698, 699, 700, 701, 702, 703, 704, 705, 706, 707, 708, 709, 710, 711, 712, 713, 714, 715, 716, 717, 718, 719, 720, 721, 722, 723, 724, 725, 726, 727, 728, 729, 730, 731, 732, 733, 734, 735, 736, 737, 738, 739, 740, 741, 742, 743, 744, 745, 746, 747, 748, 749, 750, 751, 752, 753, 754, 755, 756, 757, 758, 759, 760, 761, 762, 763, 764, 765, 766, 767, 768, 769, 770, 771, 772, 773, 774, 775] (by decide +kernel)
theorem hdS_1 : ∀ w ∈ hdS "RunmergeOffice" 318 1, w ∈ nw := in_at [776, 777, 778, 779] (by decide +kernel)
theorem elS_1 : ∀ w ∈ elS "RunmergeOffice" 318 1, w ∈ nw := in_at [780, 781, 782, 783, 784, 785, 786, 787, 788, 789, 790, 791, 792, 793, 794, 795, 796, 797, 798, 799, 800, 801, 802, 803, 804, 805, 806, 807, 808, 809, 810, 811, 812, 813, 814, 815, 816, 817, 818, 819, 820, 821, 822, 823, 824, 825, 826, 827, 828, 829, 830, 831, 832, 833, 834, 835, 836, 837, 838, 839, 840, 841, 842, 843, 844, 845, 846, 847, 848, 849, 850, 851, 852, 853, 854, 855, 856, 857, 858, 859, 860, 861, 862, 863, 864, 865, 866, 867, 868, 869, 870, 871, 872, 873, 874, 875, 876, 877, 878, 879, 880, 881, 882, 883, 884, 885, 886] (by decide +kernel)
theorem hdS_2 : ∀ w ∈ hdS "RunmergeOffice" 320 2, w ∈ nw := in_at [887, 888, 889, 890] (by decide +kernel)
theorem elS_2 : ∀ w ∈ elS "RunmergeOffice" 320 2, w ∈ nw := in_at [891, 892, 893, 894, 895, 896, 897, 898, 899, 900, 901, 902, 903, 904, 905, 906, 907, 908, 909, 910, 911, 912, 913, 914, 915, 916, 917, 918, 919, 920, 921, 922, 923, 924, 925, 926, 927, 928, 929, 930, 931, 932, 933, 934, 935, 936, 937, 938, 939, 940, 941, 942, 943, 944, 945, 946, 947, 948, 949, 950, 951, 952, 953, 954, 955, 956] (by decide +kernel)
theorem hdS_3 : ∀ w ∈ hdS "RunmergeOfficeModel" 221 0, w ∈ nw := in_at [982, 983, 984, 985] (by decide +kernel)
theorem elS_3 : ∀ w ∈ elS "RunmergeOfficeModel" 221 0, w ∈ nw := in_at [986, 987, 988, 989, 990, 991, 992, 993, 994, 995, 996, 997, 998, 999, 1000, 1001, 1002, 1003, 1004, 1005, 1006, 1007, 1008, 1009, 1010, 1011, 1012, 1013, 1014, 1015, 1016, 1017, 1018, 1019, 1020, 1021, 1022, 1023, 1024, 1025, 1026, 1027, 1028, 1029, 1030, 1031, 1032, 1033, 1034, 1035, 1036, 1037, 1038, 1039, 1040, 1041, 1042, 1043, 1044, 1045, 1046, 1047, 1048, 1049, 1050, 1051, 1052, 1053, 1054, 1055, 1056, 1057, 1058, 1059, 1060, 1061, 1062, 1063, 1064, 1065, 1066, 1067, 1068, 1069] (by decide +kernel)
theorem hdS_4 : ∀ w ∈ hdS "RunmergeOfficeModel" 223 1, w ∈ nw := in_at [1071, 1072, 1073, 1074] (by decide +kernel)
theorem elS_4 : ∀ w ∈ elS "RunmergeOfficeModel" 223 1, w ∈ nw := in_at [1075, 1076, 1077, 1078, 1079, 1080, 1081, 1082, 1083, 1084, 1085, 1086, 1087, 1088, 1089, 1090, 1091, 1092, 1093, 1094, 1095, 1096, 1097, 1098, 1099, 1100, 1101, 1102, 1103, 1104, 1105, 1106, 1107, 1108, 1109, 1110, 1111, 1112, 1113, 1114, 1115, 1116, 1117, 1118, 1119, 1120, 1121, 1122, 1123, 1124, 1125, 1126, 1127, 1128, 1129, 1130, 1131, 1132, 1133, 1134, 1135, 1136, 1137, 1138, 1139, 1140, 1141, 1142, 1143, 1144, 1145, 1146, 1147, 1148, 1149, 1150, 1151, 1152, 1153, 1154, 1155, 1156, 1157, 1158, 1159, 1160, 1161, 1162, 1163, 1164, 1165, 1166, 1167, 1168, 1169, 1170, 1171, 1172, 1173, 1174, 1175, 1176, 1177, 1178, 1179, 1180, 1181] (by decide +kernel)
theorem hdS_5 : ∀ w ∈ hdS "RunmergeOfficeModel" 225 2, w ∈ nw := in_at [1183, 1184, 1185, 1186] (by decide +kernel)
theorem elS_5 : ∀ w ∈ elS "RunmergeOfficeModel" 225 2, w ∈ nw := in_at [1187, 1188, 1189, 1190, 1191, 1192, 1193, 1194, 1195, 1196, 1197, 1198, 1199, 1200, 1201, 1202, 1203, 1204, 1205, 1206, 1207, 1208, 1209, 1210, 1211, 1212, 1213, 1214, 1215, 1216, 1217, 1218, 1219, 1220, 1221, 1222, 1223, 1224, 1225, 1226, 1227, 1228, 1229, 1230, 1231, 1232, 1233, 1234, 1235, 1236, 1237, 1238, 1239, 1240, 1241, 1242, 1243, 1244, 1245, 1246, 1247, 1248, 1249, 1250, 1251, 1252] (by decide +kernel)
theorem gt_of {s : State} {bs : Nat} (own : String) (k i : Nat) (hts : ∀ w ∈ lw_tbl, w.before #[Value.ref bs] s = true) (hn : ∀ w ∈ nw, w.before #[Value.ref bs] s = true) (h1 : ∀ w ∈ hdS own k i, w ∈ nw) (h2 : ∀ w ∈ elS own k i, w ∈ nw) (hl : lnS i < 2 ^ 31) (h3 : Cond.stringRef own k (p_tx.getD i "") ∈ lw_tbl) : GT own k i (fun q => s.heap.size ≤ q) s := by
  have hA : ∀ a : Nat, a < s.heap.size → ¬ (s.heap.size ≤ a) := fun a h => Nat.not_le.mpr h
  have g1 := hn _ (h1 _ (List.mem_of_getElem? (l := hdS own k i) (i := 0) rfl))
  have g2 := hn _ (h1 _ (List.mem_of_getElem? (l := hdS own k i) (i := 1) rfl))
  have g3 := hn _ (h1 _ (List.mem_of_getElem? (l := hdS own k i) (i := 2) rfl))
  have g4 := hn _ (h1 _ (List.mem_of_getElem? (l := hdS own k i) (i := 3) rfl))
  obtain ⟨adK, adV, q1, q2⟩ := vk_Sof (N := 1) (tm := fun _ => tmS own k) (len := [lnS i]) (byt := [p_bx.getD i []]) (A := fun q => s.heap.size ≤ q) (s := s) (args := #[Value.ref bs])
    (fun j hj => by obtain rfl : j = 0 := by omega
                    exact hl)
    (fun j hj => g1) (fun j hj => g2) (fun j hj => g3)
    (fun j hj => by obtain rfl : j = 0 := by omega
                    exact g4)
    (fun j hj x hx => by
      obtain rfl : j = 0 := by omega
      exact hn _ (h2 _ (List.mem_map.mpr ⟨x, List.mem_range.mpr hx, rfl⟩)))
    (fun x y hx hy hxy => absurd (show x = y by omega) hxy) hA
  exact ⟨adK, adV, q1, vk_R.of (hts _ h3) (q2 0 (by decide))⟩
theorem start_K {s : State} {bs : Nat} (hts : ∀ w ∈ lw_tbl, w.before #[Value.ref bs] s = true) : ∃ (dC : Nat → ClassId) (dI : Nat → Nat → Nat), ∀ (k : Nat) (q : vw_C), vwCl[k]? = some q → u_Kn s q.1 q.2.1 q.2.2 (dC k) (dI k) := by
  obtain ⟨c0, i0, h0⟩ := u_known (C := RJ6) (T := TJ6) (N := 1) (n := 1) hts inq_wsJ60 (hts (.instantiable RJ6 1) (by decide +kernel))
  obtain ⟨c1, i1, h1⟩ := u_known (C := RJx4a65c) (T := TJx4a65c) (N := 3) (n := 3) hts inq_wsJx4a65c0 (hts (.instantiable RJx4a65c 3) (by decide +kernel))
  obtain ⟨c2, i2, h2⟩ := u_known (C := RX0) (T := TX0) (N := 3) (n := 3) hts inq_wsX00 (hts (.instantiable RX0 3) (by decide +kernel))
  obtain ⟨c3, i3, h3⟩ := u_known (C := RX1) (T := TX1) (N := 8) (n := 8) hts inq_wsX10 (hts (.instantiable RX1 8) (by decide +kernel))
  obtain ⟨c4, i4, h4⟩ := u_known (C := RX2) (T := TX2) (N := 15) (n := 15) hts inq_wsX20 (hts (.instantiable RX2 15) (by decide +kernel))
  obtain ⟨c5, i5, h5⟩ := u_known (C := RX3) (T := TX3) (N := 6) (n := 6) hts inq_wsX30 (hts (.instantiable RX3 6) (by decide +kernel))
  obtain ⟨c6, i6, h6⟩ := u_known (C := RX4) (T := TX4) (N := 8) (n := 8) hts inq_wsX40 (hts (.instantiable RX4 8) (by decide +kernel))
  obtain ⟨c7, i7, h7⟩ := u_known (C := RX5) (T := TX5) (N := 13) (n := 13) hts inq_wsX50 (hts (.instantiable RX5 13) (by decide +kernel))
  obtain ⟨c8, i8, h8⟩ := u_known (C := RX6) (T := TX6) (N := 3) (n := 3) hts inq_wsX60 (hts (.instantiable RX6 3) (by decide +kernel))
  obtain ⟨c9, i9, h9⟩ := u_known (C := RX7) (T := TX7) (N := 5) (n := 5) hts inq_wsX70 (hts (.instantiable RX7 5) (by decide +kernel))
  obtain ⟨c10, i10, h10⟩ := u_known (C := RX8) (T := TX8) (N := 5) (n := 5) hts inq_wsX80 (hts (.instantiable RX8 5) (by decide +kernel))
  obtain ⟨c11, i11, h11⟩ := u_known (C := RX9) (T := TX9) (N := 2) (n := 2) hts inq_wsX90 (hts (.instantiable RX9 2) (by decide +kernel))
  obtain ⟨c12, i12, h12⟩ := u_known (C := RX10) (T := TX10) (N := 2) (n := 2) hts inq_wsX100 (hts (.instantiable RX10 2) (by decide +kernel))
  obtain ⟨c13, i13, h13⟩ := u_known (C := RX11) (T := TX11) (N := 13) (n := 13) hts inq_wsX110 (hts (.instantiable RX11 13) (by decide +kernel))
  obtain ⟨c14, i14, h14⟩ := u_known (C := RX12) (T := TX12) (N := 12) (n := 12) hts inq_wsX120 (hts (.instantiable RX12 12) (by decide +kernel))
  obtain ⟨c15, i15, h15⟩ := u_known (C := RX13) (T := TX13) (N := 14) (n := 14) hts inq_wsX130 (hts (.instantiable RX13 14) (by decide +kernel))
  refine ⟨fun k => ([c0, c1, c2, c3, c4, c5, c6, c7, c8, c9, c10, c11, c12, c13, c14, c15] : List ClassId).getD k 0, fun k => ([i0, i1, i2, i3, i4, i5, i6, i7, i8, i9, i10, i11, i12, i13, i14, i15] : List (Nat → Nat)).getD k (fun _ => 0), ?_⟩
  intro k q hq
  match k, hq with
  | 0, hq => cases hq; exact h0
  | 1, hq => cases hq; exact h1
  | 2, hq => cases hq; exact h2
  | 3, hq => cases hq; exact h3
  | 4, hq => cases hq; exact h4
  | 5, hq => cases hq; exact h5
  | 6, hq => cases hq; exact h6
  | 7, hq => cases hq; exact h7
  | 8, hq => cases hq; exact h8
  | 9, hq => cases hq; exact h9
  | 10, hq => cases hq; exact h10
  | 11, hq => cases hq; exact h11
  | 12, hq => cases hq; exact h12
  | 13, hq => cases hq; exact h13
  | 14, hq => cases hq; exact h14
  | 15, hq => cases hq; exact h15
  | k + 16, hq => simp [vwCl] at hq
theorem start_G {s : State} {bs : Nat} (hts : ∀ w ∈ lw_tbl, w.before #[Value.ref bs] s = true) (hgv : (Jvm.Cond.and given_1 narrow_1).before #[Value.ref bs] s = true) : ∃ g : Nat → ClassId, (∀ (k : Nat) (q : ClassId × FieldType), (tyL g)[k]? = some q → ArrOfT s q.1 q.2 ∧ va_RA s q.1 q.2) ∧ GB g (fun q => s.heap.size ≤ q) s := by
  have hn : ∀ w ∈ nw, w.before #[Value.ref bs] s = true := flat_of_before _ hgv
  have hA : ∀ a : Nat, a < s.heap.size → ¬ (s.heap.size ≤ a) := fun a h => Nat.not_le.mpr h
  obtain ⟨c0, a0, b0⟩ := arr_c (hts (.arrayClass .int) (by decide +kernel))
  obtain ⟨c1, a1, b1⟩ := arr_o (hts (.arrayOver (.object "RunmergeOffice$Tape")) (by decide +kernel))
  obtain ⟨c2, a2, b2⟩ := arr_c (hts (.arrayClass .long) (by decide +kernel))
  obtain ⟨c3, a3, b3⟩ := arr_c (hts (.arrayClass .double) (by decide +kernel))
  have hAA : va_AOA .int s := va_AOA.of (hts (.arrayOver (.array .int)) (by decide +kernel))
  obtain ⟨c4, a4, b4⟩ := arr_a hAA
  obtain ⟨c5, a5, b5⟩ := arr_o (hts (.arrayOver (.object "java/lang/Object")) (by decide +kernel))
  obtain ⟨t, ht, hT⟩ := va_Tof (tm := .static "java/util/ArrayList" "DEFAULTCAPACITY_EMPTY_ELEMENTDATA" "[Ljava/lang/Object;") (ty := .object "java/lang/Object") (N := 0) (f := fun _ => .null) (A := fun q => s.heap.size ≤ q) (s := s) (args := #[Value.ref bs]) (by decide) (hn (Cond.arrayOf (.static "java/util/ArrayList" "DEFAULTCAPACITY_EMPTY_ELEMENTDATA" "[Ljava/lang/Object;") (.object "java/lang/Object")) (List.mem_of_getElem? (i := 12) (by decide +kernel))) (va_eqt (hn (Cond.eq (.length (.static "java/util/ArrayList" "DEFAULTCAPACITY_EMPTY_ELEMENTDATA" "[Ljava/lang/Object;")) (.int 0)) (List.mem_of_getElem? (i := 14) (by decide +kernel)))) (fun j hj => absurd hj (Nat.not_lt_zero _)) hA
  refine ⟨fun k => ([c0, c1, c2, c3, c4, c5, 0, 0, 0, 0, t] : List Nat).getD k 0, ?_, ?_⟩
  · intro k q hq
    match k, hq with
    | 0, hq => cases hq; exact ⟨a0, b0⟩
    | 1, hq => cases hq; exact ⟨a1, b1⟩
    | 2, hq => cases hq; exact ⟨a2, b2⟩
    | 3, hq => cases hq; exact ⟨a3, b3⟩
    | 4, hq => cases hq; exact ⟨a4, b4⟩
    | 5, hq => cases hq; exact ⟨a5, b5⟩
    | k + 6, hq => simp [tyL] at hq
  · refine ⟨fun q hq => va_Nw.of rfl (hts _ (fn_in _ (List.mem_map.mpr ⟨q, hq, rfl⟩))), fun q hq => va_Nw.of rfl (hts _ (mn_in _ (List.mem_map.mpr ⟨q, hq, rfl⟩))), fun q hq => str_R (hts _ (st_in _ (List.mem_map.mpr ⟨q, hq, rfl⟩))), ?_, ?_, ⟨va_AO.of (hts (.arrayOver (.object "RunmergeOffice$Tape")) (by decide +kernel)), va_AO.of (hts (.arrayOver (.object "java/lang/Object")) (by decide +kernel)), hAA⟩, fun X hX => va_Nw.of rfl (hts _ (xc_in _ (List.mem_map.mpr ⟨X, hX, rfl⟩))), ?_, hT, ?_, fun q hq => va_Nw.of rfl (hts _ (cc_in _ (List.mem_map.mpr ⟨q, hq, rfl⟩))), ?_, ?_⟩
    · exact vx_Zqof (hts (.laysStatic Bundle.tN "UNASSIGNED_STACK" Bundle.steD) (by decide +kernel)) (hts (.initialized Bundle.tN) (by decide +kernel)) (hn (Cond.isRef (.static Bundle.tN "UNASSIGNED_STACK" Bundle.steD)) (List.mem_of_getElem? (i := 9) (by decide +kernel))) hA
    · exact vx_Zqof (hts (.laysStatic Bundle.tN "SUPPRESSED_SENTINEL" Bundle.listD) (by decide +kernel)) (hts (.initialized Bundle.tN) (by decide +kernel)) (hn (Cond.isRef (.static Bundle.tN "SUPPRESSED_SENTINEL" Bundle.listD)) (List.mem_of_getElem? (i := 10) (by decide +kernel))) hA
    · exact va_Zof (hts (.laysStatic "java/util/ArrayList" "DEFAULTCAPACITY_EMPTY_ELEMENTDATA" "[Ljava/lang/Object;") (by decide +kernel)) (hts (.initialized "java/util/ArrayList") (by decide +kernel)) ht hA
    · intro q hq
      simp only [p_fw, List.mem_cons, List.not_mem_nil, or_false] at hq
      rcases hq with rfl | rfl | rfl | rfl
      · exact va_Fw.of (hts (.declares ⟨"java/util/List", "isEmpty", "()Z"⟩) (by decide +kernel)) (hts (.interfaceMethod "java/util/List" "java/util/List" "isEmpty" "()Z") (by decide +kernel)) (hts (.publicMethod ⟨"java/util/ArrayList", "isEmpty", "()Z"⟩) (by decide +kernel)) (hts (.unhidden "java/util/ArrayList" "isEmpty" "()Z") (by decide +kernel)) (hts (.castable "java/util/ArrayList" "java/util/List") (by decide +kernel))
      · exact va_Fw.of (hts (.declares ⟨"java/util/List", "size", "()I"⟩) (by decide +kernel)) (hts (.interfaceMethod "java/util/List" "java/util/List" "size" "()I") (by decide +kernel)) (hts (.publicMethod ⟨"java/util/ArrayList", "size", "()I"⟩) (by decide +kernel)) (hts (.unhidden "java/util/ArrayList" "size" "()I") (by decide +kernel)) (hts (.castable "java/util/ArrayList" "java/util/List") (by decide +kernel))
      · exact va_Fw.of (hts (.declares ⟨"java/util/List", "add", "(Ljava/lang/Object;)Z"⟩) (by decide +kernel)) (hts (.interfaceMethod "java/util/List" "java/util/List" "add" "(Ljava/lang/Object;)Z") (by decide +kernel)) (hts (.publicMethod ⟨"java/util/ArrayList", "add", "(Ljava/lang/Object;)Z"⟩) (by decide +kernel)) (hts (.unhidden "java/util/ArrayList" "add" "(Ljava/lang/Object;)Z") (by decide +kernel)) (hts (.castable "java/util/ArrayList" "java/util/List") (by decide +kernel))
      · exact va_Fw.of (hts (.declares ⟨"java/util/List", "get", "(I)Ljava/lang/Object;"⟩) (by decide +kernel)) (hts (.interfaceMethod "java/util/List" "java/util/List" "get" "(I)Ljava/lang/Object;") (by decide +kernel)) (hts (.publicMethod ⟨"java/util/ArrayList", "get", "(I)Ljava/lang/Object;"⟩) (by decide +kernel)) (hts (.unhidden "java/util/ArrayList" "get" "(I)Ljava/lang/Object;") (by decide +kernel)) (hts (.castable "java/util/ArrayList" "java/util/List") (by decide +kernel))
    · intro Y hY
      simp only [p_dc, List.mem_cons, List.not_mem_nil, or_false] at hY
      rcases hY with rfl | rfl | rfl
      · exact va_Nw.of rfl (hts (.declares (Bundle.initS "java/lang/RuntimeException")) (by decide +kernel))
      · exact va_Nw.of rfl (hts (.declares (Bundle.initS "java/lang/Exception")) (by decide +kernel))
      · exact va_Nw.of rfl (hts (.declares (Bundle.initS "java/lang/Throwable")) (by decide +kernel))
    · refine ⟨?_, fun q hq => va_Nc.of (hn _ (nc_in _ (List.mem_map.mpr ⟨q, hq, rfl⟩))), va_Zof (hts (.laysStatic "java/lang/String" "COMPACT_STRINGS" "Z") (by decide +kernel)) (hts (.initialized "java/lang/String") (by decide +kernel)) (va_eqi (hn (Cond.eq (.static "java/lang/String" "COMPACT_STRINGS" "Z") (.int 1)) (List.mem_of_getElem? (i := 4) (by decide +kernel)))) hA, va_Zqof (hts (.laysStatic "jdk/internal/util/Preconditions" "SIOOBE_FORMATTER" "Ljava/util/function/BiFunction;") (by decide +kernel)) (hts (.initialized "jdk/internal/util/Preconditions") (by decide +kernel)) (hn (Cond.isRef (.static "jdk/internal/util/Preconditions" "SIOOBE_FORMATTER" "Ljava/util/function/BiFunction;")) (List.mem_of_getElem? (i := 5) (by decide +kernel))) hA⟩
      intro q hq
      simp only [p_sx, List.mem_cons, List.not_mem_nil, or_false] at hq
      rcases hq with rfl | rfl | rfl | rfl | rfl | rfl
      · exact gt_of _ _ _ hts hn hdS_0 elS_0 (lnS_le _ (by decide)).1 (List.mem_of_getElem? (i := 1422) (by decide +kernel))
      · exact gt_of _ _ _ hts hn hdS_1 elS_1 (lnS_le _ (by decide)).1 (List.mem_of_getElem? (i := 1423) (by decide +kernel))
      · exact gt_of _ _ _ hts hn hdS_2 elS_2 (lnS_le _ (by decide)).1 (List.mem_of_getElem? (i := 1424) (by decide +kernel))
      · exact gt_of _ _ _ hts hn hdS_3 elS_3 (lnS_le _ (by decide)).1 (List.mem_of_getElem? (i := 2074) (by decide +kernel))
      · exact gt_of _ _ _ hts hn hdS_4 elS_4 (lnS_le _ (by decide)).1 (List.mem_of_getElem? (i := 2075) (by decide +kernel))
      · exact gt_of _ _ _ hts hn hdS_5 elS_5 (lnS_le _ (by decide)).1 (List.mem_of_getElem? (i := 2076) (by decide +kernel))
