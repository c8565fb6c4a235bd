theorem in_at {big ws : List Cond} (ps : List Nat) (h : ps.map (fun i => big[i]?) = ws.map some) : ∀ w ∈ ws, w ∈ big := by
  intro w hw
  obtain ⟨k, hk, rfl⟩ := List.mem_iff_getElem.mp hw
  have h1 : (ps.map (fun i => big[i]?))[k]? = some (some ws[k]) := by rw [h]; simp [hk]
  rw [List.getElem?_map] at h1
  cases hp : ps[k]? with
  | none => rw [hp] at h1; cases h1
  | some i =>
    rw [hp] at h1
    exact List.mem_of_getElem? (Option.some.inj h1)
abbrev nw : List Cond := flatC (Jvm.Cond.and given_1 narrow_1)
theorem str_R {A : Array Value} {s : State} {own tx : String} {k : Nat} (h : (Cond.stringRef own k tx).before A s = true) : ∃ a : Nat, vk_R own k tx a s := by
  have hcur : ∃ cur, s.vm.findClass own = some cur := by
    have h1 := h
    simp only [Cond.before, Cond.holds, Cond.value] at h1
    cases hc : s.vm.findClass own with
    | none => simp [hc] at h1
    | some cur => exact ⟨cur, rfl⟩
  obtain ⟨cur, hcur⟩ := hcur
  obtain ⟨k', cf, i, a, -, -, -, -, -, hev⟩ := Cond.stringRef_spec hcur h
  exact ⟨a, vk_R.of h hev⟩
theorem arr_c {A : Array Value} {s : State} {ty : FieldType} (h : (Cond.arrayClass ty).before A s = true) : ∃ c : ClassId, ArrOfT s c ty ∧ s.vm.findClass ("[" ++ ty.toString) = some c := by
  obtain ⟨c, k, comp, h1, h2, h3⟩ := Cond.arrayClass_spec h
  exact ⟨c, fun n z => ⟨fun k h => (by cases h), k, h2, comp, h3⟩, h1⟩
theorem arr_o {A : Array Value} {s : State} {C : String} (h : (Cond.arrayOver (.object C)).before A s = true) : ∃ c : ClassId, ArrOfT s c (.object C) ∧ va_RA s c (.object C) := by
  obtain ⟨comp, c, k, h1, -, h2, h3, h4⟩ := Cond.arrayOver_spec h
  exact ⟨c, fun n z => ⟨fun k h => (by cases h), k, h2, comp, h3⟩, k, comp, h2, h3, h1, h4⟩
theorem arr_a {s : State} (h : va_AOA .int s) : ∃ c : ClassId, ArrOfT s c (.array .int) ∧ s.vm.findClass "[[I" = some c := by
  obtain ⟨comp, c, k, h1, h2, h3, h4⟩ := AOA_at h
  exact ⟨c, fun n z => ⟨fun k h => (by cases h), k, h2, comp, h3⟩, h4⟩
def fnW (q : String × Nat × String × String × String × String) : Cond := .fieldLinkNest q.1 q.2.1 q.2.2.1 q.2.2.2.1 q.2.2.2.2.1 q.2.2.2.2.2
def mnW (q : String × Nat × MethodName × String) : Cond := .methodLinkNest q.1 q.2.1 q.2.2.1 q.2.2.2
def stW (q : String × Nat × String) : Cond := .stringRef q.1 q.2.1 q.2.2
set_option maxRecDepth 200000 in
theorem fn_in : ∀ w ∈ p_fn.map fnW, w ∈ lw_tbl := in_at [101, 119, 120, 121, 122, 135, 136, 137, 138, 140, 141, 142, 143, 145, 146, 147, 148, 150, 151, 152, 153, 155, 156, 157, 158, 195, 197, 198, 199, 200, 201, 231, 232, 234, 249, 255, 256, 258, 259, 261, 262, 301, 303, 304, 306, 307, 309, 310, 313, 315, 361, 362, 371, 374, 380, 382, 384, 386, 388, 390] (by decide +kernel)
set_option maxRecDepth 200000 in
theorem mn_in : ∀ w ∈ p_mn.map mnW, w ∈ lw_tbl := in_at [94, 113, 130, 172, 188, 216, 222, 282, 287, 289, 291, 349, 355, 369, 420, 425, 427, 429, 431, 433, 435] (by decide +kernel)
set_option maxRecDepth 200000 in
theorem st_in : ∀ w ∈ p_st.map stW, w ∈ lw_tbl := in_at [567, 615, 635, 655, 701, 774, 805, 929, 975, 1012, 1021, 1044, 1055, 1087, 1161, 1170, 1171, 1172, 1173, 1174, 1175, 1176, 1177, 1178, 1183, 1188, 1189, 1190, 1191, 1196, 1197, 1221, 1230, 1327, 1364, 1365, 1511, 1538, 1539, 1540, 1541, 1542, 1543, 1544, 1545, 1585, 1610, 1611, 1612, 1613, 1614, 1615, 1616, 1617, 1618, 1619, 1620, 1621, 1622, 1623, 1681, 1682, 1683, 1684, 1685, 1686, 1687, 1688, 1689, 1690, 1691, 1692, 1693, 1694, 1695, 1696, 1697, 1698, 1699] (by decide +kernel)
set_option maxRecDepth 200000 in
theorem xc_in : ∀ w ∈ p_xc.map (fun X => Cond.castable X X), w ∈ lw_tbl := in_at [527, 608, 628, 1037] (by decide +kernel)
set_option maxRecDepth 200000 in
theorem cc_in : ∀ w ∈ p_cc.map (fun q => Cond.castable q.1 q.2), w ∈ lw_tbl := in_at [1639, 1643, 1425] (by decide +kernel)
set_option maxRecDepth 200000 in
theorem nc_in : ∀ w ∈ p_nc.map (fun q => Cond.not (.castable q.1 q.2)), w ∈ nw := in_at [231, 229, 247, 230, 248, 264] (by decide +kernel)
def tmS (own : String) (k : Nat) : Term := .string own k
def hdS (own : String) (k i : Nat) : List Cond := [Cond.exactly (tmS own k) "java/lang/String", Cond.eq (.field (tmS own k) "java/lang/String" "coder" "B") (.int 0), Cond.arrayOf (.field (tmS own k) "java/lang/String" "value" "[B") .byte, Cond.eq (.length (.field (tmS own k) "java/lang/String" "value" "[B")) (.int (Int32.ofNat (lnS i)))]
def elS (own : String) (k i : Nat) : List Cond := (List.range (lnS i)).map (fun j => Cond.eq (.elem (.field (tmS own k) "java/lang/String" "value" "[B") (.int (Int32.ofNat j))) (.int ((p_bx.getD i []).getD j 0)))
set_option maxRecDepth 200000 in
theorem hdS_0 : ∀ w ∈ hdS "RunmergeOffice$Reader" 68 0, w ∈ nw := in_at [633, 634, 635, 636] (by decide +kernel)
set_option maxRecDepth 200000 in
theorem elS_0 : ∀ w ∈ elS "RunmergeOffice$Reader" 68 0, w ∈ nw := in_at [637, 638, 639, 640] (by decide +kernel)
set_option maxRecDepth 200000 in
theorem hdS_1 : ∀ w ∈ hdS "RunmergeOffice$Reader" 120 9, w ∈ nw := in_at [641, 642, 643, 644] (by decide +kernel)
set_option maxRecDepth 200000 in
theorem elS_1 : ∀ w ∈ elS "RunmergeOffice$Reader" 120 9, w ∈ nw := in_at [645, 646, 647, 648] (by decide +kernel)
set_option maxRecDepth 200000 in
theorem hdS_2 : ∀ w ∈ hdS "RunmergeOffice$Reader" 125 10, w ∈ nw := in_at [649, 650, 651, 652] (by decide +kernel)
set_option maxRecDepth 200000 in
theorem elS_2 : ∀ w ∈ elS "RunmergeOffice$Reader" 125 10, w ∈ nw := in_at [653, 654] (by decide +kernel)
set_option maxRecDepth 200000 in
theorem hdS_3 : ∀ w ∈ hdS "RunmergeOffice$Reader" 127 11, w ∈ nw := in_at [655, 656, 657, 658] (by decide +kernel)
set_option maxRecDepth 200000 in
theorem elS_3 : ∀ w ∈ elS "RunmergeOffice$Reader" 127 11, w ∈ nw := in_at [659, 660, 661, 662] (by decide +kernel)
set_option maxRecDepth 200000 in
theorem hdS_4 : ∀ w ∈ hdS "RunmergeOffice$Reader" 132 12, w ∈ nw := in_at [663, 664, 665, 666] (by decide +kernel)
set_option maxRecDepth 200000 in
theorem elS_4 : ∀ w ∈ elS "RunmergeOffice$Reader" 132 12, w ∈ nw := in_at [667, 668, 669, 670, 671, 672, 673] (by decide +kernel)
set_option maxRecDepth 200000 in
theorem hdS_5 : ∀ w ∈ hdS "RunmergeOffice$Reader" 137 13, w ∈ nw := in_at [674, 675, 676, 677] (by decide +kernel)
set_option maxRecDepth 200000 in
theorem elS_5 : ∀ w ∈ elS "RunmergeOffice$Reader" 137 13, w ∈ nw := in_at [678, 679, 680, 681] (by decide +kernel)
set_option maxRecDepth 200000 in
theorem hdS_6 : ∀ w ∈ hdS "RunmergeOffice$Reader" 139 14, w ∈ nw := in_at [682, 683, 684, 685] (by decide +kernel)
set_option maxRecDepth 200000 in
theorem elS_6 : ∀ w ∈ elS "RunmergeOffice$Reader" 139 14, w ∈ nw := in_at [686, 687, 688, 689, 690, 691, 692] (by decide +kernel)
set_option maxRecDepth 200000 in
theorem hdS_7 : ∀ w ∈ hdS "RunmergeOffice$Reader" 144 15, w ∈ nw := in_at [693, 694, 695, 696] (by decide +kernel)
set_option maxRecDepth 200000 in
theorem elS_7 : ∀ w ∈ elS "RunmergeOffice$Reader" 144 15, w ∈ nw := in_at [697, 698, 699, 700, 701, 702, 703, 704] (by decide +kernel)
set_option maxRecDepth 200000 in
theorem hdS_8 : ∀ w ∈ hdS "RunmergeOffice$Reader" 149 16, w ∈ nw := in_at [705, 706, 707, 708] (by decide +kernel)
set_option maxRecDepth 200000 in
theorem elS_8 : ∀ w ∈ elS "RunmergeOffice$Reader" 149 16, w ∈ nw := in_at [709, 710, 711, 712, 713, 714, 715, 716] (by decide +kernel)
set_option maxRecDepth 200000 in
theorem hdS_9 : ∀ w ∈ hdS "RunmergeOffice$Reader" 151 17, w ∈ nw := in_at [717, 718, 719, 720] (by decide +kernel)
set_option maxRecDepth 200000 in
theorem elS_9 : ∀ w ∈ elS "RunmergeOffice$Reader" 151 17, w ∈ nw := in_at [721, 722, 723, 724] (by decide +kernel)
set_option maxRecDepth 200000 in
theorem hdS_10 : ∀ w ∈ hdS "RunmergeOffice$Reader" 82 1, w ∈ nw := in_at [725, 726, 727, 728] (by decide +kernel)
set_option maxRecDepth 200000 in
theorem elS_10 : ∀ w ∈ elS "RunmergeOffice$Reader" 82 1, w ∈ nw := in_at [729, 730, 731, 732] (by decide +kernel)
set_option maxRecDepth 200000 in
theorem hdS_11 : ∀ w ∈ hdS "RunmergeOffice$Reader" 87 2, w ∈ nw := in_at [733, 734, 735, 736] (by decide +kernel)
set_option maxRecDepth 200000 in
theorem elS_11 : ∀ w ∈ elS "RunmergeOffice$Reader" 87 2, w ∈ nw := in_at [737, 738, 739, 740, 741] (by decide +kernel)
set_option maxRecDepth 200000 in
theorem hdS_12 : ∀ w ∈ hdS "RunmergeOffice$Reader" 92 3, w ∈ nw := in_at [742, 743, 744, 745] (by decide +kernel)
set_option maxRecDepth 200000 in
theorem elS_12 : ∀ w ∈ elS "RunmergeOffice$Reader" 92 3, w ∈ nw := in_at [746, 747, 748, 749, 750, 751] (by decide +kernel)
set_option maxRecDepth 200000 in
theorem hdS_13 : ∀ w ∈ hdS "RunmergeOffice$Reader" 94 4, w ∈ nw := in_at [752, 753, 754, 755] (by decide +kernel)
set_option maxRecDepth 200000 in
theorem elS_13 : ∀ w ∈ elS "RunmergeOffice$Reader" 94 4, w ∈ nw := in_at [756, 757, 758, 759, 760, 761, 762] (by decide +kernel)
set_option maxRecDepth 200000 in
theorem hdS_14 : ∀ w ∈ hdS "RunmergeOffice$Reader" 96 5, w ∈ nw := in_at [763, 764, 765, 766] (by decide +kernel)
set_option maxRecDepth 200000 in
theorem elS_14 : ∀ w ∈ elS "RunmergeOffice$Reader" 96 5, w ∈ nw := in_at [767, 768, 769, 770] (by decide +kernel)
set_option maxRecDepth 200000 in
theorem hdS_15 : ∀ w ∈ hdS "RunmergeOffice$Reader" 98 6, w ∈ nw := in_at [771, 772, 773, 774] (by decide +kernel)
set_option maxRecDepth 200000 in
theorem elS_15 : ∀ w ∈ elS "RunmergeOffice$Reader" 98 6, w ∈ nw := in_at [775, 776, 777, 778, 779] (by decide +kernel)
set_option maxRecDepth 200000 in
theorem hdS_16 : ∀ w ∈ hdS "RunmergeOffice$Reader" 103 7, w ∈ nw := in_at [780, 781, 782, 783] (by decide +kernel)
set_option maxRecDepth 200000 in
theorem elS_16 : ∀ w ∈ elS "RunmergeOffice$Reader" 103 7, w ∈ nw := in_at [784, 785, 786, 787] (by decide +kernel)
set_option maxRecDepth 200000 in
theorem hdS_17 : ∀ w ∈ hdS "RunmergeOffice$Reader" 105 8, w ∈ nw := in_at [788, 789, 790, 791] (by decide +kernel)
set_option maxRecDepth 200000 in
theorem elS_17 : ∀ w ∈ elS "RunmergeOffice$Reader" 105 8, w ∈ nw := in_at [792, 793, 794, 795, 796] (by decide +kernel)
set_option maxRecDepth 200000 in
theorem hdS_18 : ∀ w ∈ hdS "RunmergeOfficeLaw" 255 18, w ∈ nw := in_at [880, 881, 882, 883] (by decide +kernel)
set_option maxRecDepth 200000 in
theorem elS_18 : ∀ w ∈ elS "RunmergeOfficeLaw" 255 18, w ∈ nw := in_at [884] (by decide +kernel)
set_option maxRecDepth 200000 in
theorem hdS_19 : ∀ w ∈ hdS "RunmergeOfficeLaw" 226 19, w ∈ nw := in_at [885, 886, 887, 888] (by decide +kernel)
set_option maxRecDepth 200000 in
theorem elS_19 : ∀ w ∈ elS "RunmergeOfficeLaw" 226 19, w ∈ nw := in_at [] (by decide +kernel)
set_option maxRecDepth 200000 in
theorem hdS_20 : ∀ w ∈ hdS "RunmergeOfficeLaw" 209 20, w ∈ nw := in_at [889, 890, 891, 892] (by decide +kernel)
set_option maxRecDepth 200000 in
theorem elS_20 : ∀ w ∈ elS "RunmergeOfficeLaw" 209 20, w ∈ nw := in_at [893, 894, 895, 896, 897] (by decide +kernel)
set_option maxRecDepth 200000 in
theorem hdS_21 : ∀ w ∈ hdS "RunmergeOfficeLaw" 220 9, w ∈ nw := in_at [898, 899, 900, 901] (by decide +kernel)
set_option maxRecDepth 200000 in
theorem elS_21 : ∀ w ∈ elS "RunmergeOfficeLaw" 220 9, w ∈ nw := in_at [902, 903, 904, 905] (by decide +kernel)
set_option maxRecDepth 200000 in
theorem hdS_22 : ∀ w ∈ hdS "RunmergeOfficeLaw" 222 21, w ∈ nw := in_at [907, 908, 909, 910] (by decide +kernel)
set_option maxRecDepth 200000 in
theorem elS_22 : ∀ w ∈ elS "RunmergeOfficeLaw" 222 21, w ∈ nw := in_at [911, 912, 913, 914, 915, 916] (by decide +kernel)
set_option maxRecDepth 200000 in
theorem hdS_23 : ∀ w ∈ hdS "RunmergeOfficeLaw" 224 22, w ∈ nw := in_at [917, 918, 919, 920] (by decide +kernel)
set_option maxRecDepth 200000 in
theorem elS_23 : ∀ w ∈ elS "RunmergeOfficeLaw" 224 22, w ∈ nw := in_at [921, 922, 923, 924, 925, 926, 927, 928] (by decide +kernel)
set_option maxRecDepth 200000 in
theorem hdS_24 : ∀ w ∈ hdS "RunmergeOfficeLaw" 228 23, w ∈ nw := in_at [929, 930, 931, 932] (by decide +kernel)
set_option maxRecDepth 200000 in
theorem elS_24 : ∀ w ∈ elS "RunmergeOfficeLaw" 228 23, w ∈ nw := in_at [933, 934, 935] (by decide +kernel)
set_option maxRecDepth 200000 in
theorem hdS_25 : ∀ w ∈ hdS "RunmergeOfficeLaw" 230 24, w ∈ nw := in_at [936, 937, 938, 939] (by decide +kernel)
set_option maxRecDepth 200000 in
theorem elS_25 : ∀ w ∈ elS "RunmergeOfficeLaw" 230 24, w ∈ nw := in_at [940, 941, 942, 943, 944] (by decide +kernel)
set_option maxRecDepth 200000 in
theorem hdS_26 : ∀ w ∈ hdS "RunmergeOfficeLaw" 232 25, w ∈ nw := in_at [945, 946, 947, 948] (by decide +kernel)
set_option maxRecDepth 200000 in
theorem elS_26 : ∀ w ∈ elS "RunmergeOfficeLaw" 232 25, w ∈ nw := in_at [949, 950, 951, 952, 953, 954] (by decide +kernel)
set_option maxRecDepth 200000 in
theorem hdS_27 : ∀ w ∈ hdS "RunmergeOfficeLaw" 234 26, w ∈ nw := in_at [955, 956, 957, 958] (by decide +kernel)
set_option maxRecDepth 200000 in
theorem elS_27 : ∀ w ∈ elS "RunmergeOfficeLaw" 234 26, w ∈ nw := in_at [959, 960, 961, 962, 963, 964, 965, 966, 967] (by decide +kernel)
set_option maxRecDepth 200000 in
theorem hdS_28 : ∀ w ∈ hdS "RunmergeOfficeLaw" 236 27, w ∈ nw := in_at [968, 969, 970, 971] (by decide +kernel)
set_option maxRecDepth 200000 in
theorem elS_28 : ∀ w ∈ elS "RunmergeOfficeLaw" 236 27, w ∈ nw := in_at [972, 973, 974, 975, 976, 977, 978, 979] (by decide +kernel)
set_option maxRecDepth 200000 in
theorem hdS_29 : ∀ w ∈ hdS "RunmergeOfficeLaw" 243 28, w ∈ nw := in_at [987, 988, 989, 990] (by decide +kernel)
set_option maxRecDepth 200000 in
theorem elS_29 : ∀ w ∈ elS "RunmergeOfficeLaw" 243 28, w ∈ nw := in_at [991, 992, 993, 994, 995, 996, 997, 998, 999, 1000] (by decide +kernel)
set_option maxRecDepth 200000 in
theorem hdS_30 : ∀ w ∈ hdS "RunmergeOfficeLaw" 245 29, w ∈ nw := in_at [1001, 1002, 1003, 1004] (by decide +kernel)
set_option maxRecDepth 200000 in
theorem elS_30 : ∀ w ∈ elS "RunmergeOfficeLaw" 245 29, w ∈ nw := in_at [1005, 1006, 1007, 1008, 1009, 1010, 1011, 1012, 1013] (by decide +kernel)
set_option maxRecDepth 200000 in
theorem hdS_31 : ∀ w ∈ hdS "RunmergeOfficeLaw" 247 30, w ∈ nw := in_at [1014, 1015, 1016, 1017] (by decide +kernel)
set_option maxRecDepth 200000 in
theorem elS_31 : ∀ w ∈ elS "RunmergeOfficeLaw" 247 30, w ∈ nw := in_at [1018, 1019, 1020, 1021, 1022, 1023, 1024] (by decide +kernel)
set_option maxRecDepth 200000 in
theorem hdS_32 : ∀ w ∈ hdS "RunmergeOfficeLaw" 249 31, w ∈ nw := in_at [1025, 1026, 1027, 1028] (by decide +kernel)
set_option maxRecDepth 200000 in
theorem elS_32 : ∀ w ∈ elS "RunmergeOfficeLaw" 249 31, w ∈ nw := in_at [1029, 1030, 1031, 1032, 1033, 1034] (by decide +kernel)
set_option maxRecDepth 200000 in
theorem hdS_33 : ∀ w ∈ hdS "RunmergeOfficeLaw" 251 32, w ∈ nw := in_at [1035, 1036, 1037, 1038] (by decide +kernel)
set_option maxRecDepth 200000 in
theorem elS_33 : ∀ w ∈ elS "RunmergeOfficeLaw" 251 32, w ∈ nw := in_at [1039, 1040, 1041, 1042, 1043, 1044, 1045] (by decide +kernel)
set_option maxRecDepth 200000 in
theorem hdS_34 : ∀ w ∈ hdS "RunmergeOfficeLaw" 253 33, w ∈ nw := in_at [1046, 1047, 1048, 1049] (by decide +kernel)
set_option maxRecDepth 200000 in
theorem elS_34 : ∀ w ∈ elS "RunmergeOfficeLaw" 253 33, w ∈ nw := in_at [1050, 1051, 1052, 1053, 1054, 1055, 1056, 1057] (by decide +kernel)
set_option maxRecDepth 200000 in
theorem hdS_35 : ∀ w ∈ hdS "RunmergeOfficeLaw" 257 34, w ∈ nw := in_at [1058, 1059, 1060, 1061] (by decide +kernel)
set_option maxRecDepth 200000 in
theorem elS_35 : ∀ w ∈ elS "RunmergeOfficeLaw" 257 34, w ∈ nw := in_at [1062, 1063, 1064, 1065, 1066] (by decide +kernel)
set_option maxRecDepth 200000 in
theorem hdS_36 : ∀ w ∈ hdS "RunmergeOfficeLaw" 259 35, w ∈ nw := in_at [1067, 1068, 1069, 1070] (by decide +kernel)
set_option maxRecDepth 200000 in
theorem elS_36 : ∀ w ∈ elS "RunmergeOfficeLaw" 259 35, w ∈ nw := in_at [1071, 1072, 1073, 1074, 1075] (by decide +kernel)
set_option maxRecDepth 200000 in
theorem hdS_37 : ∀ w ∈ hdS "RunmergeOfficeLaw" 261 36, w ∈ nw := in_at [1076, 1077, 1078, 1079] (by decide +kernel)
set_option maxRecDepth 200000 in
theorem elS_37 : ∀ w ∈ elS "RunmergeOfficeLaw" 261 36, w ∈ nw := in_at [1080, 1081, 1082, 1083, 1084, 1085] (by decide +kernel)
set_option maxRecDepth 200000 in
theorem hdS_38 : ∀ w ∈ hdS "RunmergeOfficeLaw" 263 37, w ∈ nw := in_at [1086, 1087, 1088, 1089] (by decide +kernel)
set_option maxRecDepth 200000 in
theorem elS_38 : ∀ w ∈ elS "RunmergeOfficeLaw" 263 37, w ∈ nw := in_at [1090, 1091, 1092, 1093, 1094] (by decide +kernel)
set_option maxRecDepth 200000 in
theorem hdS_39 : ∀ w ∈ hdS "RunmergeOfficeLaw" 265 38, w ∈ nw := in_at [1095, 1096, 1097, 1098] (by decide +kernel)
set_option maxRecDepth 200000 in
theorem elS_39 : ∀ w ∈ elS "RunmergeOfficeLaw" 265 38, w ∈ nw := in_at [1099, 1100, 1101, 1102, 1103] (by decide +kernel)
set_option maxRecDepth 200000 in
theorem hdS_40 : ∀ w ∈ hdS "RunmergeOfficeLaw" 267 39, w ∈ nw := in_at [1104, 1105, 1106, 1107] (by decide +kernel)
set_option maxRecDepth 200000 in
theorem elS_40 : ∀ w ∈ elS "RunmergeOfficeLaw" 267 39, w ∈ nw := in_at [1108, 1109, 1110, 1111, 1112, 1113] (by decide +kernel)
set_option maxRecDepth 200000 in
theorem hdS_41 : ∀ w ∈ hdS "RunmergeOfficeLaw" 269 40, w ∈ nw := in_at [1114, 1115, 1116, 1117] (by decide +kernel)
set_option maxRecDepth 200000 in
theorem elS_41 : ∀ w ∈ elS "RunmergeOfficeLaw" 269 40, w ∈ nw := in_at [1118, 1119] (by decide +kernel)
set_option maxRecDepth 200000 in
theorem hdS_42 : ∀ w ∈ hdS "RunmergeOfficeLaw" 271 41, w ∈ nw := in_at [1120, 1121, 1122, 1123] (by decide +kernel)
set_option maxRecDepth 200000 in
theorem elS_42 : ∀ w ∈ elS "RunmergeOfficeLaw" 271 41, w ∈ nw := in_at [1124] (by decide +kernel)
set_option maxRecDepth 200000 in
theorem hdS_43 : ∀ w ∈ hdS "RunmergeOfficeLaw" 308 42, w ∈ nw := in_at [1125, 1126, 1127, 1128] (by decide +kernel)
set_option maxRecDepth 200000 in
theorem elS_43 : ∀ w ∈ elS "RunmergeOfficeLaw" 308 42, w ∈ nw := in_at [1129, 1130, 1131, 1132, 1133, 1134, 1135, 1136, 1137, 1138, 1139, 1140] (by decide +kernel)
set_option maxRecDepth 200000 in
theorem hdS_44 : ∀ w ∈ hdS "RunmergeOfficeLaw" 310 43, w ∈ nw := in_at [1141, 1142, 1143, 1144] (by decide +kernel)
set_option maxRecDepth 200000 in
theorem elS_44 : ∀ w ∈ elS "RunmergeOfficeLaw" 310 43, w ∈ nw := in_at [1145, 1146, 1147, 1148, 1149, 1150, 1151, 1152] (by decide +kernel)
set_option maxRecDepth 200000 in
theorem hdS_45 : ∀ w ∈ hdS "RunmergeOfficeLaw" 312 44, w ∈ nw := in_at [1153, 1154, 1155, 1156] (by decide +kernel)
set_option maxRecDepth 200000 in
theorem elS_45 : ∀ w ∈ elS "RunmergeOfficeLaw" 312 44, w ∈ nw := in_at [1157, 1158, 1159, 1160, 1161, 1162, 1163, 1164, 1165, 1166, 1167, 1168, 1169, 1170, 1171, 1172, 1173, 1174, 1175] (by decide +kernel)
set_option maxRecDepth 200000 in
theorem hdS_46 : ∀ w ∈ hdS "RunmergeOfficeLaw" 314 45, w ∈ nw := in_at [1176, 1177, 1178, 1179] (by decide +kernel)
set_option maxRecDepth 200000 in
theorem elS_46 : ∀ w ∈ elS "RunmergeOfficeLaw" 314 45, w ∈ nw := in_at [1180, 1181, 1182, 1183, 1184, 1185, 1186, 1187, 1188, 1189, 1190, 1191, 1192, 1193, 1194, 1195, 1196, 1197, 1198] (by decide +kernel)
set_option maxRecDepth 200000 in
theorem hdS_47 : ∀ w ∈ hdS "RunmergeOfficeLaw" 316 46, w ∈ nw := in_at [1199, 1200, 1201, 1202] (by decide +kernel)
set_option maxRecDepth 200000 in
theorem elS_47 : ∀ w ∈ elS "RunmergeOfficeLaw" 316 46, w ∈ nw := in_at [1203, 1204, 1205, 1206, 1207, 1208, 1209] (by decide +kernel)
set_option maxRecDepth 200000 in
theorem hdS_48 : ∀ w ∈ hdS "RunmergeOfficeLaw" 318 47, w ∈ nw := in_at [1210, 1211, 1212, 1213] (by decide +kernel)
set_option maxRecDepth 200000 in
theorem elS_48 : ∀ w ∈ elS "RunmergeOfficeLaw" 318 47, w ∈ nw := in_at [1214, 1215, 1216, 1217, 1218, 1219, 1220] (by decide +kernel)
set_option maxRecDepth 200000 in
theorem hdS_49 : ∀ w ∈ hdS "RunmergeOfficeLaw" 320 48, w ∈ nw := in_at [1221, 1222, 1223, 1224] (by decide +kernel)
set_option maxRecDepth 200000 in
theorem elS_49 : ∀ w ∈ elS "RunmergeOfficeLaw" 320 48, w ∈ nw := in_at [1225, 1226, 1227, 1228, 1229, 1230, 1231, 1232, 1233, 1234, 1235, 1236, 1237, 1238, 1239, 1240, 1241] (by decide +kernel)
set_option maxRecDepth 200000 in
theorem hdS_50 : ∀ w ∈ hdS "RunmergeOfficeLaw" 322 49, w ∈ nw := in_at [1242, 1243, 1244, 1245] (by decide +kernel)
set_option maxRecDepth 200000 in
theorem elS_50 : ∀ w ∈ elS "RunmergeOfficeLaw" 322 49, w ∈ nw := in_at [1246, 1247, 1248, 1249, 1250, 1251, 1252, 1253, 1254, 1255, 1256, 1257, 1258, 1259, 1260, 1261, 1262] (by decide +kernel)
set_option maxRecDepth 200000 in
theorem hdS_51 : ∀ w ∈ hdS "RunmergeOfficeLaw" 324 50, w ∈ nw := in_at [1263, 1264, 1265, 1266] (by decide +kernel)
set_option maxRecDepth 200000 in
theorem elS_51 : ∀ w ∈ elS "RunmergeOfficeLaw" 324 50, w ∈ nw := in_at [1267, 1268, 1269, 1270, 1271, 1272, 1273] (by decide +kernel)
set_option maxRecDepth 200000 in
theorem hdS_52 : ∀ w ∈ hdS "RunmergeOfficeLaw" 326 51, w ∈ nw := in_at [1274, 1275, 1276, 1277] (by decide +kernel)
set_option maxRecDepth 200000 in
theorem elS_52 : ∀ w ∈ elS "RunmergeOfficeLaw" 326 51, w ∈ nw := in_at [1278, 1279, 1280, 1281, 1282, 1283, 1284, 1285, 1286, 1287, 1288, 1289, 1290, 1291, 1292] (by decide +kernel)
set_option maxRecDepth 200000 in
theorem hdS_53 : ∀ w ∈ hdS "RunmergeOfficeLaw" 328 52, w ∈ nw := in_at [1293, 1294, 1295, 1296] (by decide +kernel)
set_option maxRecDepth 200000 in
theorem elS_53 : ∀ w ∈ elS "RunmergeOfficeLaw" 328 52, w ∈ nw := in_at [1297, 1298] (by decide +kernel)
set_option maxRecDepth 200000 in
theorem hdS_54 : ∀ w ∈ hdS "RunmergeOfficeLaw" 330 53, w ∈ nw := in_at [1299, 1300, 1301, 1302] (by decide +kernel)
set_option maxRecDepth 200000 in
theorem elS_54 : ∀ w ∈ elS "RunmergeOfficeLaw" 330 53, w ∈ nw := in_at [1303, 1304, 1305, 1306, 1307, 1308, 1309, 1310] (by decide +kernel)
set_option maxRecDepth 200000 in
theorem hdS_55 : ∀ w ∈ hdS "RunmergeOfficeLaw" 332 54, w ∈ nw := in_at [1311, 1312, 1313, 1314] (by decide +kernel)
set_option maxRecDepth 200000 in
theorem elS_55 : ∀ w ∈ elS "RunmergeOfficeLaw" 332 54, w ∈ nw := in_at [1315, 1316, 1317, 1318, 1319, 1320] (by decide +kernel)
set_option maxRecDepth 200000 in
theorem hdS_56 : ∀ w ∈ hdS "RunmergeOfficeLaw" 334 55, w ∈ nw := in_at [1321, 1322, 1323, 1324] (by decide +kernel)
set_option maxRecDepth 200000 in
theorem elS_56 : ∀ w ∈ elS "RunmergeOfficeLaw" 334 55, w ∈ nw := in_at [1325, 1326] (by decide +kernel)
set_option maxRecDepth 200000 in
theorem hdS_57 : ∀ w ∈ hdS "RunmergeOfficeLaw" 336 56, w ∈ nw := in_at [1327, 1328, 1329, 1330] (by decide +kernel)
set_option maxRecDepth 200000 in
theorem elS_57 : ∀ w ∈ elS "RunmergeOfficeLaw" 336 56, w ∈ nw := in_at [1331, 1332] (by decide +kernel)
set_option maxRecDepth 200000 in
theorem hdS_58 : ∀ w ∈ hdS "RunmergeOfficeLaw" 338 57, w ∈ nw := in_at [1333, 1334, 1335, 1336] (by decide +kernel)
set_option maxRecDepth 200000 in
theorem elS_58 : ∀ w ∈ elS "RunmergeOfficeLaw" 338 57, w ∈ nw := in_at [1337, 1338, 1339] (by decide +kernel)
set_option maxRecDepth 200000 in
theorem hdS_59 : ∀ w ∈ hdS "RunmergeOfficeLaw" 340 58, w ∈ nw := in_at [1340, 1341, 1342, 1343] (by decide +kernel)
set_option maxRecDepth 200000 in
theorem elS_59 : ∀ w ∈ elS "RunmergeOfficeLaw" 340 58, w ∈ nw := in_at [1344, 1345, 1346, 1347, 1348] (by decide +kernel)
set_option maxRecDepth 200000 in
theorem hdS_60 : ∀ w ∈ hdS "RunmergeOfficeLaw" 342 59, w ∈ nw := in_at [1349, 1350, 1351, 1352] (by decide +kernel)
set_option maxRecDepth 200000 in
theorem elS_60 : ∀ w ∈ elS "RunmergeOfficeLaw" 342 59, w ∈ nw := in_at [1353, 1354, 1355, 1356, 1357] (by decide +kernel)
set_option maxRecDepth 200000 in
theorem hdS_61 : ∀ w ∈ hdS "RunmergeOfficeLaw" 344 60, w ∈ nw := in_at [1358, 1359, 1360, 1361] (by decide +kernel)
set_option maxRecDepth 200000 in
theorem elS_61 : ∀ w ∈ elS "RunmergeOfficeLaw" 344 60, w ∈ nw := in_at [1362] (by decide +kernel)
theorem gt_of {s : State} {bs : Nat} (own : String) (k i : Nat) (hts : ∀ w ∈ lw_tbl, w.before #[Value.ref bs] s = true) (hn : ∀ w ∈ nw, w.before #[Value.ref bs] s = true) (h1 : ∀ w ∈ hdS own k i, w ∈ nw) (h2 : ∀ w ∈ elS own k i, w ∈ nw) (hl : lnS i < 2 ^ 31) (h3 : Cond.stringRef own k (p_tx.getD i "") ∈ lw_tbl) : GT own k i (fun q => s.heap.size ≤ q) s := by
  have hA : ∀ a : Nat, a < s.heap.size → ¬ (s.heap.size ≤ a) := fun a h => Nat.not_le.mpr h
  have g1 := hn _ (h1 _ (List.mem_of_getElem? (l := hdS own k i) (i := 0) rfl))
  have g2 := hn _ (h1 _ (List.mem_of_getElem? (l := hdS own k i) (i := 1) rfl))
  have g3 := hn _ (h1 _ (List.mem_of_getElem? (l := hdS own k i) (i := 2) rfl))
  have g4 := hn _ (h1 _ (List.mem_of_getElem? (l := hdS own k i) (i := 3) rfl))
  obtain ⟨adK, adV, q1, q2⟩ := vk_Sof (N := 1) (tm := fun _ => tmS own k) (len := [lnS i]) (byt := [p_bx.getD i []]) (A := fun q => s.heap.size ≤ q) (s := s) (args := #[Value.ref bs])
    (fun j hj => by obtain rfl : j = 0 := by omega
                    exact hl)
    (fun j hj => g1) (fun j hj => g2) (fun j hj => g3)
    (fun j hj => by obtain rfl : j = 0 := by omega
                    exact g4)
    (fun j hj x hx => by
      obtain rfl : j = 0 := by omega
      exact hn _ (h2 _ (List.mem_map.mpr ⟨x, List.mem_range.mpr hx, rfl⟩)))
    (fun x y hx hy hxy => absurd (show x = y by omega) hxy) hA
  exact ⟨adK, adV, q1, vk_R.of (hts _ h3) (q2 0 (by decide))⟩
theorem start_K {s : State} {bs : Nat} (hts : ∀ w ∈ lw_tbl, w.before #[Value.ref bs] s = true) : ∃ (dC : Nat → ClassId) (dI : Nat → Nat → Nat), ∀ (k : Nat) (q : vw_C), vwCl[k]? = some q → u_Kn s q.1 q.2.1 q.2.2 (dC k) (dI k) := by
  have htx := lw_tbx_ok hts
  obtain ⟨c0, i0, h0⟩ := u_known (C := RJ0) (T := TJ0) (N := 4) (n := 4) htx inq_wsJ00 (hts (Cond.instantiable "java/lang/String" 4) (List.mem_of_getElem? (i := 1557) (by decide +kernel)))
  obtain ⟨c1, i1, h1⟩ := u_known (C := RJ4) (T := TJ4) (N := 4) (n := 4) htx inq_wsJ40 (hts (Cond.instantiable "java/lang/StringBuilder" 4) (List.mem_of_getElem? (i := 1363) (by decide +kernel)))
  obtain ⟨c2, i2, h2⟩ := u_known (C := RX0) (T := TX0) (N := 3) (n := 3) htx inq_wsX00 (hts (Cond.instantiable "RunmergeOffice$Book" 3) (List.mem_of_getElem? (i := 93) (by decide +kernel)))
  obtain ⟨c3, i3, h3⟩ := u_known (C := RX1) (T := TX1) (N := 8) (n := 8) htx inq_wsX10 (hts (Cond.instantiable "RunmergeOffice$Checker" 8) (List.mem_of_getElem? (i := 419) (by decide +kernel)))
  obtain ⟨c4, i4, h4⟩ := u_known (C := RX2) (T := TX2) (N := 15) (n := 15) htx inq_wsX20 (hts (Cond.instantiable "RunmergeOffice$Job" 15) (List.mem_of_getElem? (i := 281) (by decide +kernel)))
  obtain ⟨c5, i5, h5⟩ := u_known (C := RX3) (T := TX3) (N := 6) (n := 6) htx inq_wsX30 (hts (Cond.instantiable "RunmergeOffice$Pass" 6) (List.mem_of_getElem? (i := 221) (by decide +kernel)))
  obtain ⟨c6, i6, h6⟩ := u_known (C := RX4) (T := TX4) (N := 8) (n := 8) htx inq_wsX40 (hts (Cond.instantiable "RunmergeOffice$Plan" 8) (List.mem_of_getElem? (i := 215) (by decide +kernel)))
  obtain ⟨c7, i7, h7⟩ := u_known (C := RX5) (T := TX5) (N := 13) (n := 13) htx inq_wsX50 (hts (Cond.instantiable "RunmergeOffice$Reader" 13) (List.mem_of_getElem? (i := 348) (by decide +kernel)))
  obtain ⟨c8, i8, h8⟩ := u_known (C := RX6) (T := TX6) (N := 3) (n := 3) htx inq_wsX60 (hts (Cond.instantiable "RunmergeOffice$RunMaker" 3) (List.mem_of_getElem? (i := 171) (by decide +kernel)))
  obtain ⟨c9, i9, h9⟩ := u_known (C := RX7) (T := TX7) (N := 5) (n := 5) htx inq_wsX70 (hts (Cond.instantiable "RunmergeOffice$RunRow" 5) (List.mem_of_getElem? (i := 187) (by decide +kernel)))
  obtain ⟨c10, i10, h10⟩ := u_known (C := RX8) (T := TX8) (N := 5) (n := 5) htx inq_wsX80 (hts (Cond.instantiable "RunmergeOffice$Settings" 5) (List.mem_of_getElem? (i := 129) (by decide +kernel)))
  obtain ⟨c11, i11, h11⟩ := u_known (C := RX9) (T := TX9) (N := 2) (n := 2) htx inq_wsX90 (hts (Cond.instantiable "RunmergeOffice$Tape" 2) (List.mem_of_getElem? (i := 112) (by decide +kernel)))
  obtain ⟨c12, i12, h12⟩ := u_known (C := RX10) (T := TX10) (N := 2) (n := 2) htx inq_wsX100 (hts (Cond.instantiable "RunmergeOffice$Text" 2) (List.mem_of_getElem? (i := 354) (by decide +kernel)))
  obtain ⟨c13, i13, h13⟩ := u_known (C := RX11) (T := TX11) (N := 13) (n := 13) htx inq_wsX110 (hts (Cond.instantiable "RunmergeOffice" 13) (List.mem_of_getElem? (i := 85) (by decide +kernel)))
  refine ⟨fun k => ([c0, c1, c2, c3, c4, c5, c6, c7, c8, c9, c10, c11, c12, c13] : List ClassId).getD k 0, fun k => ([i0, i1, i2, i3, i4, i5, i6, i7, i8, i9, i10, i11, i12, i13] : List (Nat → Nat)).getD k (fun _ => 0), ?_⟩
  intro k q hq
  match k, hq with
  | 0, hq => cases hq; exact h0
  | 1, hq => cases hq; exact h1
  | 2, hq => cases hq; exact h2
  | 3, hq => cases hq; exact h3
  | 4, hq => cases hq; exact h4
  | 5, hq => cases hq; exact h5
  | 6, hq => cases hq; exact h6
  | 7, hq => cases hq; exact h7
  | 8, hq => cases hq; exact h8
  | 9, hq => cases hq; exact h9
  | 10, hq => cases hq; exact h10
  | 11, hq => cases hq; exact h11
  | 12, hq => cases hq; exact h12
  | 13, hq => cases hq; exact h13
  | k + 14, hq => simp [vwCl] at hq
def elDigitOnes : List Cond := (List.range 100).map (fun j => Cond.eq (.elem (.static "java/lang/Integer" "DigitOnes" "[B") (.int (Int32.ofNat j))) (.int (dgO j)))
set_option maxRecDepth 200000 in
theorem inDigitOnes : ∀ w ∈ elDigitOnes, w ∈ nw := in_at [14, 15, 16, 17, 18, 19, 20, 21, 22, 23, 24, 25, 26, 27, 28, 29, 30, 31, 32, 33, 34, 35, 36, 37, 38, 39, 40, 41, 42, 43, 44, 45, 46, 47, 48, 49, 50, 51, 52, 53, 54, 55, 56, 57, 58, 59, 60, 61, 62, 63, 64, 65, 66, 67, 68, 69, 70, 71, 72, 73, 74, 75, 76, 77, 78, 79, 80, 81, 82, 83, 84, 85, 86, 87, 88, 89, 90, 91, 92, 93, 94, 95, 96, 97, 98, 99, 100, 101, 102, 103, 104, 105, 106, 107, 108, 109, 110, 111, 112, 113] (by decide +kernel)
theorem gd_DigitOnes {s : State} {bs : Nat} (hts : ∀ w ∈ lw_tbl, w.before #[Value.ref bs] s = true) (hn : ∀ w ∈ nw, w.before #[Value.ref bs] s = true) : GD "DigitOnes" dgO (fun q => s.heap.size ≤ q) s := by
  have hA : ∀ a : Nat, a < s.heap.size → ¬ (s.heap.size ≤ a) := fun a h => Nat.not_le.mpr h
  obtain ⟨t, ht, hT⟩ := va_Tof (tm := .static "java/lang/Integer" "DigitOnes" "[B") (ty := .byte) (N := 100) (f := fun j => .int (dgO j)) (A := fun q => s.heap.size ≤ q) (s := s) (args := #[Value.ref bs]) (by decide) (hn (Cond.arrayOf (.static "java/lang/Integer" "DigitOnes" "[B") .byte) (List.mem_of_getElem? (i := 12) (by decide +kernel))) (va_eqt (hn (Cond.eq (.length (.static "java/lang/Integer" "DigitOnes" "[B")) (.int 100)) (List.mem_of_getElem? (i := 13) (by decide +kernel)))) (fun j hj => va_eqt (hn _ (inDigitOnes _ (List.mem_map.mpr ⟨j, List.mem_range.mpr hj, rfl⟩)))) hA
  exact ⟨t, va_Zof (hts (Cond.laysStatic "java/lang/Integer" "DigitOnes" "[B") (List.mem_of_getElem? (i := 1527) (by decide +kernel))) (hts (Cond.initialized "java/lang/Integer") (List.mem_of_getElem? (i := 83) (by decide +kernel))) ht hA, hT⟩
def elDigitTens : List Cond := (List.range 100).map (fun j => Cond.eq (.elem (.static "java/lang/Integer" "DigitTens" "[B") (.int (Int32.ofNat j))) (.int (dgT j)))
set_option maxRecDepth 200000 in
theorem inDigitTens : ∀ w ∈ elDigitTens, w ∈ nw := in_at [117, 118, 119, 120, 121, 122, 123, 124, 125, 126, 127, 128, 129, 130, 131, 132, 133, 134, 135, 136, 137, 138, 139, 140, 141, 142, 143, 144, 145, 146, 147, 148, 149, 150, 151, 152, 153, 154, 155, 156, 157, 158, 159, 160, 161, 162, 163, 164, 165, 166, 167, 168, 169, 170, 171, 172, 173, 174, 175, 176, 177, 178, 179, 180, 181, 182, 183, 184, 185, 186, 187, 188, 189, 190, 191, 192, 193, 194, 195, 196, 197, 198, 199, 200, 201, 202, 203, 204, 205, 206, 207, 208, 209, 210, 211, 212, 213, 214, 215, 216] (by decide +kernel)
theorem gd_DigitTens {s : State} {bs : Nat} (hts : ∀ w ∈ lw_tbl, w.before #[Value.ref bs] s = true) (hn : ∀ w ∈ nw, w.before #[Value.ref bs] s = true) : GD "DigitTens" dgT (fun q => s.heap.size ≤ q) s := by
  have hA : ∀ a : Nat, a < s.heap.size → ¬ (s.heap.size ≤ a) := fun a h => Nat.not_le.mpr h
  obtain ⟨t, ht, hT⟩ := va_Tof (tm := .static "java/lang/Integer" "DigitTens" "[B") (ty := .byte) (N := 100) (f := fun j => .int (dgT j)) (A := fun q => s.heap.size ≤ q) (s := s) (args := #[Value.ref bs]) (by decide) (hn (Cond.arrayOf (.static "java/lang/Integer" "DigitTens" "[B") .byte) (List.mem_of_getElem? (i := 115) (by decide +kernel))) (va_eqt (hn (Cond.eq (.length (.static "java/lang/Integer" "DigitTens" "[B")) (.int 100)) (List.mem_of_getElem? (i := 116) (by decide +kernel)))) (fun j hj => va_eqt (hn _ (inDigitTens _ (List.mem_map.mpr ⟨j, List.mem_range.mpr hj, rfl⟩)))) hA
  exact ⟨t, va_Zof (hts (Cond.laysStatic "java/lang/Integer" "DigitTens" "[B") (List.mem_of_getElem? (i := 1529) (by decide +kernel))) (hts (Cond.initialized "java/lang/Integer") (List.mem_of_getElem? (i := 83) (by decide +kernel))) ht hA, hT⟩
theorem gt_0 {s : State} {bs : Nat} (hts : ∀ w ∈ lw_tbl, w.before #[Value.ref bs] s = true) (hn : ∀ w ∈ nw, w.before #[Value.ref bs] s = true) : GT "RunmergeOffice$Reader" 68 0 (fun q => s.heap.size ≤ q) s := gt_of _ _ _ hts hn hdS_0 elS_0 (by decide +kernel) (List.mem_of_getElem? (i := 1087) (by decide +kernel))
theorem gt_1 {s : State} {bs : Nat} (hts : ∀ w ∈ lw_tbl, w.before #[Value.ref bs] s = true) (hn : ∀ w ∈ nw, w.before #[Value.ref bs] s = true) : GT "RunmergeOffice$Reader" 120 9 (fun q => s.heap.size ≤ q) s := gt_of _ _ _ hts hn hdS_1 elS_1 (by decide +kernel) (List.mem_of_getElem? (i := 1161) (by decide +kernel))
theorem gt_2 {s : State} {bs : Nat} (hts : ∀ w ∈ lw_tbl, w.before #[Value.ref bs] s = true) (hn : ∀ w ∈ nw, w.before #[Value.ref bs] s = true) : GT "RunmergeOffice$Reader" 125 10 (fun q => s.heap.size ≤ q) s := gt_of _ _ _ hts hn hdS_2 elS_2 (by decide +kernel) (List.mem_of_getElem? (i := 1170) (by decide +kernel))
theorem gt_3 {s : State} {bs : Nat} (hts : ∀ w ∈ lw_tbl, w.before #[Value.ref bs] s = true) (hn : ∀ w ∈ nw, w.before #[Value.ref bs] s = true) : GT "RunmergeOffice$Reader" 127 11 (fun q => s.heap.size ≤ q) s := gt_of _ _ _ hts hn hdS_3 elS_3 (by decide +kernel) (List.mem_of_getElem? (i := 1171) (by decide +kernel))
theorem gt_4 {s : State} {bs : Nat} (hts : ∀ w ∈ lw_tbl, w.before #[Value.ref bs] s = true) (hn : ∀ w ∈ nw, w.before #[Value.ref bs] s = true) : GT "RunmergeOffice$Reader" 132 12 (fun q => s.heap.size ≤ q) s := gt_of _ _ _ hts hn hdS_4 elS_4 (by decide +kernel) (List.mem_of_getElem? (i := 1172) (by decide +kernel))
theorem gt_5 {s : State} {bs : Nat} (hts : ∀ w ∈ lw_tbl, w.before #[Value.ref bs] s = true) (hn : ∀ w ∈ nw, w.before #[Value.ref bs] s = true) : GT "RunmergeOffice$Reader" 137 13 (fun q => s.heap.size ≤ q) s := gt_of _ _ _ hts hn hdS_5 elS_5 (by decide +kernel) (List.mem_of_getElem? (i := 1173) (by decide +kernel))
theorem gt_6 {s : State} {bs : Nat} (hts : ∀ w ∈ lw_tbl, w.before #[Value.ref bs] s = true) (hn : ∀ w ∈ nw, w.before #[Value.ref bs] s = true) : GT "RunmergeOffice$Reader" 139 14 (fun q => s.heap.size ≤ q) s := gt_of _ _ _ hts hn hdS_6 elS_6 (by decide +kernel) (List.mem_of_getElem? (i := 1174) (by decide +kernel))
theorem gt_7 {s : State} {bs : Nat} (hts : ∀ w ∈ lw_tbl, w.before #[Value.ref bs] s = true) (hn : ∀ w ∈ nw, w.before #[Value.ref bs] s = true) : GT "RunmergeOffice$Reader" 144 15 (fun q => s.heap.size ≤ q) s := gt_of _ _ _ hts hn hdS_7 elS_7 (by decide +kernel) (List.mem_of_getElem? (i := 1175) (by decide +kernel))
theorem gt_8 {s : State} {bs : Nat} (hts : ∀ w ∈ lw_tbl, w.before #[Value.ref bs] s = true) (hn : ∀ w ∈ nw, w.before #[Value.ref bs] s = true) : GT "RunmergeOffice$Reader" 149 16 (fun q => s.heap.size ≤ q) s := gt_of _ _ _ hts hn hdS_8 elS_8 (by decide +kernel) (List.mem_of_getElem? (i := 1176) (by decide +kernel))
theorem gt_9 {s : State} {bs : Nat} (hts : ∀ w ∈ lw_tbl, w.before #[Value.ref bs] s = true) (hn : ∀ w ∈ nw, w.before #[Value.ref bs] s = true) : GT "RunmergeOffice$Reader" 151 17 (fun q => s.heap.size ≤ q) s := gt_of _ _ _ hts hn hdS_9 elS_9 (by decide +kernel) (List.mem_of_getElem? (i := 1177) (by decide +kernel))
theorem gt_10 {s : State} {bs : Nat} (hts : ∀ w ∈ lw_tbl, w.before #[Value.ref bs] s = true) (hn : ∀ w ∈ nw, w.before #[Value.ref bs] s = true) : GT "RunmergeOffice$Reader" 82 1 (fun q => s.heap.size ≤ q) s := gt_of _ _ _ hts hn hdS_10 elS_10 (by decide +kernel) (List.mem_of_getElem? (i := 1178) (by decide +kernel))
theorem gt_11 {s : State} {bs : Nat} (hts : ∀ w ∈ lw_tbl, w.before #[Value.ref bs] s = true) (hn : ∀ w ∈ nw, w.before #[Value.ref bs] s = true) : GT "RunmergeOffice$Reader" 87 2 (fun q => s.heap.size ≤ q) s := gt_of _ _ _ hts hn hdS_11 elS_11 (by decide +kernel) (List.mem_of_getElem? (i := 1183) (by decide +kernel))
theorem gt_12 {s : State} {bs : Nat} (hts : ∀ w ∈ lw_tbl, w.before #[Value.ref bs] s = true) (hn : ∀ w ∈ nw, w.before #[Value.ref bs] s = true) : GT "RunmergeOffice$Reader" 92 3 (fun q => s.heap.size ≤ q) s := gt_of _ _ _ hts hn hdS_12 elS_12 (by decide +kernel) (List.mem_of_getElem? (i := 1188) (by decide +kernel))
theorem gt_13 {s : State} {bs : Nat} (hts : ∀ w ∈ lw_tbl, w.before #[Value.ref bs] s = true) (hn : ∀ w ∈ nw, w.before #[Value.ref bs] s = true) : GT "RunmergeOffice$Reader" 94 4 (fun q => s.heap.size ≤ q) s := gt_of _ _ _ hts hn hdS_13 elS_13 (by decide +kernel) (List.mem_of_getElem? (i := 1189) (by decide +kernel))
theorem gt_14 {s : State} {bs : Nat} (hts : ∀ w ∈ lw_tbl, w.before #[Value.ref bs] s = true) (hn : ∀ w ∈ nw, w.before #[Value.ref bs] s = true) : GT "RunmergeOffice$Reader" 96 5 (fun q => s.heap.size ≤ q) s := gt_of _ _ _ hts hn hdS_14 elS_14 (by decide +kernel) (List.mem_of_getElem? (i := 1190) (by decide +kernel))
theorem gt_15 {s : State} {bs : Nat} (hts : ∀ w ∈ lw_tbl, w.before #[Value.ref bs] s = true) (hn : ∀ w ∈ nw, w.before #[Value.ref bs] s = true) : GT "RunmergeOffice$Reader" 98 6 (fun q => s.heap.size ≤ q) s := gt_of _ _ _ hts hn hdS_15 elS_15 (by decide +kernel) (List.mem_of_getElem? (i := 1191) (by decide +kernel))
theorem gt_16 {s : State} {bs : Nat} (hts : ∀ w ∈ lw_tbl, w.before #[Value.ref bs] s = true) (hn : ∀ w ∈ nw, w.before #[Value.ref bs] s = true) : GT "RunmergeOffice$Reader" 103 7 (fun q => s.heap.size ≤ q) s := gt_of _ _ _ hts hn hdS_16 elS_16 (by decide +kernel) (List.mem_of_getElem? (i := 1196) (by decide +kernel))
theorem gt_17 {s : State} {bs : Nat} (hts : ∀ w ∈ lw_tbl, w.before #[Value.ref bs] s = true) (hn : ∀ w ∈ nw, w.before #[Value.ref bs] s = true) : GT "RunmergeOffice$Reader" 105 8 (fun q => s.heap.size ≤ q) s := gt_of _ _ _ hts hn hdS_17 elS_17 (by decide +kernel) (List.mem_of_getElem? (i := 1197) (by decide +kernel))
theorem gt_18 {s : State} {bs : Nat} (hts : ∀ w ∈ lw_tbl, w.before #[Value.ref bs] s = true) (hn : ∀ w ∈ nw, w.before #[Value.ref bs] s = true) : GT "RunmergeOfficeLaw" 255 18 (fun q => s.heap.size ≤ q) s := gt_of _ _ _ hts hn hdS_18 elS_18 (by decide +kernel) (List.mem_of_getElem? (i := 1364) (by decide +kernel))
theorem gt_19 {s : State} {bs : Nat} (hts : ∀ w ∈ lw_tbl, w.before #[Value.ref bs] s = true) (hn : ∀ w ∈ nw, w.before #[Value.ref bs] s = true) : GT "RunmergeOfficeLaw" 226 19 (fun q => s.heap.size ≤ q) s := gt_of _ _ _ hts hn hdS_19 elS_19 (by decide +kernel) (List.mem_of_getElem? (i := 1365) (by decide +kernel))
theorem gt_20 {s : State} {bs : Nat} (hts : ∀ w ∈ lw_tbl, w.before #[Value.ref bs] s = true) (hn : ∀ w ∈ nw, w.before #[Value.ref bs] s = true) : GT "RunmergeOfficeLaw" 209 20 (fun q => s.heap.size ≤ q) s := gt_of _ _ _ hts hn hdS_20 elS_20 (by decide +kernel) (List.mem_of_getElem? (i := 1511) (by decide +kernel))
theorem gt_21 {s : State} {bs : Nat} (hts : ∀ w ∈ lw_tbl, w.before #[Value.ref bs] s = true) (hn : ∀ w ∈ nw, w.before #[Value.ref bs] s = true) : GT "RunmergeOfficeLaw" 220 9 (fun q => s.heap.size ≤ q) s := gt_of _ _ _ hts hn hdS_21 elS_21 (by decide +kernel) (List.mem_of_getElem? (i := 1538) (by decide +kernel))
theorem gt_22 {s : State} {bs : Nat} (hts : ∀ w ∈ lw_tbl, w.before #[Value.ref bs] s = true) (hn : ∀ w ∈ nw, w.before #[Value.ref bs] s = true) : GT "RunmergeOfficeLaw" 222 21 (fun q => s.heap.size ≤ q) s := gt_of _ _ _ hts hn hdS_22 elS_22 (by decide +kernel) (List.mem_of_getElem? (i := 1539) (by decide +kernel))
theorem gt_23 {s : State} {bs : Nat} (hts : ∀ w ∈ lw_tbl, w.before #[Value.ref bs] s = true) (hn : ∀ w ∈ nw, w.before #[Value.ref bs] s = true) : GT "RunmergeOfficeLaw" 224 22 (fun q => s.heap.size ≤ q) s := gt_of _ _ _ hts hn hdS_23 elS_23 (by decide +kernel) (List.mem_of_getElem? (i := 1540) (by decide +kernel))
theorem gt_24 {s : State} {bs : Nat} (hts : ∀ w ∈ lw_tbl, w.before #[Value.ref bs] s = true) (hn : ∀ w ∈ nw, w.before #[Value.ref bs] s = true) : GT "RunmergeOfficeLaw" 228 23 (fun q => s.heap.size ≤ q) s := gt_of _ _ _ hts hn hdS_24 elS_24 (by decide +kernel) (List.mem_of_getElem? (i := 1541) (by decide +kernel))
theorem gt_25 {s : State} {bs : Nat} (hts : ∀ w ∈ lw_tbl, w.before #[Value.ref bs] s = true) (hn : ∀ w ∈ nw, w.before #[Value.ref bs] s = true) : GT "RunmergeOfficeLaw" 230 24 (fun q => s.heap.size ≤ q) s := gt_of _ _ _ hts hn hdS_25 elS_25 (by decide +kernel) (List.mem_of_getElem? (i := 1542) (by decide +kernel))
theorem gt_26 {s : State} {bs : Nat} (hts : ∀ w ∈ lw_tbl, w.before #[Value.ref bs] s = true) (hn : ∀ w ∈ nw, w.before #[Value.ref bs] s = true) : GT "RunmergeOfficeLaw" 232 25 (fun q => s.heap.size ≤ q) s := gt_of _ _ _ hts hn hdS_26 elS_26 (by decide +kernel) (List.mem_of_getElem? (i := 1543) (by decide +kernel))
theorem gt_27 {s : State} {bs : Nat} (hts : ∀ w ∈ lw_tbl, w.before #[Value.ref bs] s = true) (hn : ∀ w ∈ nw, w.before #[Value.ref bs] s = true) : GT "RunmergeOfficeLaw" 234 26 (fun q => s.heap.size ≤ q) s := gt_of _ _ _ hts hn hdS_27 elS_27 (by decide +kernel) (List.mem_of_getElem? (i := 1544) (by decide +kernel))
theorem gt_28 {s : State} {bs : Nat} (hts : ∀ w ∈ lw_tbl, w.before #[Value.ref bs] s = true) (hn : ∀ w ∈ nw, w.before #[Value.ref bs] s = true) : GT "RunmergeOfficeLaw" 236 27 (fun q => s.heap.size ≤ q) s := gt_of _ _ _ hts hn hdS_28 elS_28 (by decide +kernel) (List.mem_of_getElem? (i := 1545) (by decide +kernel))
theorem gt_29 {s : State} {bs : Nat} (hts : ∀ w ∈ lw_tbl, w.before #[Value.ref bs] s = true) (hn : ∀ w ∈ nw, w.before #[Value.ref bs] s = true) : GT "RunmergeOfficeLaw" 243 28 (fun q => s.heap.size ≤ q) s := gt_of _ _ _ hts hn hdS_29 elS_29 (by decide +kernel) (List.mem_of_getElem? (i := 1610) (by decide +kernel))
theorem gt_30 {s : State} {bs : Nat} (hts : ∀ w ∈ lw_tbl, w.before #[Value.ref bs] s = true) (hn : ∀ w ∈ nw, w.before #[Value.ref bs] s = true) : GT "RunmergeOfficeLaw" 245 29 (fun q => s.heap.size ≤ q) s := gt_of _ _ _ hts hn hdS_30 elS_30 (by decide +kernel) (List.mem_of_getElem? (i := 1611) (by decide +kernel))
theorem gt_31 {s : State} {bs : Nat} (hts : ∀ w ∈ lw_tbl, w.before #[Value.ref bs] s = true) (hn : ∀ w ∈ nw, w.before #[Value.ref bs] s = true) : GT "RunmergeOfficeLaw" 247 30 (fun q => s.heap.size ≤ q) s := gt_of _ _ _ hts hn hdS_31 elS_31 (by decide +kernel) (List.mem_of_getElem? (i := 1612) (by decide +kernel))
theorem gt_32 {s : State} {bs : Nat} (hts : ∀ w ∈ lw_tbl, w.before #[Value.ref bs] s = true) (hn : ∀ w ∈ nw, w.before #[Value.ref bs] s = true) : GT "RunmergeOfficeLaw" 249 31 (fun q => s.heap.size ≤ q) s := gt_of _ _ _ hts hn hdS_32 elS_32 (by decide +kernel) (List.mem_of_getElem? (i := 1613) (by decide +kernel))
theorem gt_33 {s : State} {bs : Nat} (hts : ∀ w ∈ lw_tbl, w.before #[Value.ref bs] s = true) (hn : ∀ w ∈ nw, w.before #[Value.ref bs] s = true) : GT "RunmergeOfficeLaw" 251 32 (fun q => s.heap.size ≤ q) s := gt_of _ _ _ hts hn hdS_33 elS_33 (by decide +kernel) (List.mem_of_getElem? (i := 1614) (by decide +kernel))
theorem gt_34 {s : State} {bs : Nat} (hts : ∀ w ∈ lw_tbl, w.before #[Value.ref bs] s = true) (hn : ∀ w ∈ nw, w.before #[Value.ref bs] s = true) : GT "RunmergeOfficeLaw" 253 33 (fun q => s.heap.size ≤ q) s := gt_of _ _ _ hts hn hdS_34 elS_34 (by decide +kernel) (List.mem_of_getElem? (i := 1615) (by decide +kernel))
theorem gt_35 {s : State} {bs : Nat} (hts : ∀ w ∈ lw_tbl, w.before #[Value.ref bs] s = true) (hn : ∀ w ∈ nw, w.before #[Value.ref bs] s = true) : GT "RunmergeOfficeLaw" 257 34 (fun q => s.heap.size ≤ q) s := gt_of _ _ _ hts hn hdS_35 elS_35 (by decide +kernel) (List.mem_of_getElem? (i := 1616) (by decide +kernel))
theorem gt_36 {s : State} {bs : Nat} (hts : ∀ w ∈ lw_tbl, w.before #[Value.ref bs] s = true) (hn : ∀ w ∈ nw, w.before #[Value.ref bs] s = true) : GT "RunmergeOfficeLaw" 259 35 (fun q => s.heap.size ≤ q) s := gt_of _ _ _ hts hn hdS_36 elS_36 (by decide +kernel) (List.mem_of_getElem? (i := 1617) (by decide +kernel))
theorem gt_37 {s : State} {bs : Nat} (hts : ∀ w ∈ lw_tbl, w.before #[Value.ref bs] s = true) (hn : ∀ w ∈ nw, w.before #[Value.ref bs] s = true) : GT "RunmergeOfficeLaw" 261 36 (fun q => s.heap.size ≤ q) s := gt_of _ _ _ hts hn hdS_37 elS_37 (by decide +kernel) (List.mem_of_getElem? (i := 1618) (by decide +kernel))
theorem gt_38 {s : State} {bs : Nat} (hts : ∀ w ∈ lw_tbl, w.before #[Value.ref bs] s = true) (hn : ∀ w ∈ nw, w.before #[Value.ref bs] s = true) : GT "RunmergeOfficeLaw" 263 37 (fun q => s.heap.size ≤ q) s := gt_of _ _ _ hts hn hdS_38 elS_38 (by decide +kernel) (List.mem_of_getElem? (i := 1619) (by decide +kernel))
theorem gt_39 {s : State} {bs : Nat} (hts : ∀ w ∈ lw_tbl, w.before #[Value.ref bs] s = true) (hn : ∀ w ∈ nw, w.before #[Value.ref bs] s = true) : GT "RunmergeOfficeLaw" 265 38 (fun q => s.heap.size ≤ q) s := gt_of _ _ _ hts hn hdS_39 elS_39 (by decide +kernel) (List.mem_of_getElem? (i := 1620) (by decide +kernel))
theorem gt_40 {s : State} {bs : Nat} (hts : ∀ w ∈ lw_tbl, w.before #[Value.ref bs] s = true) (hn : ∀ w ∈ nw, w.before #[Value.ref bs] s = true) : GT "RunmergeOfficeLaw" 267 39 (fun q => s.heap.size ≤ q) s := gt_of _ _ _ hts hn hdS_40 elS_40 (by decide +kernel) (List.mem_of_getElem? (i := 1621) (by decide +kernel))
theorem gt_41 {s : State} {bs : Nat} (hts : ∀ w ∈ lw_tbl, w.before #[Value.ref bs] s = true) (hn : ∀ w ∈ nw, w.before #[Value.ref bs] s = true) : GT "RunmergeOfficeLaw" 269 40 (fun q => s.heap.size ≤ q) s := gt_of _ _ _ hts hn hdS_41 elS_41 (by decide +kernel) (List.mem_of_getElem? (i := 1622) (by decide +kernel))
theorem gt_42 {s : State} {bs : Nat} (hts : ∀ w ∈ lw_tbl, w.before #[Value.ref bs] s = true) (hn : ∀ w ∈ nw, w.before #[Value.ref bs] s = true) : GT "RunmergeOfficeLaw" 271 41 (fun q => s.heap.size ≤ q) s := gt_of _ _ _ hts hn hdS_42 elS_42 (by decide +kernel) (List.mem_of_getElem? (i := 1623) (by decide +kernel))
theorem gt_43 {s : State} {bs : Nat} (hts : ∀ w ∈ lw_tbl, w.before #[Value.ref bs] s = true) (hn : ∀ w ∈ nw, w.before #[Value.ref bs] s = true) : GT "RunmergeOfficeLaw" 308 42 (fun q => s.heap.size ≤ q) s := gt_of _ _ _ hts hn hdS_43 elS_43 (by decide +kernel) (List.mem_of_getElem? (i := 1681) (by decide +kernel))
theorem gt_44 {s : State} {bs : Nat} (hts : ∀ w ∈ lw_tbl, w.before #[Value.ref bs] s = true) (hn : ∀ w ∈ nw, w.before #[Value.ref bs] s = true) : GT "RunmergeOfficeLaw" 310 43 (fun q => s.heap.size ≤ q) s := gt_of _ _ _ hts hn hdS_44 elS_44 (by decide +kernel) (List.mem_of_getElem? (i := 1682) (by decide +kernel))
theorem gt_45 {s : State} {bs : Nat} (hts : ∀ w ∈ lw_tbl, w.before #[Value.ref bs] s = true) (hn : ∀ w ∈ nw, w.before #[Value.ref bs] s = true) : GT "RunmergeOfficeLaw" 312 44 (fun q => s.heap.size ≤ q) s := gt_of _ _ _ hts hn hdS_45 elS_45 (by decide +kernel) (List.mem_of_getElem? (i := 1683) (by decide +kernel))
theorem gt_46 {s : State} {bs : Nat} (hts : ∀ w ∈ lw_tbl, w.before #[Value.ref bs] s = true) (hn : ∀ w ∈ nw, w.before #[Value.ref bs] s = true) : GT "RunmergeOfficeLaw" 314 45 (fun q => s.heap.size ≤ q) s := gt_of _ _ _ hts hn hdS_46 elS_46 (by decide +kernel) (List.mem_of_getElem? (i := 1684) (by decide +kernel))
theorem gt_47 {s : State} {bs : Nat} (hts : ∀ w ∈ lw_tbl, w.before #[Value.ref bs] s = true) (hn : ∀ w ∈ nw, w.before #[Value.ref bs] s = true) : GT "RunmergeOfficeLaw" 316 46 (fun q => s.heap.size ≤ q) s := gt_of _ _ _ hts hn hdS_47 elS_47 (by decide +kernel) (List.mem_of_getElem? (i := 1685) (by decide +kernel))
theorem gt_48 {s : State} {bs : Nat} (hts : ∀ w ∈ lw_tbl, w.before #[Value.ref bs] s = true) (hn : ∀ w ∈ nw, w.before #[Value.ref bs] s = true) : GT "RunmergeOfficeLaw" 318 47 (fun q => s.heap.size ≤ q) s := gt_of _ _ _ hts hn hdS_48 elS_48 (by decide +kernel) (List.mem_of_getElem? (i := 1686) (by decide +kernel))
theorem gt_49 {s : State} {bs : Nat} (hts : ∀ w ∈ lw_tbl, w.before #[Value.ref bs] s = true) (hn : ∀ w ∈ nw, w.before #[Value.ref bs] s = true) : GT "RunmergeOfficeLaw" 320 48 (fun q => s.heap.size ≤ q) s := gt_of _ _ _ hts hn hdS_49 elS_49 (by decide +kernel) (List.mem_of_getElem? (i := 1687) (by decide +kernel))
theorem gt_50 {s : State} {bs : Nat} (hts : ∀ w ∈ lw_tbl, w.before #[Value.ref bs] s = true) (hn : ∀ w ∈ nw, w.before #[Value.ref bs] s = true) : GT "RunmergeOfficeLaw" 322 49 (fun q => s.heap.size ≤ q) s := gt_of _ _ _ hts hn hdS_50 elS_50 (by decide +kernel) (List.mem_of_getElem? (i := 1688) (by decide +kernel))
theorem gt_51 {s : State} {bs : Nat} (hts : ∀ w ∈ lw_tbl, w.before #[Value.ref bs] s = true) (hn : ∀ w ∈ nw, w.before #[Value.ref bs] s = true) : GT "RunmergeOfficeLaw" 324 50 (fun q => s.heap.size ≤ q) s := gt_of _ _ _ hts hn hdS_51 elS_51 (by decide +kernel) (List.mem_of_getElem? (i := 1689) (by decide +kernel))
theorem gt_52 {s : State} {bs : Nat} (hts : ∀ w ∈ lw_tbl, w.before #[Value.ref bs] s = true) (hn : ∀ w ∈ nw, w.before #[Value.ref bs] s = true) : GT "RunmergeOfficeLaw" 326 51 (fun q => s.heap.size ≤ q) s := gt_of _ _ _ hts hn hdS_52 elS_52 (by decide +kernel) (List.mem_of_getElem? (i := 1690) (by decide +kernel))
theorem gt_53 {s : State} {bs : Nat} (hts : ∀ w ∈ lw_tbl, w.before #[Value.ref bs] s = true) (hn : ∀ w ∈ nw, w.before #[Value.ref bs] s = true) : GT "RunmergeOfficeLaw" 328 52 (fun q => s.heap.size ≤ q) s := gt_of _ _ _ hts hn hdS_53 elS_53 (by decide +kernel) (List.mem_of_getElem? (i := 1691) (by decide +kernel))
theorem gt_54 {s : State} {bs : Nat} (hts : ∀ w ∈ lw_tbl, w.before #[Value.ref bs] s = true) (hn : ∀ w ∈ nw, w.before #[Value.ref bs] s = true) : GT "RunmergeOfficeLaw" 330 53 (fun q => s.heap.size ≤ q) s := gt_of _ _ _ hts hn hdS_54 elS_54 (by decide +kernel) (List.mem_of_getElem? (i := 1692) (by decide +kernel))
theorem gt_55 {s : State} {bs : Nat} (hts : ∀ w ∈ lw_tbl, w.before #[Value.ref bs] s = true) (hn : ∀ w ∈ nw, w.before #[Value.ref bs] s = true) : GT "RunmergeOfficeLaw" 332 54 (fun q => s.heap.size ≤ q) s := gt_of _ _ _ hts hn hdS_55 elS_55 (by decide +kernel) (List.mem_of_getElem? (i := 1693) (by decide +kernel))
theorem gt_56 {s : State} {bs : Nat} (hts : ∀ w ∈ lw_tbl, w.before #[Value.ref bs] s = true) (hn : ∀ w ∈ nw, w.before #[Value.ref bs] s = true) : GT "RunmergeOfficeLaw" 334 55 (fun q => s.heap.size ≤ q) s := gt_of _ _ _ hts hn hdS_56 elS_56 (by decide +kernel) (List.mem_of_getElem? (i := 1694) (by decide +kernel))
theorem gt_57 {s : State} {bs : Nat} (hts : ∀ w ∈ lw_tbl, w.before #[Value.ref bs] s = true) (hn : ∀ w ∈ nw, w.before #[Value.ref bs] s = true) : GT "RunmergeOfficeLaw" 336 56 (fun q => s.heap.size ≤ q) s := gt_of _ _ _ hts hn hdS_57 elS_57 (by decide +kernel) (List.mem_of_getElem? (i := 1695) (by decide +kernel))
theorem gt_58 {s : State} {bs : Nat} (hts : ∀ w ∈ lw_tbl, w.before #[Value.ref bs] s = true) (hn : ∀ w ∈ nw, w.before #[Value.ref bs] s = true) : GT "RunmergeOfficeLaw" 338 57 (fun q => s.heap.size ≤ q) s := gt_of _ _ _ hts hn hdS_58 elS_58 (by decide +kernel) (List.mem_of_getElem? (i := 1696) (by decide +kernel))
theorem gt_59 {s : State} {bs : Nat} (hts : ∀ w ∈ lw_tbl, w.before #[Value.ref bs] s = true) (hn : ∀ w ∈ nw, w.before #[Value.ref bs] s = true) : GT "RunmergeOfficeLaw" 340 58 (fun q => s.heap.size ≤ q) s := gt_of _ _ _ hts hn hdS_59 elS_59 (by decide +kernel) (List.mem_of_getElem? (i := 1697) (by decide +kernel))
theorem gt_60 {s : State} {bs : Nat} (hts : ∀ w ∈ lw_tbl, w.before #[Value.ref bs] s = true) (hn : ∀ w ∈ nw, w.before #[Value.ref bs] s = true) : GT "RunmergeOfficeLaw" 342 59 (fun q => s.heap.size ≤ q) s := gt_of _ _ _ hts hn hdS_60 elS_60 (by decide +kernel) (List.mem_of_getElem? (i := 1698) (by decide +kernel))
theorem gt_61 {s : State} {bs : Nat} (hts : ∀ w ∈ lw_tbl, w.before #[Value.ref bs] s = true) (hn : ∀ w ∈ nw, w.before #[Value.ref bs] s = true) : GT "RunmergeOfficeLaw" 344 60 (fun q => s.heap.size ≤ q) s := gt_of _ _ _ hts hn hdS_61 elS_61 (by decide +kernel) (List.mem_of_getElem? (i := 1699) (by decide +kernel))
theorem start_T {s : State} {bs : Nat} (hts : ∀ w ∈ lw_tbl, w.before #[Value.ref bs] s = true) (hn : ∀ w ∈ nw, w.before #[Value.ref bs] s = true) : ∀ (k : Nat) (hk : k < p_sx.length), GT (p_sx[k]).1 (p_sx[k]).2.1 (p_sx[k]).2.2 (fun q => s.heap.size ≤ q) s := by
  intro k hk
  match k, hk with
  | 0, _ => exact gt_0 hts hn
  | 1, _ => exact gt_1 hts hn
  | 2, _ => exact gt_2 hts hn
  | 3, _ => exact gt_3 hts hn
  | 4, _ => exact gt_4 hts hn
  | 5, _ => exact gt_5 hts hn
  | 6, _ => exact gt_6 hts hn
  | 7, _ => exact gt_7 hts hn
  | 8, _ => exact gt_8 hts hn
  | 9, _ => exact gt_9 hts hn
  | 10, _ => exact gt_10 hts hn
  | 11, _ => exact gt_11 hts hn
  | 12, _ => exact gt_12 hts hn
  | 13, _ => exact gt_13 hts hn
  | 14, _ => exact gt_14 hts hn
  | 15, _ => exact gt_15 hts hn
  | 16, _ => exact gt_16 hts hn
  | 17, _ => exact gt_17 hts hn
  | 18, _ => exact gt_18 hts hn
  | 19, _ => exact gt_19 hts hn
  | 20, _ => exact gt_20 hts hn
  | 21, _ => exact gt_21 hts hn
  | 22, _ => exact gt_22 hts hn
  | 23, _ => exact gt_23 hts hn
  | 24, _ => exact gt_24 hts hn
  | 25, _ => exact gt_25 hts hn
  | 26, _ => exact gt_26 hts hn
  | 27, _ => exact gt_27 hts hn
  | 28, _ => exact gt_28 hts hn
  | 29, _ => exact gt_29 hts hn
  | 30, _ => exact gt_30 hts hn
  | 31, _ => exact gt_31 hts hn
  | 32, _ => exact gt_32 hts hn
  | 33, _ => exact gt_33 hts hn
  | 34, _ => exact gt_34 hts hn
  | 35, _ => exact gt_35 hts hn
  | 36, _ => exact gt_36 hts hn
  | 37, _ => exact gt_37 hts hn
  | 38, _ => exact gt_38 hts hn
  | 39, _ => exact gt_39 hts hn
  | 40, _ => exact gt_40 hts hn
  | 41, _ => exact gt_41 hts hn
  | 42, _ => exact gt_42 hts hn
  | 43, _ => exact gt_43 hts hn
  | 44, _ => exact gt_44 hts hn
  | 45, _ => exact gt_45 hts hn
  | 46, _ => exact gt_46 hts hn
  | 47, _ => exact gt_47 hts hn
  | 48, _ => exact gt_48 hts hn
  | 49, _ => exact gt_49 hts hn
  | 50, _ => exact gt_50 hts hn
  | 51, _ => exact gt_51 hts hn
  | 52, _ => exact gt_52 hts hn
  | 53, _ => exact gt_53 hts hn
  | 54, _ => exact gt_54 hts hn
  | 55, _ => exact gt_55 hts hn
  | 56, _ => exact gt_56 hts hn
  | 57, _ => exact gt_57 hts hn
  | 58, _ => exact gt_58 hts hn
  | 59, _ => exact gt_59 hts hn
  | 60, _ => exact gt_60 hts hn
  | 61, _ => exact gt_61 hts hn
  | k + 62, hk => exact absurd hk (by simp [p_sx])
theorem start_G {s : State} {bs : Nat} (hts : ∀ w ∈ lw_tbl, w.before #[Value.ref bs] s = true) (hgv : (Jvm.Cond.and given_1 narrow_1).before #[Value.ref bs] s = true) : ∃ g : Nat → ClassId, (∀ (k : Nat) (q : ClassId × FieldType), (tyL g)[k]? = some q → ArrOfT s q.1 q.2 ∧ va_RA s q.1 q.2) ∧ GB g (fun q => s.heap.size ≤ q) s := by
  have hn : ∀ w ∈ nw, w.before #[Value.ref bs] s = true := flat_of_before _ hgv
  have hA : ∀ a : Nat, a < s.heap.size → ¬ (s.heap.size ≤ a) := fun a h => Nat.not_le.mpr h
  obtain ⟨c0, a0, b0⟩ := arr_c (hts (Cond.arrayClass .int) (List.mem_of_getElem? (i := 109) (by decide +kernel)))
  obtain ⟨c1, a1, b1⟩ := arr_o (hts (Cond.arrayOver (.object "RunmergeOffice$Tape")) (List.mem_of_getElem? (i := 111) (by decide +kernel)))
  obtain ⟨c2, a2, b2⟩ := arr_c (hts (Cond.arrayClass .byte) (List.mem_of_getElem? (i := 593) (by decide +kernel)))
  have hAA : va_AOA .int s := va_AOA.of (hts (Cond.arrayOver (.array .int)) (List.mem_of_getElem? (i := 1254) (by decide +kernel)))
  obtain ⟨c3, a3, b3⟩ := arr_a hAA
  obtain ⟨c4, a4, b4⟩ := arr_o (hts (Cond.arrayOver (.object "java/lang/String")) (List.mem_of_getElem? (i := 1680) (by decide +kernel)))
  refine ⟨fun k => ([c0, c1, c2, c3, c4] : List Nat).getD k 0, ?_, ?_⟩
  · intro k q hq
    match k, hq with
    | 0, hq => cases hq; exact ⟨a0, b0⟩
    | 1, hq => cases hq; exact ⟨a1, b1⟩
    | 2, hq => cases hq; exact ⟨a2, b2⟩
    | 3, hq => cases hq; exact ⟨a3, b3⟩
    | 4, hq => cases hq; exact ⟨a4, b4⟩
    | k + 5, hq => simp [tyL] at hq
  · refine ⟨fun q hq => va_Nw.of rfl (hts _ (fn_in _ (List.mem_map.mpr ⟨q, hq, rfl⟩))), fun q hq => va_Nw.of rfl (hts _ (mn_in _ (List.mem_map.mpr ⟨q, hq, rfl⟩))), fun q hq => str_R (hts _ (st_in _ (List.mem_map.mpr ⟨q, hq, rfl⟩))), ?_, ?_, ⟨va_AO.of (hts (Cond.arrayOver (.object "RunmergeOffice$Tape")) (List.mem_of_getElem? (i := 111) (by decide +kernel))), va_AO.of (hts (Cond.arrayOver (.object "java/lang/String")) (List.mem_of_getElem? (i := 1680) (by decide +kernel))), hAA⟩, fun X hX => va_Nw.of rfl (hts _ (xc_in _ (List.mem_map.mpr ⟨X, hX, rfl⟩))), ?_, fun q hq => va_Nw.of rfl (hts _ (cc_in _ (List.mem_map.mpr ⟨q, hq, rfl⟩))), ?_, ?_, fun q hq => va_Nc.of (hn _ (nc_in _ (List.mem_map.mpr ⟨q, hq, rfl⟩))), va_Zof (hts (Cond.laysStatic "java/lang/String" "COMPACT_STRINGS" "Z") (List.mem_of_getElem? (i := 1101) (by decide +kernel))) (hts (Cond.initialized "java/lang/String") (List.mem_of_getElem? (i := 73) (by decide +kernel))) (va_eqi (hn (Cond.eq (.static "java/lang/String" "COMPACT_STRINGS" "Z") (.int 1)) (List.mem_of_getElem? (i := 6) (by decide +kernel)))) hA, va_Zqof (hts (Cond.laysStatic "jdk/internal/util/Preconditions" "SIOOBE_FORMATTER" "Ljava/util/function/BiFunction;") (List.mem_of_getElem? (i := 1117) (by decide +kernel))) (hts (Cond.initialized "jdk/internal/util/Preconditions") (List.mem_of_getElem? (i := 75) (by decide +kernel))) (hn (Cond.isRef (.static "jdk/internal/util/Preconditions" "SIOOBE_FORMATTER" "Ljava/util/function/BiFunction;")) (List.mem_of_getElem? (i := 7) (by decide +kernel))) hA, gd_DigitOnes hts hn, gd_DigitTens hts hn⟩
    · exact vx_Zqof (hts (Cond.laysStatic "java/lang/Throwable" "UNASSIGNED_STACK" "[Ljava/lang/StackTraceElement;") (List.mem_of_getElem? (i := 552) (by decide +kernel))) (hts (Cond.initialized "java/lang/Throwable") (List.mem_of_getElem? (i := 65) (by decide +kernel))) (hn (Cond.isRef (.static Bundle.tN "UNASSIGNED_STACK" Bundle.steD)) (List.mem_of_getElem? (i := 4) (by decide +kernel))) hA
    · exact vx_Zqof (hts (Cond.laysStatic "java/lang/Throwable" "SUPPRESSED_SENTINEL" "Ljava/util/List;") (List.mem_of_getElem? (i := 554) (by decide +kernel))) (hts (Cond.initialized "java/lang/Throwable") (List.mem_of_getElem? (i := 65) (by decide +kernel))) (hn (Cond.isRef (.static Bundle.tN "SUPPRESSED_SENTINEL" Bundle.listD)) (List.mem_of_getElem? (i := 5) (by decide +kernel))) hA
    · intro q hq
      simp only [p_fw, List.mem_cons, List.not_mem_nil, or_false] at hq
      rcases hq with rfl | rfl | rfl | rfl
      · exact va_Fw.of (hts (Cond.declares ⟨"java/lang/CharSequence", "length", "()I"⟩) (List.mem_of_getElem? (i := 1638) (by decide +kernel))) (hts (Cond.interfaceMethod "java/lang/CharSequence" "java/lang/CharSequence" "length" "()I") (List.mem_of_getElem? (i := 1637) (by decide +kernel))) (hts (Cond.publicMethod ⟨"java/lang/String", "length", "()I"⟩) (List.mem_of_getElem? (i := 1642) (by decide +kernel))) (hts (Cond.unhidden "java/lang/String" "length" "()I") (List.mem_of_getElem? (i := 1641) (by decide +kernel))) (hts (Cond.castable "java/lang/String" "java/lang/CharSequence") (List.mem_of_getElem? (i := 1639) (by decide +kernel)))
      · exact va_Fw.of (hts (Cond.declares ⟨"java/lang/CharSequence", "charAt", "(I)C"⟩) (List.mem_of_getElem? (i := 1650) (by decide +kernel))) (hts (Cond.interfaceMethod "java/lang/CharSequence" "java/lang/CharSequence" "charAt" "(I)C") (List.mem_of_getElem? (i := 1649) (by decide +kernel))) (hts (Cond.publicMethod ⟨"java/lang/String", "charAt", "(I)C"⟩) (List.mem_of_getElem? (i := 1653) (by decide +kernel))) (hts (Cond.unhidden "java/lang/String" "charAt" "(I)C") (List.mem_of_getElem? (i := 1652) (by decide +kernel))) (hts (Cond.castable "java/lang/String" "java/lang/CharSequence") (List.mem_of_getElem? (i := 1639) (by decide +kernel)))
      · exact va_Fw.of (hts (Cond.declares ⟨"java/lang/CharSequence", "length", "()I"⟩) (List.mem_of_getElem? (i := 1638) (by decide +kernel))) (hts (Cond.interfaceMethod "java/lang/CharSequence" "java/lang/CharSequence" "length" "()I") (List.mem_of_getElem? (i := 1637) (by decide +kernel))) (hts (Cond.publicMethod ⟨"java/lang/StringBuilder", "length", "()I"⟩) (List.mem_of_getElem? (i := 1646) (by decide +kernel))) (hts (Cond.unhidden "java/lang/StringBuilder" "length" "()I") (List.mem_of_getElem? (i := 1645) (by decide +kernel))) (hts (Cond.castable "java/lang/StringBuilder" "java/lang/CharSequence") (List.mem_of_getElem? (i := 1643) (by decide +kernel)))
      · exact va_Fw.of (hts (Cond.declares ⟨"java/lang/CharSequence", "charAt", "(I)C"⟩) (List.mem_of_getElem? (i := 1650) (by decide +kernel))) (hts (Cond.interfaceMethod "java/lang/CharSequence" "java/lang/CharSequence" "charAt" "(I)C") (List.mem_of_getElem? (i := 1649) (by decide +kernel))) (hts (Cond.publicMethod ⟨"java/lang/StringBuilder", "charAt", "(I)C"⟩) (List.mem_of_getElem? (i := 1657) (by decide +kernel))) (hts (Cond.unhidden "java/lang/StringBuilder" "charAt" "(I)C") (List.mem_of_getElem? (i := 1655) (by decide +kernel))) (hts (Cond.castable "java/lang/StringBuilder" "java/lang/CharSequence") (List.mem_of_getElem? (i := 1643) (by decide +kernel)))
    · intro Y hY
      simp only [p_dc, List.mem_cons, List.not_mem_nil, or_false] at hY
      rcases hY with rfl | rfl | rfl
      · exact va_Nw.of rfl (hts (Cond.declares ⟨"java/lang/RuntimeException", "<init>", "(Ljava/lang/String;)V"⟩) (List.mem_of_getElem? (i := 529) (by decide +kernel)))
      · exact va_Nw.of rfl (hts (Cond.declares ⟨"java/lang/Exception", "<init>", "(Ljava/lang/String;)V"⟩) (List.mem_of_getElem? (i := 531) (by decide +kernel)))
      · exact va_Nw.of rfl (hts (Cond.declares ⟨"java/lang/Throwable", "<init>", "(Ljava/lang/String;)V"⟩) (List.mem_of_getElem? (i := 533) (by decide +kernel)))
    · intro q hq
      obtain ⟨k, hk, rfl⟩ := List.mem_iff_getElem.mp hq
      exact start_T hts hn k hk
