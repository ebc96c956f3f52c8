/-! the links and words, by their places in lw_tbl: printed by wip/whole/gen/tables.py -/
theorem gn_in_of {α : Type} {f : α → Cond} {l : List α} {ps : List Nat} (h : l.map f = ps.filterMap (fun i => lw_tbl[i]?)) : ∀ t ∈ l, f t ∈ lw_tbl := by
  intro t ht
  have h1 : f t ∈ l.map f := List.mem_map.mpr ⟨t, ht, rfl⟩
  rw [h] at h1
  obtain ⟨i, -, hi⟩ := List.mem_filterMap.mp h1
  exact List.mem_of_getElem? hi
def gn_nm (q : Nat) : String := gn_nms.getD q ""
def gn_Tf (q : Nat) : u_T := (gn_cls.getD q ("", gn_T0, 0)).2.1
def gn_fw (t : Nat × Nat × Nat × Nat × Nat) : Cond := bif Nat.beq t.2.2.2.2 0 then .fieldLink (gn_nm t.1) t.2.1 (gn_Tf t.2.2.1 t.2.2.2.1).1 (gn_Tf t.2.2.1 t.2.2.2.1).2.1 (gn_Tf t.2.2.1 t.2.2.2.1).2.2.1 else .fieldLinkNest (gn_nm t.1) t.2.1 (gn_Tf t.2.2.1 t.2.2.2.1).1 (gn_Tf t.2.2.1 t.2.2.2.1).2.1 (gn_Tf t.2.2.1 t.2.2.2.1).2.2.1 "GuestNoes"
def gn_y (i : Nat) : MethodName := (gn_meta.getD i (⟨"", "", ""⟩, prog_1_method_1_code, 0, none, false, 0, 0)).1
def gn_mw (t : Nat × Nat × Nat × Nat) : Cond := bif Nat.beq t.2.2.2 0 then .methodLink (gn_nm t.1) t.2.1 (gn_y t.2.2.1) else .methodLinkNest (gn_nm t.1) t.2.1 (gn_y t.2.2.1) "GuestNoes"
def gn_sw (t : Nat × Nat × Nat × Nat) : Cond := match t.2.2.1 with | 0 => .methodLink (gn_nm t.1) t.2.1 (gn_y t.2.2.2) | 1 => .methodLink (gn_nm t.1) t.2.1 ⟨"java/lang/System", "arraycopy", "(Ljava/lang/Object;ILjava/lang/Object;II)V"⟩ | 2 => .methodLink (gn_nm t.1) t.2.1 ⟨"java/lang/Math", "max", "(II)I"⟩ | _ => .methodLink (gn_nm t.1) t.2.1 ⟨"java/lang/Math", "min", "(II)I"⟩
set_option maxRecDepth 100000 in
theorem gn_fw_in : ∀ t ∈ gn_fldT, gn_fw t ∈ lw_tbl := gn_in_of (ps := [335, 333, 334, 233, 358, 366, 317, 315, 316, 359, 188, 216, 234, 217, 218, 187, 361, 201, 189, 199, 200, 245, 247, 249, 365, 356, 269, 363, 270, 271, 266, 264, 265, 267, 268, 162, 161, 164, 165, 167, 351, 355, 362, 368, 350, 353, 357, 364, 369, 370, 373, 371, 372, 374, 375, 298, 299, 297, 296, 399, 163, 411, 166, 410, 400, 401, 402, 219, 403, 408, 318, 409, 336, 360, 168, 352, 367, 354, 202, 404, 405, 246, 248, 250, 406, 272, 407, 235, 1040, 1041, 1032, 1045, 1044, 1054, 1055, 1053, 1056, 1057, 1058, 1060, 1062, 1061, 1059, 1063, 1064, 1046, 1038, 1039, 1033, 1035, 1034, 1036, 1037, 1042, 1043, 1049, 1052, 1065, 1066, 1047, 1048, 1050, 1051]) (by decide +kernel)
set_option maxRecDepth 100000 in
theorem gn_mw_in : ∀ t ∈ gn_mthT, gn_mw t ∈ lw_tbl := gn_in_of (ps := [993, 809, 817, 818, 819, 820, 950, 954, 966, 527, 531, 709, 705, 710, 575, 732, 733, 741, 750, 745, 630, 791, 792, 626, 622, 644, 842, 843, 844, 845, 846, 856, 857, 864, 869, 861, 862, 863, 457, 461, 473, 465, 477, 488, 499, 515, 481, 495, 503, 507, 519, 469, 511, 602, 535, 606, 634, 648, 594, 598, 590, 614, 923, 927, 886, 889, 890, 444, 453, 523, 539, 551, 555, 559, 563, 567, 571, 582, 586, 610, 618, 649, 657, 659, 663, 664, 668, 669, 670, 678, 679, 687, 688, 692, 693, 701, 712, 720, 728, 737, 760, 764, 765, 773, 774, 782, 787, 797, 805, 825, 833, 838, 851, 874, 882, 894, 902, 903, 911, 919, 938, 946, 962, 981, 989, 1009, 1013, 1022, 1151, 1155, 1163, 1171, 1167, 1175, 1179, 1159, 1183, 1187, 1238, 1211, 1234, 1207, 1222, 1230, 1199, 1203, 1218, 1226, 1242, 1250, 1263, 1276, 1272, 1292, 1296, 1284, 1288, 1309, 1317, 1322, 1338, 1334, 1358, 1373, 1369, 1381, 1385, 1419]) (by decide +kernel)
set_option maxRecDepth 100000 in
theorem gn_sw_in : ∀ t ∈ gn_sttT, gn_sw t ∈ lw_tbl := gn_in_of (ps := [967, 973, 976, 1017, 579, 749, 755, 716, 719, 855, 868, 873, 485, 492, 638, 641, 887, 888, 675, 916, 1006, 1142, 1215, 1366]) (by decide +kernel)
set_option maxRecDepth 100000 in
theorem gn_cw_in : ∀ t ∈ gn_conT, Cond.constant (gn_nm t.1) t.2.1 t.2.2 ∈ lw_tbl := gn_in_of (f := fun (t : Nat × Nat × Int32) => Cond.constant (gn_nm t.1) t.2.1 t.2.2) (ps := [816, 754, 443, 448, 658, 711, 786, 1145, 1146, 1254, 1271, 1300, 1321, 1345, 970, 971, 972]) (by decide +kernel)
set_option maxRecDepth 100000 in
theorem gn_lw_in : ∀ t ∈ gn_lonT, Cond.constantLong (gn_nm t.1) t.2.1 (Int64.ofNat t.2.2) ∈ lw_tbl := gn_in_of (f := fun (t : Nat × Nat × Nat) => Cond.constantLong (gn_nm t.1) t.2.1 (Int64.ofNat t.2.2)) (ps := [813, 814, 815, 932, 933, 1342, 1343, 1344, 1405, 1406]) (by decide +kernel)
set_option maxRecDepth 100000 in
theorem gn_code_in_0 : ∀ t ∈ (gn_meta.drop 0).take 15, Cond.code t.1 t.2.1 t.2.2.1 t.2.2.2.1 ∈ lw_tbl := gn_in_of (f := fun (t : MethodName × ByteArray × Nat × Option FieldType × Bool × Nat × Nat) => Cond.code t.1 t.2.1 t.2.2.1 t.2.2.2.1) (ps := [984, 992, 812, 808, 941, 949, 953, 965, 975, 1016, 1025, 526, 800, 530, 581]) (by decide +kernel)
set_option maxRecDepth 100000 in
theorem gn_code_in_1 : ∀ t ∈ (gn_meta.drop 15).take 15, Cond.code t.1 t.2.1 t.2.2.1 t.2.2.2.1 ∈ lw_tbl := gn_in_of (f := fun (t : MethodName × ByteArray × Nat × Option FieldType × Bool × Nat × Nat) => Cond.code t.1 t.2.1 t.2.2.1 t.2.2.2.1) (ps := [667, 578, 629, 696, 570, 585, 562, 566, 554, 558, 708, 748, 704, 723, 736]) (by decide +kernel)
set_option maxRecDepth 100000 in
theorem gn_code_in_2 : ∀ t ∈ (gn_meta.drop 30).take 15, Cond.code t.1 t.2.1 t.2.2.1 t.2.2.2.1 ∈ lw_tbl := gn_in_of (f := fun (t : MethodName × ByteArray × Nat × Option FieldType × Bool × Nat × Nat) => Cond.code t.1 t.2.1 t.2.2.1 t.2.2.2.1) (ps := [731, 740, 768, 744, 753, 777, 790, 574, 625, 621, 652, 542, 715, 828, 841]) (by decide +kernel)
set_option maxRecDepth 100000 in
theorem gn_code_in_3 : ∀ t ∈ (gn_meta.drop 45).take 15, Cond.code t.1 t.2.1 t.2.2.1 t.2.2.2.1 ∈ lw_tbl := gn_in_of (f := fun (t : MethodName × ByteArray × Nat × Option FieldType × Bool × Nat × Nat) => Cond.code t.1 t.2.1 t.2.2.1 t.2.2.2.1) (ps := [854, 860, 867, 872, 877, 447, 456, 464, 476, 480, 502, 518, 498, 484, 468]) (by decide +kernel)
set_option maxRecDepth 100000 in
theorem gn_code_in_4 : ∀ t ∈ (gn_meta.drop 60).take 15, Cond.code t.1 t.2.1 t.2.2.1 t.2.2.2.1 ∈ lw_tbl := gn_in_of (f := fun (t : MethodName × ByteArray × Nat × Option FieldType × Bool × Nat × Nat) => Cond.code t.1 t.2.1 t.2.2.1 t.2.2.2.1) (ps := [472, 487, 491, 460, 506, 510, 522, 514, 538, 605, 662, 597, 601, 682, 691]) (by decide +kernel)
set_option maxRecDepth 100000 in
theorem gn_code_in_5 : ∀ t ∈ (gn_meta.drop 75).take 15, Cond.code t.1 t.2.1 t.2.2.1 t.2.2.2.1 ∈ lw_tbl := gn_in_of (f := fun (t : MethodName × ByteArray × Nat × Option FieldType × Bool × Nat × Nat) => Cond.code t.1 t.2.1 t.2.2.1 t.2.2.2.1) (ps := [534, 609, 637, 640, 633, 647, 593, 589, 617, 957, 613, 922, 926, 885, 893]) (by decide +kernel)
set_option maxRecDepth 100000 in
theorem gn_code_in_6 : ∀ t ∈ (gn_meta.drop 90).take 15, Cond.code t.1 t.2.1 t.2.2.1 t.2.2.2.1 ∈ lw_tbl := gn_in_of (f := fun (t : MethodName × ByteArray × Nat × Option FieldType × Bool × Nat × Nat) => Cond.code t.1 t.2.1 t.2.2.1 t.2.2.2.1) (ps := [897, 906, 442, 452, 546, 550, 656, 674, 686, 700, 727, 759, 772, 781, 796]) (by decide +kernel)
set_option maxRecDepth 100000 in
theorem gn_code_in_7 : ∀ t ∈ (gn_meta.drop 105).take 15, Cond.code t.1 t.2.1 t.2.2.1 t.2.2.2.1 ∈ lw_tbl := gn_in_of (f := fun (t : MethodName × ByteArray × Nat × Option FieldType × Bool × Nat × Nat) => Cond.code t.1 t.2.1 t.2.2.1 t.2.2.2.1) (ps := [804, 824, 832, 837, 850, 881, 901, 910, 915, 931, 937, 945, 961, 980, 988]) (by decide +kernel)
set_option maxRecDepth 100000 in
theorem gn_code_in_8 : ∀ t ∈ (gn_meta.drop 120).take 15, Cond.code t.1 t.2.1 t.2.2.1 t.2.2.2.1 ∈ lw_tbl := gn_in_of (f := fun (t : MethodName × ByteArray × Nat × Option FieldType × Bool × Nat × Nat) => Cond.code t.1 t.2.1 t.2.2.1 t.2.2.2.1) (ps := [997, 1001, 1005, 1021, 677, 918, 1008, 763, 1012, 785, 1144, 1217, 1253, 1266, 1279]) (by decide +kernel)
set_option maxRecDepth 100000 in
theorem gn_code_in_9 : ∀ t ∈ (gn_meta.drop 135).take 15, Cond.code t.1 t.2.1 t.2.2.1 t.2.2.2.1 ∈ lw_tbl := gn_in_of (f := fun (t : MethodName × ByteArray × Nat × Option FieldType × Bool × Nat × Nat) => Cond.code t.1 t.2.1 t.2.2.1 t.2.2.2.1) (ps := [1141, 1166, 1154, 1158, 1174, 1170, 1178, 1182, 1162, 1150, 1186, 1190, 1194, 1214, 1241]) (by decide +kernel)
set_option maxRecDepth 100000 in
theorem gn_code_in_10 : ∀ t ∈ (gn_meta.drop 150).take 15, Cond.code t.1 t.2.1 t.2.2.1 t.2.2.2.1 ∈ lw_tbl := gn_in_of (f := fun (t : MethodName × ByteArray × Nat × Option FieldType × Bool × Nat × Nat) => Cond.code t.1 t.2.1 t.2.2.1 t.2.2.2.1) (ps := [1237, 1233, 1202, 1210, 1206, 1225, 1221, 1229, 1245, 1198, 1249, 1258, 1262, 1275, 1270]) (by decide +kernel)
set_option maxRecDepth 100000 in
theorem gn_code_in_11 : ∀ t ∈ (gn_meta.drop 165).take 15, Cond.code t.1 t.2.1 t.2.2.1 t.2.2.2.1 ∈ lw_tbl := gn_in_of (f := fun (t : MethodName × ByteArray × Nat × Option FieldType × Bool × Nat × Nat) => Cond.code t.1 t.2.1 t.2.2.1 t.2.2.2.1) (ps := [1287, 1299, 1295, 1291, 1283, 1304, 1312, 1308, 1325, 1320, 1316, 1329, 1341, 1337, 1333]) (by decide +kernel)
set_option maxRecDepth 100000 in
theorem gn_code_in_12 : ∀ t ∈ (gn_meta.drop 180).take 15, Cond.code t.1 t.2.1 t.2.2.1 t.2.2.2.1 ∈ lw_tbl := gn_in_of (f := fun (t : MethodName × ByteArray × Nat × Option FieldType × Bool × Nat × Nat) => Cond.code t.1 t.2.1 t.2.2.1 t.2.2.2.1) (ps := [1349, 1353, 1361, 1376, 1357, 1372, 1368, 1365, 1384, 1388, 1380, 1392, 1396, 1400, 1404]) (by decide +kernel)
set_option maxRecDepth 100000 in
theorem gn_code_in_13 : ∀ t ∈ (gn_meta.drop 195).take 15, Cond.code t.1 t.2.1 t.2.2.1 t.2.2.2.1 ∈ lw_tbl := gn_in_of (f := fun (t : MethodName × ByteArray × Nat × Option FieldType × Bool × Nat × Nat) => Cond.code t.1 t.2.1 t.2.2.1 t.2.2.2.1) (ps := [1410, 1414, 1418, 1423, 1427, 1431, 1435, 1439, 1443, 969]) (by decide +kernel)
theorem gn_chunk {α : Type} {P : α → Prop} {l : List α} {m n : Nat} (h1 : ∀ t ∈ (l.drop m).take n, P t) (h2 : ∀ t ∈ l.drop (m + n), P t) : ∀ t ∈ l.drop m, P t := by
  intro t ht
  rw [← List.take_append_drop n (l.drop m)] at ht
  rcases List.mem_append.mp ht with h | h
  · exact h1 t h
  · rw [List.drop_drop] at h
    exact h2 t h
set_option maxRecDepth 100000 in
theorem gn_code_in : ∀ t ∈ gn_meta, Cond.code t.1 t.2.1 t.2.2.1 t.2.2.2.1 ∈ lw_tbl := fun t ht => (gn_chunk (m := 0) (n := 15) gn_code_in_0 (gn_chunk (m := 15) (n := 15) gn_code_in_1 (gn_chunk (m := 30) (n := 15) gn_code_in_2 (gn_chunk (m := 45) (n := 15) gn_code_in_3 (gn_chunk (m := 60) (n := 15) gn_code_in_4 (gn_chunk (m := 75) (n := 15) gn_code_in_5 (gn_chunk (m := 90) (n := 15) gn_code_in_6 (gn_chunk (m := 105) (n := 15) gn_code_in_7 (gn_chunk (m := 120) (n := 15) gn_code_in_8 (gn_chunk (m := 135) (n := 15) gn_code_in_9 (gn_chunk (m := 150) (n := 15) gn_code_in_10 (gn_chunk (m := 165) (n := 15) gn_code_in_11 (gn_chunk (m := 180) (n := 15) gn_code_in_12 (gn_chunk (m := 195) (n := 15) gn_code_in_13 (fun t ht => absurd ht (by rw [List.drop_of_length_le (by decide +kernel)]; exact List.not_mem_nil)))))))))))))))) t (by rw [List.drop_zero]; exact ht)
set_option maxRecDepth 100000 in
theorem gn_init_in : ∀ t ∈ gn_meta, Cond.initialized t.1.cls ∈ lw_tbl := gn_in_of (f := fun (t : MethodName × ByteArray × Nat × Option FieldType × Bool × Nat × Nat) => Cond.initialized t.1.cls) (ps := [141, 141, 136, 136, 140, 140, 140, 140, 140, 135, 135, 133, 133, 133, 133, 133, 133, 133, 133, 133, 133, 133, 133, 133, 133, 133, 133, 133, 133, 133, 133, 133, 133, 133, 133, 133, 133, 133, 133, 133, 133, 134, 134, 134, 137, 138, 138, 138, 138, 138, 132, 132, 132, 132, 132, 132, 132, 132, 132, 132, 132, 132, 132, 142, 142, 142, 142, 142, 142, 142, 142, 142, 142, 142, 142, 142, 142, 142, 142, 142, 142, 142, 142, 142, 142, 142, 142, 142, 139, 139, 139, 139, 131, 131, 131, 131, 131, 131, 131, 131, 131, 131, 131, 131, 131, 131, 131, 131, 131, 131, 131, 131, 131, 131, 131, 131, 131, 131, 131, 131, 131, 131, 131, 131, 131, 131, 131, 131, 131, 131, 143, 143, 143, 143, 143, 143, 143, 143, 143, 143, 143, 143, 143, 143, 143, 143, 143, 143, 143, 143, 143, 143, 143, 143, 143, 143, 143, 143, 143, 143, 143, 143, 143, 143, 143, 143, 143, 143, 143, 143, 143, 143, 143, 143, 143, 143, 143, 143, 143, 143, 143, 143, 143, 143, 143, 143, 143, 143, 143, 143, 143, 143, 143, 143, 143, 143, 143, 143, 143, 143, 143, 143, 143, 143, 146]) (by decide +kernel)
set_option maxRecDepth 100000 in
theorem gn_inst_in : ∀ t ∈ gn_meta.filter (fun t => !t.2.2.2.2.1), Cond.instanceMethod t.1 ∈ lw_tbl := gn_in_of (f := fun (t : MethodName × ByteArray × Nat × Option FieldType × Bool × Nat × Nat) => Cond.instanceMethod t.1) (ps := [983, 991, 811, 807, 940, 948, 952, 964, 1015, 1024, 525, 799, 529, 666, 577, 628, 695, 569, 584, 561, 565, 553, 557, 707, 747, 703, 722, 735, 730, 739, 767, 743, 752, 776, 789, 573, 624, 620, 651, 541, 714, 827, 840, 853, 859, 866, 871, 876, 446, 455, 463, 475, 479, 501, 517, 497, 483, 467, 471, 490, 459, 505, 509, 521, 513, 537, 604, 661, 596, 600, 681, 690, 533, 608, 636, 632, 646, 592, 588, 616, 956, 612, 921, 925, 884, 892, 896, 905, 440, 450, 544, 548, 654, 672, 684, 698, 725, 757, 770, 779, 794, 802, 822, 830, 835, 848, 879, 899, 908, 913, 929, 935, 943, 959, 978, 986, 995, 999, 1003, 1019, 762, 1011, 784, 1252, 1265, 1278, 1139, 1165, 1153, 1157, 1173, 1169, 1177, 1181, 1161, 1148, 1185, 1189, 1192, 1213, 1240, 1236, 1232, 1201, 1209, 1205, 1224, 1220, 1228, 1244, 1196, 1247, 1256, 1260, 1274, 1268, 1286, 1298, 1294, 1290, 1281, 1302, 1311, 1306, 1324, 1319, 1314, 1327, 1340, 1336, 1331, 1347, 1351, 1360, 1375, 1355, 1371, 1363, 1383, 1387, 1378, 1390, 1394, 1398, 1402, 1408, 1412, 1416, 1421, 1425, 1429, 1433, 1437, 1441]) (by decide +kernel)
set_option maxRecDepth 100000 in
theorem gn_sel_in : ∀ t ∈ gn_meta.filter (fun t => !t.2.2.2.2.1), Cond.selects t.1.cls t.1 t.1 ∈ lw_tbl := gn_in_of (f := fun (t : MethodName × ByteArray × Nat × Option FieldType × Bool × Nat × Nat) => Cond.selects t.1.cls t.1 t.1) (ps := [86, 87, 67, 66, 81, 82, 83, 85, 89, 90, 17, 65, 18, 46, 28, 40, 49, 26, 29, 24, 25, 22, 23, 51, 58, 50, 53, 55, 54, 56, 61, 57, 59, 62, 64, 27, 39, 38, 44, 21, 52, 68, 69, 70, 71, 72, 73, 74, 0, 1, 3, 6, 7, 11, 15, 10, 8, 4, 5, 9, 2, 12, 13, 16, 14, 20, 34, 45, 32, 33, 47, 48, 19, 35, 42, 41, 43, 31, 30, 37, 84, 36, 79, 80, 75, 76, 77, 78, 441, 451, 545, 549, 655, 673, 685, 699, 726, 758, 771, 780, 795, 803, 823, 831, 836, 849, 880, 900, 909, 914, 930, 936, 944, 960, 979, 987, 996, 1000, 1004, 1020, 60, 88, 63, 112, 113, 115, 1140, 94, 91, 92, 96, 95, 97, 98, 93, 1149, 99, 100, 1193, 104, 110, 109, 108, 101, 103, 102, 106, 105, 107, 111, 1197, 1248, 1257, 1261, 114, 1269, 116, 119, 118, 117, 1282, 1303, 120, 1307, 122, 121, 1315, 1328, 124, 123, 1332, 1348, 1352, 125, 127, 1356, 126, 1364, 128, 129, 1379, 1391, 1395, 1399, 1403, 1409, 1413, 1417, 1422, 1426, 1430, 1434, 1438, 1442]) (by decide +kernel)
set_option maxRecDepth 100000 in
theorem gn_stat_in : ∀ t ∈ gn_meta.filter (fun t => t.2.2.2.2.1), Cond.static t.1 ∈ lw_tbl := gn_in_of (f := fun (t : MethodName × ByteArray × Nat × Option FieldType × Bool × Nat × Nat) => Cond.static t.1) (ps := [974, 580, 486, 639, 676, 917, 1007, 1143, 1216, 1367, 968]) (by decide +kernel)
set_option maxRecDepth 100000 in
theorem gn_meta_ok : ∀ t ∈ gn_meta, plainName t.1.cls = true ∧ t.1.cls ≠ "java/lang/invoke/MethodHandle" ∧ t.1.cls ≠ "java/lang/invoke/VarHandle" ∧ (parseMethodDescriptor t.1.desc).map (fun d => d.parameters.length) = some t.2.2.2.2.2.1 ∧ t.2.2.1 ≤ 21 ∧ t.1.cls = gn_nm t.2.2.2.2.2.2 := by decide +kernel
set_option maxRecDepth 100000 in
theorem gn_lays_in : ∀ w ∈ gn_cls.flatMap (fun q => u_ws q.1 q.2.1 q.2.2), w ∈ lw_tbl := gn_in_of (f := fun w => w) (ps := [337, 339, 341, 236, 319, 321, 323, 220, 222, 224, 190, 203, 205, 207, 251, 253, 255, 273, 275, 277, 279, 281, 283, 285, 287, 169, 171, 173, 175, 177, 376, 378, 380, 382, 384, 386, 388, 390, 392, 394, 396, 300, 302, 304, 306, 412, 414, 416, 418, 420, 422, 424, 426, 428, 430, 432, 434, 436, 1067, 1069, 1071, 1073, 1075, 1077, 1079, 1081, 1083, 1085, 1087, 1089, 1091, 1093, 1095, 1097, 1099, 1101, 1103, 1105, 1107, 1109, 1111, 1113, 1115, 1117, 1119, 1121, 1123, 1125, 1127, 1129, 1131, 1133, 1135]) (by decide +kernel)
set_option maxRecDepth 100000 in
theorem gn_cls_ok : ∀ q, q < 13 → ∀ C T N, gn_cls[q]? = some (C, T, N) → (∀ k, k < N → parseFieldDescriptor (T k).2.2.1 = some ((gn_tys.getD q gn_ty0) k)) := by
  intro q hq
  have h : ∀ q, q < 13 → ∀ k, k < (gn_cls.getD q ("", gn_T0, 0)).2.2 → parseFieldDescriptor ((gn_cls.getD q ("", gn_T0, 0)).2.1 k).2.2.1 = some ((gn_tys.getD q gn_ty0) k) := by decide +kernel
  intro C T N hc k hk
  have e : gn_cls.getD q ("", gn_T0, 0) = (C, T, N) := by simp [List.getD, hc]
  have h1 := h q hq k (by rw [e]; exact hk)
  rw [e] at h1
  exact h1
set_option maxRecDepth 100000 in
theorem gn_cls_nm : ∀ q, q < 13 → ∀ C T N, gn_cls[q]? = some (C, T, N) → (∀ a, a < N → ∀ b, b < N → a ≠ b → (T a).2.1 ≠ (T b).2.1) := by
  intro q hq
  have h : ∀ q, q < 13 → ∀ a, a < (gn_cls.getD q ("", gn_T0, 0)).2.2 → ∀ b, b < (gn_cls.getD q ("", gn_T0, 0)).2.2 → a ≠ b → ((gn_cls.getD q ("", gn_T0, 0)).2.1 a).2.1 ≠ ((gn_cls.getD q ("", gn_T0, 0)).2.1 b).2.1 := by decide +kernel
  intro C T N hc a ha b hb hab
  have e : gn_cls.getD q ("", gn_T0, 0) = (C, T, N) := by simp [List.getD, hc]
  have h1 := h q hq a (by rw [e]; exact ha) b (by rw [e]; exact hb) hab
  rw [e] at h1
  exact h1
