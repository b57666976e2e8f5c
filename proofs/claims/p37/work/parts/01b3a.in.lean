/-! the tables' words, and 'selects' of the private methods of AbstractStringBuilder for a StringBuilder -/
theorem lw_selP {C : String} {y : MethodName} {s : State} {args : Array Value} {n : Nat} (hy : y.cls ≠ "java/lang/invoke/MethodHandle" ∧ y.cls ≠ "java/lang/invoke/VarHandle")
    (hins : (Cond.instantiable C n).before args s = true) (hsup : ∃ (k9 : Class) (mk9 : MethodId), s.methodNamed? y = some mk9 ∧ s.vm.classes[mk9.cls]? = some k9 ∧ k9.isInterface = false) (hpriv : (Cond.privateMethod y).before args s = true) (hinst : (Cond.instanceMethod y).before args s = true) :
    (Cond.selects C y y).before args s = true := by
  obtain ⟨c, k, hc, hk, -, hniab, -, -⟩ := Cond.instantiable_spec hins
  obtain ⟨mk, methM, hnamed, hmethM, -, -⟩ := Cond.instanceMethod_spec hinst
  obtain ⟨k9, mk9, e1, e2, e3⟩ := hsup
  cases Option.some.inj (hnamed.symm.trans e1)
  have hfound : s.methodFound? y.cls y.name y.desc = some mk := State.methodFound?_of_named hnamed hy
  have hsel : selectMethod {} s.vm c mk = .method mk := selectMethod_private hmethM (Cond.privateMethod_at hpriv mk methM hnamed hmethM)
  simp only [Cond.before, Cond.holds, Cond.value, hc, hfound, hnamed, hsel, e2]
  simp [e3]
def lw_sb (n d : String) : MethodName := ⟨"java/lang/AbstractStringBuilder", n, d⟩
def lw_ext : List Cond := [.selects "java/lang/StringBuilder" (lw_sb "ensureCapacityInternal" "(I)V") (lw_sb "ensureCapacityInternal" "(I)V"), .selects "java/lang/StringBuilder" (lw_sb "newCapacity" "(I)I") (lw_sb "newCapacity" "(I)I"), .selects "java/lang/StringBuilder" (lw_sb "inflate" "()V") (lw_sb "inflate" "()V"), .selects "java/lang/StringBuilder" (lw_sb "appendChars" "([CII)V") (lw_sb "appendChars" "([CII)V"), .selects "java/lang/StringBuilder" (lw_sb "appendNull" "()Ljava/lang/AbstractStringBuilder;") (lw_sb "appendNull" "()Ljava/lang/AbstractStringBuilder;"), .selects "java/lang/StringBuilder" (lw_sb "appendChars" "(Ljava/lang/CharSequence;II)V") (lw_sb "appendChars" "(Ljava/lang/CharSequence;II)V"), .selects "java/lang/StringBuilder" (lw_sb "appendChars" "(Ljava/lang/String;II)V") (lw_sb "appendChars" "(Ljava/lang/String;II)V"), .selects "java/lang/StringBuilder" (lw_sb "putStringAt" "(ILjava/lang/String;)V") (lw_sb "putStringAt" "(ILjava/lang/String;)V"), .selects "java/lang/StringBuilder" (lw_sb "inflateIfNeededFor" "(Ljava/lang/String;)V") (lw_sb "inflateIfNeededFor" "(Ljava/lang/String;)V"), .selects "java/lang/StringBuilder" (lw_sb "inflateIfNeededFor" "(Ljava/lang/AbstractStringBuilder;)V") (lw_sb "inflateIfNeededFor" "(Ljava/lang/AbstractStringBuilder;)V")]
def lw_tbx : List Cond := lw_tbl ++ lw_ext

theorem lw_by {ws : List Cond} (ps : List Nat) (h : ws = ps.filterMap (fun i => lw_tbx[i]?)) : ∀ w ∈ ws, w ∈ lw_tbx := by
  intro w hw
  rw [h] at hw
  obtain ⟨i, -, hi⟩ := List.mem_filterMap.mp hw
  exact List.mem_of_getElem? hi
set_option maxRecDepth 100000 in
theorem in_wsL_law0_r1 : ∀ w ∈ wsL_law0_r1, w ∈ lw_tbx := lw_by [109, 110, 66, 1350, 477, 478, 102, 111, 112, 113, 114, 115, 116, 117, 118, 69, 329, 330, 143, 144, 70, 331, 156, 157] (by decide +kernel)
set_option maxRecDepth 100000 in
theorem in_wsL_law0_r2 : ∀ w ∈ wsL_law0_r2, w ∈ lw_tbx := lw_by [71, 332, 170, 171, 72, 333, 334, 278, 279, 78, 335, 296, 297, 80, 336, 337, 119, 120, 121, 129, 131, 122, 123, 68] (by decide +kernel)
set_option maxRecDepth 100000 in
theorem in_wsL_law0_r3 : ∀ w ∈ wsL_law0_r3, w ∈ lw_tbx := lw_by [124, 133, 125, 126, 67, 127, 128, 145, 146, 147, 148, 149, 151, 150, 158, 159, 160, 161, 169, 162, 163, 172, 173, 174] (by decide +kernel)
set_option maxRecDepth 100000 in
theorem in_wsL_law0_r4 : ∀ w ∈ wsL_law0_r4, w ∈ lw_tbx := lw_by [175, 176, 267, 178, 179, 73, 269, 270, 177, 180, 181, 182, 183, 186, 184, 189, 185, 197, 198, 199, 200, 134, 135, 132] (by decide +kernel)
set_option maxRecDepth 100000 in
theorem in_wsL_law0_r5 : ∀ w ∈ wsL_law0_r5, w ∈ lw_tbx := lw_by [201, 203, 0, 204, 205, 207, 1, 208, 209, 211, 2, 212, 265, 217, 75, 218, 266, 213, 214, 74, 215, 216, 219, 220] (by decide +kernel)
set_option maxRecDepth 100000 in
theorem in_wsL_law0_r6 : ∀ w ∈ wsL_law0_r6, w ∈ lw_tbx := lw_by [221, 222, 223, 224, 76, 225, 226, 2010, 227, 252, 253, 254, 255, 256, 258, 259, 260, 261, 262, 264, 263, 77, 280, 281] (by decide +kernel)
set_option maxRecDepth 100000 in
theorem in_wsL_law0_r7 : ∀ w ∈ wsL_law0_r7, w ∈ lw_tbx := lw_by [282, 283, 284, 285, 298, 299, 300, 301, 302, 79, 303, 304, 305, 328, 314, 315, 307, 308, 82, 309, 310, 311, 312, 313] (by decide +kernel)
set_option maxRecDepth 100000 in
theorem in_wsL_law0_r8 : ∀ w ∈ wsL_law0_r8, w ∈ lw_tbx := lw_by [357, 358, 359, 360, 268, 361, 362, 363, 364, 1000, 1001, 65, 1002, 1003, 1004, 1005, 1006, 1007, 1008, 86, 387, 188, 373, 374] (by decide +kernel)
set_option maxRecDepth 100000 in
theorem in_wsL_law0_r9 : ∀ w ∈ wsL_law0_r9, w ∈ lw_tbx := lw_by [375, 376, 377, 378, 87, 379, 380, 381, 88, 382, 383, 384, 385, 386, 1024, 1025, 1026, 1027, 1028, 1029, 1030, 191, 1031, 1033] (by decide +kernel)
set_option maxRecDepth 100000 in
theorem in_wsL_law0_r10 : ∀ w ∈ wsL_law0_r10, w ∈ lw_tbx := lw_by [20, 1034, 1035, 1036, 1037, 1038, 178, 187, 412, 413, 965, 966, 967, 502, 968, 969, 970, 971, 582, 89, 422, 974, 90, 436] (by decide +kernel)
set_option maxRecDepth 100000 in
theorem in_wsL_law0_r11 : ∀ w ∈ wsL_law0_r11, w ∈ lw_tbx := lw_by [369, 370, 371, 372, 975, 976, 977, 978, 979, 981, 983, 987, 985, 980, 627, 628, 629, 630, 631, 655, 656, 657, 658, 407] (by decide +kernel)
set_option maxRecDepth 100000 in
theorem in_wsL_law0_r12 : ∀ w ∈ wsL_law0_r12, w ∈ lw_tbx := lw_by [686, 94, 659, 661, 13, 662, 663, 91, 507, 508, 509, 510, 93, 676, 678, 14, 679, 681, 682, 683, 684, 190, 687, 688] (by decide +kernel)
set_option maxRecDepth 100000 in
theorem in_wsL_law0_r13 : ∀ w ∈ wsL_law0_r13, w ∈ lw_tbx := lw_by [689, 690, 691, 693, 697, 701, 704, 728, 730, 15, 731, 692, 732, 734, 16, 735, 736, 737, 738, 739, 740, 742, 17, 743] (by decide +kernel)
set_option maxRecDepth 100000 in
theorem in_wsL_law0_r14 : ∀ w ∈ wsL_law0_r14, w ∈ lw_tbx := lw_by [744, 745, 746, 747, 707, 748, 749, 750, 751, 752, 755, 753, 754, 756, 757, 758, 759, 760, 761, 762, 763, 964, 764, 766] (by decide +kernel)
set_option maxRecDepth 100000 in
theorem in_wsL_law0_r15 : ∀ w ∈ wsL_law0_r15, w ∈ lw_tbx := lw_by [18, 767, 388, 389, 390, 391, 392, 393, 394, 395, 396, 1958, 327, 397, 398, 318, 1308, 1309, 1310, 1311, 1312, 1313, 1314, 1316] (by decide +kernel)
set_option maxRecDepth 100000 in
theorem in_wsL_law0_r16 : ∀ w ∈ wsL_law0_r16, w ∈ lw_tbx := lw_by [1317, 1318, 1319, 1320, 1971, 1321, 1322, 1323, 1324, 1125, 81, 1126, 824, 1127, 1325, 950, 951, 832, 834, 836, 818, 819, 820, 1220] (by decide +kernel)
set_option maxRecDepth 100000 in
theorem in_wsL_law0_r17 : ∀ w ∈ wsL_law0_r17, w ∈ lw_tbx := lw_by [1221, 1222, 1042, 1223, 1224, 1225, 1226, 1227, 1229, 28, 1230, 1132, 98, 1211, 1212, 1213, 1214, 286, 1232, 1234, 29, 1235, 473, 475] (by decide +kernel)
set_option maxRecDepth 100000 in
theorem in_wsL_law0_r18 : ∀ w ∈ wsL_law0_r18, w ∈ lw_tbx := lw_by [11, 476, 152, 604, 437, 438, 439, 440, 287, 441, 442, 443, 444, 445, 446, 447, 448, 450, 7, 451, 454, 694, 698, 702] (by decide +kernel)
set_option maxRecDepth 100000 in
theorem in_wsL_law0_r19 : ∀ w ∈ wsL_law0_r19, w ∈ lw_tbx := lw_by [452, 453, 455, 457, 8, 458, 459, 460, 461, 462, 463, 464, 465, 467, 9, 468, 469, 471, 10, 472, 1039, 1040, 1041, 501] (by decide +kernel)
set_option maxRecDepth 100000 in
theorem in_wsL_law0_r20 : ∀ w ∈ wsL_law0_r20, w ∈ lw_tbx := lw_by [1043, 1044, 1045, 1046, 1048, 1050, 21, 1051, 1052, 1053, 1054, 1055, 1056, 1057, 1058, 1059, 1060, 1969, 1061, 1062, 1063, 1064, 99, 316] (by decide +kernel)
set_option maxRecDepth 100000 in
theorem in_wsL_law0_r21 : ∀ w ∈ wsL_law0_r21, w ∈ lw_tbx := lw_by [787, 1962, 2021, 789, 790, 791, 1963, 2022, 793, 794, 796, 795, 797, 798, 799, 800, 801, 802, 803, 804, 806, 807, 809, 810] (by decide +kernel)
set_option maxRecDepth 100000 in
theorem in_wsL_law0_r22 : ∀ w ∈ wsL_law0_r22, w ∈ lw_tbx := lw_by [808, 811, 1082, 1083, 95, 1084, 1085, 1086, 1087, 1088, 1089, 1090, 936, 1094, 632, 92, 1104, 1105, 1106, 1107, 1108, 1109, 1110, 1111] (by decide +kernel)
set_option maxRecDepth 100000 in
theorem in_wsL_law0_r23 : ∀ w ∈ wsL_law0_r23, w ∈ lw_tbx := lw_by [1112, 1970, 1113, 1114, 1115, 1116, 1117, 856, 1966, 2023, 858, 859, 860, 861, 862, 863, 864, 865, 866, 867, 868, 869, 870, 871] (by decide +kernel)
set_option maxRecDepth 100000 in
theorem in_wsL_law0_r24 : ∀ w ∈ wsL_law0_r24, w ∈ lw_tbx := lw_by [872, 873, 874, 829, 830, 831, 1118, 1119, 1120, 1121, 1122, 1123, 1124, 1128, 1130, 22, 1131, 1148, 1149, 1150, 1151, 435, 708, 1152] (by decide +kernel)
set_option maxRecDepth 100000 in
theorem in_wsL_law0_r25 : ∀ w ∈ wsL_law0_r25, w ∈ lw_tbx := lw_by [1154, 23, 1155, 1156, 1157, 1158, 1159, 1160, 1162, 24, 1163, 1164, 1165, 1166, 1167, 1168, 1169, 1170, 1171, 1172, 1173, 1174, 1175, 1177] (by decide +kernel)
set_option maxRecDepth 100000 in
theorem in_wsL_law0_r26 : ∀ w ∈ wsL_law0_r26, w ∈ lw_tbx := lw_by [25, 1178, 407, 1179, 1180, 1181, 1182, 1183, 1184, 1186, 26, 1187, 1188, 1189, 1190, 1191, 706, 710, 1192, 1193, 1194, 1195, 1196, 1197] (by decide +kernel)
set_option maxRecDepth 100000 in
theorem in_wsL_law0_r27 : ∀ w ∈ wsL_law0_r27, w ∈ lw_tbx := lw_by [1198, 1199, 1201, 27, 1202, 1326, 1327, 1328, 1329, 1343, 1344, 1345, 1346, 1347, 100, 712, 365, 366, 367, 368, 498, 499, 500, 503] (by decide +kernel)
set_option maxRecDepth 100000 in
theorem in_wsL_law0_r28 : ∀ w ∈ wsL_law0_r28, w ∈ lw_tbx := lw_by [504, 505, 506, 436, 598, 101, 599, 600, 601, 602, 603, 605, 606, 607, 609, 1204, 1205, 1206, 1207, 1208, 1209, 1210, 288, 1216] (by decide +kernel)
set_option maxRecDepth 100000 in
theorem in_wsL_law0_r29 : ∀ w ∈ wsL_law0_r29, w ∈ lw_tbx := lw_by [1217, 1218, 1219, 1236, 1237, 1238, 1239, 1240, 1241, 1242, 984, 986, 1243, 1245, 30, 1246, 422, 1248, 1250, 31, 1251, 613, 1252, 1254] (by decide +kernel)
set_option maxRecDepth 100000 in
theorem in_wsL_law0_r30 : ∀ w ∈ wsL_law0_r30, w ∈ lw_tbx := lw_by [32, 1255, 1256, 1258, 33, 1259, 1260, 1261, 1263, 34, 1264, 1265, 1266, 1267, 1268, 695, 699, 1269, 1271, 35, 1272, 1273, 1274, 1275] (by decide +kernel)
set_option maxRecDepth 100000 in
theorem in_wsL_law0_r31 : ∀ w ∈ wsL_law0_r31, w ∈ lw_tbx := lw_by [1276, 612, 1277, 1278, 1279, 1280, 1282, 1283, 1284, 1285, 1287, 1288, 1289, 1290, 988, 1291, 1292, 1293, 1294, 1295, 1296, 1297, 1298, 1299] (by decide +kernel)
set_option maxRecDepth 100000 in
theorem in_wsL_law0_r32 : ∀ w ∈ wsL_law0_r32, w ∈ lw_tbx := lw_by [1300, 1301, 1302, 1303, 1304, 1305, 1306, 1307, 399, 400, 401, 402, 403, 405, 3, 406, 709, 408, 409, 410, 411, 414, 416, 4] (by decide +kernel)
set_option maxRecDepth 100000 in
theorem in_wsL_law0_r33 : ∀ w ∈ wsL_law0_r33, w ∈ lw_tbx := lw_by [417, 418, 420, 5, 421, 423, 425, 6, 426, 427, 428, 429, 430, 711, 431, 432, 433, 434, 494, 495, 496, 497, 479, 480] (by decide +kernel)
set_option maxRecDepth 100000 in
theorem in_wsL_law0_r34 : ∀ w ∈ wsL_law0_r34, w ∈ lw_tbx := lw_by [481, 482, 483, 484, 488, 489, 490, 491, 492, 493, 1410, 1411, 1412, 1413, 1414, 1415, 1416, 1417, 1418, 1419, 1420, 696, 700, 703] (by decide +kernel)
set_option maxRecDepth 100000 in
theorem in_wsL_law0_r35 : ∀ w ∈ wsL_law0_r35, w ∈ lw_tbx := lw_by [1421, 1422, 1423, 1424, 1425, 1426, 1972, 1427, 1428, 1429, 1430, 103, 1431, 1432, 1433, 1434, 1435, 1436, 1437, 1438, 1439, 1440, 1441, 1442] (by decide +kernel)
set_option maxRecDepth 100000 in
theorem in_wsL_law0_r36 : ∀ w ∈ wsL_law0_r36, w ∈ lw_tbx := lw_by [1443, 815, 816, 817, 821, 822, 823, 826, 827, 828, 1444, 1445, 1446, 1447, 1448, 904, 905, 1449, 1450, 882, 883, 884, 885, 1967] (by decide +kernel)
set_option maxRecDepth 100000 in
theorem in_wsL_law0_r37 : ∀ w ∈ wsL_law0_r37, w ∈ lw_tbx := lw_by [886, 887, 888, 889, 97, 890, 891, 892, 893, 894, 896, 898, 899, 900, 901, 902, 903, 1451, 1452, 1453, 1454, 1455, 1973, 1456] (by decide +kernel)
set_option maxRecDepth 100000 in
theorem in_wsL_law0_r38 : ∀ w ∈ wsL_law0_r38, w ∈ lw_tbx := lw_by [1457, 1458, 1459, 104, 1460, 1461, 1462, 1463, 1464, 1465, 1466, 1467, 1474, 1476, 38, 1477, 1468, 1767, 1589, 1607, 1478, 1480, 39, 1481] (by decide +kernel)
set_option maxRecDepth 100000 in
theorem in_wsL_law0_r39 : ∀ w ∈ wsL_law0_r39, w ∈ lw_tbx := lw_by [1482, 1484, 1483, 105, 1485, 1490, 1588, 1586, 1486, 1488, 40, 1489, 1491, 1493, 41, 1494, 1515, 1520, 1521, 1522, 1495, 1496, 1497, 1498] (by decide +kernel)
set_option maxRecDepth 100000 in
theorem in_wsL_law0_r40 : ∀ w ∈ wsL_law0_r40, w ∈ lw_tbx := lw_by [1499, 1500, 1501, 1502, 1503, 106, 1504, 1505, 1506, 1507, 1508, 1509, 1516, 1517, 75, 1518, 1519, 1523, 1525, 42, 1526, 1535, 1527, 1529] (by decide +kernel)
set_option maxRecDepth 100000 in
theorem in_wsL_law0_r41 : ∀ w ∈ wsL_law0_r41, w ∈ lw_tbx := lw_by [43, 1530, 1531, 1533, 44, 1534, 1536, 1538, 45, 1539, 1540, 1542, 46, 1543, 1544, 1546, 47, 1547, 1548, 1550, 48, 1551, 1552, 1554] (by decide +kernel)
set_option maxRecDepth 100000 in
theorem in_wsL_law0_r42 : ∀ w ∈ wsL_law0_r42, w ∈ lw_tbx := lw_by [49, 1555, 1556, 1558, 50, 1559, 1560, 1562, 51, 1563, 1564, 1585, 1587, 1565, 1566, 1567, 1568, 1569, 1570, 1571, 1572, 1573, 1574, 1575] (by decide +kernel)
set_option maxRecDepth 100000 in
theorem in_wsL_law0_r43 : ∀ w ∈ wsL_law0_r43, w ∈ lw_tbx := lw_by [1576, 1578, 1579, 1580, 1581, 1582, 1583, 1584, 1590, 1591, 1592, 1593, 1594, 1974, 1595, 1596, 1597, 1975, 2024, 1599, 1600, 1601, 1602, 1603] (by decide +kernel)
set_option maxRecDepth 100000 in
theorem in_wsL_law0_r44 : ∀ w ∈ wsL_law0_r44, w ∈ lw_tbx := lw_by [1604, 1605, 1606, 1615, 1619, 1621, 1623, 1624, 1627, 1630, 1632, 1634, 1635, 1636, 1637, 1638, 1639, 1976, 1640, 1641, 1642, 1647, 783, 1961] (by decide +kernel)
set_option maxRecDepth 100000 in
theorem in_wsL_law0_r45 : ∀ w ∈ wsL_law0_r45, w ∈ lw_tbx := lw_by [2025, 785, 786, 812, 813, 814, 1643, 1960, 781, 1977, 1644, 1645, 1646, 777, 778, 779, 780, 781, 782, 838, 839, 840, 841, 956] (by decide +kernel)
set_option maxRecDepth 100000 in
theorem in_wsL_law0_r46 : ∀ w ∈ wsL_law0_r46, w ∈ lw_tbx := lw_by [842, 843, 844, 845, 846, 957, 847, 1964, 2028, 849, 850, 851, 1965, 2029, 853, 854, 855, 875, 876, 877, 878, 879, 880, 1648] (by decide +kernel)
set_option maxRecDepth 100000 in
theorem in_wsL_law0_r47 : ∀ w ∈ wsL_law0_r47, w ∈ lw_tbx := lw_by [1650, 1651, 1649, 1652, 1653, 397, 1968, 1654, 1978, 2030, 1656, 1657, 1658, 1660, 1661, 1659, 1662, 1663, 1665, 1666, 1664, 1667, 1668, 1670] (by decide +kernel)
set_option maxRecDepth 100000 in
theorem in_wsL_law0_r48 : ∀ w ∈ wsL_law0_r48, w ∈ lw_tbx := lw_by [1674, 1678, 1681, 1683, 1682, 1684, 1685, 1686, 1687, 1688, 1689, 1690, 1691, 1682, 1692, 1694, 1696, 1697, 1979, 2027, 1699, 1700, 1701, 1702] (by decide +kernel)
set_option maxRecDepth 100000 in
theorem in_wsL_law0_r49 : ∀ w ∈ wsL_law0_r49, w ∈ lw_tbx := lw_by [1703, 1704, 1705, 1706, 1707, 1708, 1709, 1710, 1711, 1712, 1713, 1714, 1715, 1716, 1717, 1718, 1719, 1720, 949, 1721, 1722, 1723, 1725, 1728] (by decide +kernel)
set_option maxRecDepth 100000 in
theorem in_wsL_law0_r50 : ∀ w ∈ wsL_law0_r50, w ∈ lw_tbx := lw_by [1731, 1734, 1980, 2026, 1736, 1737, 1739, 1744, 1745, 1746, 1747, 1748, 1981, 1749, 1750, 1751, 1752, 107, 1753, 1754, 1755, 1756, 1757, 1758] (by decide +kernel)
set_option maxRecDepth 100000 in
theorem in_wsL_law0_r51 : ∀ w ∈ wsL_law0_r51, w ∈ lw_tbx := lw_by [1759, 1760, 1768, 1770, 52, 1771, 1761, 1842, 1844, 1772, 1774, 53, 1775, 1776, 1778, 1777, 108, 1779, 1784, 1780, 1782, 54, 1783, 1785] (by decide +kernel)
set_option maxRecDepth 100000 in
theorem in_wsL_law0_r52 : ∀ w ∈ wsL_law0_r52, w ∈ lw_tbx := lw_by [1787, 55, 1788, 1792, 1793, 1789, 1790, 1791, 1794, 1796, 56, 1797, 1808, 1798, 1800, 57, 1801, 1802, 1804, 58, 1805, 1806, 1807, 1809] (by decide +kernel)
set_option maxRecDepth 100000 in
theorem in_wsL_law0_r53 : ∀ w ∈ wsL_law0_r53, w ∈ lw_tbx := lw_by [1811, 59, 1812, 1813, 1815, 60, 1816, 1817, 1819, 61, 1820, 1821, 1823, 62, 1824, 1825, 1827, 63, 1828, 1829, 1831, 64, 1832, 1833] (by decide +kernel)
set_option maxRecDepth 100000 in
theorem in_wsL_law0_r54 : ∀ w ∈ wsL_law0_r54, w ∈ lw_tbx := lw_by [1841, 1834, 1835, 1836, 1837, 1838, 1839, 1840, 1843, 1847, 1850, 1855, 1856, 1857, 1858, 1859, 1860, 1861, 1862, 1863, 1864, 1865, 1866, 1867] (by decide +kernel)
set_option maxRecDepth 100000 in
theorem in_wsL_law0_r55 : ∀ w ∈ wsL_law0_r55, w ∈ lw_tbx := lw_by [1868, 1869, 1870, 1871, 1872, 1873, 1874, 1875, 982, 1876, 1877, 1878, 1879, 1880, 1881, 1882, 611, 1883, 1884, 1885, 1886, 1887, 1888, 1889] (by decide +kernel)
set_option maxRecDepth 100000 in
theorem in_wsL_law0_r56 : ∀ w ∈ wsL_law0_r56, w ∈ lw_tbx := lw_by [1890, 1891, 1892, 1893, 1894, 1895, 1896, 1897, 1898, 1899, 1900, 1901, 1902, 1903, 1904, 1905, 1906, 1907, 1908, 1909, 1910, 1911, 1912, 908] (by decide +kernel)
set_option maxRecDepth 100000 in
theorem in_wsL_law0_r57 : ∀ w ∈ wsL_law0_r57, w ∈ lw_tbx := lw_by [909, 910, 911, 650, 912, 913, 914, 915, 916, 917, 918, 317, 919, 921, 922, 920, 923, 924, 925, 926, 927, 928, 929, 930] (by decide +kernel)
set_option maxRecDepth 100000 in
theorem in_wsL_law0_r58 : ∀ w ∈ wsL_law0_r58, w ∈ lw_tbx := lw_by [931, 932, 933, 934, 943, 944, 945, 946, 947, 948, 952, 953, 954, 955, 1351, 1352, 1353, 1354, 1355, 1356, 1357, 1358, 1359, 1360] (by decide +kernel)
set_option maxRecDepth 100000 in
theorem in_wsL_law0_r59 : ∀ w ∈ wsL_law0_r59, w ∈ lw_tbx := lw_by [1361, 1362, 1363, 1364, 1365, 1366, 1367, 1368, 1369, 1370, 1371, 1372, 1376, 1377, 1378, 1379, 610, 608, 1380, 1381, 1382, 1383, 1384, 1385] (by decide +kernel)
set_option maxRecDepth 100000 in
theorem in_wsL_law0_r60 : ∀ w ∈ wsL_law0_r60, w ∈ lw_tbx := lw_by [1386, 705, 1387, 1389, 36, 1390, 1393, 1395, 37, 1396, 1397, 1398, 1399, 1400, 1401, 1402, 1403, 1404, 1405, 1406, 1407, 1408, 1950, 1951] (by decide +kernel)
set_option maxRecDepth 100000 in
theorem in_wsL_law0_r61 : ∀ w ∈ wsL_law0_r61, w ∈ lw_tbx := lw_by [1952, 1953, 1954, 1955, 1956, 1957, 1913, 1914, 1915, 1916, 1917, 1918, 1919, 1920, 1921, 1922, 1923, 1924, 1925, 1926, 1927, 1928, 1929, 1931] (by decide +kernel)
set_option maxRecDepth 100000 in
theorem in_wsL_law0_r62 : ∀ w ∈ wsL_law0_r62, w ∈ lw_tbx := lw_by [1932, 1933, 1934, 1935, 1936, 1937, 1938, 1939, 1940, 1941, 1943, 1944, 1945, 1946, 1947, 1948, 1949] (by decide +kernel)
