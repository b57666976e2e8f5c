/-! the tables' words, and 'selects' of the private methods of AbstractStringBuilder for a StringBuilder -/
theorem lw_selP {C : String} {y : MethodName} {s : State} {args : Array Value} {n : Nat} (hy : y.cls ≠ "java/lang/invoke/MethodHandle" ∧ y.cls ≠ "java/lang/invoke/VarHandle")
    (hins : (Cond.instantiable C n).before args s = true) (hsup : ∃ (k9 : Class) (mk9 : MethodId), s.methodNamed? y = some mk9 ∧ s.vm.classes[mk9.cls]? = some k9 ∧ k9.isInterface = false) (hpriv : (Cond.privateMethod y).before args s = true) (hinst : (Cond.instanceMethod y).before args s = true) :
    (Cond.selects C y y).before args s = true := by
  obtain ⟨c, k, hc, hk, -, hniab, -, -⟩ := Cond.instantiable_spec hins
  obtain ⟨mk, methM, hnamed, hmethM, -, -⟩ := Cond.instanceMethod_spec hinst
  obtain ⟨k9, mk9, e1, e2, e3⟩ := hsup
  cases Option.some.inj (hnamed.symm.trans e1)
  have hfound : s.methodFound? y.cls y.name y.desc = some mk := State.methodFound?_of_named hnamed hy
  have hsel : selectMethod {} s.vm c mk = .method mk := selectMethod_private hmethM (Cond.privateMethod_at hpriv mk methM hnamed hmethM)
  simp only [Cond.before, Cond.holds, Cond.value, hc, hfound, hnamed, hsel, e2]
  simp [e3]
def lw_sb (n d : String) : MethodName := ⟨"java/lang/AbstractStringBuilder", n, d⟩
def lw_ext : List Cond := [.selects "java/lang/StringBuilder" (lw_sb "ensureCapacityInternal" "(I)V") (lw_sb "ensureCapacityInternal" "(I)V"), .selects "java/lang/StringBuilder" (lw_sb "newCapacity" "(I)I") (lw_sb "newCapacity" "(I)I"), .selects "java/lang/StringBuilder" (lw_sb "inflate" "()V") (lw_sb "inflate" "()V")]
def lw_tbx : List Cond := lw_tbl ++ lw_ext

theorem lw_by {ws : List Cond} (ps : List Nat) (h : ws = ps.filterMap (fun i => lw_tbx[i]?)) : ∀ w ∈ ws, w ∈ lw_tbx := by
  intro w hw
  rw [h] at hw
  obtain ⟨i, -, hi⟩ := List.mem_filterMap.mp hw
  exact List.mem_of_getElem? hi
set_option maxRecDepth 100000 in
theorem in_wsL_law0_r1 : ∀ w ∈ wsL_law0_r1, w ∈ lw_tbx := lw_by [102, 103, 64, 1474, 1475, 81, 1849, 1850, 104, 105, 106, 107, 108, 109, 110, 111, 67, 320, 321, 136, 137, 68, 322, 149] (by decide +kernel)
set_option maxRecDepth 100000 in
theorem in_wsL_law0_r2 : ∀ w ∈ wsL_law0_r2, w ∈ lw_tbx := lw_by [150, 69, 323, 163, 164, 70, 324, 325, 269, 270, 76, 326, 287, 288, 78, 327, 328, 112, 113, 114, 122, 124, 115, 116] (by decide +kernel)
set_option maxRecDepth 100000 in
theorem in_wsL_law0_r3 : ∀ w ∈ wsL_law0_r3, w ∈ lw_tbx := lw_by [66, 117, 126, 118, 119, 65, 120, 121, 138, 139, 140, 141, 142, 144, 143, 151, 152, 153, 154, 162, 155, 156, 165, 166] (by decide +kernel)
set_option maxRecDepth 100000 in
theorem in_wsL_law0_r4 : ∀ w ∈ wsL_law0_r4, w ∈ lw_tbx := lw_by [167, 168, 169, 258, 171, 172, 71, 260, 261, 170, 173, 174, 175, 176, 179, 177, 182, 178, 190, 191, 192, 193, 127, 128] (by decide +kernel)
set_option maxRecDepth 100000 in
theorem in_wsL_law0_r5 : ∀ w ∈ wsL_law0_r5, w ∈ lw_tbx := lw_by [125, 194, 196, 0, 197, 198, 200, 1, 201, 202, 204, 2, 205, 256, 210, 73, 211, 257, 206, 207, 72, 208, 209, 212] (by decide +kernel)
set_option maxRecDepth 100000 in
theorem in_wsL_law0_r6 : ∀ w ∈ wsL_law0_r6, w ∈ lw_tbx := lw_by [213, 214, 215, 216, 217, 74, 218, 219, 1890, 220, 243, 244, 245, 246, 247, 249, 250, 251, 252, 253, 255, 254, 75, 271] (by decide +kernel)
set_option maxRecDepth 100000 in
theorem in_wsL_law0_r7 : ∀ w ∈ wsL_law0_r7, w ∈ lw_tbx := lw_by [272, 273, 274, 275, 276, 289, 290, 291, 292, 293, 77, 294, 295, 296, 319, 305, 306, 298, 299, 80, 300, 301, 302, 303] (by decide +kernel)
set_option maxRecDepth 100000 in
theorem in_wsL_law0_r8 : ∀ w ∈ wsL_law0_r8, w ∈ lw_tbx := lw_by [304, 1476, 1477, 1478, 1479, 1491, 1492, 1493, 1590, 1494, 1495, 1496, 1497, 1498, 1499, 1500, 1501, 1502, 1503, 1504, 1505, 1506, 1507, 1508] (by decide +kernel)
set_option maxRecDepth 100000 in
theorem in_wsL_law0_r9 : ∀ w ∈ wsL_law0_r9, w ∈ lw_tbx := lw_by [1509, 1510, 1511, 1512, 1591, 1516, 1517, 1518, 1489, 1480, 1482, 38, 1483, 1487, 1488, 483, 484, 63, 485, 486, 487, 488, 489, 490] (by decide +kernel)
set_option maxRecDepth 100000 in
theorem in_wsL_law0_r10 : ∀ w ∈ wsL_law0_r10, w ∈ lw_tbx := lw_by [491, 567, 86, 442, 583, 87, 589, 492, 493, 494, 495, 85, 352, 353, 354, 355, 584, 585, 586, 587, 588, 590, 591, 592] (by decide +kernel)
set_option maxRecDepth 100000 in
theorem in_wsL_law0_r11 : ∀ w ∈ wsL_law0_r11, w ∈ lw_tbx := lw_by [594, 612, 1596, 1597, 1598, 1599, 1484, 1600, 1601, 1602, 1603, 1605, 39, 1606, 1490, 1592, 1593, 1594, 1595, 613, 614, 615, 616, 640] (by decide +kernel)
set_option maxRecDepth 100000 in
theorem in_wsL_law0_r12 : ∀ w ∈ wsL_law0_r12, w ∈ lw_tbx := lw_by [641, 642, 643, 403, 671, 92, 644, 646, 13, 647, 648, 88, 442, 364, 365, 366, 367, 368, 369, 90, 370, 371, 372, 91] (by decide +kernel)
set_option maxRecDepth 100000 in
theorem in_wsL_law0_r13 : ∀ w ∈ wsL_law0_r13, w ∈ lw_tbx := lw_by [373, 374, 375, 376, 377, 661, 663, 14, 664, 666, 667, 668, 669, 183, 418, 672, 673, 674, 675, 676, 678, 682, 686, 689] (by decide +kernel)
set_option maxRecDepth 100000 in
theorem in_wsL_law0_r14 : ∀ w ∈ wsL_law0_r14, w ∈ lw_tbx := lw_by [713, 715, 15, 716, 677, 717, 719, 16, 720, 721, 722, 723, 724, 725, 727, 17, 728, 729, 730, 731, 732, 692, 733, 734] (by decide +kernel)
set_option maxRecDepth 100000 in
theorem in_wsL_law0_r15 : ∀ w ∈ wsL_law0_r15, w ∈ lw_tbx := lw_by [735, 736, 737, 740, 738, 739, 741, 742, 743, 744, 745, 746, 747, 748, 949, 749, 751, 18, 752, 1607, 1608, 1609, 1610, 1611] (by decide +kernel)
set_option maxRecDepth 100000 in
theorem in_wsL_law0_r16 : ∀ w ∈ wsL_law0_r16, w ∈ lw_tbx := lw_by [1613, 40, 1614, 1615, 1616, 1617, 1618, 1620, 41, 1621, 1485, 1622, 1624, 42, 1625, 1626, 1628, 43, 1629, 1630, 1632, 44, 1633, 950] (by decide +kernel)
set_option maxRecDepth 100000 in
theorem in_wsL_law0_r17 : ∀ w ∈ wsL_law0_r17, w ∈ lw_tbx := lw_by [951, 952, 953, 954, 955, 956, 428, 959, 96, 360, 361, 362, 363, 960, 961, 962, 963, 964, 966, 968, 972, 970, 965, 1634] (by decide +kernel)
set_option maxRecDepth 100000 in
theorem in_wsL_law0_r18 : ∀ w ∈ wsL_law0_r18, w ∈ lw_tbx := lw_by [1635, 1636, 1637, 1486, 985, 986, 987, 988, 989, 990, 991, 992, 998, 97, 971, 993, 995, 20, 996, 428, 1014, 1015, 1016, 1017] (by decide +kernel)
set_option maxRecDepth 100000 in
theorem in_wsL_law0_r19 : ∀ w ∈ wsL_law0_r19, w ∈ lw_tbx := lw_by [1018, 1638, 1639, 1640, 1641, 1642, 1644, 45, 1645, 348, 349, 350, 351, 259, 1646, 1647, 1648, 1649, 1019, 1020, 1021, 1022, 1023, 1024] (by decide +kernel)
set_option maxRecDepth 100000 in
theorem in_wsL_law0_r20 : ∀ w ∈ wsL_law0_r20, w ∈ lw_tbx := lw_by [1025, 1026, 1027, 98, 378, 181, 1650, 1651, 1652, 1653, 1043, 1044, 1045, 1046, 1047, 1048, 1049, 184, 1050, 1052, 21, 1053, 1054, 1055] (by decide +kernel)
set_option maxRecDepth 100000 in
theorem in_wsL_law0_r21 : ∀ w ∈ wsL_law0_r21, w ∈ lw_tbx := lw_by [1056, 1057, 171, 180, 419, 1654, 1655, 1656, 1657, 1658, 1660, 46, 1661, 1058, 1059, 1060, 1061, 1062, 1063, 1064, 1066, 1068, 22, 1069] (by decide +kernel)
set_option maxRecDepth 100000 in
theorem in_wsL_law0_r22 : ∀ w ∈ wsL_law0_r22, w ∈ lw_tbx := lw_by [1070, 1071, 1072, 1073, 1074, 1075, 1076, 1077, 1078, 1862, 318, 1079, 1080, 1081, 1082, 99, 309, 307, 772, 1855, 1899, 774, 775, 776] (by decide +kernel)
set_option maxRecDepth 100000 in
theorem in_wsL_law0_r23 : ∀ w ∈ wsL_law0_r23, w ∈ lw_tbx := lw_by [1856, 1900, 778, 779, 781, 780, 782, 783, 784, 785, 786, 787, 788, 789, 791, 792, 794, 795, 793, 796, 1100, 1101, 93, 1102] (by decide +kernel)
set_option maxRecDepth 100000 in
theorem in_wsL_law0_r24 : ∀ w ∈ wsL_law0_r24, w ∈ lw_tbx := lw_by [1103, 1104, 1105, 1106, 1107, 1108, 921, 1112, 617, 89, 1122, 1123, 1124, 1125, 1126, 1127, 1128, 1129, 1130, 1863, 1131, 1132, 1133, 1134] (by decide +kernel)
set_option maxRecDepth 100000 in
theorem in_wsL_law0_r25 : ∀ w ∈ wsL_law0_r25, w ∈ lw_tbx := lw_by [1135, 841, 1859, 1901, 843, 844, 845, 846, 847, 848, 849, 850, 851, 852, 853, 803, 804, 805, 854, 855, 79, 856, 809, 857] (by decide +kernel)
set_option maxRecDepth 100000 in
theorem in_wsL_law0_r26 : ∀ w ∈ wsL_law0_r26, w ∈ lw_tbx := lw_by [858, 859, 814, 815, 816, 817, 819, 821, 1136, 1137, 1138, 1139, 1140, 1141, 1142, 1143, 1144, 1145, 1146, 1148, 23, 1149, 1151, 1152] (by decide +kernel)
set_option maxRecDepth 100000 in
theorem in_wsL_law0_r27 : ∀ w ∈ wsL_law0_r27, w ∈ lw_tbx := lw_by [1153, 1154, 441, 693, 1155, 1157, 24, 1158, 1159, 1160, 1161, 1162, 1163, 1165, 25, 1166, 1662, 1663, 1664, 1665, 1515, 1666, 1668, 47] (by decide +kernel)
set_option maxRecDepth 100000 in
theorem in_wsL_law0_r28 : ∀ w ∈ wsL_law0_r28, w ∈ lw_tbx := lw_by [1669, 1670, 1672, 48, 1673, 1167, 1168, 1169, 1170, 1171, 1172, 1173, 1174, 1175, 1176, 1177, 1178, 1180, 26, 1181, 403, 1182, 1183, 1184] (by decide +kernel)
set_option maxRecDepth 100000 in
theorem in_wsL_law0_r29 : ∀ w ∈ wsL_law0_r29, w ∈ lw_tbx := lw_by [1185, 1186, 1187, 1189, 27, 1190, 1191, 1192, 1193, 1194, 691, 695, 1674, 1675, 1676, 1677, 1678, 1680, 49, 1681, 1195, 1196, 1197, 1198] (by decide +kernel)
set_option maxRecDepth 100000 in
theorem in_wsL_law0_r30 : ∀ w ∈ wsL_law0_r30, w ∈ lw_tbx := lw_by [1199, 1200, 1201, 1202, 1204, 28, 1205, 1682, 1683, 1684, 1685, 1207, 1208, 1209, 1210, 1211, 1212, 1213, 694, 1214, 1216, 29, 1217, 1686] (by decide +kernel)
set_option maxRecDepth 100000 in
theorem in_wsL_law0_r31 : ∀ w ∈ wsL_law0_r31, w ∈ lw_tbx := lw_by [1687, 1688, 1689, 1220, 1221, 1222, 1223, 1224, 1225, 1226, 1227, 1228, 1229, 1230, 680, 1690, 1691, 1692, 1693, 1694, 1696, 50, 1697, 1231] (by decide +kernel)
set_option maxRecDepth 100000 in
theorem in_wsL_law0_r32 : ∀ w ∈ wsL_law0_r32, w ∈ lw_tbx := lw_by [1232, 1233, 1234, 1235, 1236, 1237, 1238, 1239, 1240, 1241, 1698, 1699, 1700, 1701, 1702, 1704, 51, 1705, 1243, 1244, 1245, 1246, 1247, 1248] (by decide +kernel)
set_option maxRecDepth 100000 in
theorem in_wsL_law0_r33 : ∀ w ∈ wsL_law0_r33, w ∈ lw_tbx := lw_by [1249, 279, 1250, 1251, 1252, 1253, 277, 1255, 1256, 1257, 1258, 1706, 1707, 1708, 1709, 1513, 379, 380, 381, 382, 383, 384, 385, 386] (by decide +kernel)
set_option maxRecDepth 100000 in
theorem in_wsL_law0_r34 : ∀ w ∈ wsL_law0_r34, w ∈ lw_tbx := lw_by [1710, 1711, 1712, 1713, 1259, 1260, 1261, 1262, 1263, 1264, 1265, 1266, 1268, 30, 1269, 1271, 1273, 31, 1274, 479, 481, 11, 482, 145] (by decide +kernel)
set_option maxRecDepth 100000 in
theorem in_wsL_law0_r35 : ∀ w ∈ wsL_law0_r35, w ∈ lw_tbx := lw_by [443, 444, 445, 446, 278, 447, 448, 449, 450, 451, 452, 453, 454, 456, 7, 457, 460, 679, 683, 687, 458, 459, 461, 463] (by decide +kernel)
set_option maxRecDepth 100000 in
theorem in_wsL_law0_r36 : ∀ w ∈ wsL_law0_r36, w ∈ lw_tbx := lw_by [8, 464, 465, 466, 467, 468, 469, 470, 471, 473, 9, 474, 475, 477, 10, 478, 1714, 1715, 1716, 1717, 1718, 1720, 52, 1721] (by decide +kernel)
set_option maxRecDepth 100000 in
theorem in_wsL_law0_r37 : ∀ w ∈ wsL_law0_r37, w ∈ lw_tbx := lw_by [1514, 1722, 1724, 53, 1725, 1726, 1728, 54, 1729, 1275, 1276, 1277, 1278, 1279, 1280, 1281, 969, 1282, 1284, 32, 1285, 598, 1286, 1288] (by decide +kernel)
set_option maxRecDepth 100000 in
theorem in_wsL_law0_r38 : ∀ w ∈ wsL_law0_r38, w ∈ lw_tbx := lw_by [33, 1289, 1290, 1292, 34, 1293, 1294, 1295, 1297, 35, 1298, 1299, 1300, 1301, 1302, 684, 1303, 1305, 36, 1306, 1307, 1308, 1309, 1310] (by decide +kernel)
set_option maxRecDepth 100000 in
theorem in_wsL_law0_r39 : ∀ w ∈ wsL_law0_r39, w ∈ lw_tbx := lw_by [597, 1311, 1312, 1313, 1314, 1730, 1731, 1732, 1733, 1734, 1736, 55, 1737, 1738, 1740, 56, 1741, 1742, 1744, 57, 1745, 1746, 1748, 58] (by decide +kernel)
set_option maxRecDepth 100000 in
theorem in_wsL_law0_r40 : ∀ w ∈ wsL_law0_r40, w ∈ lw_tbx := lw_by [1749, 1750, 1752, 59, 1753, 1316, 1317, 1318, 1319, 1320, 1321, 1322, 1754, 1755, 1756, 1757, 1323, 1324, 1325, 1326, 1327, 1328, 1329, 1330] (by decide +kernel)
set_option maxRecDepth 100000 in
theorem in_wsL_law0_r41 : ∀ w ∈ wsL_law0_r41, w ∈ lw_tbx := lw_by [1331, 1332, 1333, 1758, 1759, 1760, 1761, 1762, 1763, 100, 1764, 1768, 1770, 1769, 100, 1771, 1765, 1766, 1767, 1334, 1335, 1336, 1337, 1338] (by decide +kernel)
set_option maxRecDepth 100000 in
theorem in_wsL_law0_r42 : ∀ w ∈ wsL_law0_r42, w ∈ lw_tbx := lw_by [1339, 1340, 1772, 1773, 1774, 1775, 1341, 1342, 1343, 1344, 1345, 1346, 1347, 1349, 1350, 1351, 1352, 1353, 1354, 1355, 1356, 973, 1357, 1358] (by decide +kernel)
set_option maxRecDepth 100000 in
theorem in_wsL_law0_r43 : ∀ w ∈ wsL_law0_r43, w ∈ lw_tbx := lw_by [1359, 1360, 1361, 1362, 1363, 1364, 1365, 1776, 1777, 1778, 1779, 1780, 1781, 1782, 1366, 1367, 1368, 1369, 1370, 1371, 1372, 967, 596, 1376] (by decide +kernel)
set_option maxRecDepth 100000 in
theorem in_wsL_law0_r44 : ∀ w ∈ wsL_law0_r44, w ∈ lw_tbx := lw_by [1377, 1378, 1379, 595, 593, 1783, 1784, 1785, 1786, 1787, 1789, 60, 1790, 1791, 1793, 61, 1794, 1380, 1381, 1382, 1383, 1384, 1385, 1386] (by decide +kernel)
set_option maxRecDepth 100000 in
theorem in_wsL_law0_r45 : ∀ w ∈ wsL_law0_r45, w ∈ lw_tbx := lw_by [697, 690, 1388, 1390, 37, 1391, 1392, 1393, 1394, 1395, 1396, 1795, 1796, 1797, 1798, 1799, 1801, 62, 1802, 1397, 1398, 1399, 1400, 1401] (by decide +kernel)
set_option maxRecDepth 100000 in
theorem in_wsL_law0_r46 : ∀ w ∈ wsL_law0_r46, w ∈ lw_tbx := lw_by [1402, 1403, 1803, 1804, 1805, 1806, 1404, 1405, 1406, 1407, 1408, 1409, 1410, 1807, 1808, 1809, 1810, 1411, 1412, 1413, 1414, 1415, 1416, 1417] (by decide +kernel)
set_option maxRecDepth 100000 in
theorem in_wsL_law0_r47 : ∀ w ∈ wsL_law0_r47, w ∈ lw_tbx := lw_by [1811, 1812, 1813, 1814, 1418, 1419, 1420, 1421, 1422, 1423, 1424, 1815, 1816, 1817, 1818, 1425, 1426, 1427, 1428, 1429, 1430, 1431, 1819, 1820] (by decide +kernel)
set_option maxRecDepth 100000 in
theorem in_wsL_law0_r48 : ∀ w ∈ wsL_law0_r48, w ∈ lw_tbx := lw_by [1821, 1822, 387, 388, 389, 390, 391, 392, 393, 394, 395, 1851, 396, 397, 1823, 1824, 1825, 1826, 1432, 1433, 1434, 1435, 1436, 1437] (by decide +kernel)
set_option maxRecDepth 100000 in
theorem in_wsL_law0_r49 : ∀ w ∈ wsL_law0_r49, w ∈ lw_tbx := lw_by [1438, 1440, 1441, 1442, 1443, 1444, 1864, 1445, 1446, 1447, 1448, 1449, 935, 936, 1827, 1828, 1829, 1830, 1450, 1451, 1452, 1453, 1467, 1468] (by decide +kernel)
set_option maxRecDepth 100000 in
theorem in_wsL_law0_r50 : ∀ w ∈ wsL_law0_r50, w ∈ lw_tbx := lw_by [1469, 1470, 1471, 101, 1831, 1832, 1833, 1834, 356, 357, 358, 359, 1835, 1836, 1837, 1838, 398, 399, 400, 401, 402, 404, 681, 685] (by decide +kernel)
set_option maxRecDepth 100000 in
theorem in_wsL_law0_r51 : ∀ w ∈ wsL_law0_r51, w ∈ lw_tbx := lw_by [688, 405, 1839, 1840, 1841, 1842, 1843, 1844, 406, 407, 408, 409, 410, 412, 3, 413, 414, 415, 416, 417, 420, 422, 4, 423] (by decide +kernel)
set_option maxRecDepth 100000 in
theorem in_wsL_law0_r52 : ∀ w ∈ wsL_law0_r52, w ∈ lw_tbx := lw_by [424, 426, 5, 427, 429, 431, 6, 432, 433, 434, 435, 436, 696, 437, 438, 439, 440, 1845, 1846, 1847, 1848] (by decide +kernel)
