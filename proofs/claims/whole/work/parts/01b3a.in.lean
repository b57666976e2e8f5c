/-! the tables' words, and 'selects' of the private methods of AbstractStringBuilder for a StringBuilder -/
theorem lw_selP {C : String} {y : MethodName} {s : State} {args : Array Value} {n : Nat} (hy : y.cls ≠ "java/lang/invoke/MethodHandle" ∧ y.cls ≠ "java/lang/invoke/VarHandle")
    (hins : (Cond.instantiable C n).before args s = true) (hsup : ∃ (k9 : Class) (mk9 : MethodId), s.methodNamed? y = some mk9 ∧ s.vm.classes[mk9.cls]? = some k9 ∧ k9.isInterface = false) (hpriv : (Cond.privateMethod y).before args s = true) (hinst : (Cond.instanceMethod y).before args s = true) :
    (Cond.selects C y y).before args s = true := by
  obtain ⟨c, k, hc, hk, -, hniab, -, -⟩ := Cond.instantiable_spec hins
  obtain ⟨mk, methM, hnamed, hmethM, -, -⟩ := Cond.instanceMethod_spec hinst
  obtain ⟨k9, mk9, e1, e2, e3⟩ := hsup
  cases Option.some.inj (hnamed.symm.trans e1)
  have hfound : s.methodFound? y.cls y.name y.desc = some mk := State.methodFound?_of_named hnamed hy
  have hsel : selectMethod {} s.vm c mk = .method mk := selectMethod_private hmethM (Cond.privateMethod_at hpriv mk methM hnamed hmethM)
  simp only [Cond.before, Cond.holds, Cond.value, hc, hfound, hnamed, hsel, e2]
  simp [e3]
def lw_sb (n d : String) : MethodName := ⟨"java/lang/AbstractStringBuilder", n, d⟩
def lw_ext : List Cond := [.selects "java/lang/StringBuilder" (lw_sb "ensureCapacityInternal" "(I)V") (lw_sb "ensureCapacityInternal" "(I)V"), .selects "java/lang/StringBuilder" (lw_sb "newCapacity" "(I)I") (lw_sb "newCapacity" "(I)I"), .selects "java/lang/StringBuilder" (lw_sb "inflate" "()V") (lw_sb "inflate" "()V")]
def lw_tbx : List Cond := lw_tbl ++ lw_ext

theorem lw_by {ws : List Cond} (ps : List Nat) (h : ws = ps.filterMap (fun i => lw_tbx[i]?)) : ∀ w ∈ ws, w ∈ lw_tbx := by
  intro w hw
  rw [h] at hw
  obtain ⟨i, -, hi⟩ := List.mem_filterMap.mp hw
  exact List.mem_of_getElem? hi
set_option maxRecDepth 100000 in
theorem in_wsL_law0_r1 : ∀ w ∈ wsL_law0_r1, w ∈ lw_tbx := lw_by [100, 101, 62, 1461, 1462, 79, 1836, 1837, 102, 103, 104, 105, 106, 107, 108, 109, 65, 318, 319, 134, 135, 66, 320, 147] (by decide +kernel)
set_option maxRecDepth 100000 in
theorem in_wsL_law0_r2 : ∀ w ∈ wsL_law0_r2, w ∈ lw_tbx := lw_by [148, 67, 321, 161, 162, 68, 322, 323, 267, 268, 74, 324, 285, 286, 76, 325, 326, 110, 111, 112, 120, 122, 113, 114] (by decide +kernel)
set_option maxRecDepth 100000 in
theorem in_wsL_law0_r3 : ∀ w ∈ wsL_law0_r3, w ∈ lw_tbx := lw_by [64, 115, 124, 116, 117, 63, 118, 119, 136, 137, 138, 139, 140, 142, 141, 149, 150, 151, 152, 160, 153, 154, 163, 164] (by decide +kernel)
set_option maxRecDepth 100000 in
theorem in_wsL_law0_r4 : ∀ w ∈ wsL_law0_r4, w ∈ lw_tbx := lw_by [165, 166, 167, 256, 169, 170, 69, 258, 259, 168, 171, 172, 173, 174, 177, 175, 180, 176, 188, 189, 190, 191, 125, 126] (by decide +kernel)
set_option maxRecDepth 100000 in
theorem in_wsL_law0_r5 : ∀ w ∈ wsL_law0_r5, w ∈ lw_tbx := lw_by [123, 192, 194, 0, 195, 196, 198, 1, 199, 200, 202, 2, 203, 254, 208, 71, 209, 255, 204, 205, 70, 206, 207, 210] (by decide +kernel)
set_option maxRecDepth 100000 in
theorem in_wsL_law0_r6 : ∀ w ∈ wsL_law0_r6, w ∈ lw_tbx := lw_by [211, 212, 213, 214, 215, 72, 216, 217, 1877, 218, 241, 242, 243, 244, 245, 247, 248, 249, 250, 251, 253, 252, 73, 269] (by decide +kernel)
set_option maxRecDepth 100000 in
theorem in_wsL_law0_r7 : ∀ w ∈ wsL_law0_r7, w ∈ lw_tbx := lw_by [270, 271, 272, 273, 274, 287, 288, 289, 290, 291, 75, 292, 293, 294, 317, 303, 304, 296, 297, 78, 298, 299, 300, 301] (by decide +kernel)
set_option maxRecDepth 100000 in
theorem in_wsL_law0_r8 : ∀ w ∈ wsL_law0_r8, w ∈ lw_tbx := lw_by [302, 1463, 1464, 1465, 1466, 1478, 1479, 1480, 1577, 1481, 1482, 1483, 1484, 1485, 1486, 1487, 1488, 1489, 1490, 1491, 1492, 1493, 1494, 1495] (by decide +kernel)
set_option maxRecDepth 100000 in
theorem in_wsL_law0_r9 : ∀ w ∈ wsL_law0_r9, w ∈ lw_tbx := lw_by [1496, 1497, 1498, 1499, 1578, 1503, 1504, 1505, 1476, 1467, 1469, 36, 1470, 1474, 1475, 497, 498, 61, 499, 500, 501, 502, 503, 504] (by decide +kernel)
set_option maxRecDepth 100000 in
theorem in_wsL_law0_r10 : ∀ w ∈ wsL_law0_r10, w ∈ lw_tbx := lw_by [505, 581, 84, 455, 597, 85, 603, 506, 507, 508, 509, 83, 350, 351, 352, 353, 598, 599, 600, 601, 602, 604, 605, 606] (by decide +kernel)
set_option maxRecDepth 100000 in
theorem in_wsL_law0_r11 : ∀ w ∈ wsL_law0_r11, w ∈ lw_tbx := lw_by [608, 626, 1583, 1584, 1585, 1586, 1471, 1587, 1588, 1589, 1590, 1592, 37, 1593, 1477, 1579, 1580, 1581, 1582, 627, 628, 629, 630, 654] (by decide +kernel)
set_option maxRecDepth 100000 in
theorem in_wsL_law0_r12 : ∀ w ∈ wsL_law0_r12, w ∈ lw_tbx := lw_by [655, 656, 657, 401, 685, 90, 658, 660, 13, 661, 662, 86, 455, 362, 363, 364, 365, 366, 367, 88, 368, 369, 370, 89] (by decide +kernel)
set_option maxRecDepth 100000 in
theorem in_wsL_law0_r13 : ∀ w ∈ wsL_law0_r13, w ∈ lw_tbx := lw_by [371, 372, 373, 374, 375, 675, 677, 14, 678, 680, 681, 682, 683, 181, 416, 686, 687, 688, 689, 690, 692, 694, 698, 701] (by decide +kernel)
set_option maxRecDepth 100000 in
theorem in_wsL_law0_r14 : ∀ w ∈ wsL_law0_r14, w ∈ lw_tbx := lw_by [724, 726, 15, 727, 691, 728, 729, 730, 731, 428, 426, 427, 732, 733, 734, 735, 736, 737, 738, 739, 940, 740, 742, 16] (by decide +kernel)
set_option maxRecDepth 100000 in
theorem in_wsL_law0_r15 : ∀ w ∈ wsL_law0_r15, w ∈ lw_tbx := lw_by [743, 941, 942, 943, 944, 945, 947, 18, 948, 949, 950, 951, 952, 704, 953, 1594, 1595, 1596, 1597, 1598, 1600, 38, 1601, 1602] (by decide +kernel)
set_option maxRecDepth 100000 in
theorem in_wsL_law0_r16 : ∀ w ∈ wsL_law0_r16, w ∈ lw_tbx := lw_by [1603, 1604, 1605, 1607, 39, 1608, 1472, 1609, 1611, 40, 1612, 1613, 1615, 41, 1616, 1617, 1619, 42, 1620, 954, 955, 956, 957, 958] (by decide +kernel)
set_option maxRecDepth 100000 in
theorem in_wsL_law0_r17 : ∀ w ∈ wsL_law0_r17, w ∈ lw_tbx := lw_by [959, 960, 441, 963, 94, 358, 359, 360, 361, 964, 965, 966, 967, 968, 970, 972, 976, 974, 969, 1621, 1622, 1623, 1624, 1473] (by decide +kernel)
set_option maxRecDepth 100000 in
theorem in_wsL_law0_r18 : ∀ w ∈ wsL_law0_r18, w ∈ lw_tbx := lw_by [989, 990, 991, 992, 993, 994, 995, 996, 1002, 95, 975, 997, 999, 19, 1000, 441, 1018, 1019, 1020, 1021, 1022, 1625, 1626, 1627] (by decide +kernel)
set_option maxRecDepth 100000 in
theorem in_wsL_law0_r19 : ∀ w ∈ wsL_law0_r19, w ∈ lw_tbx := lw_by [1628, 1629, 1631, 43, 1632, 346, 347, 348, 349, 257, 1633, 1634, 1635, 1636, 1023, 1024, 1025, 1026, 1027, 1028, 1029, 1030, 1031, 96] (by decide +kernel)
set_option maxRecDepth 100000 in
theorem in_wsL_law0_r20 : ∀ w ∈ wsL_law0_r20, w ∈ lw_tbx := lw_by [376, 179, 1637, 1638, 1639, 1640, 1047, 1048, 1049, 1050, 1051, 1052, 1053, 182, 1054, 1056, 20, 1057, 1058, 1059, 1060, 1061, 169, 178] (by decide +kernel)
set_option maxRecDepth 100000 in
theorem in_wsL_law0_r21 : ∀ w ∈ wsL_law0_r21, w ∈ lw_tbx := lw_by [417, 1641, 1642, 1643, 1644, 1645, 1647, 44, 1648, 1062, 1063, 1064, 1065, 1066, 1067, 1068, 1070, 1072, 21, 1073, 1074, 1075, 1076, 1077] (by decide +kernel)
set_option maxRecDepth 100000 in
theorem in_wsL_law0_r22 : ∀ w ∈ wsL_law0_r22, w ∈ lw_tbx := lw_by [1078, 1079, 1080, 1081, 1082, 1849, 316, 1083, 1084, 1085, 1086, 97, 307, 305, 763, 1842, 1886, 765, 766, 767, 1843, 1887, 769, 770] (by decide +kernel)
set_option maxRecDepth 100000 in
theorem in_wsL_law0_r23 : ∀ w ∈ wsL_law0_r23, w ∈ lw_tbx := lw_by [772, 771, 773, 774, 775, 776, 777, 778, 779, 780, 782, 783, 785, 786, 784, 787, 1104, 1105, 91, 1106, 1107, 1108, 1109, 1110] (by decide +kernel)
set_option maxRecDepth 100000 in
theorem in_wsL_law0_r24 : ∀ w ∈ wsL_law0_r24, w ∈ lw_tbx := lw_by [1111, 1112, 912, 1116, 631, 87, 1126, 1127, 1128, 1129, 1130, 1131, 1132, 1133, 1134, 1850, 1135, 1136, 1137, 1138, 1139, 832, 1846, 1888] (by decide +kernel)
set_option maxRecDepth 100000 in
theorem in_wsL_law0_r25 : ∀ w ∈ wsL_law0_r25, w ∈ lw_tbx := lw_by [834, 835, 836, 837, 838, 839, 840, 841, 842, 843, 844, 794, 795, 796, 845, 846, 77, 847, 800, 848, 849, 850, 805, 806] (by decide +kernel)
set_option maxRecDepth 100000 in
theorem in_wsL_law0_r26 : ∀ w ∈ wsL_law0_r26, w ∈ lw_tbx := lw_by [807, 808, 810, 812, 1140, 1141, 1142, 1143, 1144, 1145, 1146, 1147, 1148, 1149, 1150, 1152, 22, 1153, 1155, 1156, 1157, 1158, 454, 705] (by decide +kernel)
set_option maxRecDepth 100000 in
theorem in_wsL_law0_r27 : ∀ w ∈ wsL_law0_r27, w ∈ lw_tbx := lw_by [1159, 1161, 23, 1162, 1163, 1164, 1165, 1166, 1167, 1169, 24, 1170, 1649, 1650, 1651, 1652, 1502, 1653, 1655, 45, 1656, 1657, 1659, 46] (by decide +kernel)
set_option maxRecDepth 100000 in
theorem in_wsL_law0_r28 : ∀ w ∈ wsL_law0_r28, w ∈ lw_tbx := lw_by [1660, 1171, 1172, 1173, 1174, 1175, 1176, 1177, 1178, 1179, 1180, 1181, 1182, 1184, 25, 1185, 401, 1186, 1187, 1188, 1189, 703, 707, 1661] (by decide +kernel)
set_option maxRecDepth 100000 in
theorem in_wsL_law0_r29 : ∀ w ∈ wsL_law0_r29, w ∈ lw_tbx := lw_by [1662, 1663, 1664, 1665, 1667, 47, 1668, 1190, 1191, 1192, 1193, 1194, 1195, 1196, 1197, 1199, 26, 1200, 1669, 1670, 1671, 1672, 1202, 1203] (by decide +kernel)
set_option maxRecDepth 100000 in
theorem in_wsL_law0_r30 : ∀ w ∈ wsL_law0_r30, w ∈ lw_tbx := lw_by [1204, 1205, 1206, 1207, 1208, 706, 1209, 1211, 27, 1212, 1673, 1674, 1675, 1676, 1215, 1216, 1217, 1218, 1219, 1220, 1221, 422, 423, 424] (by decide +kernel)
set_option maxRecDepth 100000 in
theorem in_wsL_law0_r31 : ∀ w ∈ wsL_law0_r31, w ∈ lw_tbx := lw_by [425, 429, 430, 431, 432, 1677, 1678, 1679, 1680, 1681, 1683, 48, 1684, 1222, 1223, 1224, 1225, 1226, 1227, 1228, 433, 434, 435, 436] (by decide +kernel)
set_option maxRecDepth 100000 in
theorem in_wsL_law0_r32 : ∀ w ∈ wsL_law0_r32, w ∈ lw_tbx := lw_by [1685, 1686, 1687, 1688, 1689, 1691, 49, 1692, 1230, 1231, 1232, 1233, 1234, 1235, 1236, 277, 1237, 1238, 1239, 1240, 275, 1242, 1243, 1244] (by decide +kernel)
set_option maxRecDepth 100000 in
theorem in_wsL_law0_r33 : ∀ w ∈ wsL_law0_r33, w ∈ lw_tbx := lw_by [1245, 1693, 1694, 1695, 1696, 1500, 377, 378, 379, 380, 381, 382, 383, 384, 1697, 1698, 1699, 1700, 1246, 1247, 1248, 1249, 1250, 1251] (by decide +kernel)
set_option maxRecDepth 100000 in
theorem in_wsL_law0_r34 : ∀ w ∈ wsL_law0_r34, w ∈ lw_tbx := lw_by [1252, 1253, 1255, 28, 1256, 1258, 1260, 29, 1261, 493, 495, 11, 496, 143, 456, 457, 458, 459, 276, 460, 461, 462, 463, 464] (by decide +kernel)
set_option maxRecDepth 100000 in
theorem in_wsL_law0_r35 : ∀ w ∈ wsL_law0_r35, w ∈ lw_tbx := lw_by [465, 466, 467, 469, 7, 470, 473, 695, 699, 471, 472, 474, 475, 477, 8, 478, 479, 480, 481, 482, 483, 484, 486, 9] (by decide +kernel)
set_option maxRecDepth 100000 in
theorem in_wsL_law0_r36 : ∀ w ∈ wsL_law0_r36, w ∈ lw_tbx := lw_by [487, 488, 490, 10, 491, 492, 1701, 1702, 1703, 1704, 1705, 1707, 50, 1708, 1501, 1709, 1711, 51, 1712, 1713, 1715, 52, 1716, 1262] (by decide +kernel)
set_option maxRecDepth 100000 in
theorem in_wsL_law0_r37 : ∀ w ∈ wsL_law0_r37, w ∈ lw_tbx := lw_by [1263, 1264, 1265, 1266, 1267, 1268, 973, 1269, 1271, 30, 1272, 612, 1273, 1275, 31, 1276, 1277, 1279, 32, 1280, 1281, 1282, 1284, 33] (by decide +kernel)
set_option maxRecDepth 100000 in
theorem in_wsL_law0_r38 : ∀ w ∈ wsL_law0_r38, w ∈ lw_tbx := lw_by [1285, 1286, 1287, 1288, 1289, 696, 1290, 1292, 34, 1293, 1294, 1295, 1296, 1297, 611, 1298, 1299, 1300, 1301, 1717, 1718, 1719, 1720, 1721] (by decide +kernel)
set_option maxRecDepth 100000 in
theorem in_wsL_law0_r39 : ∀ w ∈ wsL_law0_r39, w ∈ lw_tbx := lw_by [1723, 53, 1724, 1725, 1727, 54, 1728, 1729, 1731, 55, 1732, 1733, 1735, 56, 1736, 1737, 1739, 57, 1740, 1303, 1304, 1305, 1306, 1307] (by decide +kernel)
set_option maxRecDepth 100000 in
theorem in_wsL_law0_r40 : ∀ w ∈ wsL_law0_r40, w ∈ lw_tbx := lw_by [1308, 1309, 1741, 1742, 1743, 1744, 1310, 1311, 1312, 1313, 1314, 1315, 1316, 1317, 1318, 1319, 1320, 1745, 1746, 1747, 1748, 1749, 1750, 98] (by decide +kernel)
set_option maxRecDepth 100000 in
theorem in_wsL_law0_r41 : ∀ w ∈ wsL_law0_r41, w ∈ lw_tbx := lw_by [1751, 1755, 1757, 1756, 98, 1758, 1752, 1753, 1754, 1321, 1322, 1323, 1324, 1325, 1326, 1327, 1759, 1760, 1761, 1762, 1328, 1329, 1330, 1331] (by decide +kernel)
set_option maxRecDepth 100000 in
theorem in_wsL_law0_r42 : ∀ w ∈ wsL_law0_r42, w ∈ lw_tbx := lw_by [1332, 1333, 1334, 1336, 1337, 1338, 1339, 1340, 1341, 1342, 1343, 977, 1344, 1345, 1346, 1347, 1348, 1349, 1350, 1351, 1352, 1763, 1764, 1765] (by decide +kernel)
set_option maxRecDepth 100000 in
theorem in_wsL_law0_r43 : ∀ w ∈ wsL_law0_r43, w ∈ lw_tbx := lw_by [1766, 1767, 1768, 1769, 1353, 1354, 1355, 1356, 1357, 1358, 1359, 971, 610, 1363, 1364, 1365, 1366, 609, 607, 1770, 1771, 1772, 1773, 1774] (by decide +kernel)
set_option maxRecDepth 100000 in
theorem in_wsL_law0_r44 : ∀ w ∈ wsL_law0_r44, w ∈ lw_tbx := lw_by [1776, 58, 1777, 1778, 1780, 59, 1781, 1367, 1368, 1369, 1370, 1371, 1372, 1373, 708, 702, 1375, 1377, 35, 1378, 1379, 1380, 1381, 1382] (by decide +kernel)
set_option maxRecDepth 100000 in
theorem in_wsL_law0_r45 : ∀ w ∈ wsL_law0_r45, w ∈ lw_tbx := lw_by [1383, 1782, 1783, 1784, 1785, 1786, 1788, 60, 1789, 1384, 1385, 1386, 1387, 1388, 1389, 1390, 1790, 1791, 1792, 1793, 1391, 1392, 1393, 1394] (by decide +kernel)
set_option maxRecDepth 100000 in
theorem in_wsL_law0_r46 : ∀ w ∈ wsL_law0_r46, w ∈ lw_tbx := lw_by [1395, 1396, 1397, 1794, 1795, 1796, 1797, 1398, 1399, 1400, 1401, 1402, 1403, 1404, 1798, 1799, 1800, 1801, 1405, 1406, 1407, 1408, 1409, 1410] (by decide +kernel)
set_option maxRecDepth 100000 in
theorem in_wsL_law0_r47 : ∀ w ∈ wsL_law0_r47, w ∈ lw_tbx := lw_by [1411, 1802, 1803, 1804, 1805, 1412, 1413, 1414, 1415, 1416, 1417, 1418, 1806, 1807, 1808, 1809, 385, 386, 387, 388, 389, 390, 391, 392] (by decide +kernel)
set_option maxRecDepth 100000 in
theorem in_wsL_law0_r48 : ∀ w ∈ wsL_law0_r48, w ∈ lw_tbx := lw_by [393, 1838, 394, 395, 1810, 1811, 1812, 1813, 1419, 1420, 1421, 1422, 1423, 1424, 1425, 1427, 1428, 1429, 1430, 1431, 1851, 1432, 1433, 1434] (by decide +kernel)
set_option maxRecDepth 100000 in
theorem in_wsL_law0_r49 : ∀ w ∈ wsL_law0_r49, w ∈ lw_tbx := lw_by [1435, 1436, 926, 927, 1814, 1815, 1816, 1817, 1437, 1438, 1439, 1440, 1454, 1455, 1456, 1457, 1458, 99, 1818, 1819, 1820, 1821, 354, 355] (by decide +kernel)
set_option maxRecDepth 100000 in
theorem in_wsL_law0_r50 : ∀ w ∈ wsL_law0_r50, w ∈ lw_tbx := lw_by [356, 357, 1822, 1823, 1824, 1825, 396, 397, 398, 399, 400, 402, 693, 697, 700, 403, 1826, 1827, 1828, 1829, 1830, 1831, 404, 405] (by decide +kernel)
set_option maxRecDepth 100000 in
theorem in_wsL_law0_r51 : ∀ w ∈ wsL_law0_r51, w ∈ lw_tbx := lw_by [406, 407, 408, 410, 3, 411, 412, 413, 414, 415, 418, 420, 4, 421, 437, 439, 5, 440, 442, 444, 6, 445, 446, 447] (by decide +kernel)
set_option maxRecDepth 100000 in
theorem in_wsL_law0_r52 : ∀ w ∈ wsL_law0_r52, w ∈ lw_tbx := lw_by [448, 449, 450, 451, 452, 453, 1832, 1833, 1834, 1835] (by decide +kernel)
