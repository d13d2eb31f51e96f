/-! the tables hold what the pure run reads off them: by places, decided -/
abbrev vwCl : List vw_C := [(RX0, TX0, 3), (RX1, TX1, 6), (RX2, TX2, 6), (RX3, TX3, 2), (RX4, TX4, 5), (RX5, TX5, 7), (RX6, TX6, 6), (RX7, TX7, 20), (RX8, TX8, 15), (RX9, TX9, 42)]
def s_gt : List Jvm.Cond := lw_tbl.filter goodWord
theorem s_gt_of {i : Nat} {w : Jvm.Cond} (h : lw_tbl[i]? = some w) (g : goodWord w = true) : w ∈ s_gt := List.mem_filter.mpr ⟨List.mem_of_getElem? h, g⟩
def qC : List Nat := [326, 691, 708, 1083, 1087, 384, 888, 908, 957, 346, 718, 726, 754, 813, 1034, 821, 829, 1047, 184, 517, 687, 1021, 666, 670, 1001, 916, 658, 962, 662, 722, 142, 509, 641, 674, 856, 540, 605, 611, 620, 624, 646, 374, 879, 947, 985, 883, 898, 894, 993, 997, 902, 970, 974, 148, 497, 521, 525, 544, 597, 601, 529, 532, 535, 178, 513, 683, 616, 633, 771, 650, 654, 952, 875, 735, 842, 731, 739, 743, 747, 920, 936, 943, 1116, 1107, 1124, 1120, 926, 929, 1111, 134, 490, 501, 505, 679, 699, 758, 763, 781, 790, 1136, 795, 801, 805, 817, 825, 834, 838, 848, 863, 966, 981, 989, 1009, 1013, 1025, 1030, 1043, 1051, 1055, 1060, 1064, 1068, 1079, 1091, 1095, 1099, 1103, 1128, 637, 767, 785, 809, 867, 871, 703, 695, 714, 1017, 852, 493, 1037, 1072, 1351, 1204, 1337, 1344, 1341, 1348, 1372, 1375, 1378, 1368, 1364, 1399, 1393, 1389, 1385, 1411, 1407, 1403, 1437, 1420, 1430, 1417, 1426, 1360, 1456, 1445, 1449, 1453, 1441, 1460, 1355, 1464, 1467, 1489, 1471, 1484, 1475, 1524, 1511, 1508, 1521, 1518, 1535, 1540, 1531, 1544, 1561, 1515, 1505, 1501, 1497, 1564, 1493, 1480, 1568, 1577, 1590, 1581, 1573, 1586, 1596, 1600, 1604, 1608, 1612, 1622, 1618, 1626, 1635, 1630, 1639, 1644, 1649, 1653, 1661, 1657, 1682, 1694, 1690, 1686, 1674, 1678, 1669, 1698, 1665, 1718, 1714, 1710, 1706, 1702, 1730, 1734, 1726, 1722, 1750, 1754, 1746, 1742, 1738, 1762, 1758, 1770, 1766, 1778, 1774, 1782, 1796, 1792, 1800, 1804, 1820, 1817, 1813, 1824, 1828, 1809, 1832, 1836, 1851, 1855, 1867, 1863, 1875, 1871, 1879, 1883, 1859, 1887, 774, 1550, 1553, 1840, 1843]
def qK : List Nat := [325, 689, 706, 1081, 1085, 383, 886, 906, 955, 345, 716, 725, 753, 811, 1032, 819, 827, 1045, 183, 515, 685, 1019, 664, 668, 999, 914, 656, 960, 661, 720, 141, 507, 639, 672, 854, 539, 604, 610, 619, 623, 645, 373, 877, 946, 983, 882, 897, 893, 991, 996, 901, 968, 973, 147, 495, 519, 523, 542, 595, 599, 528, 531, 534, 177, 511, 681, 614, 631, 769, 648, 652, 950, 873, 733, 840, 729, 738, 742, 746, 918, 934, 942, 1114, 1105, 1122, 1118, 925, 928, 1110, 133, 488, 499, 503, 677, 697, 756, 761, 779, 788, 1134, 793, 799, 803, 815, 823, 832, 836, 846, 861, 964, 979, 987, 1007, 1011, 1023, 1028, 1041, 1049, 1053, 1058, 1062, 1066, 1077, 1089, 1093, 1097, 1101, 1126, 636, 766, 784, 808, 866, 870, 702, 694, 713, 1016, 851, 492, 1036, 1071, 1350, 1203, 1335, 1343, 1339, 1346, 1371, 1374, 1377, 1367, 1363, 1398, 1392, 1388, 1384, 1410, 1406, 1402, 1436, 1419, 1429, 1416, 1425, 1359, 1455, 1444, 1448, 1452, 1440, 1459, 1353, 1462, 1466, 1488, 1469, 1483, 1473, 1523, 1510, 1507, 1520, 1517, 1534, 1539, 1530, 1543, 1560, 1514, 1504, 1500, 1496, 1563, 1492, 1478, 1566, 1576, 1589, 1580, 1571, 1584, 1594, 1599, 1603, 1607, 1610, 1621, 1616, 1624, 1634, 1628, 1637, 1642, 1647, 1651, 1660, 1655, 1681, 1693, 1689, 1685, 1673, 1677, 1668, 1697, 1663, 1717, 1713, 1709, 1705, 1700, 1729, 1733, 1725, 1720, 1749, 1753, 1745, 1741, 1736, 1761, 1756, 1769, 1764, 1777, 1772, 1780, 1795, 1790, 1798, 1802, 1819, 1816, 1812, 1823, 1827, 1807, 1830, 1834, 1849, 1853, 1866, 1862, 1874, 1870, 1878, 1882, 1857, 1885, 773, 1549, 1552, 1839, 1842]
def qS : List Nat := [0, 690, 707, 1082, 1086, 0, 887, 907, 956, 0, 717, 12, 16, 812, 1033, 820, 828, 1046, 0, 516, 686, 1020, 665, 669, 1000, 915, 657, 961, 8, 721, 0, 508, 640, 673, 855, 1, 2, 3, 4, 5, 7, 0, 878, 0, 984, 23, 0, 24, 992, 29, 25, 969, 28, 0, 496, 520, 524, 543, 596, 600, 0, 0, 0, 0, 512, 682, 615, 632, 770, 649, 653, 951, 874, 734, 841, 730, 13, 14, 15, 919, 935, 27, 1115, 1106, 1123, 1119, 26, 0, 31, 0, 489, 500, 504, 678, 698, 757, 762, 780, 789, 1135, 794, 800, 804, 816, 824, 833, 837, 847, 862, 965, 980, 988, 1008, 1012, 1024, 1029, 1042, 1050, 1054, 1059, 1063, 1067, 1078, 1090, 1094, 1098, 1102, 1127, 6, 17, 18, 19, 21, 22, 10, 9, 11, 30, 20, 0, 0, 0, 0, 0, 1336, 0, 1340, 1347, 36, 0, 0, 35, 34, 40, 39, 38, 37, 43, 42, 41, 46, 0, 0, 44, 45, 33, 0, 48, 49, 50, 47, 51, 1354, 1463, 0, 53, 1470, 52, 1474, 0, 0, 0, 0, 0, 60, 61, 59, 62, 63, 58, 57, 56, 55, 0, 54, 1479, 1567, 64, 66, 65, 1572, 1585, 1595, 67, 68, 69, 1611, 70, 1617, 1625, 71, 1629, 1638, 1643, 1648, 1652, 72, 1656, 76, 79, 78, 77, 74, 75, 73, 80, 1664, 84, 83, 82, 81, 1701, 86, 87, 85, 1721, 90, 91, 89, 88, 1737, 92, 1757, 93, 1765, 94, 1773, 1781, 95, 1791, 1799, 1803, 0, 97, 96, 98, 99, 1808, 1831, 1835, 1850, 1854, 101, 100, 103, 102, 104, 105, 1858, 1886, 0, 0, 0, 0, 0]
def qI : List Nat := [112, 115, 113, 111, 108, 114, 109, 110, 107, 116, 106, 124, 123, 129]
def qO : List Nat := [323, 381, 343, 181, 139, 371, 145, 175, 131, 1201]
set_option maxRecDepth 100000 in
theorem k_zero : (0 : Nat) = 0 := rfl
set_option maxRecDepth 100000 in
theorem k_kind : ∀ m, m < 275 → lw_tbl[qK.getD m 0]? = some (if mSt m = 0 then .static (mY m) else .instanceMethod (mY m)) := by decide +kernel
set_option maxRecDepth 100000 in
theorem k_sel : ∀ m, m < 275 → mSt m = 1 → lw_tbl[qS.getD m 0]? = some (.selects (mY m).cls (mY m) (mY m)) := by decide +kernel
set_option maxRecDepth 100000 in
theorem k_ini : ∀ c, c < 14 → lw_tbl[qI.getD c 0]? = some (.initialized (cR c)) := by decide +kernel
set_option maxRecDepth 100000 in
theorem k_obj : ∀ c, c < 10 → lw_tbl[qO.getD c 0]? = some (.instantiable (cR c) (cN c)) := by decide +kernel
set_option maxRecDepth 100000 in
theorem k_meth1 : ∀ m, m < 275 → (mY m).cls = cR (mC m) ∧ mC m < 14 := by decide +kernel
set_option maxRecDepth 100000 in
theorem k_meth2 : ∀ m, m < 270 → Jvm.plainName (mY m).cls = true := by decide +kernel
set_option maxRecDepth 100000 in
theorem k_plain : ∀ m, m < 275 → plainFor (mY m) = true := by decide +kernel
set_option maxRecDepth 100000 in
theorem k_inst : ∀ m, m < 275 → mSt m = 1 → mC m < 10 := by decide +kernel
set_option maxRecDepth 100000 in
theorem k_maxl : ∀ m, m < 275 → mL m ≤ 41 := by decide +kernel
set_option maxRecDepth 100000 in
theorem k_meth3 : ∀ m, m < 275 → (mY m).cls ≠ "java/lang/invoke/MethodHandle" ∧ (mY m).cls ≠ "java/lang/invoke/VarHandle" ∧ (mSt m = 2 → (mY m).name = "<init>" ∧ mR m = none) := by decide +kernel
set_option maxRecDepth 100000 in
theorem k_meth4 : ∀ m, m < 275 → (parseMethodDescriptor (mY m).desc).map (fun d => d.parameters.length) = some (mNa m) := by decide +kernel
def qF : List (List Nat) := [[331, 332, 333], [388, 391, 393, 396, 399, 401], [348, 349, 350, 351, 254, 353, 219, 355, 224, 230, 209, 234], [186, 188], [300, 302, 304, 306, 199, 202, 155, 206, 157, 307, 225, 212], [416, 417, 418, 419, 420, 421, 390, 394, 402, 223, 400, 205, 210, 236, 239, 247, 216, 422, 256, 220, 189, 397, 244], [150, 151, 159, 154, 156, 158], [222, 227, 229, 232, 233, 235, 238, 241, 243, 246, 249, 251, 253, 198, 201, 204, 208, 213, 215, 218, 190, 187], [441, 301, 442, 443, 444, 445, 447, 448, 449, 450, 451, 452, 453, 454, 455, 152, 153, 207, 303, 446, 211, 255, 305, 354, 214, 217, 200, 203, 221, 226, 228, 191, 231, 237, 240, 242, 245, 248, 250, 252, 352, 308, 395, 398, 389, 334, 356, 392], [1207, 1217, 1218, 1223, 1224, 1225, 1226, 1228, 1230, 1231, 1232, 1233, 1234, 1235, 1238, 1246, 1206, 1208, 1209, 1210, 1212, 1213, 1211, 1222, 1221, 1220, 1216, 1227, 1219, 1214, 1215, 1229, 1247, 1236, 1237, 1239, 1240, 1241, 1242, 1243, 1244, 1245], [], [], [], [], [], []]
def qM : List (List Nat) := [[330, 709], [387, 889, 909, 958, 959], [719, 723, 728, 751, 727, 830], [667, 1002, 1003, 659], [146, 176, 299, 510, 518, 537, 598, 602, 541, 608, 617, 642, 594, 643, 593, 613, 621, 630, 647, 651, 655, 663], [377, 379, 382, 880, 896, 885, 917, 890, 944, 945, 899, 910, 911, 949, 912, 913, 884, 891, 895, 976, 994, 903, 998, 1004, 904, 905, 971, 977, 975], [522, 526, 530, 533, 545, 555], [182, 514, 684, 843, 844, 732, 736, 740, 744, 921, 922, 923, 933, 940, 1108, 927, 1112], [140, 321, 324, 344, 372, 439, 491, 494, 506, 634, 638, 671, 680, 688, 692, 700, 705, 710, 711, 759, 764, 768, 772, 782, 786, 791, 1198, 1035, 796, 797, 806, 810, 818, 826, 839, 849, 864, 868, 876, 954, 967, 982, 990, 1005, 1014, 1031, 1044, 1056, 1070, 1080, 1084, 1104, 1113, 1117, 1121, 872, 715, 1018, 853], [1342, 1349, 1369, 1373, 1376, 1365, 1394, 1395, 1390, 1386, 1396, 1404, 1418, 1400, 1382, 1428, 1361, 1408, 1414, 1423, 1434, 1442, 1446, 1450, 1454, 1357, 1438, 1457, 1465, 1509, 1506, 1519, 1522, 1532, 1537, 1548, 1516, 1528, 1541, 1558, 1502, 1512, 1498, 1481, 1486, 1490, 1494, 1562, 1574, 1578, 1582, 1587, 1597, 1601, 1605, 1619, 1632, 1658, 1691, 1687, 1683, 1679, 1666, 1671, 1675, 1695, 1715, 1707, 1711, 1703, 1731, 1727, 1723, 1747, 1751, 1743, 1739, 1759, 1767, 1775, 1783, 1793, 1814, 1818, 1810, 1821, 1825, 1838, 1864, 1872, 1860, 1868, 1876, 1880], [1133, 132, 1202, 487, 1338, 498, 1345, 502, 1352, 676, 1461, 696, 1477, 755, 1565, 760, 1570, 778, 1583, 787, 1593, 1129, 1609, 1334, 792, 1615, 798, 1623, 802, 1627, 814, 1636, 822, 1641, 831, 1646, 835, 1650, 845, 1654, 860, 1662, 963, 1699, 978, 1719, 986, 1735, 1006, 1755, 1010, 1763, 1022, 1771, 1027, 1779, 1040, 1789, 1048, 1801, 1052, 1806, 1057, 1797, 1061, 1829, 1065, 1833, 1076, 1468, 1088, 1848, 1092, 1852, 1096, 1472, 1100, 1856, 1125, 1884], [], [1551], [1841], [], []]
def qN : List (List Nat) := [[1, 0], [1, 0, 0, 0, 0], [0, 0, 0, 0, 0, 0], [0, 0, 0, 0], [1, 1, 1, 0, 0, 0, 0, 0, 0, 0, 0, 0, 0, 0, 0, 0, 0, 0, 0, 0, 0, 0], [1, 1, 1, 0, 0, 0, 0, 0, 0, 0, 0, 0, 0, 0, 0, 0, 0, 0, 0, 0, 0, 0, 0, 0, 0, 0, 0, 0, 0], [0, 0, 0, 0, 0, 0], [1, 0, 0, 0, 0, 0, 0, 0, 0, 0, 0, 0, 0, 0, 0, 0, 0], [1, 1, 0, 1, 1, 1, 0, 0, 0, 0, 0, 0, 0, 0, 0, 0, 0, 0, 0, 0, 0, 0, 0, 0, 0, 0, 0, 0, 0, 0, 0, 0, 0, 0, 0, 0, 0, 0, 0, 0, 0, 0, 0, 0, 0, 0, 0, 0, 0, 0, 0, 0, 0, 0, 0, 0, 0, 0, 0], [0, 0, 0, 0, 0, 0, 0, 0, 0, 0, 0, 0, 0, 0, 0, 0, 0, 0, 0, 0, 0, 0, 0, 0, 0, 0, 0, 0, 0, 0, 0, 0, 0, 0, 0, 0, 0, 0, 0, 0, 0, 0, 0, 0, 0, 0, 0, 0, 0, 0, 0, 0, 0, 0, 0, 0, 0, 0, 0, 0, 0, 0, 0, 0, 0, 0, 0, 0, 0, 0, 0, 0, 0, 0, 0, 0, 0, 0, 0, 0, 0, 0, 0, 0, 0, 0, 0, 0, 0, 0, 0, 0, 0, 0], [0, 0, 0, 0, 0, 0, 0, 0, 0, 0, 0, 0, 0, 0, 0, 0, 0, 0, 0, 0, 0, 0, 0, 0, 0, 0, 0, 0, 0, 0, 0, 0, 0, 0, 0, 0, 0, 0, 0, 0, 0, 0, 0, 0, 0, 0, 0, 0, 0, 0, 0, 0, 0, 0, 0, 0, 0, 0, 0, 0, 0, 0, 0, 0, 0, 0, 0, 0, 0, 0, 0, 0, 0, 0, 0, 0, 0, 0, 0, 0], [], [0], [0], [], []]
def qL : List (List Nat) := [[328], [386], [], [], [144, 174, 298], [376, 378, 380], [], [180], [138, 320, 322, 342, 370, 438], [], [130, 1200], [], [], [], [], []]
def qV : List (List Nat) := [[], [], [], [], [0, 0, 0, 0, 0, 0, 0, 0, 0], [], [], [748, 749, 750], [704, 1199, 1069, 1038, 1039, 1073, 1074, 1075], [1379, 0, 0, 0, 0, 0, 0, 0, 0, 0, 1356, 1476, 1545, 1546, 1547, 1485, 1569, 1591, 1592, 1613, 1614, 1631, 1640, 1645, 1670, 1837], [], [775, 776, 777], [1557], [1847], [], []]
def qT : List (List Nat) := [[327], [385], [347], [185], [143], [375, 948, 953], [149], [179, 930, 937], [135, 1026, 857], [1205, 1380, 1525, 1536, 1805], [], [], [1554], [1844], [], []]
def nY : Nat → MethodName := fun i => match i with
  | 1 => Lib.Math.max.name
  | 2 => Lib.Math.min.name
  | 3 => Lib.Math.abs.name
  | 4 => ⟨"java/lang/Float", "intBitsToFloat", "(I)F"⟩
  | 5 => ⟨"java/lang/Float", "floatToRawIntBits", "(F)I"⟩
  | 6 => ⟨"java/lang/Double", "doubleToRawLongBits", "(D)J"⟩
  | _ => Lib.objectInit
/-- a row of a table and its place -/
def k_at {α : Type} (t : List (List α)) (c j : Nat) : Option α := (t.getD c [])[j]?
set_option maxRecDepth 100000 in
theorem k_pf : ∀ c, c < 16 → ∀ j, j < (pfT.getD c []).length → (k_at pfT c j).map (fun e => (decide (e.2.1 < 10 ∧ e.2.2 < cN e.2.1 ∧ (cT e.2.1 e.2.2).1 = cR e.2.1) && decide (lw_tbl[((qF.getD c []).getD j 0)]? = some (.fieldLink (cR c) e.1 (cR e.2.1) (cT e.2.1 e.2.2).2.1 (cT e.2.1 e.2.2).2.2.1)))) = some true := by decide +kernel
set_option maxRecDepth 100000 in
theorem k_pm : ∀ c, c < 14 → ∀ j, j < (pmT.getD c []).length → (k_at pmT c j).map (fun e => (decide (1000 ≤ e.2) || (decide (e.2 < 275) && decide (lw_tbl[((qM.getD c []).getD j 0)]? = some (if (qN.getD c []).getD j 0 = 0 then .methodLink (cR c) e.1 (mY e.2) else .methodLinkNest (cR c) e.1 (mY e.2) RX8)) && decide ((qN.getD c []).getD j 0 = 0 ∨ mSt e.2 = 2)))) = some true := by decide +kernel
set_option maxRecDepth 100000 in
theorem k_pc : ∀ c, c < 16 → ∀ j, j < (pcT.getD c []).length → (k_at pcT c j).map (fun e => (decide (e.2 < 10) && decide (lw_tbl[((qL.getD c []).getD j 0)]? = some (.classLink (cR c) e.1 (cR e.2))))) = some true := by decide +kernel
set_option maxRecDepth 100000 in
theorem k_pk : ∀ c, c < 16 → ∀ j, j < (pkT.getD c []).length → (k_at pkT c j).map (fun e => match e.2 with
    | .int v => decide (lw_tbl[((qV.getD c []).getD j 0)]? = some (.constant (cR c) e.1 v))
    | .float v => decide (lw_tbl[((qV.getD c []).getD j 0)]? = some (.constantFloat (cR c) e.1 v))
    | .long v => decide (lw_tbl[((qV.getD c []).getD j 0)]? = some (.constantLong (cR c) e.1 v))
    | .double v => decide (lw_tbl[((qV.getD c []).getD j 0)]? = some (.constantDouble (cR c) e.1 v))
    | .ref a => decide (1000001 ≤ a ∧ a < 1000010)
    | _ => false) = some true := by decide +kernel
set_option maxRecDepth 100000 in
theorem k_pn : ∀ c, c < 16 → ∀ j, j < (pnT.getD c []).length → (k_at pnT c j).map (fun e => decide (1 ≤ e.2 ∧ e.2 ≤ 7) && decide (lw_tbl[((qT.getD c []).getD j 0)]? = some (.methodLink (cR c) e.1 (nY e.2)))) = some true := by decide +kernel
theorem k_up1 {w : Jvm.Cond} (h : w ∈ tables_1_1) : w ∈ lw_tbl := List.mem_append_right _ (List.mem_append_left _ h)
theorem k_up2 {w : Jvm.Cond} (h : w ∈ tables_1_2) : w ∈ lw_tbl := List.mem_append_right _ (List.mem_append_right _ (List.mem_append_left _ h))
theorem k_up3 {w : Jvm.Cond} (h : w ∈ tables_1_3) : w ∈ lw_tbl := List.mem_append_right _ (List.mem_append_right _ (List.mem_append_right _ (List.mem_append_left _ h)))
theorem k_up4 {w : Jvm.Cond} (h : w ∈ tables_1_4) : w ∈ lw_tbl := List.mem_append_right _ (List.mem_append_right _ (List.mem_append_right _ (List.mem_append_right _ (List.mem_append_left _ h))))
theorem k_up5 {w : Jvm.Cond} (h : w ∈ tables_1_5) : w ∈ lw_tbl := List.mem_append_right _ (List.mem_append_right _ (List.mem_append_right _ (List.mem_append_right _ (List.mem_append_right _ (List.mem_append_left _ h)))))
theorem k_up6 {w : Jvm.Cond} (h : w ∈ tables_1_6) : w ∈ lw_tbl := List.mem_append_right _ (List.mem_append_right _ (List.mem_append_right _ (List.mem_append_right _ (List.mem_append_right _ (List.mem_append_right _ (List.mem_append_left _ h))))))
theorem k_up7 {w : Jvm.Cond} (h : w ∈ tables_1_7) : w ∈ lw_tbl := List.mem_append_right _ (List.mem_append_right _ (List.mem_append_right _ (List.mem_append_right _ (List.mem_append_right _ (List.mem_append_right _ (List.mem_append_right _ (List.mem_append_left _ h)))))))
theorem k_up8 {w : Jvm.Cond} (h : w ∈ tables_1_8) : w ∈ lw_tbl := List.mem_append_right _ (List.mem_append_right _ (List.mem_append_right _ (List.mem_append_right _ (List.mem_append_right _ (List.mem_append_right _ (List.mem_append_right _ (List.mem_append_right _ (h))))))))
theorem k_c0 : Jvm.Cond.code yX0_init cX0_init 2 none ∈ s_gt := List.mem_filter.mpr ⟨k_up1 (List.mem_of_getElem? (i := 220) rfl), rfl⟩
theorem k_c1 : Jvm.Cond.code yX0_forget cX0_forget 1 none ∈ s_gt := List.mem_filter.mpr ⟨k_up3 (List.mem_of_getElem? (i := 105) rfl), rfl⟩
theorem k_c2 : Jvm.Cond.code yX0_keep cX0_keep 2 none ∈ s_gt := List.mem_filter.mpr ⟨k_up3 (List.mem_of_getElem? (i := 122) rfl), rfl⟩
theorem k_c3 : Jvm.Cond.code yX0_canUndo cX0_canUndo 1 ((some .boolean)) ∈ s_gt := List.mem_filter.mpr ⟨k_up5 (List.mem_of_getElem? (i := 17) rfl), rfl⟩
theorem k_c4 : Jvm.Cond.code yX0_takeBack cX0_takeBack 2 none ∈ s_gt := List.mem_filter.mpr ⟨k_up5 (List.mem_of_getElem? (i := 21) rfl), rfl⟩
theorem k_c5 : Jvm.Cond.code yX1_init cX1_init 1 none ∈ s_gt := List.mem_filter.mpr ⟨k_up2 (List.mem_of_getElem? (i := 38) rfl), rfl⟩
theorem k_c6 : Jvm.Cond.code yX1_open cX1_open 2 none ∈ s_gt := List.mem_filter.mpr ⟨k_up4 (List.mem_of_getElem? (i := 62) rfl), rfl⟩
theorem k_c7 : Jvm.Cond.code yX1_take cX1_take 3 none ∈ s_gt := List.mem_filter.mpr ⟨k_up4 (List.mem_of_getElem? (i := 82) rfl), rfl⟩
theorem k_c8 : Jvm.Cond.code yX1_tell cX1_tell 2 ((some .int)) ∈ s_gt := List.mem_filter.mpr ⟨k_up4 (List.mem_of_getElem? (i := 131) rfl), rfl⟩
theorem k_c9 : Jvm.Cond.code yX2_init cX2_init 1 none ∈ s_gt := List.mem_filter.mpr ⟨k_up2 (List.mem_of_getElem? (i := 0) rfl), rfl⟩
theorem k_c10 : Jvm.Cond.code yX2_goThrough cX2_goThrough 4 none ∈ s_gt := List.mem_filter.mpr ⟨k_up3 (List.mem_of_getElem? (i := 132) rfl), rfl⟩
theorem k_c11 : Jvm.Cond.code yX2_mark cX2_mark 4 none ∈ s_gt := List.mem_filter.mpr ⟨k_up3 (List.mem_of_getElem? (i := 140) rfl), rfl⟩
theorem k_c12 : Jvm.Cond.code yX2_markDeeds cX2_markDeeds 4 none ∈ s_gt := List.mem_filter.mpr ⟨k_up3 (List.mem_of_getElem? (i := 168) rfl), rfl⟩
theorem k_c13 : Jvm.Cond.code yX2_bayAt cX2_bayAt 4 ((some .int)) ∈ s_gt := List.mem_filter.mpr ⟨k_up3 (List.mem_of_getElem? (i := 227) rfl), rfl⟩
theorem k_c14 : Jvm.Cond.code yX2_swayAt cX2_swayAt 4 ((some .float)) ∈ s_gt := List.mem_filter.mpr ⟨k_up4 (List.mem_of_getElem? (i := 208) rfl), rfl⟩
theorem k_c15 : Jvm.Cond.code yX2_deedAt cX2_deedAt 4 ((some .int)) ∈ s_gt := List.mem_filter.mpr ⟨k_up3 (List.mem_of_getElem? (i := 235) rfl), rfl⟩
theorem k_c16 : Jvm.Cond.code yX2_deedsOf cX2_deedsOf 6 ((some .int)) ∈ s_gt := List.mem_filter.mpr ⟨k_up4 (List.mem_of_getElem? (i := 3) rfl), rfl⟩
theorem k_c17 : Jvm.Cond.code yX2_idleIn cX2_idleIn 7 ((some .int)) ∈ s_gt := List.mem_filter.mpr ⟨k_up4 (List.mem_of_getElem? (i := 221) rfl), rfl⟩
theorem k_c18 : Jvm.Cond.code yX3_init cX3_init 1 none ∈ s_gt := List.mem_filter.mpr ⟨k_up1 (List.mem_of_getElem? (i := 78) rfl), rfl⟩
theorem k_c19 : Jvm.Cond.code yX3_clear cX3_clear 2 none ∈ s_gt := List.mem_filter.mpr ⟨k_up2 (List.mem_of_getElem? (i := 171) rfl), rfl⟩
theorem k_c20 : Jvm.Cond.code yX3_copyOf cX3_copyOf 3 none ∈ s_gt := List.mem_filter.mpr ⟨k_up3 (List.mem_of_getElem? (i := 101) rfl), rfl⟩
theorem k_c21 : Jvm.Cond.code yX3_at cX3_at 3 ((some .int)) ∈ s_gt := List.mem_filter.mpr ⟨k_up4 (List.mem_of_getElem? (i := 195) rfl), rfl⟩
theorem k_c22 : Jvm.Cond.code yX3_add cX3_add 3 none ∈ s_gt := List.mem_filter.mpr ⟨k_up3 (List.mem_of_getElem? (i := 80) rfl), rfl⟩
theorem k_c23 : Jvm.Cond.code yX3_insert cX3_insert 6 none ∈ s_gt := List.mem_filter.mpr ⟨k_up3 (List.mem_of_getElem? (i := 84) rfl), rfl⟩
theorem k_c24 : Jvm.Cond.code yX3_remove cX3_remove 6 none ∈ s_gt := List.mem_filter.mpr ⟨k_up4 (List.mem_of_getElem? (i := 175) rfl), rfl⟩
theorem k_c25 : Jvm.Cond.code yX3_dropLast cX3_dropLast 2 none ∈ s_gt := List.mem_filter.mpr ⟨k_up4 (List.mem_of_getElem? (i := 90) rfl), rfl⟩
theorem k_c26 : Jvm.Cond.code yX3_holder cX3_holder 3 ((some .int)) ∈ s_gt := List.mem_filter.mpr ⟨k_up3 (List.mem_of_getElem? (i := 72) rfl), rfl⟩
theorem k_c27 : Jvm.Cond.code yX3_spot cX3_spot 3 ((some .int)) ∈ s_gt := List.mem_filter.mpr ⟨k_up4 (List.mem_of_getElem? (i := 136) rfl), rfl⟩
theorem k_c28 : Jvm.Cond.code yX3_find cX3_find 4 ((some .int)) ∈ s_gt := List.mem_filter.mpr ⟨k_up3 (List.mem_of_getElem? (i := 76) rfl), rfl⟩
theorem k_c29 : Jvm.Cond.code yX3_bits cX3_bits 4 ((some .int)) ∈ s_gt := List.mem_filter.mpr ⟨k_up3 (List.mem_of_getElem? (i := 136) rfl), rfl⟩
theorem k_c30 : Jvm.Cond.code yX4_init cX4_init 1 none ∈ s_gt := List.mem_filter.mpr ⟨k_up1 (List.mem_of_getElem? (i := 36) rfl), rfl⟩
theorem k_c31 : Jvm.Cond.code yX4_readsQuay cX4_readsQuay 2 ((some .boolean)) ∈ s_gt := List.mem_filter.mpr ⟨k_up2 (List.mem_of_getElem? (i := 163) rfl), rfl⟩
theorem k_c32 : Jvm.Cond.code yX4_readsPlan cX4_readsPlan 5 ((some .boolean)) ∈ s_gt := List.mem_filter.mpr ⟨k_up3 (List.mem_of_getElem? (i := 55) rfl), rfl⟩
theorem k_c33 : Jvm.Cond.code yX4_readsMoves cX4_readsMoves 5 ((some .boolean)) ∈ s_gt := List.mem_filter.mpr ⟨k_up3 (List.mem_of_getElem? (i := 88) rfl), rfl⟩
theorem k_c34 : Jvm.Cond.code yX4_bayTold cX4_bayTold 4 ((some .int)) ∈ s_gt := List.mem_filter.mpr ⟨k_up4 (List.mem_of_getElem? (i := 30) rfl), rfl⟩
theorem k_c35 : Jvm.Cond.code yX4_isNamed cX4_isNamed 4 ((some .boolean)) ∈ s_gt := List.mem_filter.mpr ⟨k_up2 (List.mem_of_getElem? (i := 194) rfl), rfl⟩
theorem k_c36 : Jvm.Cond.code yX4_isNextLine cX4_isNextLine 1 ((some .boolean)) ∈ s_gt := List.mem_filter.mpr ⟨k_up3 (List.mem_of_getElem? (i := 19) rfl), rfl⟩
theorem k_c37 : Jvm.Cond.code yX4_readsCrane cX4_readsCrane 4 ((some .boolean)) ∈ s_gt := List.mem_filter.mpr ⟨k_up3 (List.mem_of_getElem? (i := 25) rfl), rfl⟩
theorem k_c38 : Jvm.Cond.code yX4_readsTasks cX4_readsTasks 2 ((some .boolean)) ∈ s_gt := List.mem_filter.mpr ⟨k_up3 (List.mem_of_getElem? (i := 34) rfl), rfl⟩
theorem k_c39 : Jvm.Cond.code yX4_readsTask cX4_readsTask 7 ((some .boolean)) ∈ s_gt := List.mem_filter.mpr ⟨k_up3 (List.mem_of_getElem? (i := 38) rfl), rfl⟩
theorem k_c40 : Jvm.Cond.code yX4_readsList cX4_readsList 5 ((some .boolean)) ∈ s_gt := List.mem_filter.mpr ⟨k_up3 (List.mem_of_getElem? (i := 60) rfl), rfl⟩
theorem k_c41 : Jvm.Cond.code yX5_init cX5_init 1 none ∈ s_gt := List.mem_filter.mpr ⟨k_up2 (List.mem_of_getElem? (i := 28) rfl), rfl⟩
theorem k_c42 : Jvm.Cond.code yX5_findBest cX5_findBest 4 none ∈ s_gt := List.mem_filter.mpr ⟨k_up4 (List.mem_of_getElem? (i := 53) rfl), rfl⟩
theorem k_c43 : Jvm.Cond.code yX5_extend cX5_extend 12 none ∈ s_gt := List.mem_filter.mpr ⟨k_up4 (List.mem_of_getElem? (i := 121) rfl), rfl⟩
theorem k_c44 : Jvm.Cond.code yX5_findZones cX5_findZones 3 none ∈ s_gt := List.mem_filter.mpr ⟨k_up4 (List.mem_of_getElem? (i := 159) rfl), rfl⟩
theorem k_c45 : Jvm.Cond.code yX5_begin cX5_begin 4 none ∈ s_gt := List.mem_filter.mpr ⟨k_up4 (List.mem_of_getElem? (i := 57) rfl), rfl⟩
theorem k_c46 : Jvm.Cond.code yX5_cut cX5_cut 7 none ∈ s_gt := List.mem_filter.mpr ⟨k_up4 (List.mem_of_getElem? (i := 72) rfl), rfl⟩
theorem k_c47 : Jvm.Cond.code yX5_sortByBay cX5_sortByBay 3 none ∈ s_gt := List.mem_filter.mpr ⟨k_up4 (List.mem_of_getElem? (i := 68) rfl), rfl⟩
theorem k_c48 : Jvm.Cond.code yX5_findBetter cX5_findBetter 6 none ∈ s_gt := List.mem_filter.mpr ⟨k_up4 (List.mem_of_getElem? (i := 167) rfl), rfl⟩
theorem k_c49 : Jvm.Cond.code yX5_tryPlaces cX5_tryPlaces 5 none ∈ s_gt := List.mem_filter.mpr ⟨k_up4 (List.mem_of_getElem? (i := 171) rfl), rfl⟩
theorem k_c50 : Jvm.Cond.code yX5_weigh cX5_weigh 3 ((some .boolean)) ∈ s_gt := List.mem_filter.mpr ⟨k_up4 (List.mem_of_getElem? (i := 76) rfl), rfl⟩
theorem k_c51 : Jvm.Cond.code yX5_findEasy cX5_findEasy 5 none ∈ s_gt := List.mem_filter.mpr ⟨k_up4 (List.mem_of_getElem? (i := 144) rfl), rfl⟩
theorem k_c52 : Jvm.Cond.code yX5_give cX5_give 8 none ∈ s_gt := List.mem_filter.mpr ⟨k_up4 (List.mem_of_getElem? (i := 148) rfl), rfl⟩
theorem k_c53 : Jvm.Cond.code yX6_init cX6_init 1 none ∈ s_gt := List.mem_filter.mpr ⟨k_up1 (List.mem_of_getElem? (i := 42) rfl), rfl⟩
theorem k_c54 : Jvm.Cond.code yX6_append cX6_append 4 none ∈ s_gt := List.mem_filter.mpr ⟨k_up2 (List.mem_of_getElem? (i := 151) rfl), rfl⟩
theorem k_c55 : Jvm.Cond.code yX6_rewind cX6_rewind 1 none ∈ s_gt := List.mem_filter.mpr ⟨k_up2 (List.mem_of_getElem? (i := 175) rfl), rfl⟩
theorem k_c56 : Jvm.Cond.code yX6_advance cX6_advance 2 none ∈ s_gt := List.mem_filter.mpr ⟨k_up2 (List.mem_of_getElem? (i := 179) rfl), rfl⟩
theorem k_c57 : Jvm.Cond.code yX6_isWord cX6_isWord 3 ((some .boolean)) ∈ s_gt := List.mem_filter.mpr ⟨k_up2 (List.mem_of_getElem? (i := 198) rfl), rfl⟩
theorem k_c58 : Jvm.Cond.code yX6_isNumber cX6_isNumber 3 ((some .boolean)) ∈ s_gt := List.mem_filter.mpr ⟨k_up3 (List.mem_of_getElem? (i := 11) rfl), rfl⟩
theorem k_c59 : Jvm.Cond.code yX6_taken cX6_taken 2 ((some .int)) ∈ s_gt := List.mem_filter.mpr ⟨k_up3 (List.mem_of_getElem? (i := 15) rfl), rfl⟩
theorem k_c60 : Jvm.Cond.code yX6_byteAt cX6_byteAt 2 ((some .int)) ∈ s_gt := List.mem_filter.mpr ⟨k_up2 (List.mem_of_getElem? (i := 183) rfl), rfl⟩
theorem k_c61 : Jvm.Cond.code yX6_isLetter cX6_isLetter 1 ((some .boolean)) ∈ s_gt := List.mem_filter.mpr ⟨k_up2 (List.mem_of_getElem? (i := 186) rfl), rfl⟩
theorem k_c62 : Jvm.Cond.code yX6_isDigit cX6_isDigit 1 ((some .boolean)) ∈ s_gt := List.mem_filter.mpr ⟨k_up2 (List.mem_of_getElem? (i := 189) rfl), rfl⟩
theorem k_c63 : Jvm.Cond.code yX7_init cX7_init 1 none ∈ s_gt := List.mem_filter.mpr ⟨k_up1 (List.mem_of_getElem? (i := 72) rfl), rfl⟩
theorem k_c64 : Jvm.Cond.code yX7_clear cX7_clear 1 none ∈ s_gt := List.mem_filter.mpr ⟨k_up2 (List.mem_of_getElem? (i := 167) rfl), rfl⟩
theorem k_c65 : Jvm.Cond.code yX7_copyOf cX7_copyOf 3 none ∈ s_gt := List.mem_filter.mpr ⟨k_up3 (List.mem_of_getElem? (i := 97) rfl), rfl⟩
theorem k_c66 : Jvm.Cond.code yX7_addCrane cX7_addCrane 3 none ∈ s_gt := List.mem_filter.mpr ⟨k_up3 (List.mem_of_getElem? (i := 30) rfl), rfl⟩
theorem k_c67 : Jvm.Cond.code yX7_addTask cX7_addTask 6 ((some .int)) ∈ s_gt := List.mem_filter.mpr ⟨k_up3 (List.mem_of_getElem? (i := 47) rfl), rfl⟩
theorem k_c68 : Jvm.Cond.code yX7_isBroken cX7_isBroken 2 ((some .boolean)) ∈ s_gt := List.mem_filter.mpr ⟨k_up3 (List.mem_of_getElem? (i := 185) rfl), rfl⟩
theorem k_c69 : Jvm.Cond.code yX7_isDone cX7_isDone 2 ((some .boolean)) ∈ s_gt := List.mem_filter.mpr ⟨k_up3 (List.mem_of_getElem? (i := 64) rfl), rfl⟩
theorem k_c70 : Jvm.Cond.code yX7_canLift cX7_canLift 3 ((some .boolean)) ∈ s_gt := List.mem_filter.mpr ⟨k_up3 (List.mem_of_getElem? (i := 68) rfl), rfl⟩
theorem k_c71 : Jvm.Cond.code yX7_canReach cX7_canReach 7 ((some .boolean)) ∈ s_gt := List.mem_filter.mpr ⟨k_up4 (List.mem_of_getElem? (i := 126) rfl), rfl⟩
theorem k_c72 : Jvm.Cond.code yX7_leftBits cX7_leftBits 1 ((some .int)) ∈ s_gt := List.mem_filter.mpr ⟨k_up4 (List.mem_of_getElem? (i := 49) rfl), rfl⟩
theorem k_c73 : Jvm.Cond.code yX7_nextOf cX7_nextOf 4 ((some .int)) ∈ s_gt := List.mem_filter.mpr ⟨k_up3 (List.mem_of_getElem? (i := 149) rfl), rfl⟩
theorem k_c74 : Jvm.Cond.code yX7_lastWithin cX7_lastWithin 4 ((some .int)) ∈ s_gt := List.mem_filter.mpr ⟨k_up4 (List.mem_of_getElem? (i := 16) rfl), rfl⟩
theorem k_c75 : Jvm.Cond.code yX7_pass cX7_pass 3 ((some .boolean)) ∈ s_gt := List.mem_filter.mpr ⟨k_up3 (List.mem_of_getElem? (i := 145) rfl), rfl⟩
theorem k_c76 : Jvm.Cond.code yX7_begin cX7_begin 5 ((some .boolean)) ∈ s_gt := List.mem_filter.mpr ⟨k_up3 (List.mem_of_getElem? (i := 153) rfl), rfl⟩
theorem k_c77 : Jvm.Cond.code yX7_step cX7_step 10 none ∈ s_gt := List.mem_filter.mpr ⟨k_up3 (List.mem_of_getElem? (i := 157) rfl), rfl⟩
theorem k_c78 : Jvm.Cond.code yX7_swing cX7_swing 4 ((some .boolean)) ∈ s_gt := List.mem_filter.mpr ⟨k_up3 (List.mem_of_getElem? (i := 161) rfl), rfl⟩
theorem k_c79 : Jvm.Cond.code yX7_boundOf cX7_boundOf 6 ((some .int)) ∈ s_gt := List.mem_filter.mpr ⟨k_up4 (List.mem_of_getElem? (i := 94) rfl), rfl⟩
theorem k_c80 : Jvm.Cond.code yX7_leftWithin cX7_leftWithin 5 ((some .int)) ∈ s_gt := List.mem_filter.mpr ⟨k_up4 (List.mem_of_getElem? (i := 110) rfl), rfl⟩
theorem k_c81 : Jvm.Cond.code yX7_busiestBays cX7_busiestBays 4 ((some .int)) ∈ s_gt := List.mem_filter.mpr ⟨k_up4 (List.mem_of_getElem? (i := 117) rfl), rfl⟩
theorem k_c82 : Jvm.Cond.code yX7_busiestBay cX7_busiestBay 3 ((some .int)) ∈ s_gt := List.mem_filter.mpr ⟨k_up5 (List.mem_of_getElem? (i := 50) rfl), rfl⟩
theorem k_c83 : Jvm.Cond.code yX7_busiestCrane cX7_busiestCrane 3 ((some .int)) ∈ s_gt := List.mem_filter.mpr ⟨k_up5 (List.mem_of_getElem? (i := 41) rfl), rfl⟩
theorem k_c84 : Jvm.Cond.code yX7_wildestCrane cX7_wildestCrane 3 ((some .int)) ∈ s_gt := List.mem_filter.mpr ⟨k_up5 (List.mem_of_getElem? (i := 58) rfl), rfl⟩
theorem k_c85 : Jvm.Cond.code yX7_longestTask cX7_longestTask 3 ((some .int)) ∈ s_gt := List.mem_filter.mpr ⟨k_up5 (List.mem_of_getElem? (i := 54) rfl), rfl⟩
theorem k_c86 : Jvm.Cond.code yX7_longestRow cX7_longestRow 3 ((some .int)) ∈ s_gt := List.mem_filter.mpr ⟨k_up4 (List.mem_of_getElem? (i := 100) rfl), rfl⟩
theorem k_c87 : Jvm.Cond.code yX7_rowTo cX7_rowTo 5 ((some .int)) ∈ s_gt := List.mem_filter.mpr ⟨k_up4 (List.mem_of_getElem? (i := 103) rfl), rfl⟩
theorem k_c88 : Jvm.Cond.code yX7_leftOf cX7_leftOf 5 ((some .int)) ∈ s_gt := List.mem_filter.mpr ⟨k_up5 (List.mem_of_getElem? (i := 45) rfl), rfl⟩
theorem k_c89 : Jvm.Cond.code yX8_init cX8_init 2 none ∈ s_gt := List.mem_filter.mpr ⟨k_up1 (List.mem_of_getElem? (i := 28) rfl), rfl⟩
theorem k_c90 : Jvm.Cond.code yX8_feed cX8_feed 7 ((some .int)) ∈ s_gt := List.mem_filter.mpr ⟨k_up2 (List.mem_of_getElem? (i := 144) rfl), rfl⟩
theorem k_c91 : Jvm.Cond.code yX8_end cX8_end 2 ((some .boolean)) ∈ s_gt := List.mem_filter.mpr ⟨k_up2 (List.mem_of_getElem? (i := 155) rfl), rfl⟩
theorem k_c92 : Jvm.Cond.code yX8_fault cX8_fault 3 ((some .int)) ∈ s_gt := List.mem_filter.mpr ⟨k_up2 (List.mem_of_getElem? (i := 159) rfl), rfl⟩
theorem k_c93 : Jvm.Cond.code yX8_quay cX8_quay 1 ((some .int)) ∈ s_gt := List.mem_filter.mpr ⟨k_up3 (List.mem_of_getElem? (i := 93) rfl), rfl⟩
theorem k_c94 : Jvm.Cond.code yX8_plan cX8_plan 1 ((some .int)) ∈ s_gt := List.mem_filter.mpr ⟨k_up3 (List.mem_of_getElem? (i := 113) rfl), rfl⟩
theorem k_c95 : Jvm.Cond.code yX8_go cX8_go 3 ((some .int)) ∈ s_gt := List.mem_filter.mpr ⟨k_up3 (List.mem_of_getElem? (i := 172) rfl), rfl⟩
theorem k_c96 : Jvm.Cond.code yX8_breaks cX8_breaks 3 ((some .int)) ∈ s_gt := List.mem_filter.mpr ⟨k_up3 (List.mem_of_getElem? (i := 177) rfl), rfl⟩
theorem k_c97 : Jvm.Cond.code yX8_more cX8_more 6 ((some .int)) ∈ s_gt := List.mem_filter.mpr ⟨k_up3 (List.mem_of_getElem? (i := 195) rfl), rfl⟩
theorem k_c98 : Jvm.Cond.code yX8_rule cX8_rule 2 ((some .int)) ∈ s_gt := List.mem_filter.mpr ⟨k_up3 (List.mem_of_getElem? (i := 204) rfl), rfl⟩
theorem k_c99 : Jvm.Cond.code yX8_crane cX8_crane 3 ((some .int)) ∈ s_gt := List.mem_filter.mpr ⟨k_up5 (List.mem_of_getElem? (i := 70) rfl), rfl⟩
theorem k_c100 : Jvm.Cond.code yX8_task cX8_task 3 ((some .int)) ∈ s_gt := List.mem_filter.mpr ⟨k_up3 (List.mem_of_getElem? (i := 209) rfl), rfl⟩
theorem k_c101 : Jvm.Cond.code yX8_last cX8_last 1 ((some .int)) ∈ s_gt := List.mem_filter.mpr ⟨k_up3 (List.mem_of_getElem? (i := 215) rfl), rfl⟩
theorem k_c102 : Jvm.Cond.code yX8_where cX8_where 3 ((some .int)) ∈ s_gt := List.mem_filter.mpr ⟨k_up3 (List.mem_of_getElem? (i := 219) rfl), rfl⟩
theorem k_c103 : Jvm.Cond.code yX8_deed cX8_deed 3 ((some .int)) ∈ s_gt := List.mem_filter.mpr ⟨k_up3 (List.mem_of_getElem? (i := 231) rfl), rfl⟩
theorem k_c104 : Jvm.Cond.code yX8_deeds cX8_deeds 4 ((some .int)) ∈ s_gt := List.mem_filter.mpr ⟨k_up3 (List.mem_of_getElem? (i := 239) rfl), rfl⟩
theorem k_c105 : Jvm.Cond.code yX8_doneBy cX8_doneBy 2 ((some .int)) ∈ s_gt := List.mem_filter.mpr ⟨k_up4 (List.mem_of_getElem? (i := 8) rfl), rfl⟩
theorem k_c106 : Jvm.Cond.code yX8_tried cX8_tried 1 ((some .int)) ∈ s_gt := List.mem_filter.mpr ⟨k_up4 (List.mem_of_getElem? (i := 12) rfl), rfl⟩
theorem k_c107 : Jvm.Cond.code yX8_moves cX8_moves 2 ((some .int)) ∈ s_gt := List.mem_filter.mpr ⟨k_up4 (List.mem_of_getElem? (i := 22) rfl), rfl⟩
theorem k_c108 : Jvm.Cond.code yX8_best cX8_best 2 ((some .int)) ∈ s_gt := List.mem_filter.mpr ⟨k_up4 (List.mem_of_getElem? (i := 37) rfl), rfl⟩
theorem k_c109 : Jvm.Cond.code yX8_easy cX8_easy 2 ((some .int)) ∈ s_gt := List.mem_filter.mpr ⟨k_up4 (List.mem_of_getElem? (i := 140) rfl), rfl⟩
theorem k_c110 : Jvm.Cond.code yX8_zones cX8_zones 2 ((some .int)) ∈ s_gt := List.mem_filter.mpr ⟨k_up4 (List.mem_of_getElem? (i := 155) rfl), rfl⟩
theorem k_c111 : Jvm.Cond.code yX8_better cX8_better 2 ((some .int)) ∈ s_gt := List.mem_filter.mpr ⟨k_up4 (List.mem_of_getElem? (i := 163) rfl), rfl⟩
theorem k_c112 : Jvm.Cond.code yX8_follow cX8_follow 3 ((some .int)) ∈ s_gt := List.mem_filter.mpr ⟨k_up4 (List.mem_of_getElem? (i := 183) rfl), rfl⟩
theorem k_c113 : Jvm.Cond.code yX8_written cX8_written 5 ((some .int)) ∈ s_gt := List.mem_filter.mpr ⟨k_up4 (List.mem_of_getElem? (i := 187) rfl), rfl⟩
theorem k_c114 : Jvm.Cond.code yX8_nearest cX8_nearest 6 ((some .int)) ∈ s_gt := List.mem_filter.mpr ⟨k_up4 (List.mem_of_getElem? (i := 199) rfl), rfl⟩
theorem k_c115 : Jvm.Cond.code yX8_swings cX8_swings 7 ((some .int)) ∈ s_gt := List.mem_filter.mpr ⟨k_up4 (List.mem_of_getElem? (i := 204) rfl), rfl⟩
theorem k_c116 : Jvm.Cond.code yX8_idle cX8_idle 2 ((some .int)) ∈ s_gt := List.mem_filter.mpr ⟨k_up4 (List.mem_of_getElem? (i := 217) rfl), rfl⟩
theorem k_c117 : Jvm.Cond.code yX8_dearest cX8_dearest 6 ((some .int)) ∈ s_gt := List.mem_filter.mpr ⟨k_up4 (List.mem_of_getElem? (i := 225) rfl), rfl⟩
theorem k_c118 : Jvm.Cond.code yX8_bound cX8_bound 2 ((some .int)) ∈ s_gt := List.mem_filter.mpr ⟨k_up4 (List.mem_of_getElem? (i := 229) rfl), rfl⟩
theorem k_c119 : Jvm.Cond.code yX8_without cX8_without 2 ((some .int)) ∈ s_gt := List.mem_filter.mpr ⟨k_up4 (List.mem_of_getElem? (i := 234) rfl), rfl⟩
theorem k_c120 : Jvm.Cond.code yX8_slack cX8_slack 4 ((some .int)) ∈ s_gt := List.mem_filter.mpr ⟨k_up4 (List.mem_of_getElem? (i := 238) rfl), rfl⟩
theorem k_c121 : Jvm.Cond.code yX8_mean cX8_mean 4 ((some .long)) ∈ s_gt := List.mem_filter.mpr ⟨k_up5 (List.mem_of_getElem? (i := 2) rfl), rfl⟩
theorem k_c122 : Jvm.Cond.code yX8_undo cX8_undo 1 ((some .int)) ∈ s_gt := List.mem_filter.mpr ⟨k_up5 (List.mem_of_getElem? (i := 13) rfl), rfl⟩
theorem k_c123 : Jvm.Cond.code yX8_image cX8_image 1 ((some .int)) ∈ s_gt := List.mem_filter.mpr ⟨k_up5 (List.mem_of_getElem? (i := 25) rfl), rfl⟩
theorem k_c124 : Jvm.Cond.code yX8_back cX8_back 1 ((some .int)) ∈ s_gt := List.mem_filter.mpr ⟨k_up5 (List.mem_of_getElem? (i := 29) rfl), rfl⟩
theorem k_c125 : Jvm.Cond.code yX8_status cX8_status 2 ((some .int)) ∈ s_gt := List.mem_filter.mpr ⟨k_up5 (List.mem_of_getElem? (i := 33) rfl), rfl⟩
theorem k_c126 : Jvm.Cond.code yX8_most cX8_most 2 ((some .int)) ∈ s_gt := List.mem_filter.mpr ⟨k_up5 (List.mem_of_getElem? (i := 37) rfl), rfl⟩
theorem k_c127 : Jvm.Cond.code yX8_count cX8_count 2 ((some .int)) ∈ s_gt := List.mem_filter.mpr ⟨k_up5 (List.mem_of_getElem? (i := 62) rfl), rfl⟩
theorem k_c128 : Jvm.Cond.code yX8_hasQuay cX8_hasQuay 1 ((some .boolean)) ∈ s_gt := List.mem_filter.mpr ⟨k_up3 (List.mem_of_getElem? (i := 51) rfl), rfl⟩
theorem k_c129 : Jvm.Cond.code yX8_isCrane cX8_isCrane 2 ((some .boolean)) ∈ s_gt := List.mem_filter.mpr ⟨k_up3 (List.mem_of_getElem? (i := 181) rfl), rfl⟩
theorem k_c130 : Jvm.Cond.code yX8_isTask cX8_isTask 2 ((some .boolean)) ∈ s_gt := List.mem_filter.mpr ⟨k_up3 (List.mem_of_getElem? (i := 199) rfl), rfl⟩
theorem k_c131 : Jvm.Cond.code yX8_isSpan cX8_isSpan 2 ((some .boolean)) ∈ s_gt := List.mem_filter.mpr ⟨k_up3 (List.mem_of_getElem? (i := 223) rfl), rfl⟩
theorem k_c132 : Jvm.Cond.code yX8_canTell cX8_canTell 2 ((some .boolean)) ∈ s_gt := List.mem_filter.mpr ⟨k_up4 (List.mem_of_getElem? (i := 41) rfl), rfl⟩
theorem k_c133 : Jvm.Cond.code yX8_tooManyLeft cX8_tooManyLeft 1 ((some .boolean)) ∈ s_gt := List.mem_filter.mpr ⟨k_up4 (List.mem_of_getElem? (i := 45) rfl), rfl⟩
theorem k_c134 : Jvm.Cond.code yX8_refuse cX8_refuse 2 ((some .int)) ∈ s_gt := List.mem_filter.mpr ⟨k_up3 (List.mem_of_getElem? (i := 117) rfl), rfl⟩
theorem k_c135 : Jvm.Cond.code yX8_changed cX8_changed 2 none ∈ s_gt := List.mem_filter.mpr ⟨k_up3 (List.mem_of_getElem? (i := 109) rfl), rfl⟩
theorem k_c136 : Jvm.Cond.code yX8_ahead cX8_ahead 1 ((some (.object "QuayCranes$Course"))) ∈ s_gt := List.mem_filter.mpr ⟨k_up3 (List.mem_of_getElem? (i := 128) rfl), rfl⟩
theorem k_c137 : Jvm.Cond.code yX8_writtenOf cX8_writtenOf 3 ((some .int)) ∈ s_gt := List.mem_filter.mpr ⟨k_up4 (List.mem_of_getElem? (i := 191) rfl), rfl⟩
theorem k_c138 : Jvm.Cond.code yX8_isTrue cX8_isTrue 5 ((some .boolean)) ∈ s_gt := List.mem_filter.mpr ⟨k_up4 (List.mem_of_getElem? (i := 26) rfl), rfl⟩
theorem k_c139 : Jvm.Cond.code yX8_bytesIn cX8_bytesIn 3 ((some .int)) ∈ s_gt := List.mem_filter.mpr ⟨k_up2 (List.mem_of_getElem? (i := 147) rfl), rfl⟩
theorem k_c140 : Jvm.Cond.code yX8_bitsOfFloat cX8_bitsOfFloat 4 ((some .int)) ∈ s_gt := List.mem_filter.mpr ⟨k_up4 (List.mem_of_getElem? (i := 211) rfl), rfl⟩
theorem k_c141 : Jvm.Cond.code yX8_bitsOfDouble cX8_bitsOfDouble 6 ((some .long)) ∈ s_gt := List.mem_filter.mpr ⟨k_up5 (List.mem_of_getElem? (i := 6) rfl), rfl⟩
theorem k_c142 : Jvm.Cond.code yX9_in cX9_in 6 ((some .boolean)) ∈ s_gt := List.mem_filter.mpr ⟨k_up6 (List.mem_of_getElem? (i := 45) rfl), rfl⟩
theorem k_c143 : Jvm.Cond.code yX9_init cX9_init 1 none ∈ s_gt := List.mem_filter.mpr ⟨k_up5 (List.mem_of_getElem? (i := 138) rfl), rfl⟩
theorem k_c144 : Jvm.Cond.code yX9_thrown cX9_thrown 1 ((some .int)) ∈ s_gt := List.mem_filter.mpr ⟨k_up6 (List.mem_of_getElem? (i := 31) rfl), rfl⟩
theorem k_c145 : Jvm.Cond.code yX9_byteOf cX9_byteOf 7 ((some .int)) ∈ s_gt := List.mem_filter.mpr ⟨k_up6 (List.mem_of_getElem? (i := 38) rfl), rfl⟩
theorem k_c146 : Jvm.Cond.code yX9_feed cX9_feed 9 ((some .int)) ∈ s_gt := List.mem_filter.mpr ⟨k_up6 (List.mem_of_getElem? (i := 35) rfl), rfl⟩
theorem k_c147 : Jvm.Cond.code yX9_end cX9_end 2 ((some .boolean)) ∈ s_gt := List.mem_filter.mpr ⟨k_up6 (List.mem_of_getElem? (i := 42) rfl), rfl⟩
theorem k_c148 : Jvm.Cond.code yX9_see cX9_see 2 ((some .int)) ∈ s_gt := List.mem_filter.mpr ⟨k_up6 (List.mem_of_getElem? (i := 66) rfl), rfl⟩
theorem k_c149 : Jvm.Cond.code yX9_isSmall cX9_isSmall 1 ((some .boolean)) ∈ s_gt := List.mem_filter.mpr ⟨k_up6 (List.mem_of_getElem? (i := 69) rfl), rfl⟩
theorem k_c150 : Jvm.Cond.code yX9_isDigit cX9_isDigit 1 ((some .boolean)) ∈ s_gt := List.mem_filter.mpr ⟨k_up6 (List.mem_of_getElem? (i := 72) rfl), rfl⟩
theorem k_c151 : Jvm.Cond.code yX9_next cX9_next 2 none ∈ s_gt := List.mem_filter.mpr ⟨k_up6 (List.mem_of_getElem? (i := 62) rfl), rfl⟩
theorem k_c152 : Jvm.Cond.code yX9_begins cX9_begins 1 none ∈ s_gt := List.mem_filter.mpr ⟨k_up6 (List.mem_of_getElem? (i := 58) rfl), rfl⟩
theorem k_c153 : Jvm.Cond.code yX9_bad cX9_bad 1 none ∈ s_gt := List.mem_filter.mpr ⟨k_up6 (List.mem_of_getElem? (i := 93) rfl), rfl⟩
theorem k_c154 : Jvm.Cond.code yX9_isWord cX9_isWord 4 ((some .boolean)) ∈ s_gt := List.mem_filter.mpr ⟨k_up6 (List.mem_of_getElem? (i := 87) rfl), rfl⟩
theorem k_c155 : Jvm.Cond.code yX9_takesWord cX9_takesWord 3 ((some .boolean)) ∈ s_gt := List.mem_filter.mpr ⟨k_up6 (List.mem_of_getElem? (i := 83) rfl), rfl⟩
theorem k_c156 : Jvm.Cond.code yX9_mustWord cX9_mustWord 2 none ∈ s_gt := List.mem_filter.mpr ⟨k_up6 (List.mem_of_getElem? (i := 79) rfl), rfl⟩
theorem k_c157 : Jvm.Cond.code yX9_takesSemicolon cX9_takesSemicolon 2 ((some .boolean)) ∈ s_gt := List.mem_filter.mpr ⟨k_up6 (List.mem_of_getElem? (i := 105) rfl), rfl⟩
theorem k_c158 : Jvm.Cond.code yX9_isNumber cX9_isNumber 3 ((some .boolean)) ∈ s_gt := List.mem_filter.mpr ⟨k_up6 (List.mem_of_getElem? (i := 101) rfl), rfl⟩
theorem k_c159 : Jvm.Cond.code yX9_takesNumber cX9_takesNumber 4 ((some .int)) ∈ s_gt := List.mem_filter.mpr ⟨k_up6 (List.mem_of_getElem? (i := 97) rfl), rfl⟩
theorem k_c160 : Jvm.Cond.code yX9_mustEnd cX9_mustEnd 1 none ∈ s_gt := List.mem_filter.mpr ⟨k_up6 (List.mem_of_getElem? (i := 131) rfl), rfl⟩
theorem k_c161 : Jvm.Cond.code yX9_craneAt cX9_craneAt 2 ((some .int)) ∈ s_gt := List.mem_filter.mpr ⟨k_up6 (List.mem_of_getElem? (i := 114) rfl), rfl⟩
theorem k_c162 : Jvm.Cond.code yX9_taskAt cX9_taskAt 2 ((some .int)) ∈ s_gt := List.mem_filter.mpr ⟨k_up6 (List.mem_of_getElem? (i := 124) rfl), rfl⟩
theorem k_c163 : Jvm.Cond.code yX9_readsCrane cX9_readsCrane 4 none ∈ s_gt := List.mem_filter.mpr ⟨k_up6 (List.mem_of_getElem? (i := 111) rfl), rfl⟩
theorem k_c164 : Jvm.Cond.code yX9_readsTask cX9_readsTask 2 none ∈ s_gt := List.mem_filter.mpr ⟨k_up6 (List.mem_of_getElem? (i := 120) rfl), rfl⟩
theorem k_c165 : Jvm.Cond.code yX9_readsQuay cX9_readsQuay 3 ((some .int)) ∈ s_gt := List.mem_filter.mpr ⟨k_up6 (List.mem_of_getElem? (i := 54) rfl), rfl⟩
theorem k_c166 : Jvm.Cond.code yX9_listAt cX9_listAt 1 ((some .int)) ∈ s_gt := List.mem_filter.mpr ⟨k_up6 (List.mem_of_getElem? (i := 150) rfl), rfl⟩
theorem k_c167 : Jvm.Cond.code yX9_clears cX9_clears 3 none ∈ s_gt := List.mem_filter.mpr ⟨k_up6 (List.mem_of_getElem? (i := 139) rfl), rfl⟩
theorem k_c168 : Jvm.Cond.code yX9_isLeft cX9_isLeft 3 ((some .boolean)) ∈ s_gt := List.mem_filter.mpr ⟨k_up6 (List.mem_of_getElem? (i := 143) rfl), rfl⟩
theorem k_c169 : Jvm.Cond.code yX9_canLift cX9_canLift 3 ((some .boolean)) ∈ s_gt := List.mem_filter.mpr ⟨k_up6 (List.mem_of_getElem? (i := 147) rfl), rfl⟩
theorem k_c170 : Jvm.Cond.code yX9_readsPlan cX9_readsPlan 5 ((some .int)) ∈ s_gt := List.mem_filter.mpr ⟨k_up6 (List.mem_of_getElem? (i := 135) rfl), rfl⟩
theorem k_c171 : Jvm.Cond.code yX9_readsMoves cX9_readsMoves 3 ((some .int)) ∈ s_gt := List.mem_filter.mpr ⟨k_up6 (List.mem_of_getElem? (i := 154) rfl), rfl⟩
theorem k_c172 : Jvm.Cond.code yX9_fault cX9_fault 2 ((some .int)) ∈ s_gt := List.mem_filter.mpr ⟨k_up6 (List.mem_of_getElem? (i := 49) rfl), rfl⟩
theorem k_c173 : Jvm.Cond.code yX9_quay cX9_quay 2 ((some .int)) ∈ s_gt := List.mem_filter.mpr ⟨k_up6 (List.mem_of_getElem? (i := 158) rfl), rfl⟩
theorem k_c174 : Jvm.Cond.code yX9_copies cX9_copies 3 none ∈ s_gt := List.mem_filter.mpr ⟨k_up6 (List.mem_of_getElem? (i := 161) rfl), rfl⟩
theorem k_c175 : Jvm.Cond.code yX9_keeps cX9_keeps 2 none ∈ s_gt := List.mem_filter.mpr ⟨k_up6 (List.mem_of_getElem? (i := 183) rfl), rfl⟩
theorem k_c176 : Jvm.Cond.code yX9_undo cX9_undo 2 ((some .int)) ∈ s_gt := List.mem_filter.mpr ⟨k_up6 (List.mem_of_getElem? (i := 165) rfl), rfl⟩
theorem k_c177 : Jvm.Cond.code yX9_refuses cX9_refuses 2 ((some .int)) ∈ s_gt := List.mem_filter.mpr ⟨k_up6 (List.mem_of_getElem? (i := 178) rfl), rfl⟩
theorem k_c178 : Jvm.Cond.code yX9_status cX9_status 2 ((some .int)) ∈ s_gt := List.mem_filter.mpr ⟨k_up6 (List.mem_of_getElem? (i := 169) rfl), rfl⟩
theorem k_c179 : Jvm.Cond.code yX9_sway cX9_sway 2 ((some .float)) ∈ s_gt := List.mem_filter.mpr ⟨k_up6 (List.mem_of_getElem? (i := 218) rfl), rfl⟩
theorem k_c180 : Jvm.Cond.code yX9_isDone cX9_isDone 2 ((some .boolean)) ∈ s_gt := List.mem_filter.mpr ⟨k_up6 (List.mem_of_getElem? (i := 205) rfl), rfl⟩
theorem k_c181 : Jvm.Cond.code yX9_nextOf cX9_nextOf 4 ((some .int)) ∈ s_gt := List.mem_filter.mpr ⟨k_up6 (List.mem_of_getElem? (i := 202) rfl), rfl⟩
theorem k_c182 : Jvm.Cond.code yX9_isFree cX9_isFree 4 ((some .boolean)) ∈ s_gt := List.mem_filter.mpr ⟨k_up6 (List.mem_of_getElem? (i := 215) rfl), rfl⟩
theorem k_c183 : Jvm.Cond.code yX9_worksNow cX9_worksNow 3 ((some .boolean)) ∈ s_gt := List.mem_filter.mpr ⟨k_up6 (List.mem_of_getElem? (i := 212) rfl), rfl⟩
theorem k_c184 : Jvm.Cond.code yX9_canGo cX9_canGo 6 ((some .boolean)) ∈ s_gt := List.mem_filter.mpr ⟨k_up6 (List.mem_of_getElem? (i := 229) rfl), rfl⟩
theorem k_c185 : Jvm.Cond.code yX9_goes cX9_goes 6 none ∈ s_gt := List.mem_filter.mpr ⟨k_up6 (List.mem_of_getElem? (i := 234) rfl), rfl⟩
theorem k_c186 : Jvm.Cond.code yX9_steps cX9_steps 6 none ∈ s_gt := List.mem_filter.mpr ⟨k_up6 (List.mem_of_getElem? (i := 225) rfl), rfl⟩
theorem k_c187 : Jvm.Cond.code yX9_swings cX9_swings 4 none ∈ s_gt := List.mem_filter.mpr ⟨k_up6 (List.mem_of_getElem? (i := 238) rfl), rfl⟩
theorem k_c188 : Jvm.Cond.code yX9_works cX9_works 4 none ∈ s_gt := List.mem_filter.mpr ⟨k_up7 (List.mem_of_getElem? (i := 15) rfl), rfl⟩
theorem k_c189 : Jvm.Cond.code yX9_goesMinute cX9_goesMinute 3 none ∈ s_gt := List.mem_filter.mpr ⟨k_up6 (List.mem_of_getElem? (i := 209) rfl), rfl⟩
theorem k_c190 : Jvm.Cond.code yX9_isOver cX9_isOver 4 ((some .boolean)) ∈ s_gt := List.mem_filter.mpr ⟨k_up6 (List.mem_of_getElem? (i := 199) rfl), rfl⟩
theorem k_c191 : Jvm.Cond.code yX9_lastOf cX9_lastOf 4 ((some .int)) ∈ s_gt := List.mem_filter.mpr ⟨k_up6 (List.mem_of_getElem? (i := 195) rfl), rfl⟩
theorem k_c192 : Jvm.Cond.code yX9_lastOf_ cX9_lastOf_ 2 ((some .int)) ∈ s_gt := List.mem_filter.mpr ⟨k_up6 (List.mem_of_getElem? (i := 191) rfl), rfl⟩
theorem k_c193 : Jvm.Cond.code yX9_told cX9_told 1 ((some .int)) ∈ s_gt := List.mem_filter.mpr ⟨k_up7 (List.mem_of_getElem? (i := 18) rfl), rfl⟩
theorem k_c194 : Jvm.Cond.code yX9_takes cX9_takes 5 none ∈ s_gt := List.mem_filter.mpr ⟨k_up6 (List.mem_of_getElem? (i := 187) rfl), rfl⟩
theorem k_c195 : Jvm.Cond.code yX9_plan cX9_plan 1 ((some .int)) ∈ s_gt := List.mem_filter.mpr ⟨k_up6 (List.mem_of_getElem? (i := 174) rfl), rfl⟩
theorem k_c196 : Jvm.Cond.code yX9_go cX9_go 3 ((some .int)) ∈ s_gt := List.mem_filter.mpr ⟨k_up7 (List.mem_of_getElem? (i := 22) rfl), rfl⟩
theorem k_c197 : Jvm.Cond.code yX9_isCrane cX9_isCrane 2 ((some .boolean)) ∈ s_gt := List.mem_filter.mpr ⟨k_up7 (List.mem_of_getElem? (i := 31) rfl), rfl⟩
theorem k_c198 : Jvm.Cond.code yX9_isTask cX9_isTask 2 ((some .boolean)) ∈ s_gt := List.mem_filter.mpr ⟨k_up7 (List.mem_of_getElem? (i := 44) rfl), rfl⟩
theorem k_c199 : Jvm.Cond.code yX9_brokenSet cX9_brokenSet 3 ((some .int)) ∈ s_gt := List.mem_filter.mpr ⟨k_up7 (List.mem_of_getElem? (i := 35) rfl), rfl⟩
theorem k_c200 : Jvm.Cond.code yX9_breaks cX9_breaks 3 ((some .int)) ∈ s_gt := List.mem_filter.mpr ⟨k_up7 (List.mem_of_getElem? (i := 27) rfl), rfl⟩
theorem k_c201 : Jvm.Cond.code yX9_more cX9_more 6 ((some .int)) ∈ s_gt := List.mem_filter.mpr ⟨k_up7 (List.mem_of_getElem? (i := 40) rfl), rfl⟩
theorem k_c202 : Jvm.Cond.code yX9_rule cX9_rule 2 ((some .int)) ∈ s_gt := List.mem_filter.mpr ⟨k_up7 (List.mem_of_getElem? (i := 50) rfl), rfl⟩
theorem k_c203 : Jvm.Cond.code yX9_allTasks cX9_allTasks 1 ((some .int)) ∈ s_gt := List.mem_filter.mpr ⟨k_up7 (List.mem_of_getElem? (i := 54) rfl), rfl⟩
theorem k_c204 : Jvm.Cond.code yX9_leftSet cX9_leftSet 3 ((some .int)) ∈ s_gt := List.mem_filter.mpr ⟨k_up7 (List.mem_of_getElem? (i := 58) rfl), rfl⟩
theorem k_c205 : Jvm.Cond.code yX9_toldSet cX9_toldSet 4 ((some .int)) ∈ s_gt := List.mem_filter.mpr ⟨k_up7 (List.mem_of_getElem? (i := 62) rfl), rfl⟩
theorem k_c206 : Jvm.Cond.code yX9_crane cX9_crane 3 ((some .int)) ∈ s_gt := List.mem_filter.mpr ⟨k_up7 (List.mem_of_getElem? (i := 66) rfl), rfl⟩
theorem k_c207 : Jvm.Cond.code yX9_toldBy cX9_toldBy 4 ((some .int)) ∈ s_gt := List.mem_filter.mpr ⟨k_up7 (List.mem_of_getElem? (i := 76) rfl), rfl⟩
theorem k_c208 : Jvm.Cond.code yX9_task cX9_task 3 ((some .int)) ∈ s_gt := List.mem_filter.mpr ⟨k_up7 (List.mem_of_getElem? (i := 72) rfl), rfl⟩
theorem k_c209 : Jvm.Cond.code yX9_last cX9_last 1 ((some .int)) ∈ s_gt := List.mem_filter.mpr ⟨k_up7 (List.mem_of_getElem? (i := 80) rfl), rfl⟩
theorem k_c210 : Jvm.Cond.code yX9_foretells cX9_foretells 3 none ∈ s_gt := List.mem_filter.mpr ⟨k_up7 (List.mem_of_getElem? (i := 89) rfl), rfl⟩
theorem k_c211 : Jvm.Cond.code yX9_where cX9_where 3 ((some .int)) ∈ s_gt := List.mem_filter.mpr ⟨k_up7 (List.mem_of_getElem? (i := 84) rfl), rfl⟩
theorem k_c212 : Jvm.Cond.code yX9_deed cX9_deed 3 ((some .int)) ∈ s_gt := List.mem_filter.mpr ⟨k_up7 (List.mem_of_getElem? (i := 93) rfl), rfl⟩
theorem k_c213 : Jvm.Cond.code yX9_deeds cX9_deeds 6 ((some .int)) ∈ s_gt := List.mem_filter.mpr ⟨k_up7 (List.mem_of_getElem? (i := 98) rfl), rfl⟩
theorem k_c214 : Jvm.Cond.code yX9_doneBy cX9_doneBy 3 ((some .int)) ∈ s_gt := List.mem_filter.mpr ⟨k_up7 (List.mem_of_getElem? (i := 103) rfl), rfl⟩
theorem k_c215 : Jvm.Cond.code yX9_tried cX9_tried 1 ((some .int)) ∈ s_gt := List.mem_filter.mpr ⟨k_up7 (List.mem_of_getElem? (i := 107) rfl), rfl⟩
theorem k_c216 : Jvm.Cond.code yX9_isTrue cX9_isTrue 7 ((some .boolean)) ∈ s_gt := List.mem_filter.mpr ⟨k_up7 (List.mem_of_getElem? (i := 115) rfl), rfl⟩
theorem k_c217 : Jvm.Cond.code yX9_moves cX9_moves 2 ((some .int)) ∈ s_gt := List.mem_filter.mpr ⟨k_up7 (List.mem_of_getElem? (i := 111) rfl), rfl⟩
theorem k_c218 : Jvm.Cond.code yX9_clearsTrial cX9_clearsTrial 2 none ∈ s_gt := List.mem_filter.mpr ⟨k_up7 (List.mem_of_getElem? (i := 136) rfl), rfl⟩
theorem k_c219 : Jvm.Cond.code yX9_finds cX9_finds 5 none ∈ s_gt := List.mem_filter.mpr ⟨k_up7 (List.mem_of_getElem? (i := 148) rfl), rfl⟩
theorem k_c220 : Jvm.Cond.code yX9_judges cX9_judges 2 none ∈ s_gt := List.mem_filter.mpr ⟨k_up7 (List.mem_of_getElem? (i := 144) rfl), rfl⟩
theorem k_c221 : Jvm.Cond.code yX9_seeks cX9_seeks 4 none ∈ s_gt := List.mem_filter.mpr ⟨k_up7 (List.mem_of_getElem? (i := 140) rfl), rfl⟩
theorem k_c222 : Jvm.Cond.code yX9_isFew cX9_isFew 1 ((some .boolean)) ∈ s_gt := List.mem_filter.mpr ⟨k_up7 (List.mem_of_getElem? (i := 128) rfl), rfl⟩
theorem k_c223 : Jvm.Cond.code yX9_seeksBest cX9_seeksBest 2 none ∈ s_gt := List.mem_filter.mpr ⟨k_up7 (List.mem_of_getElem? (i := 132) rfl), rfl⟩
theorem k_c224 : Jvm.Cond.code yX9_isSuch cX9_isSuch 2 ((some .boolean)) ∈ s_gt := List.mem_filter.mpr ⟨k_up7 (List.mem_of_getElem? (i := 123) rfl), rfl⟩
theorem k_c225 : Jvm.Cond.code yX9_tells cX9_tells 4 ((some .int)) ∈ s_gt := List.mem_filter.mpr ⟨k_up7 (List.mem_of_getElem? (i := 152) rfl), rfl⟩
theorem k_c226 : Jvm.Cond.code yX9_best cX9_best 2 ((some .int)) ∈ s_gt := List.mem_filter.mpr ⟨k_up7 (List.mem_of_getElem? (i := 119) rfl), rfl⟩
theorem k_c227 : Jvm.Cond.code yX9_nearestFor cX9_nearestFor 7 ((some .int)) ∈ s_gt := List.mem_filter.mpr ⟨k_up7 (List.mem_of_getElem? (i := 172) rfl), rfl⟩
theorem k_c228 : Jvm.Cond.code yX9_gives cX9_gives 3 none ∈ s_gt := List.mem_filter.mpr ⟨k_up7 (List.mem_of_getElem? (i := 168) rfl), rfl⟩
theorem k_c229 : Jvm.Cond.code yX9_isAllDone cX9_isAllDone 4 ((some .boolean)) ∈ s_gt := List.mem_filter.mpr ⟨k_up7 (List.mem_of_getElem? (i := 164) rfl), rfl⟩
theorem k_c230 : Jvm.Cond.code yX9_seeksEasy cX9_seeksEasy 3 none ∈ s_gt := List.mem_filter.mpr ⟨k_up7 (List.mem_of_getElem? (i := 160) rfl), rfl⟩
theorem k_c231 : Jvm.Cond.code yX9_easy cX9_easy 2 ((some .int)) ∈ s_gt := List.mem_filter.mpr ⟨k_up7 (List.mem_of_getElem? (i := 156) rfl), rfl⟩
theorem k_c232 : Jvm.Cond.code yX9_sorts cX9_sorts 3 none ∈ s_gt := List.mem_filter.mpr ⟨k_up7 (List.mem_of_getElem? (i := 184) rfl), rfl⟩
theorem k_c233 : Jvm.Cond.code yX9_cuts cX9_cuts 4 none ∈ s_gt := List.mem_filter.mpr ⟨k_up7 (List.mem_of_getElem? (i := 188) rfl), rfl⟩
theorem k_c234 : Jvm.Cond.code yX9_seeksZones cX9_seeksZones 1 none ∈ s_gt := List.mem_filter.mpr ⟨k_up7 (List.mem_of_getElem? (i := 180) rfl), rfl⟩
theorem k_c235 : Jvm.Cond.code yX9_zones cX9_zones 2 ((some .int)) ∈ s_gt := List.mem_filter.mpr ⟨k_up7 (List.mem_of_getElem? (i := 176) rfl), rfl⟩
theorem k_c236 : Jvm.Cond.code yX9_takesOut cX9_takesOut 6 none ∈ s_gt := List.mem_filter.mpr ⟨k_up7 (List.mem_of_getElem? (i := 204) rfl), rfl⟩
theorem k_c237 : Jvm.Cond.code yX9_putsIn cX9_putsIn 5 none ∈ s_gt := List.mem_filter.mpr ⟨k_up7 (List.mem_of_getElem? (i := 208) rfl), rfl⟩
theorem k_c238 : Jvm.Cond.code yX9_triesPlaces cX9_triesPlaces 7 none ∈ s_gt := List.mem_filter.mpr ⟨k_up7 (List.mem_of_getElem? (i := 200) rfl), rfl⟩
theorem k_c239 : Jvm.Cond.code yX9_seeksBetter cX9_seeksBetter 4 ((some .boolean)) ∈ s_gt := List.mem_filter.mpr ⟨k_up7 (List.mem_of_getElem? (i := 196) rfl), rfl⟩
theorem k_c240 : Jvm.Cond.code yX9_better cX9_better 2 ((some .int)) ∈ s_gt := List.mem_filter.mpr ⟨k_up7 (List.mem_of_getElem? (i := 192) rfl), rfl⟩
theorem k_c241 : Jvm.Cond.code yX9_seeksWhich cX9_seeksWhich 2 ((some .boolean)) ∈ s_gt := List.mem_filter.mpr ⟨k_up7 (List.mem_of_getElem? (i := 216) rfl), rfl⟩
theorem k_c242 : Jvm.Cond.code yX9_follow cX9_follow 2 ((some .int)) ∈ s_gt := List.mem_filter.mpr ⟨k_up7 (List.mem_of_getElem? (i := 212) rfl), rfl⟩
theorem k_c243 : Jvm.Cond.code yX9_writes cX9_writes 2 none ∈ s_gt := List.mem_filter.mpr ⟨k_up7 (List.mem_of_getElem? (i := 224) rfl), rfl⟩
theorem k_c244 : Jvm.Cond.code yX9_written cX9_written 4 ((some .int)) ∈ s_gt := List.mem_filter.mpr ⟨k_up7 (List.mem_of_getElem? (i := 220) rfl), rfl⟩
theorem k_c245 : Jvm.Cond.code yX9_nearestNow cX9_nearestNow 4 ((some .int)) ∈ s_gt := List.mem_filter.mpr ⟨k_up7 (List.mem_of_getElem? (i := 232) rfl), rfl⟩
theorem k_c246 : Jvm.Cond.code yX9_nearest cX9_nearest 4 ((some .int)) ∈ s_gt := List.mem_filter.mpr ⟨k_up7 (List.mem_of_getElem? (i := 228) rfl), rfl⟩
theorem k_c247 : Jvm.Cond.code yX9_swings_ cX9_swings_ 5 ((some .int)) ∈ s_gt := List.mem_filter.mpr ⟨k_up7 (List.mem_of_getElem? (i := 236) rfl), rfl⟩
theorem k_c248 : Jvm.Cond.code yX9_nobodyWorks cX9_nobodyWorks 3 ((some .boolean)) ∈ s_gt := List.mem_filter.mpr ⟨k_up8 (List.mem_of_getElem? (i := 10) rfl), rfl⟩
theorem k_c249 : Jvm.Cond.code yX9_idle cX9_idle 4 ((some .int)) ∈ s_gt := List.mem_filter.mpr ⟨k_up8 (List.mem_of_getElem? (i := 6) rfl), rfl⟩
theorem k_c250 : Jvm.Cond.code yX9_without cX9_without 2 ((some .int)) ∈ s_gt := List.mem_filter.mpr ⟨k_up8 (List.mem_of_getElem? (i := 14) rfl), rfl⟩
theorem k_c251 : Jvm.Cond.code yX9_dearest cX9_dearest 5 ((some .int)) ∈ s_gt := List.mem_filter.mpr ⟨k_up8 (List.mem_of_getElem? (i := 18) rfl), rfl⟩
theorem k_c252 : Jvm.Cond.code yX9_leftOf cX9_leftOf 2 ((some .int)) ∈ s_gt := List.mem_filter.mpr ⟨k_up8 (List.mem_of_getElem? (i := 34) rfl), rfl⟩
theorem k_c253 : Jvm.Cond.code yX9_rowOf cX9_rowOf 4 ((some .int)) ∈ s_gt := List.mem_filter.mpr ⟨k_up8 (List.mem_of_getElem? (i := 31) rfl), rfl⟩
theorem k_c254 : Jvm.Cond.code yX9_firstBound cX9_firstBound 3 ((some .int)) ∈ s_gt := List.mem_filter.mpr ⟨k_up8 (List.mem_of_getElem? (i := 27) rfl), rfl⟩
theorem k_c255 : Jvm.Cond.code yX9_secondBound cX9_secondBound 3 ((some .int)) ∈ s_gt := List.mem_filter.mpr ⟨k_up8 (List.mem_of_getElem? (i := 38) rfl), rfl⟩
theorem k_c256 : Jvm.Cond.code yX9_thirdBound cX9_thirdBound 5 ((some .int)) ∈ s_gt := List.mem_filter.mpr ⟨k_up8 (List.mem_of_getElem? (i := 42) rfl), rfl⟩
theorem k_c257 : Jvm.Cond.code yX9_bound cX9_bound 2 ((some .int)) ∈ s_gt := List.mem_filter.mpr ⟨k_up8 (List.mem_of_getElem? (i := 23) rfl), rfl⟩
theorem k_c258 : Jvm.Cond.code yX9_slack cX9_slack 4 ((some .int)) ∈ s_gt := List.mem_filter.mpr ⟨k_up8 (List.mem_of_getElem? (i := 46) rfl), rfl⟩
theorem k_c259 : Jvm.Cond.code yX9_mean cX9_mean 4 ((some .long)) ∈ s_gt := List.mem_filter.mpr ⟨k_up8 (List.mem_of_getElem? (i := 50) rfl), rfl⟩
theorem k_c260 : Jvm.Cond.code yX9_image cX9_image 1 ((some .int)) ∈ s_gt := List.mem_filter.mpr ⟨k_up8 (List.mem_of_getElem? (i := 65) rfl), rfl⟩
theorem k_c261 : Jvm.Cond.code yX9_back cX9_back 1 ((some .int)) ∈ s_gt := List.mem_filter.mpr ⟨k_up8 (List.mem_of_getElem? (i := 69) rfl), rfl⟩
theorem k_c262 : Jvm.Cond.code yX9_leftBy cX9_leftBy 4 ((some .int)) ∈ s_gt := List.mem_filter.mpr ⟨k_up8 (List.mem_of_getElem? (i := 81) rfl), rfl⟩
theorem k_c263 : Jvm.Cond.code yX9_busiest cX9_busiest 3 ((some .int)) ∈ s_gt := List.mem_filter.mpr ⟨k_up8 (List.mem_of_getElem? (i := 77) rfl), rfl⟩
theorem k_c264 : Jvm.Cond.code yX9_leftAt cX9_leftAt 4 ((some .int)) ∈ s_gt := List.mem_filter.mpr ⟨k_up8 (List.mem_of_getElem? (i := 89) rfl), rfl⟩
theorem k_c265 : Jvm.Cond.code yX9_fullest cX9_fullest 3 ((some .int)) ∈ s_gt := List.mem_filter.mpr ⟨k_up8 (List.mem_of_getElem? (i := 85) rfl), rfl⟩
theorem k_c266 : Jvm.Cond.code yX9_longest cX9_longest 3 ((some .int)) ∈ s_gt := List.mem_filter.mpr ⟨k_up8 (List.mem_of_getElem? (i := 93) rfl), rfl⟩
theorem k_c267 : Jvm.Cond.code yX9_wildest cX9_wildest 3 ((some .int)) ∈ s_gt := List.mem_filter.mpr ⟨k_up8 (List.mem_of_getElem? (i := 97) rfl), rfl⟩
theorem k_c268 : Jvm.Cond.code yX9_most cX9_most 2 ((some .int)) ∈ s_gt := List.mem_filter.mpr ⟨k_up8 (List.mem_of_getElem? (i := 73) rfl), rfl⟩
theorem k_c269 : Jvm.Cond.code yX9_count cX9_count 2 ((some .int)) ∈ s_gt := List.mem_filter.mpr ⟨k_up8 (List.mem_of_getElem? (i := 101) rfl), rfl⟩
theorem k_c270 : Jvm.Cond.code yJ6_bitCount_0f7a4 cJ6_bitCount_0f7a4 1 ((some .int)) ∈ s_gt := List.mem_filter.mpr ⟨k_up3 (List.mem_of_getElem? (i := 188) rfl), rfl⟩
theorem k_c271 : Jvm.Cond.code yJxf58ca_floatToIntBits_5c35a cJxf58ca_floatToIntBits_5c35a 1 ((some .int)) ∈ s_gt := List.mem_filter.mpr ⟨k_up7 (List.mem_of_getElem? (i := 4) rfl), rfl⟩
theorem k_c272 : Jvm.Cond.code yJxf58ca_isNaN_12338 cJxf58ca_isNaN_12338 1 ((some .boolean)) ∈ s_gt := List.mem_filter.mpr ⟨k_up7 (List.mem_of_getElem? (i := 7) rfl), rfl⟩
theorem k_c273 : Jvm.Cond.code yJxe99ae_doubleToLongBits_ccdee cJxe99ae_doubleToLongBits_ccdee 2 ((some .long)) ∈ s_gt := List.mem_filter.mpr ⟨k_up8 (List.mem_of_getElem? (i := 54) rfl), rfl⟩
theorem k_c274 : Jvm.Cond.code yJxe99ae_isNaN_b9ae7 cJxe99ae_isNaN_b9ae7 2 ((some .boolean)) ∈ s_gt := List.mem_filter.mpr ⟨k_up8 (List.mem_of_getElem? (i := 57) rfl), rfl⟩
theorem k_cg0 : ∀ m, m < 25 → 0 ≤ m → Jvm.Cond.code (mY m) (mB m) (mL m) (mR m) ∈ s_gt := by
  intro m h1 h2
  obtain ⟨j, rfl⟩ := Nat.exists_eq_add_of_le h2
  match j, h1 with
  | 0, _ => exact k_c0
  | 1, _ => exact k_c1
  | 2, _ => exact k_c2
  | 3, _ => exact k_c3
  | 4, _ => exact k_c4
  | 5, _ => exact k_c5
  | 6, _ => exact k_c6
  | 7, _ => exact k_c7
  | 8, _ => exact k_c8
  | 9, _ => exact k_c9
  | 10, _ => exact k_c10
  | 11, _ => exact k_c11
  | 12, _ => exact k_c12
  | 13, _ => exact k_c13
  | 14, _ => exact k_c14
  | 15, _ => exact k_c15
  | 16, _ => exact k_c16
  | 17, _ => exact k_c17
  | 18, _ => exact k_c18
  | 19, _ => exact k_c19
  | 20, _ => exact k_c20
  | 21, _ => exact k_c21
  | 22, _ => exact k_c22
  | 23, _ => exact k_c23
  | 24, _ => exact k_c24
  | j + 25, h => exact absurd h (by omega)
theorem k_cg1 : ∀ m, m < 50 → 25 ≤ m → Jvm.Cond.code (mY m) (mB m) (mL m) (mR m) ∈ s_gt := by
  intro m h1 h2
  obtain ⟨j, rfl⟩ := Nat.exists_eq_add_of_le h2
  match j, h1 with
  | 0, _ => exact k_c25
  | 1, _ => exact k_c26
  | 2, _ => exact k_c27
  | 3, _ => exact k_c28
  | 4, _ => exact k_c29
  | 5, _ => exact k_c30
  | 6, _ => exact k_c31
  | 7, _ => exact k_c32
  | 8, _ => exact k_c33
  | 9, _ => exact k_c34
  | 10, _ => exact k_c35
  | 11, _ => exact k_c36
  | 12, _ => exact k_c37
  | 13, _ => exact k_c38
  | 14, _ => exact k_c39
  | 15, _ => exact k_c40
  | 16, _ => exact k_c41
  | 17, _ => exact k_c42
  | 18, _ => exact k_c43
  | 19, _ => exact k_c44
  | 20, _ => exact k_c45
  | 21, _ => exact k_c46
  | 22, _ => exact k_c47
  | 23, _ => exact k_c48
  | 24, _ => exact k_c49
  | j + 25, h => exact absurd h (by omega)
theorem k_cg2 : ∀ m, m < 75 → 50 ≤ m → Jvm.Cond.code (mY m) (mB m) (mL m) (mR m) ∈ s_gt := by
  intro m h1 h2
  obtain ⟨j, rfl⟩ := Nat.exists_eq_add_of_le h2
  match j, h1 with
  | 0, _ => exact k_c50
  | 1, _ => exact k_c51
  | 2, _ => exact k_c52
  | 3, _ => exact k_c53
  | 4, _ => exact k_c54
  | 5, _ => exact k_c55
  | 6, _ => exact k_c56
  | 7, _ => exact k_c57
  | 8, _ => exact k_c58
  | 9, _ => exact k_c59
  | 10, _ => exact k_c60
  | 11, _ => exact k_c61
  | 12, _ => exact k_c62
  | 13, _ => exact k_c63
  | 14, _ => exact k_c64
  | 15, _ => exact k_c65
  | 16, _ => exact k_c66
  | 17, _ => exact k_c67
  | 18, _ => exact k_c68
  | 19, _ => exact k_c69
  | 20, _ => exact k_c70
  | 21, _ => exact k_c71
  | 22, _ => exact k_c72
  | 23, _ => exact k_c73
  | 24, _ => exact k_c74
  | j + 25, h => exact absurd h (by omega)
theorem k_cg3 : ∀ m, m < 100 → 75 ≤ m → Jvm.Cond.code (mY m) (mB m) (mL m) (mR m) ∈ s_gt := by
  intro m h1 h2
  obtain ⟨j, rfl⟩ := Nat.exists_eq_add_of_le h2
  match j, h1 with
  | 0, _ => exact k_c75
  | 1, _ => exact k_c76
  | 2, _ => exact k_c77
  | 3, _ => exact k_c78
  | 4, _ => exact k_c79
  | 5, _ => exact k_c80
  | 6, _ => exact k_c81
  | 7, _ => exact k_c82
  | 8, _ => exact k_c83
  | 9, _ => exact k_c84
  | 10, _ => exact k_c85
  | 11, _ => exact k_c86
  | 12, _ => exact k_c87
  | 13, _ => exact k_c88
  | 14, _ => exact k_c89
  | 15, _ => exact k_c90
  | 16, _ => exact k_c91
  | 17, _ => exact k_c92
  | 18, _ => exact k_c93
  | 19, _ => exact k_c94
  | 20, _ => exact k_c95
  | 21, _ => exact k_c96
  | 22, _ => exact k_c97
  | 23, _ => exact k_c98
  | 24, _ => exact k_c99
  | j + 25, h => exact absurd h (by omega)
theorem k_cg4 : ∀ m, m < 125 → 100 ≤ m → Jvm.Cond.code (mY m) (mB m) (mL m) (mR m) ∈ s_gt := by
  intro m h1 h2
  obtain ⟨j, rfl⟩ := Nat.exists_eq_add_of_le h2
  match j, h1 with
  | 0, _ => exact k_c100
  | 1, _ => exact k_c101
  | 2, _ => exact k_c102
  | 3, _ => exact k_c103
  | 4, _ => exact k_c104
  | 5, _ => exact k_c105
  | 6, _ => exact k_c106
  | 7, _ => exact k_c107
  | 8, _ => exact k_c108
  | 9, _ => exact k_c109
  | 10, _ => exact k_c110
  | 11, _ => exact k_c111
  | 12, _ => exact k_c112
  | 13, _ => exact k_c113
  | 14, _ => exact k_c114
  | 15, _ => exact k_c115
  | 16, _ => exact k_c116
  | 17, _ => exact k_c117
  | 18, _ => exact k_c118
  | 19, _ => exact k_c119
  | 20, _ => exact k_c120
  | 21, _ => exact k_c121
  | 22, _ => exact k_c122
  | 23, _ => exact k_c123
  | 24, _ => exact k_c124
  | j + 25, h => exact absurd h (by omega)
theorem k_cg5 : ∀ m, m < 150 → 125 ≤ m → Jvm.Cond.code (mY m) (mB m) (mL m) (mR m) ∈ s_gt := by
  intro m h1 h2
  obtain ⟨j, rfl⟩ := Nat.exists_eq_add_of_le h2
  match j, h1 with
  | 0, _ => exact k_c125
  | 1, _ => exact k_c126
  | 2, _ => exact k_c127
  | 3, _ => exact k_c128
  | 4, _ => exact k_c129
  | 5, _ => exact k_c130
  | 6, _ => exact k_c131
  | 7, _ => exact k_c132
  | 8, _ => exact k_c133
  | 9, _ => exact k_c134
  | 10, _ => exact k_c135
  | 11, _ => exact k_c136
  | 12, _ => exact k_c137
  | 13, _ => exact k_c138
  | 14, _ => exact k_c139
  | 15, _ => exact k_c140
  | 16, _ => exact k_c141
  | 17, _ => exact k_c142
  | 18, _ => exact k_c143
  | 19, _ => exact k_c144
  | 20, _ => exact k_c145
  | 21, _ => exact k_c146
  | 22, _ => exact k_c147
  | 23, _ => exact k_c148
  | 24, _ => exact k_c149
  | j + 25, h => exact absurd h (by omega)
theorem k_cg6 : ∀ m, m < 175 → 150 ≤ m → Jvm.Cond.code (mY m) (mB m) (mL m) (mR m) ∈ s_gt := by
  intro m h1 h2
  obtain ⟨j, rfl⟩ := Nat.exists_eq_add_of_le h2
  match j, h1 with
  | 0, _ => exact k_c150
  | 1, _ => exact k_c151
  | 2, _ => exact k_c152
  | 3, _ => exact k_c153
  | 4, _ => exact k_c154
  | 5, _ => exact k_c155
  | 6, _ => exact k_c156
  | 7, _ => exact k_c157
  | 8, _ => exact k_c158
  | 9, _ => exact k_c159
  | 10, _ => exact k_c160
  | 11, _ => exact k_c161
  | 12, _ => exact k_c162
  | 13, _ => exact k_c163
  | 14, _ => exact k_c164
  | 15, _ => exact k_c165
  | 16, _ => exact k_c166
  | 17, _ => exact k_c167
  | 18, _ => exact k_c168
  | 19, _ => exact k_c169
  | 20, _ => exact k_c170
  | 21, _ => exact k_c171
  | 22, _ => exact k_c172
  | 23, _ => exact k_c173
  | 24, _ => exact k_c174
  | j + 25, h => exact absurd h (by omega)
theorem k_cg7 : ∀ m, m < 200 → 175 ≤ m → Jvm.Cond.code (mY m) (mB m) (mL m) (mR m) ∈ s_gt := by
  intro m h1 h2
  obtain ⟨j, rfl⟩ := Nat.exists_eq_add_of_le h2
  match j, h1 with
  | 0, _ => exact k_c175
  | 1, _ => exact k_c176
  | 2, _ => exact k_c177
  | 3, _ => exact k_c178
  | 4, _ => exact k_c179
  | 5, _ => exact k_c180
  | 6, _ => exact k_c181
  | 7, _ => exact k_c182
  | 8, _ => exact k_c183
  | 9, _ => exact k_c184
  | 10, _ => exact k_c185
  | 11, _ => exact k_c186
  | 12, _ => exact k_c187
  | 13, _ => exact k_c188
  | 14, _ => exact k_c189
  | 15, _ => exact k_c190
  | 16, _ => exact k_c191
  | 17, _ => exact k_c192
  | 18, _ => exact k_c193
  | 19, _ => exact k_c194
  | 20, _ => exact k_c195
  | 21, _ => exact k_c196
  | 22, _ => exact k_c197
  | 23, _ => exact k_c198
  | 24, _ => exact k_c199
  | j + 25, h => exact absurd h (by omega)
theorem k_cg8 : ∀ m, m < 225 → 200 ≤ m → Jvm.Cond.code (mY m) (mB m) (mL m) (mR m) ∈ s_gt := by
  intro m h1 h2
  obtain ⟨j, rfl⟩ := Nat.exists_eq_add_of_le h2
  match j, h1 with
  | 0, _ => exact k_c200
  | 1, _ => exact k_c201
  | 2, _ => exact k_c202
  | 3, _ => exact k_c203
  | 4, _ => exact k_c204
  | 5, _ => exact k_c205
  | 6, _ => exact k_c206
  | 7, _ => exact k_c207
  | 8, _ => exact k_c208
  | 9, _ => exact k_c209
  | 10, _ => exact k_c210
  | 11, _ => exact k_c211
  | 12, _ => exact k_c212
  | 13, _ => exact k_c213
  | 14, _ => exact k_c214
  | 15, _ => exact k_c215
  | 16, _ => exact k_c216
  | 17, _ => exact k_c217
  | 18, _ => exact k_c218
  | 19, _ => exact k_c219
  | 20, _ => exact k_c220
  | 21, _ => exact k_c221
  | 22, _ => exact k_c222
  | 23, _ => exact k_c223
  | 24, _ => exact k_c224
  | j + 25, h => exact absurd h (by omega)
theorem k_cg9 : ∀ m, m < 250 → 225 ≤ m → Jvm.Cond.code (mY m) (mB m) (mL m) (mR m) ∈ s_gt := by
  intro m h1 h2
  obtain ⟨j, rfl⟩ := Nat.exists_eq_add_of_le h2
  match j, h1 with
  | 0, _ => exact k_c225
  | 1, _ => exact k_c226
  | 2, _ => exact k_c227
  | 3, _ => exact k_c228
  | 4, _ => exact k_c229
  | 5, _ => exact k_c230
  | 6, _ => exact k_c231
  | 7, _ => exact k_c232
  | 8, _ => exact k_c233
  | 9, _ => exact k_c234
  | 10, _ => exact k_c235
  | 11, _ => exact k_c236
  | 12, _ => exact k_c237
  | 13, _ => exact k_c238
  | 14, _ => exact k_c239
  | 15, _ => exact k_c240
  | 16, _ => exact k_c241
  | 17, _ => exact k_c242
  | 18, _ => exact k_c243
  | 19, _ => exact k_c244
  | 20, _ => exact k_c245
  | 21, _ => exact k_c246
  | 22, _ => exact k_c247
  | 23, _ => exact k_c248
  | 24, _ => exact k_c249
  | j + 25, h => exact absurd h (by omega)
theorem k_cg10 : ∀ m, m < 275 → 250 ≤ m → Jvm.Cond.code (mY m) (mB m) (mL m) (mR m) ∈ s_gt := by
  intro m h1 h2
  obtain ⟨j, rfl⟩ := Nat.exists_eq_add_of_le h2
  match j, h1 with
  | 0, _ => exact k_c250
  | 1, _ => exact k_c251
  | 2, _ => exact k_c252
  | 3, _ => exact k_c253
  | 4, _ => exact k_c254
  | 5, _ => exact k_c255
  | 6, _ => exact k_c256
  | 7, _ => exact k_c257
  | 8, _ => exact k_c258
  | 9, _ => exact k_c259
  | 10, _ => exact k_c260
  | 11, _ => exact k_c261
  | 12, _ => exact k_c262
  | 13, _ => exact k_c263
  | 14, _ => exact k_c264
  | 15, _ => exact k_c265
  | 16, _ => exact k_c266
  | 17, _ => exact k_c267
  | 18, _ => exact k_c268
  | 19, _ => exact k_c269
  | 20, _ => exact k_c270
  | 21, _ => exact k_c271
  | 22, _ => exact k_c272
  | 23, _ => exact k_c273
  | 24, _ => exact k_c274
  | j + 25, h => exact absurd h (by omega)
theorem k_code : ∀ m, m < 275 → Jvm.Cond.code (mY m) (mB m) (mL m) (mR m) ∈ s_gt := by
  intro m h
  by_cases h0 : m < 25
  · exact k_cg0 m h0 (by omega)
  by_cases h25 : m < 50
  · exact k_cg1 m h25 (by omega)
  by_cases h50 : m < 75
  · exact k_cg2 m h50 (by omega)
  by_cases h75 : m < 100
  · exact k_cg3 m h75 (by omega)
  by_cases h100 : m < 125
  · exact k_cg4 m h100 (by omega)
  by_cases h125 : m < 150
  · exact k_cg5 m h125 (by omega)
  by_cases h150 : m < 175
  · exact k_cg6 m h150 (by omega)
  by_cases h175 : m < 200
  · exact k_cg7 m h175 (by omega)
  by_cases h200 : m < 225
  · exact k_cg8 m h200 (by omega)
  by_cases h225 : m < 250
  · exact k_cg9 m h225 (by omega)
  by_cases h250 : m < 275
  · exact k_cg10 m h250 (by omega)
  exact absurd h h250
theorem n_st1 : Jvm.Cond.static (nY 1) ∈ s_gt := s_gt_of (i := 931) (by decide +kernel) rfl
theorem n_st2 : Jvm.Cond.static (nY 2) ∈ s_gt := s_gt_of (i := 938) (by decide +kernel) rfl
theorem n_st3 : Jvm.Cond.static (nY 3) ∈ s_gt := s_gt_of (i := 858) (by decide +kernel) rfl
theorem n_st4 : Jvm.Cond.static (nY 4) ∈ s_gt := s_gt_of (i := 1526) (by decide +kernel) rfl
theorem n_st5 : Jvm.Cond.static (nY 5) ∈ s_gt := s_gt_of (i := 1555) (by decide +kernel) rfl
theorem n_st6 : Jvm.Cond.static (nY 6) ∈ s_gt := s_gt_of (i := 1845) (by decide +kernel) rfl
theorem n_nt4 : Jvm.Cond.native (nY 4) ∈ s_gt := s_gt_of (i := 1527) (by decide +kernel) rfl
theorem n_nt5 : Jvm.Cond.native (nY 5) ∈ s_gt := s_gt_of (i := 1556) (by decide +kernel) rfl
theorem n_nt6 : Jvm.Cond.native (nY 6) ∈ s_gt := s_gt_of (i := 1846) (by decide +kernel) rfl
theorem n_cd1 : Jvm.Cond.code (nY 1) Lib.Math.max.code 2 (some .int) ∈ s_gt := s_gt_of (i := 932) (by decide +kernel) rfl
theorem n_cd2 : Jvm.Cond.code (nY 2) Lib.Math.min.code 2 (some .int) ∈ s_gt := s_gt_of (i := 939) (by decide +kernel) rfl
theorem n_cd3 : Jvm.Cond.code (nY 3) Lib.Math.abs.code 1 (some .int) ∈ s_gt := s_gt_of (i := 859) (by decide +kernel) rfl
theorem n_cd7 : Jvm.Cond.code Lib.objectInit ⟨#[0xb1]⟩ 1 none ∈ s_gt := s_gt_of (i := 137) (by decide +kernel) rfl
theorem n_im7 : Jvm.Cond.instanceMethod Lib.objectInit ∈ s_gt := s_gt_of (i := 136) (by decide +kernel) rfl
theorem n_iM : Jvm.Cond.initialized "java/lang/Math" ∈ s_gt := s_gt_of (i := 121) (by decide +kernel) rfl
theorem n_iF : Jvm.Cond.initialized "java/lang/Float" ∈ s_gt := s_gt_of (i := 123) (by decide +kernel) rfl
theorem n_iD : Jvm.Cond.initialized "java/lang/Double" ∈ s_gt := s_gt_of (i := 129) (by decide +kernel) rfl
theorem n_ac_int : Jvm.Cond.arrayClass .int ∈ s_gt := s_gt_of (i := 173) (by decide +kernel) rfl
theorem n_ac_boolean : Jvm.Cond.arrayClass .boolean ∈ s_gt := s_gt_of (i := 1333) (by decide +kernel) rfl
theorem n_ac_float : Jvm.Cond.arrayClass .float ∈ s_gt := s_gt_of (i := 197) (by decide +kernel) rfl
theorem n_ac_long : Jvm.Cond.arrayClass .long ∈ s_gt := s_gt_of (i := 1888) (by decide +kernel) rfl
theorem n_ao1 : Jvm.Cond.arrayOver (.object "QuayCranes$Choice") ∈ lw_tbl := List.mem_of_getElem? (i := 440) (by decide +kernel)
theorem n_ao7 : Jvm.Cond.arrayOver (.object "QuayCranes$Yard") ∈ lw_tbl := List.mem_of_getElem? (i := 329) (by decide +kernel)
def qW0 : List Nat := [335, 337, 339]
set_option maxRecDepth 100000 in
theorem k_w0 : ∀ k, k < cN 0 → lw_tbl[qW0.getD k 0]? = some (u_lay (cR 0) (cT 0) k) := by decide +kernel
def qW1 : List Nat := [403, 405, 407, 409, 411, 413]
set_option maxRecDepth 100000 in
theorem k_w1 : ∀ k, k < cN 1 → lw_tbl[qW1.getD k 0]? = some (u_lay (cR 1) (cT 1) k) := by decide +kernel
def qW2 : List Nat := [357, 359, 361, 363, 365, 367]
set_option maxRecDepth 100000 in
theorem k_w2 : ∀ k, k < cN 2 → lw_tbl[qW2.getD k 0]? = some (u_lay (cR 2) (cT 2) k) := by decide +kernel
def qW3 : List Nat := [192, 194]
set_option maxRecDepth 100000 in
theorem k_w3 : ∀ k, k < cN 3 → lw_tbl[qW3.getD k 0]? = some (u_lay (cR 3) (cT 3) k) := by decide +kernel
def qW4 : List Nat := [309, 311, 313, 315, 317]
set_option maxRecDepth 100000 in
theorem k_w4 : ∀ k, k < cN 4 → lw_tbl[qW4.getD k 0]? = some (u_lay (cR 4) (cT 4) k) := by decide +kernel
def qW5 : List Nat := [423, 425, 427, 429, 431, 433, 435]
set_option maxRecDepth 100000 in
theorem k_w5 : ∀ k, k < cN 5 → lw_tbl[qW5.getD k 0]? = some (u_lay (cR 5) (cT 5) k) := by decide +kernel
def qW6 : List Nat := [160, 162, 164, 166, 168, 170]
set_option maxRecDepth 100000 in
theorem k_w6 : ∀ k, k < cN 6 → lw_tbl[qW6.getD k 0]? = some (u_lay (cR 6) (cT 6) k) := by decide +kernel
def qW7 : List Nat := [257, 259, 261, 263, 265, 267, 269, 271, 273, 275, 277, 279, 281, 283, 285, 287, 289, 291, 293, 295]
set_option maxRecDepth 100000 in
theorem k_w7 : ∀ k, k < cN 7 → lw_tbl[qW7.getD k 0]? = some (u_lay (cR 7) (cT 7) k) := by decide +kernel
def qW8 : List Nat := [456, 458, 460, 462, 464, 466, 468, 470, 472, 474, 476, 478, 480, 482, 484]
set_option maxRecDepth 100000 in
theorem k_w8 : ∀ k, k < cN 8 → lw_tbl[qW8.getD k 0]? = some (u_lay (cR 8) (cT 8) k) := by decide +kernel
def qW9 : List Nat := [1248, 1250, 1252, 1254, 1256, 1258, 1260, 1262, 1264, 1266, 1268, 1270, 1272, 1274, 1276, 1278, 1280, 1282, 1284, 1286, 1288, 1290, 1292, 1294, 1296, 1298, 1300, 1302, 1304, 1306, 1308, 1310, 1312, 1314, 1316, 1318, 1320, 1322, 1324, 1326, 1328, 1330]
set_option maxRecDepth 100000 in
theorem k_w9 : ∀ k, k < cN 9 → lw_tbl[qW9.getD k 0]? = some (u_lay (cR 9) (cT 9) k) := by decide +kernel
def s_own (i : Nat) : Prop := (∀ w ∈ u_ws (cR i) (cT i) (cN i), w ∈ s_gt) ∧ (∀ k, k < cN i → parseFieldDescriptor (cT i k).2.2.1 = some (cTy i k)) ∧ (∀ a, a < cN i → ∀ b, b < cN i → a ≠ b → (cT i a).2.1 ≠ (cT i b).2.1) ∧ vwCl[i]? = some (cR i, cT i, cN i)
theorem s_own_of {i : Nat} {q : List Nat} (h : ∀ k, k < cN i → lw_tbl[q.getD k 0]? = some (u_lay (cR i) (cT i) k)) (h2 : ∀ k, k < cN i → parseFieldDescriptor (cT i k).2.2.1 = some (cTy i k)) (h3 : ∀ a, a < cN i → ∀ b, b < cN i → a ≠ b → (cT i a).2.1 ≠ (cT i b).2.1) (h4 : vwCl[i]? = some (cR i, cT i, cN i)) : s_own i := by
  refine ⟨fun w hw => ?_, h2, h3, h4⟩
  obtain ⟨k, hk, rfl⟩ := List.mem_map.mp hw
  refine s_gt_of (h k (List.mem_range.mp hk)) ?_
  unfold u_lay
  split <;> rfl
theorem s_owns : ∀ i, i < 10 → s_own i
  | 0, _ => s_own_of k_w0 tyX0_ok nmX0 rfl
  | 1, _ => s_own_of k_w1 tyX1_ok nmX1 rfl
  | 2, _ => s_own_of k_w2 tyX2_ok nmX2 rfl
  | 3, _ => s_own_of k_w3 tyX3_ok nmX3 rfl
  | 4, _ => s_own_of k_w4 tyX4_ok nmX4 rfl
  | 5, _ => s_own_of k_w5 tyX5_ok nmX5 rfl
  | 6, _ => s_own_of k_w6 tyX6_ok nmX6 rfl
  | 7, _ => s_own_of k_w7 tyX7_ok nmX7 rfl
  | 8, _ => s_own_of k_w8 tyX8_ok nmX8 rfl
  | 9, _ => s_own_of k_w9 tyX9_ok nmX9 rfl
  | n + 10, h => absurd h (by omega)
