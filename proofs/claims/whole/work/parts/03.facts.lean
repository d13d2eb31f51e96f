/-! the tables hold what the pure run reads off them: by places, decided -/
abbrev vwCl : List vw_C := [(RX0, TX0, 3), (RX1, TX1, 6), (RX2, TX2, 6), (RX3, TX3, 2), (RX4, TX4, 5), (RX5, TX5, 7), (RX6, TX6, 6), (RX7, TX7, 20), (RX8, TX8, 15), (RX9, TX9, 42)]
def s_gt : List Jvm.Cond := lw_tbl.filter goodWord
theorem s_gt_of {i : Nat} {w : Jvm.Cond} (h : lw_tbl[i]? = some w) (g : goodWord w = true) : w ∈ s_gt := List.mem_filter.mpr ⟨List.mem_of_getElem? h, g⟩
def qC : List Nat := [326, 691, 708, 1083, 1087, 384, 888, 908, 957, 346, 718, 726, 754, 813, 1034, 821, 829, 1047, 184, 517, 687, 1021, 666, 670, 1001, 916, 658, 962, 662, 722, 142, 509, 641, 674, 856, 540, 605, 611, 620, 624, 646, 374, 879, 947, 985, 883, 898, 894, 993, 997, 902, 970, 974, 148, 497, 521, 525, 544, 597, 601, 529, 532, 535, 178, 513, 683, 616, 633, 771, 650, 654, 952, 875, 735, 842, 731, 739, 743, 747, 920, 936, 943, 1116, 1107, 1124, 1120, 926, 929, 1111, 134, 490, 501, 505, 679, 699, 758, 763, 781, 790, 1136, 795, 801, 805, 817, 825, 834, 838, 848, 863, 966, 981, 989, 1009, 1013, 1025, 1030, 1043, 1051, 1055, 1060, 1064, 1068, 1079, 1091, 1095, 1099, 1103, 1128, 637, 767, 785, 809, 867, 871, 703, 695, 714, 1017, 852, 493, 1037, 1072, 1351, 1204, 1337, 1344, 1341, 1348, 1372, 1375, 1378, 1368, 1364, 1399, 1393, 1389, 1385, 1411, 1407, 1403, 1437, 1420, 1430, 1417, 1426, 1360, 1456, 1445, 1449, 1453, 1441, 1460, 1355, 1464, 1467, 1489, 1471, 1484, 1475, 1524, 1511, 1508, 1521, 1518, 1535, 1540, 1531, 1544, 1561, 1515, 1505, 1501, 1497, 1564, 1493, 1480, 1568, 1577, 1590, 1581, 1573, 1586, 1596, 1600, 1604, 1608, 1612, 1622, 1618, 1626, 1635, 1630, 1639, 1644, 1649, 1653, 1661, 1657, 1682, 1694, 1690, 1686, 1674, 1678, 1669, 1698, 1665, 1718, 1714, 1710, 1706, 1702, 1730, 1734, 1726, 1722, 1750, 1754, 1746, 1742, 1738, 1762, 1758, 1770, 1766, 1778, 1774, 1782, 1796, 1792, 1800, 1804, 1820, 1817, 1813, 1824, 1828, 1809, 1832, 1836, 1851, 1855, 1867, 1863, 1875, 1871, 1879, 1883, 1859, 1887, 774, 1550, 1553, 1840, 1843]
def qK : List Nat := [325, 689, 706, 1081, 1085, 383, 886, 906, 955, 345, 716, 725, 753, 811, 1032, 819, 827, 1045, 183, 515, 685, 1019, 664, 668, 999, 914, 656, 960, 661, 720, 141, 507, 639, 672, 854, 539, 604, 610, 619, 623, 645, 373, 877, 946, 983, 882, 897, 893, 991, 996, 901, 968, 973, 147, 495, 519, 523, 542, 595, 599, 528, 531, 534, 177, 511, 681, 614, 631, 769, 648, 652, 950, 873, 733, 840, 729, 738, 742, 746, 918, 934, 942, 1114, 1105, 1122, 1118, 925, 928, 1110, 133, 488, 499, 503, 677, 697, 756, 761, 779, 788, 1134, 793, 799, 803, 815, 823, 832, 836, 846, 861, 964, 979, 987, 1007, 1011, 1023, 1028, 1041, 1049, 1053, 1058, 1062, 1066, 1077, 1089, 1093, 1097, 1101, 1126, 636, 766, 784, 808, 866, 870, 702, 694, 713, 1016, 851, 492, 1036, 1071, 1350, 1203, 1335, 1343, 1339, 1346, 1371, 1374, 1377, 1367, 1363, 1398, 1392, 1388, 1384, 1410, 1406, 1402, 1436, 1419, 1429, 1416, 1425, 1359, 1455, 1444, 1448, 1452, 1440, 1459, 1353, 1462, 1466, 1488, 1469, 1483, 1473, 1523, 1510, 1507, 1520, 1517, 1534, 1539, 1530, 1543, 1560, 1514, 1504, 1500, 1496, 1563, 1492, 1478, 1566, 1576, 1589, 1580, 1571, 1584, 1594, 1599, 1603, 1607, 1610, 1621, 1616, 1624, 1634, 1628, 1637, 1642, 1647, 1651, 1660, 1655, 1681, 1693, 1689, 1685, 1673, 1677, 1668, 1697, 1663, 1717, 1713, 1709, 1705, 1700, 1729, 1733, 1725, 1720, 1749, 1753, 1745, 1741, 1736, 1761, 1756, 1769, 1764, 1777, 1772, 1780, 1795, 1790, 1798, 1802, 1819, 1816, 1812, 1823, 1827, 1807, 1830, 1834, 1849, 1853, 1866, 1862, 1874, 1870, 1878, 1882, 1857, 1885, 773, 1549, 1552, 1839, 1842]
def qS : List Nat := [0, 690, 707, 1082, 1086, 0, 887, 907, 956, 0, 717, 12, 16, 812, 1033, 820, 828, 1046, 0, 516, 686, 1020, 665, 669, 1000, 915, 657, 961, 8, 721, 0, 508, 640, 673, 855, 1, 2, 3, 4, 5, 7, 0, 878, 0, 984, 23, 0, 24, 992, 29, 25, 969, 28, 0, 496, 520, 524, 543, 596, 600, 0, 0, 0, 0, 512, 682, 615, 632, 770, 649, 653, 951, 874, 734, 841, 730, 13, 14, 15, 919, 935, 27, 1115, 1106, 1123, 1119, 26, 0, 31, 0, 489, 500, 504, 678, 698, 757, 762, 780, 789, 1135, 794, 800, 804, 816, 824, 833, 837, 847, 862, 965, 980, 988, 1008, 1012, 1024, 1029, 1042, 1050, 1054, 1059, 1063, 1067, 1078, 1090, 1094, 1098, 1102, 1127, 6, 17, 18, 19, 21, 22, 10, 9, 11, 30, 20, 0, 0, 0, 0, 0, 1336, 0, 1340, 1347, 36, 0, 0, 35, 34, 40, 39, 38, 37, 43, 42, 41, 46, 0, 0, 44, 45, 33, 0, 48, 49, 50, 47, 51, 1354, 1463, 0, 53, 1470, 52, 1474, 0, 0, 0, 0, 0, 60, 61, 59, 62, 63, 58, 57, 56, 55, 0, 54, 1479, 1567, 64, 66, 65, 1572, 1585, 1595, 67, 68, 69, 1611, 70, 1617, 1625, 71, 1629, 1638, 1643, 1648, 1652, 72, 1656, 76, 79, 78, 77, 74, 75, 73, 80, 1664, 84, 83, 82, 81, 1701, 86, 87, 85, 1721, 90, 91, 89, 88, 1737, 92, 1757, 93, 1765, 94, 1773, 1781, 95, 1791, 1799, 1803, 0, 97, 96, 98, 99, 1808, 1831, 1835, 1850, 1854, 101, 100, 103, 102, 104, 105, 1858, 1886, 0, 0, 0, 0, 0]
def qI : List Nat := [112, 115, 113, 111, 108, 114, 109, 110, 107, 116, 106, 124, 123, 129]
def qO : List Nat := [323, 381, 343, 181, 139, 371, 145, 175, 131, 1201]
set_option maxRecDepth 100000 in
theorem k_code : ∀ m, m < 275 → lw_tbl[qC.getD m 0]? = some (.code (mY m) (mB m) (mL m) (mR m)) := by decide +kernel
set_option maxRecDepth 100000 in
theorem k_kind : ∀ m, m < 275 → lw_tbl[qK.getD m 0]? = some (if mSt m = 0 then .static (mY m) else .instanceMethod (mY m)) := by decide +kernel
set_option maxRecDepth 100000 in
theorem k_sel : ∀ m, m < 275 → mSt m = 1 → lw_tbl[qS.getD m 0]? = some (.selects (mY m).cls (mY m) (mY m)) := by decide +kernel
set_option maxRecDepth 100000 in
theorem k_ini : ∀ c, c < 14 → lw_tbl[qI.getD c 0]? = some (.initialized (cR c)) := by decide +kernel
set_option maxRecDepth 100000 in
theorem k_obj : ∀ c, c < 10 → lw_tbl[qO.getD c 0]? = some (.instantiable (cR c) (cN c)) := by decide +kernel
set_option maxRecDepth 100000 in
theorem k_meth : ∀ m, m < 275 → (mY m).cls = cR (mC m) ∧ mC m < 14 ∧ plainName (mY m).cls = true ∧ (mY m).cls ≠ "java/lang/invoke/MethodHandle" ∧ (mY m).cls ≠ "java/lang/invoke/VarHandle" ∧ (parseMethodDescriptor (mY m).desc).map (fun d => d.parameters.length) = some (mNa m) ∧ (mSt m = 2 → (mY m).name = "<init>" ∧ mR m = none) := by decide +kernel
def qF : List (List Nat) := [[331, 332, 333], [388, 391, 393, 396, 399, 401], [348, 349, 350, 351, 254, 353, 219, 355, 224, 230, 209, 234], [186, 188], [300, 302, 304, 306, 199, 202, 155, 206, 157, 307, 225, 212], [416, 417, 418, 419, 420, 421, 390, 394, 402, 223, 400, 205, 210, 236, 239, 247, 216, 422, 256, 220, 189, 397, 244], [150, 151, 159, 154, 156, 158], [222, 227, 229, 232, 233, 235, 238, 241, 243, 246, 249, 251, 253, 198, 201, 204, 208, 213, 215, 218, 190, 187], [441, 301, 442, 443, 444, 445, 447, 448, 449, 450, 451, 452, 453, 454, 455, 152, 153, 207, 303, 446, 211, 255, 305, 354, 214, 217, 200, 203, 221, 226, 228, 191, 231, 237, 240, 242, 245, 248, 250, 252, 352, 308, 395, 398, 389, 334, 356, 392], [1207, 1217, 1218, 1223, 1224, 1225, 1226, 1228, 1230, 1231, 1232, 1233, 1234, 1235, 1238, 1246, 1206, 1208, 1209, 1210, 1212, 1213, 1211, 1222, 1221, 1220, 1216, 1227, 1219, 1214, 1215, 1229, 1247, 1236, 1237, 1239, 1240, 1241, 1242, 1243, 1244, 1245], [], [], [], [], [], []]
def qM : List (List Nat) := [[330, 709], [387, 889, 909, 958, 959], [719, 723, 728, 751, 727, 830], [667, 1002, 1003, 659], [146, 176, 299, 510, 518, 537, 598, 602, 541, 608, 617, 642, 594, 643, 593, 613, 621, 630, 647, 651, 655, 663], [377, 379, 382, 880, 896, 885, 917, 890, 944, 945, 899, 910, 911, 949, 912, 913, 884, 891, 895, 976, 994, 903, 998, 1004, 904, 905, 971, 977, 975], [522, 526, 530, 533, 545, 555], [182, 514, 684, 843, 844, 732, 736, 740, 744, 921, 922, 923, 933, 940, 1108, 927, 1112], [140, 321, 324, 344, 372, 439, 491, 494, 506, 634, 638, 671, 680, 688, 692, 700, 705, 710, 711, 759, 764, 768, 772, 782, 786, 791, 1198, 1035, 796, 797, 806, 810, 818, 826, 839, 849, 864, 868, 876, 954, 967, 982, 990, 1005, 1014, 1031, 1044, 1056, 1070, 1080, 1084, 1104, 1113, 1117, 1121, 872, 715, 1018, 853], [1342, 1349, 1369, 1373, 1376, 1365, 1394, 1395, 1390, 1386, 1396, 1404, 1418, 1400, 1382, 1428, 1361, 1408, 1414, 1423, 1434, 1442, 1446, 1450, 1454, 1357, 1438, 1457, 1465, 1509, 1506, 1519, 1522, 1532, 1537, 1548, 1516, 1528, 1541, 1558, 1502, 1512, 1498, 1481, 1486, 1490, 1494, 1562, 1574, 1578, 1582, 1587, 1597, 1601, 1605, 1619, 1632, 1658, 1691, 1687, 1683, 1679, 1666, 1671, 1675, 1695, 1715, 1707, 1711, 1703, 1731, 1727, 1723, 1747, 1751, 1743, 1739, 1759, 1767, 1775, 1783, 1793, 1814, 1818, 1810, 1821, 1825, 1838, 1864, 1872, 1860, 1868, 1876, 1880], [1133, 132, 1202, 487, 1338, 498, 1345, 502, 1352, 676, 1461, 696, 1477, 755, 1565, 760, 1570, 778, 1583, 787, 1593, 1129, 1609, 1334, 792, 1615, 798, 1623, 802, 1627, 814, 1636, 822, 1641, 831, 1646, 835, 1650, 845, 1654, 860, 1662, 963, 1699, 978, 1719, 986, 1735, 1006, 1755, 1010, 1763, 1022, 1771, 1027, 1779, 1040, 1789, 1048, 1801, 1052, 1806, 1057, 1797, 1061, 1829, 1065, 1833, 1076, 1468, 1088, 1848, 1092, 1852, 1096, 1472, 1100, 1856, 1125, 1884], [], [1551], [1841], [], []]
def qN : List (List Nat) := [[1, 0], [1, 0, 0, 0, 0], [0, 0, 0, 0, 0, 0], [0, 0, 0, 0], [1, 1, 1, 0, 0, 0, 0, 0, 0, 0, 0, 0, 0, 0, 0, 0, 0, 0, 0, 0, 0, 0], [1, 1, 1, 0, 0, 0, 0, 0, 0, 0, 0, 0, 0, 0, 0, 0, 0, 0, 0, 0, 0, 0, 0, 0, 0, 0, 0, 0, 0], [0, 0, 0, 0, 0, 0], [1, 0, 0, 0, 0, 0, 0, 0, 0, 0, 0, 0, 0, 0, 0, 0, 0], [1, 1, 0, 1, 1, 1, 0, 0, 0, 0, 0, 0, 0, 0, 0, 0, 0, 0, 0, 0, 0, 0, 0, 0, 0, 0, 0, 0, 0, 0, 0, 0, 0, 0, 0, 0, 0, 0, 0, 0, 0, 0, 0, 0, 0, 0, 0, 0, 0, 0, 0, 0, 0, 0, 0, 0, 0, 0, 0], [0, 0, 0, 0, 0, 0, 0, 0, 0, 0, 0, 0, 0, 0, 0, 0, 0, 0, 0, 0, 0, 0, 0, 0, 0, 0, 0, 0, 0, 0, 0, 0, 0, 0, 0, 0, 0, 0, 0, 0, 0, 0, 0, 0, 0, 0, 0, 0, 0, 0, 0, 0, 0, 0, 0, 0, 0, 0, 0, 0, 0, 0, 0, 0, 0, 0, 0, 0, 0, 0, 0, 0, 0, 0, 0, 0, 0, 0, 0, 0, 0, 0, 0, 0, 0, 0, 0, 0, 0, 0, 0, 0, 0, 0], [0, 0, 0, 0, 0, 0, 0, 0, 0, 0, 0, 0, 0, 0, 0, 0, 0, 0, 0, 0, 0, 0, 0, 0, 0, 0, 0, 0, 0, 0, 0, 0, 0, 0, 0, 0, 0, 0, 0, 0, 0, 0, 0, 0, 0, 0, 0, 0, 0, 0, 0, 0, 0, 0, 0, 0, 0, 0, 0, 0, 0, 0, 0, 0, 0, 0, 0, 0, 0, 0, 0, 0, 0, 0, 0, 0, 0, 0, 0, 0], [], [0], [0], [], []]
def qL : List (List Nat) := [[328], [386], [], [], [144, 174, 298], [376, 378, 380], [], [180], [138, 320, 322, 342, 370, 438], [], [130, 1200], [], [], [], [], []]
def qV : List (List Nat) := [[], [], [], [], [0, 0, 0, 0, 0, 0, 0, 0, 0], [], [], [748, 749, 750], [704, 1199, 1069, 1038, 1039, 1073, 1074, 1075], [1379, 0, 0, 0, 0, 0, 0, 0, 0, 0, 1356, 1476, 1545, 1546, 1547, 1485, 1569, 1591, 1592, 1613, 1614, 1631, 1640, 1645, 1670, 1837], [], [775, 776, 777], [1557], [1847], [], []]
def qT : List (List Nat) := [[327], [385], [347], [185], [143], [375, 948, 953], [149], [179, 930, 937], [135, 1026, 857], [1205, 1380, 1525, 1536, 1805], [], [], [1554], [1844], [], []]
def nY : Nat → MethodName := fun i => match i with
  | 1 => Lib.Math.max.name
  | 2 => Lib.Math.min.name
  | 3 => Lib.Math.abs.name
  | 4 => ⟨"java/lang/Float", "intBitsToFloat", "(I)F"⟩
  | 5 => ⟨"java/lang/Float", "floatToRawIntBits", "(F)I"⟩
  | 6 => ⟨"java/lang/Double", "doubleToRawLongBits", "(D)J"⟩
  | _ => Lib.objectInit
/-- a row of a table and its place -/
def k_at {α : Type} (t : List (List α)) (c j : Nat) : Option α := (t.getD c [])[j]?
set_option maxRecDepth 100000 in
theorem k_pf : ∀ c, c < 16 → ∀ j, j < (pfT.getD c []).length → (k_at pfT c j).map (fun e => (decide (e.2.1 < 10 ∧ e.2.2 < cN e.2.1 ∧ (cT e.2.1 e.2.2).1 = cR e.2.1) && decide (lw_tbl[((qF.getD c []).getD j 0)]? = some (.fieldLink (cR c) e.1 (cR e.2.1) (cT e.2.1 e.2.2).2.1 (cT e.2.1 e.2.2).2.2.1)))) = some true := by decide +kernel
set_option maxRecDepth 100000 in
theorem k_pm : ∀ c, c < 14 → ∀ j, j < (pmT.getD c []).length → (k_at pmT c j).map (fun e => (decide (1000 ≤ e.2) || (decide (e.2 < 275) && decide (lw_tbl[((qM.getD c []).getD j 0)]? = some (if (qN.getD c []).getD j 0 = 0 then .methodLink (cR c) e.1 (mY e.2) else .methodLinkNest (cR c) e.1 (mY e.2) RX8)) && decide ((qN.getD c []).getD j 0 = 0 ∨ mSt e.2 = 2)))) = some true := by decide +kernel
set_option maxRecDepth 100000 in
theorem k_pc : ∀ c, c < 16 → ∀ j, j < (pcT.getD c []).length → (k_at pcT c j).map (fun e => (decide (e.2 < 10) && decide (lw_tbl[((qL.getD c []).getD j 0)]? = some (.classLink (cR c) e.1 (cR e.2))))) = some true := by decide +kernel
set_option maxRecDepth 100000 in
theorem k_pk : ∀ c, c < 16 → ∀ j, j < (pkT.getD c []).length → (k_at pkT c j).map (fun e => match e.2 with
    | .int v => decide (lw_tbl[((qV.getD c []).getD j 0)]? = some (.constant (cR c) e.1 v))
    | .float v => decide (lw_tbl[((qV.getD c []).getD j 0)]? = some (.constantFloat (cR c) e.1 v))
    | .long v => decide (lw_tbl[((qV.getD c []).getD j 0)]? = some (.constantLong (cR c) e.1 v))
    | .double v => decide (lw_tbl[((qV.getD c []).getD j 0)]? = some (.constantDouble (cR c) e.1 v))
    | .ref a => decide (1000001 ≤ a ∧ a < 1000010)
    | _ => false) = some true := by decide +kernel
set_option maxRecDepth 100000 in
theorem k_pn : ∀ c, c < 16 → ∀ j, j < (pnT.getD c []).length → (k_at pnT c j).map (fun e => decide (1 ≤ e.2 ∧ e.2 ≤ 7) && decide (lw_tbl[((qT.getD c []).getD j 0)]? = some (.methodLink (cR c) e.1 (nY e.2)))) = some true := by decide +kernel
theorem n_st1 : Jvm.Cond.static (nY 1) ∈ s_gt := s_gt_of (i := 931) (by decide +kernel) rfl
theorem n_st2 : Jvm.Cond.static (nY 2) ∈ s_gt := s_gt_of (i := 938) (by decide +kernel) rfl
theorem n_st3 : Jvm.Cond.static (nY 3) ∈ s_gt := s_gt_of (i := 858) (by decide +kernel) rfl
theorem n_st4 : Jvm.Cond.static (nY 4) ∈ s_gt := s_gt_of (i := 1526) (by decide +kernel) rfl
theorem n_st5 : Jvm.Cond.static (nY 5) ∈ s_gt := s_gt_of (i := 1555) (by decide +kernel) rfl
theorem n_st6 : Jvm.Cond.static (nY 6) ∈ s_gt := s_gt_of (i := 1845) (by decide +kernel) rfl
theorem n_nt4 : Jvm.Cond.native (nY 4) ∈ s_gt := s_gt_of (i := 1527) (by decide +kernel) rfl
theorem n_nt5 : Jvm.Cond.native (nY 5) ∈ s_gt := s_gt_of (i := 1556) (by decide +kernel) rfl
theorem n_nt6 : Jvm.Cond.native (nY 6) ∈ s_gt := s_gt_of (i := 1846) (by decide +kernel) rfl
theorem n_cd1 : Jvm.Cond.code (nY 1) Lib.Math.max.code 2 (some .int) ∈ s_gt := s_gt_of (i := 932) (by decide +kernel) rfl
theorem n_cd2 : Jvm.Cond.code (nY 2) Lib.Math.min.code 2 (some .int) ∈ s_gt := s_gt_of (i := 939) (by decide +kernel) rfl
theorem n_cd3 : Jvm.Cond.code (nY 3) Lib.Math.abs.code 1 (some .int) ∈ s_gt := s_gt_of (i := 859) (by decide +kernel) rfl
theorem n_cd7 : Jvm.Cond.code Lib.objectInit ⟨#[0xb1]⟩ 1 none ∈ s_gt := s_gt_of (i := 137) (by decide +kernel) rfl
theorem n_im7 : Jvm.Cond.instanceMethod Lib.objectInit ∈ s_gt := s_gt_of (i := 136) (by decide +kernel) rfl
theorem n_iM : Jvm.Cond.initialized "java/lang/Math" ∈ s_gt := s_gt_of (i := 121) (by decide +kernel) rfl
theorem n_iF : Jvm.Cond.initialized "java/lang/Float" ∈ s_gt := s_gt_of (i := 123) (by decide +kernel) rfl
theorem n_iD : Jvm.Cond.initialized "java/lang/Double" ∈ s_gt := s_gt_of (i := 129) (by decide +kernel) rfl
theorem n_ac_int : Jvm.Cond.arrayClass .int ∈ s_gt := s_gt_of (i := 173) (by decide +kernel) rfl
theorem n_ac_boolean : Jvm.Cond.arrayClass .boolean ∈ s_gt := s_gt_of (i := 1333) (by decide +kernel) rfl
theorem n_ac_float : Jvm.Cond.arrayClass .float ∈ s_gt := s_gt_of (i := 197) (by decide +kernel) rfl
theorem n_ac_long : Jvm.Cond.arrayClass .long ∈ s_gt := s_gt_of (i := 1888) (by decide +kernel) rfl
theorem n_ao1 : Jvm.Cond.arrayOver (.object "QuayCranes$Choice") ∈ lw_tbl := List.mem_of_getElem? (i := 440) (by decide +kernel)
theorem n_ao7 : Jvm.Cond.arrayOver (.object "QuayCranes$Yard") ∈ lw_tbl := List.mem_of_getElem? (i := 329) (by decide +kernel)
def qW0 : List Nat := [335, 337, 339]
set_option maxRecDepth 100000 in
theorem k_w0 : ∀ k, k < cN 0 → lw_tbl[qW0.getD k 0]? = some (u_lay (cR 0) (cT 0) k) := by decide +kernel
def qW1 : List Nat := [403, 405, 407, 409, 411, 413]
set_option maxRecDepth 100000 in
theorem k_w1 : ∀ k, k < cN 1 → lw_tbl[qW1.getD k 0]? = some (u_lay (cR 1) (cT 1) k) := by decide +kernel
def qW2 : List Nat := [357, 359, 361, 363, 365, 367]
set_option maxRecDepth 100000 in
theorem k_w2 : ∀ k, k < cN 2 → lw_tbl[qW2.getD k 0]? = some (u_lay (cR 2) (cT 2) k) := by decide +kernel
def qW3 : List Nat := [192, 194]
set_option maxRecDepth 100000 in
theorem k_w3 : ∀ k, k < cN 3 → lw_tbl[qW3.getD k 0]? = some (u_lay (cR 3) (cT 3) k) := by decide +kernel
def qW4 : List Nat := [309, 311, 313, 315, 317]
set_option maxRecDepth 100000 in
theorem k_w4 : ∀ k, k < cN 4 → lw_tbl[qW4.getD k 0]? = some (u_lay (cR 4) (cT 4) k) := by decide +kernel
def qW5 : List Nat := [423, 425, 427, 429, 431, 433, 435]
set_option maxRecDepth 100000 in
theorem k_w5 : ∀ k, k < cN 5 → lw_tbl[qW5.getD k 0]? = some (u_lay (cR 5) (cT 5) k) := by decide +kernel
def qW6 : List Nat := [160, 162, 164, 166, 168, 170]
set_option maxRecDepth 100000 in
theorem k_w6 : ∀ k, k < cN 6 → lw_tbl[qW6.getD k 0]? = some (u_lay (cR 6) (cT 6) k) := by decide +kernel
def qW7 : List Nat := [257, 259, 261, 263, 265, 267, 269, 271, 273, 275, 277, 279, 281, 283, 285, 287, 289, 291, 293, 295]
set_option maxRecDepth 100000 in
theorem k_w7 : ∀ k, k < cN 7 → lw_tbl[qW7.getD k 0]? = some (u_lay (cR 7) (cT 7) k) := by decide +kernel
def qW8 : List Nat := [456, 458, 460, 462, 464, 466, 468, 470, 472, 474, 476, 478, 480, 482, 484]
set_option maxRecDepth 100000 in
theorem k_w8 : ∀ k, k < cN 8 → lw_tbl[qW8.getD k 0]? = some (u_lay (cR 8) (cT 8) k) := by decide +kernel
def qW9 : List Nat := [1248, 1250, 1252, 1254, 1256, 1258, 1260, 1262, 1264, 1266, 1268, 1270, 1272, 1274, 1276, 1278, 1280, 1282, 1284, 1286, 1288, 1290, 1292, 1294, 1296, 1298, 1300, 1302, 1304, 1306, 1308, 1310, 1312, 1314, 1316, 1318, 1320, 1322, 1324, 1326, 1328, 1330]
set_option maxRecDepth 100000 in
theorem k_w9 : ∀ k, k < cN 9 → lw_tbl[qW9.getD k 0]? = some (u_lay (cR 9) (cT 9) k) := by decide +kernel
def s_own (i : Nat) : Prop := (∀ w ∈ u_ws (cR i) (cT i) (cN i), w ∈ s_gt) ∧ (∀ k, k < cN i → parseFieldDescriptor (cT i k).2.2.1 = some (cTy i k)) ∧ (∀ a, a < cN i → ∀ b, b < cN i → a ≠ b → (cT i a).2.1 ≠ (cT i b).2.1) ∧ vwCl[i]? = some (cR i, cT i, cN i)
theorem s_own_of {i : Nat} {q : List Nat} (h : ∀ k, k < cN i → lw_tbl[q.getD k 0]? = some (u_lay (cR i) (cT i) k)) (h2 : ∀ k, k < cN i → parseFieldDescriptor (cT i k).2.2.1 = some (cTy i k)) (h3 : ∀ a, a < cN i → ∀ b, b < cN i → a ≠ b → (cT i a).2.1 ≠ (cT i b).2.1) (h4 : vwCl[i]? = some (cR i, cT i, cN i)) : s_own i := by
  refine ⟨fun w hw => ?_, h2, h3, h4⟩
  obtain ⟨k, hk, rfl⟩ := List.mem_map.mp hw
  refine s_gt_of (h k (List.mem_range.mp hk)) ?_
  unfold u_lay
  split <;> rfl
theorem s_owns : ∀ i, i < 10 → s_own i
  | 0, _ => s_own_of k_w0 tyX0_ok nmX0 rfl
  | 1, _ => s_own_of k_w1 tyX1_ok nmX1 rfl
  | 2, _ => s_own_of k_w2 tyX2_ok nmX2 rfl
  | 3, _ => s_own_of k_w3 tyX3_ok nmX3 rfl
  | 4, _ => s_own_of k_w4 tyX4_ok nmX4 rfl
  | 5, _ => s_own_of k_w5 tyX5_ok nmX5 rfl
  | 6, _ => s_own_of k_w6 tyX6_ok nmX6 rfl
  | 7, _ => s_own_of k_w7 tyX7_ok nmX7 rfl
  | 8, _ => s_own_of k_w8 tyX8_ok nmX8 rfl
  | 9, _ => s_own_of k_w9 tyX9_ok nmX9 rfl
  | n + 10, h => absurd h (by omega)
