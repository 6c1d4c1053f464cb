def am_nlw : Nat := 94
def am_pls : List (Nat × Nat × Nat × Nat) := [(200, 199, 99, 0), (697, 695, 99, 696), (970, 968, 99, 969), (982, 980, 99, 981), (246, 245, 101, 0), (709, 707, 101, 708), (851, 849, 101, 850), (855, 853, 101, 854), (945, 943, 101, 944), (917, 915, 101, 916), (925, 923, 101, 924), (999, 997, 101, 998), (1002, 1001, 101, 0), (818, 816, 101, 817), (293, 292, 102, 0), (810, 808, 102, 809), (1365, 1363, 102, 1364), (133, 132, 96, 0), (762, 760, 96, 761), (495, 493, 96, 494), (547, 546, 96, 0), (565, 563, 96, 564), (678, 676, 96, 677), (573, 571, 96, 572), (590, 588, 96, 589), (569, 567, 96, 568), (582, 580, 96, 581), (638, 636, 96, 637), (634, 632, 96, 633), (586, 584, 96, 585), (674, 672, 96, 673), (598, 597, 96, 3), (594, 592, 96, 593), (629, 627, 96, 628), (620, 618, 96, 619), (645, 643, 96, 644), (656, 654, 96, 655), (221, 220, 100, 0), (668, 666, 100, 667), (686, 684, 100, 685), (682, 680, 100, 681), (704, 702, 100, 703), (401, 400, 106, 0), (1122, 1120, 106, 1121), (602, 600, 106, 601), (610, 608, 106, 609), (606, 605, 106, 4), (395, 394, 105, 0), (839, 837, 105, 838), (554, 552, 105, 553), (558, 557, 105, 1), (577, 576, 105, 2), (616, 615, 105, 5), (625, 624, 105, 6), (664, 663, 105, 7), (171, 170, 97, 0), (782, 780, 97, 781), (788, 787, 97, 9), (796, 795, 97, 10), (341, 340, 104, 0), (961, 959, 104, 960), (965, 964, 104, 19), (974, 973, 104, 20), (978, 977, 104, 21), (1006, 1004, 104, 1005), (194, 193, 98, 0), (693, 691, 98, 692), (814, 812, 98, 813), (313, 312, 103, 0), (831, 829, 103, 830), (835, 834, 103, 14), (845, 844, 103, 15), (125, 124, 95, 0), (758, 756, 95, 757), (766, 764, 95, 765), (770, 768, 95, 769), (778, 776, 95, 777), (869, 867, 95, 868), (873, 871, 95, 872), (877, 875, 95, 876), (881, 879, 95, 880), (885, 883, 95, 884), (889, 887, 95, 888), (893, 891, 95, 892), (1047, 1045, 95, 1046), (1129, 1127, 95, 1128), (1136, 1134, 95, 1135), (897, 895, 95, 896), (1143, 1141, 95, 1142), (1150, 1148, 95, 1149), (1157, 1155, 95, 1156), (1164, 1162, 95, 1163), (1171, 1169, 95, 1170), (1178, 1176, 95, 1177), (1185, 1183, 95, 1184), (1193, 1191, 95, 1192), (1200, 1198, 95, 1199), (1208, 1206, 95, 1207), (1215, 1213, 95, 1214), (1222, 1220, 95, 1221), (901, 899, 95, 900), (1229, 1227, 95, 1228), (1236, 1234, 95, 1235), (905, 903, 95, 904), (909, 907, 95, 908), (1244, 1242, 95, 1243), (913, 911, 95, 912), (921, 919, 95, 920), (929, 927, 95, 928), (933, 931, 95, 932), (937, 935, 95, 936), (941, 939, 95, 940), (949, 947, 95, 948), (953, 951, 95, 952), (1270, 1268, 95, 1269), (1277, 1275, 95, 1276), (1284, 1282, 95, 1283), (1291, 1289, 95, 1290), (987, 985, 95, 986), (991, 989, 95, 990), (995, 993, 95, 994), (1010, 1008, 95, 1009), (1298, 1296, 95, 1297), (1306, 1304, 95, 1305), (1014, 1012, 95, 1013), (1018, 1016, 95, 1017), (1332, 1330, 95, 1331), (1342, 1340, 95, 1341), (1022, 1020, 95, 1021), (1034, 1032, 95, 1033), (1038, 1036, 95, 1037), (1372, 1370, 95, 1371), (1050, 1049, 95, 0), (1247, 1246, 95, 0), (1309, 1308, 95, 0), (1345, 1344, 95, 0), (689, 688, 95, 0), (774, 773, 95, 8), (806, 805, 95, 11), (957, 956, 95, 18), (827, 826, 95, 13), (859, 858, 95, 16), (864, 863, 95, 17), (823, 822, 95, 12), (1026, 1025, 95, 22), (1030, 1029, 95, 23), (1377, 1376, 113, 0), (1508, 1506, 113, 1507), (1523, 1522, 113, 0), (1907, 1906, 113, 0), (1816, 1815, 113, 82), (1530, 1529, 113, 0), (1382, 1381, 113, 25), (1386, 1385, 113, 26), (1729, 1728, 113, 73), (1662, 1661, 113, 61), (1390, 1389, 113, 27), (1398, 1397, 113, 29), (1394, 1393, 113, 28), (1402, 1401, 113, 30), (1410, 1409, 113, 32), (1406, 1405, 113, 31), (1717, 1716, 113, 70), (1650, 1649, 113, 58), (1665, 1664, 113, 0), (1675, 1674, 113, 0), (1672, 1671, 113, 0), (1740, 1739, 113, 0), (1678, 1677, 113, 0), (1669, 1668, 113, 62), (1658, 1657, 113, 60), (1654, 1653, 113, 59), (1733, 1732, 113, 74), (1737, 1736, 113, 75), (1725, 1724, 113, 72), (1721, 1720, 113, 71), (1888, 1887, 113, 84), (1939, 1938, 113, 87), (1935, 1934, 113, 86), (1947, 1946, 113, 88), (1744, 1743, 113, 76), (1713, 1712, 113, 69), (1748, 1747, 113, 77), (1752, 1751, 113, 78), (1756, 1755, 113, 79), (1760, 1759, 113, 80), (1705, 1704, 113, 67), (1516, 1515, 113, 33), (1512, 1510, 113, 1511), (1520, 1518, 113, 1519), (1542, 1541, 113, 36), (1546, 1545, 113, 37), (1538, 1537, 113, 35), (1569, 1568, 113, 42), (1559, 1558, 113, 40), (1597, 1596, 113, 49), (1593, 1592, 113, 48), (1601, 1600, 113, 50), (1577, 1576, 113, 44), (1585, 1584, 113, 46), (1581, 1580, 113, 45), (1589, 1588, 113, 47), (1612, 1611, 113, 52), (1617, 1616, 113, 53), (1626, 1625, 113, 55), (1636, 1635, 113, 56), (1622, 1621, 113, 54), (1573, 1572, 113, 43), (1565, 1564, 113, 41), (1608, 1607, 113, 51), (1645, 1644, 113, 57), (1554, 1553, 113, 39), (1550, 1549, 113, 38), (1534, 1533, 113, 34), (1682, 1681, 113, 63), (1527, 1525, 113, 1526), (1694, 1693, 113, 65), (1701, 1700, 113, 66), (1690, 1689, 113, 64), (1709, 1708, 113, 68), (1686, 1684, 113, 1685), (1764, 1762, 113, 1763), (1768, 1766, 113, 1767), (1772, 1770, 113, 1771), (1776, 1774, 113, 1775), (1780, 1778, 113, 1779), (1784, 1782, 113, 1783), (1788, 1786, 113, 1787), (1792, 1790, 113, 1791), (1796, 1794, 113, 1795), (1800, 1798, 113, 1799), (1804, 1802, 113, 1803), (1812, 1811, 113, 81), (1820, 1819, 113, 83), (1808, 1806, 113, 1807), (1824, 1822, 113, 1823), (1828, 1826, 113, 1827), (1832, 1830, 113, 1831), (1836, 1834, 113, 1835), (1840, 1838, 113, 1839), (1844, 1842, 113, 1843), (1848, 1846, 113, 1847), (1852, 1850, 113, 1851), (1856, 1854, 113, 1855), (1860, 1858, 113, 1859), (1864, 1862, 113, 1863), (1868, 1866, 113, 1867), (1872, 1870, 113, 1871), (1876, 1874, 113, 1875), (1880, 1878, 113, 1879), (1884, 1882, 113, 1883), (1892, 1890, 113, 1891), (1896, 1894, 113, 1895), (1904, 1903, 113, 85), (1975, 1974, 113, 89), (1900, 1898, 113, 1899), (1911, 1909, 113, 1910), (1915, 1913, 113, 1914), (1919, 1917, 113, 1918), (1923, 1921, 113, 1922), (1927, 1925, 113, 1926), (1931, 1929, 113, 1930), (1943, 1941, 113, 1942), (1951, 1949, 113, 1950), (1955, 1953, 113, 1954), (1959, 1957, 113, 1958), (1963, 1961, 113, 1962), (1967, 1965, 113, 1966), (1979, 1978, 113, 90), (1971, 1969, 113, 1970), (1983, 1981, 113, 1982), (1987, 1985, 113, 1986), (1991, 1989, 113, 1990), (1995, 1993, 113, 1994), (1999, 1997, 113, 1998), (2007, 2006, 113, 91), (2003, 2001, 113, 2002), (2011, 2009, 113, 2010), (2023, 2022, 113, 93), (2019, 2018, 113, 92), (2015, 2013, 113, 2014), (2027, 2025, 113, 2026), (2031, 2029, 113, 2030), (2035, 2033, 113, 2034), (561, 560, 111, 0), (1042, 1041, 94, 0), (1125, 1124, 94, 0), (1132, 1131, 94, 0), (1139, 1138, 94, 0), (1146, 1145, 94, 0), (1153, 1152, 94, 0), (1160, 1159, 94, 0), (1167, 1166, 94, 0), (1174, 1173, 94, 0), (1181, 1180, 94, 0), (1189, 1188, 94, 0), (1196, 1195, 94, 0), (1204, 1203, 94, 0), (1211, 1210, 94, 0), (1218, 1217, 94, 0), (1225, 1224, 94, 0), (1232, 1231, 94, 0), (1239, 1238, 94, 0), (1266, 1265, 94, 0), (1273, 1272, 94, 0), (1280, 1279, 94, 0), (1287, 1286, 94, 0), (1294, 1293, 94, 0), (1301, 1300, 94, 0), (1328, 1327, 94, 0), (1337, 1336, 94, 0), (1368, 1367, 94, 0), (0, 0, 94, 0)]
def am_sts : List Bool := [false, false, false, false, false, false, false, false, false, false, false, false, true, false, false, false, false, false, false, false, false, false, false, false, false, false, false, false, false, false, false, false, false, false, false, false, false, false, false, false, false, false, false, false, false, false, false, false, false, false, false, false, false, false, false, false, false, false, false, false, false, false, false, false, false, false, false, false, false, false, false, false, false, false, false, false, false, false, false, false, false, false, false, false, false, false, false, false, false, false, false, false, false, false, false, false, false, false, false, false, false, false, false, false, false, false, false, false, false, false, false, false, false, false, false, false, false, false, false, false, false, false, false, false, false, false, false, false, false, false, false, false, true, true, true, true, true, false, false, false, false, false, false, false, false, false, false, false, true, true, false, true, false, false, false, false, false, false, false, false, false, false, false, false, true, true, true, true, true, false, false, false, false, false, false, false, false, false, false, false, false, false, false, false, false, false, false, false, false, false, false, false, false, false, false, false, false, false, false, false, false, false, false, false, false, false, false, false, false, false, false, false, false, false, false, false, false, false, false, false, false, false, false, false, false, false, false, false, false, false, false, false, false, false, false, false, false, false, false, false, false, false, false, false, false, false, false, false, false, false, false, false, false, false, false, false, false, false, false, false, false, false, false, false, false, false, false, false, false, false, false, false, false, false, false, false, false, false, false, false, false, false, false, false, true, true, true, true, true, true, true, true, true, true, true, true, true, true, true, true, true, true, true, true, true, true, true, true, true, true, true, true, true]
def am_cps : List (Nat × Nat) := [(197, 99), (243, 101), (290, 102), (130, 96), (218, 100), (398, 106), (392, 105), (168, 97), (338, 104), (191, 98), (310, 103), (122, 95), (1374, 113)]
/-- throw new E(text): method, program counter, E, the class' entry, the text's, the constructor's, the text's number -/
def am_thrs : List (Nat × Nat × Nat × Nat × Nat × Nat × Nat) := [(132, 9, 0, 319, 321, 323, 27), (133, 4, 1, 325, 327, 329, 28), (134, 4, 2, 330, 332, 334, 29), (135, 4, 3, 335, 337, 339, 30)]
def am_exn : List String := ["java/lang/IndexOutOfBoundsException", "java/lang/IllegalArgumentException", "java/lang/IllegalStateException", "java/util/NoSuchElementException"]
def am_b (m : Nat) : ByteArray := am_bs.getD m (ByteArray.mk #[])
def am_y (m : Nat) : MethodName := am_ys.getD m ⟨"", "", ""⟩
def am_own (m : Nat) : String := am_owns.getD m ""
def am_ret (m : Nat) : Option FieldType := am_rets.getD m none
def am_fr (m : Nat) : Nat := am_frs.getD m 0
def am_lo (m : Nat) : Nat := am_los.getD m 0
def am_hh (m : Nat) : Option (List (Nat × Nat × Nat × Nat)) := am_hhs.getD m none
def am_st (m : Nat) : Bool := am_sts.getD m false
def am_pl (m : Nat) : Nat × Nat × Nat × Nat := am_pls.getD m (0, 0, 0, 0)
def codeW (m : Nat) : Jvm.Cond := match am_hh m with
  | none => .code (am_y m) (am_b m) (am_ml m) (am_ret m)
  | some hh => .codeWith (am_y m) (am_b m) (am_ml m) (am_ret m) hh
/-- a word that stands through every step of a run -/
def okW (w : Jvm.Cond) : Bool := w.onTables && (w.keepsFace || w.keepsH)
def inT (i : Nat) (w : Jvm.Cond) : Bool := okW w && decide (lw_tbl[i]? = some w)
theorem inT_mem {i : Nat} {w : Jvm.Cond} (h : inT i w = true) : w ∈ lw_tbl ∧ okW w = true := by
  simp only [inT, Bool.and_eq_true, decide_eq_true_eq] at h
  exact ⟨List.mem_of_getElem? h.2, h.1⟩
def rtOf (m : Nat) : Option FieldType := match am_rt m with
  | 1 => some .int
  | 2 => some .boolean
  | 3 => some .float
  | 4 => some .double
  | _ => none
def isInit (m : Nat) : Bool := decide ((am_y m).name = "<init>")
/-- of a method -/
def mchk (m : Nat) : Bool :=
  inT (am_pl m).1 (codeW m) && inT (am_pl m).2.1 (if am_st m then .static (am_y m) else .instanceMethod (am_y m)) && inT (am_pl m).2.2.1 (.initialized (am_y m).cls)
  && (am_st m || isInit m || inT (am_pl m).2.2.2 (.selects (am_y m).cls (am_y m) (am_y m)))
  && decide ((am_y m).cls ≠ "java/lang/invoke/MethodHandle") && decide ((am_y m).cls ≠ "java/lang/invoke/VarHandle")
  && decide ((parseMethodDescriptor (am_y m).desc).map (fun d => d.parameters.length) = some (am_na m))
  && decide (am_own m = (am_y m).cls) && decide (rtOf m = am_ret m) && plainName (am_y m).cls
  && (am_st m || decide ((vwCl[am_ci m]?).map (fun q => q.1) = some (am_y m).cls)) && (!isInit m || decide (am_ret m = none))
def ilen (i : Instr) : Nat := match i with
  | .bipush _ | .ldc _ | .iload _ | .aload _ | .dload _ | .istore _ | .astore _ | .dstore _ | .newarray _ => 2
  | .sipush _ | .ldc_w _ | .iinc _ _ | .goto _ | .ifCond _ _ | .if_icmp _ _ | .getfield _ | .putfield _ | .invokevirtual _ | .invokespecial _ | .invokestatic _ | .new _ | .anewarray _ => 3
  | .multianewarray _ _ => 4
  | _ => 1
def isSw (i : Instr) : Bool := match i with
  | .tableswitch _ _ _ _ | .lookupswitch _ _ => true
  | _ => false
def ftc (d : String) : Nat := if d = "I" then 0 else if d = "Z" then 2 else 1
/-- of a field's link -/
def fchk (m i a b c w : Nat) : Bool := match vwCl[a]? with
  | some (R, T, N) => decide (b < N) && inT (w + am_nlw) (.fieldLink (am_own m) i R (T b).2.1 (T b).2.2.1) && decide ((T b).1 = R) && decide (ftc (T b).2.2.1 = c)
  | none => false
def pchk (m a b : Nat) : Bool := match vwCl[a]? with
  | some (R, T, _) => !(T b).2.2.2 || (isInit m && decide (R = am_own m))
  | none => false
/-- of a call -/
def cchk (m i a b c w : Nat) : Bool :=
  decide (a < 312) && decide (b = am_na a) && decide (am_fr a + 1 ≤ am_fr m) && decide (8 + (am_ml a + 11) + am_lo a ≤ am_lo m)
  && (if c = 3 ∨ c = 4 then inT (w + am_nlw) (.methodLinkNest (am_own m) i (am_y a) "ContractMachine") else inT (w + am_nlw) (.methodLink (am_own m) i (am_y a)))
  && (if c = 1 ∨ c = 4 then am_st a else if c = 0 then !am_st a && !isInit a else !am_st a && isInit a) && (decide (c = 1) || decide (am_hh a = none)) && (decide (c = 0 ∨ c = 1) || am_nt a)
def ichk (m i a b c w : Nat) (virt : Nat) : Bool :=
  if c = 5 then decide (virt = 1) && inT (w + am_nlw) (.methodLink (am_own m) i objectInit) && decide (1 ≤ am_fr m) && decide (20 ≤ am_lo m)
  else if c = 6 then decide (virt = 2) && inT (w + am_nlw) (.methodLink (am_own m) i arraycopyName) && decide (1 ≤ am_fr m) && decide (8 + (nativeFrameWords "java/lang/System" "arraycopy" 5 + 11) ≤ am_lo m)
  else if c = 7 then decide (virt = 0) && inT (w + am_nlw) (.methodLink (am_own m) i yJ0_length_8abf5) && decide (2 ≤ am_fr m) && decide (60 ≤ am_lo m)
  else if c = 8 then decide (virt = 0) && inT (w + am_nlw) (.methodLink (am_own m) i yJ0_charAt_5068e) && decide (4 ≤ am_fr m) && decide (140 ≤ am_lo m)
  else if c = 10 then true
  else cchk m i a b c w && (if c = 0 then decide (virt = 0) else if c = 1 ∨ c = 4 then decide (virt = 2) else if c = 2 ∨ c = 3 then decide (virt = 1) else false)
def tchk (m : Nat) (e : AEnt) : Bool := match e with
  | (pc, ins, len, a, b, c, w) => decide (decode (am_b m) pc = .ok (ins, len)) && (isSw ins || decide (len = ilen ins)) && (match ins with
    | .getfield i => fchk m i a b c w
    | .putfield i => fchk m i a b c w && pchk m a b
    | .invokevirtual i => ichk m i a b c w 0
    | .invokespecial i => ichk m i a b c w 1
    | .invokestatic i => ichk m i a b c w 2
    | .new i => if c = 9 then am_thrs.any (fun r => decide (r.1 = m) && decide (r.2.1 = pc) && decide (r.2.2.1 = a)) else (match vwCl[a]? with
      | some (R, _, N) => decide (b = N) && inT (w + am_nlw) (.classLink (am_own m) i R) && inT (am_cps.getD a (0, 0)).1 (.instantiable R N) && inT (am_cps.getD a (0, 0)).2 (.initialized R)
      | none => false)
    | .anewarray i => inT (w + am_nlw) (.classLink (am_own m) i RX9)
    | .multianewarray i d => decide (d = 2) && inT (w + am_nlw) (.classLink (am_own m) i "[[I")
    | .ifCond _ off => decide (0 ≤ (pc : Int) + off)
    | .if_icmp _ off => decide (0 ≤ (pc : Int) + off)
    | .ldc i => decide ((am_strs[a - 1]?).map (fun q => (q.1, q.2.1)) = some (am_own m, i)) && decide (0 < a)
    | .ldc_w i => decide ((am_strs[a - 1]?).map (fun q => (q.1, q.2.1)) = some (am_own m, i)) && decide (0 < a)
    | _ => true)
/-- of a method with handlers: astore; iconst; ireturn -/
def astOK (m h : Nat) : Bool := match decode (am_b m) h with
  | .ok (.astore_n i, 1) => decide (i.val < am_ml m)
  | .ok (.astore i, 2) => decide (i < am_ml m)
  | _ => false
def astL (m h : Nat) : Nat := match decode (am_b m) h with
  | .ok (_, n) => n
  | _ => 0
def hrow (m : Nat) (q : (Nat × Nat × Nat × Nat) × (Nat × Int)) : Bool :=
  decide (q.1.2.2.2 ≠ 0) && decide (q.2.1 < 4) && decide (Cond.classLink (am_own m) q.1.2.2.2 (am_exn.getD q.2.1 "") ∈ lw_tbl) && okW (Cond.classLink (am_own m) q.1.2.2.2 (am_exn.getD q.2.1 "")) && astOK m q.1.2.2.1
  && decide (decode (am_b m) (q.1.2.2.1 + astL m q.1.2.2.1) = .ok (.iconst q.2.2, 1)) && decide (decode (am_b m) (q.1.2.2.1 + astL m q.1.2.2.1 + 1) = .ok (.ireturn, 1)) && decide (am_rt m = 1) && decide (wr q.2.2 = q.2.2)
  && (am_code m).all (fun e => match e.2.1 with
    | .invokevirtual _ => decide (q.1.1 ≤ e.1) && decide (e.1 < q.1.2.1)
    | .invokestatic _ => false
    | .invokespecial _ => false
    | _ => true)
def hchk (m : Nat) : Bool := match am_hh m with
  | none => decide (am_hn m = [])
  | some hh => decide (hh.length = (am_hn m).length) && !(am_hn m).isEmpty && (hh.zip (am_hn m)).all (hrow m)
def castW (E : Nat) : Jvm.Cond := .castable (am_exn.getD E "") (am_exn.getD E "")
/-- the constructors of the exceptions: aload_0; aload_1; invokespecial; return_ -/
def am_cxi (E : Nat) : Nat := if E = 3 then 13 else 7
def am_cxb (E : Nat) : ByteArray := if E = 3 then ⟨#[0x2a, 0x2b, 0xb7, 0x00, 0x0d, 0xb1]⟩ else ⟨#[0x2a, 0x2b, 0xb7, 0x00, 0x07, 0xb1]⟩
theorem am_cx0 (E : Nat) : decode (am_cxb E) 0 = .ok (.aload_n 0, 1) ∧ decode (am_cxb E) 1 = .ok (.aload_n 1, 1) ∧ decode (am_cxb E) 2 = .ok (.invokespecial (am_cxi E), 3) ∧ decode (am_cxb E) 5 = .ok (.return_, 1) := by
  unfold am_cxb am_cxi
  by_cases h : E = 3
  · rw [if_pos h, if_pos h]; decide +kernel
  · rw [if_neg h, if_neg h]; decide +kernel
/-- the throws: new; dup; ldc_w; invokespecial; athrow -/
def thchk (r : Nat × Nat × Nat × Nat × Nat × Nat × Nat) : Bool := match r with
  | (m, pc, E, ik, is, ic, k) => decide (decode (am_b m) pc = .ok (.new ik, 3)) && decide (decode (am_b m) (pc + 3) = .ok (.dup, 1)) && decide (decode (am_b m) (pc + 4) = .ok (.ldc_w is, 3)) && decide (decode (am_b m) (pc + 7) = .ok (.invokespecial ic, 3)) && decide (decode (am_b m) (pc + 10) = .ok (.athrow, 1))
    && decide ((am_strs[k - 1]?).map (fun q => (q.1, q.2.1)) = some (am_own m, is)) && decide (0 < k) && Bundle.fit (am_exn.getD E "") && decide (5 < am_fr m) && decide (90 ≤ am_lo m) && decide (E < 4) && decide (am_hh m = none)
    && (Cond.classLink (am_own m) ik (am_exn.getD E "") :: Cond.initialized (am_exn.getD E "") :: vx_atX (am_own m) ic (am_exn.getD E "") (am_cxi E) (am_cxb E) ["java/lang/RuntimeException", "java/lang/Exception"]).all (fun w => okW w && decide (w ∈ lw_tbl))
/-- what 90.chk decides of the tables -/
def TabOK : Prop := (∀ m, m < 312 → mchk m = true) ∧ (∀ m, ∀ e ∈ am_code m, tchk m e = true) ∧ (∀ m, m < 312 → hchk m = true) ∧ (∀ r ∈ am_thrs, thchk r = true) ∧ ∀ E, E < 4 → castW E ∈ lw_tbl ∧ okW (castW E) = true

