/-- of each method: the places of the words on its code, its class, what it is, which one a call selects -/
def dh_wm : List (Nat × Nat × Nat × Nat) := [(1057, 159, 1056, 89), (560, 161, 559, 20), (622, 161, 621, 28), (630, 161, 629, 30), (665, 161, 664, 37), (626, 161, 625, 29), (732, 161, 731, 45), (1029, 161, 1028, 87), (483, 153, 482, 3), (487, 153, 486, 4), (505, 153, 504, 7), (540, 153, 539, 15), (544, 153, 543, 16), (517, 153, 516, 10), (521, 153, 520, 11), (525, 153, 524, 12), (509, 153, 508, 8), (529, 153, 528, 13), (513, 153, 512, 9), (741, 158, 740, 46), (746, 158, 745, 47), (770, 158, 769, 51), (775, 158, 774, 52), (782, 158, 781, 53), (786, 158, 785, 54), (909, 158, 908, 72), (913, 158, 912, 73), (922, 158, 921, 74), (938, 158, 937, 77), (926, 158, 925, 75), (930, 158, 929, 76), (933, 158, 932, 0), (799, 157, 798, 55), (804, 157, 803, 56), (808, 157, 807, 57), (818, 157, 817, 58), (824, 157, 823, 59), (829, 157, 828, 60), (840, 157, 839, 61), (848, 157, 847, 62), (852, 157, 851, 63), (861, 157, 860, 64), (869, 157, 868, 66), (865, 157, 864, 65), (872, 157, 871, 0), (501, 154, 500, 6), (564, 154, 563, 21), (533, 154, 532, 14), (548, 154, 547, 17), (552, 154, 551, 18), (638, 154, 637, 31), (661, 154, 660, 36), (642, 154, 641, 32), (646, 154, 645, 33), (650, 154, 649, 34), (655, 154, 654, 35), (1013, 160, 1012, 85), (1021, 160, 1020, 86), (1049, 160, 1048, 88), (1077, 160, 1076, 90), (602, 155, 601, 25), (583, 155, 582, 23), (598, 155, 597, 24), (586, 155, 585, 0), (591, 155, 590, 0), (973, 155, 972, 82), (965, 155, 964, 80), (969, 155, 968, 81), (961, 155, 960, 79), (984, 155, 983, 83), (467, 152, 466, 0), (471, 152, 470, 1), (497, 152, 496, 5), (556, 152, 555, 19), (686, 156, 685, 38), (692, 156, 691, 39), (758, 156, 757, 49), (762, 156, 761, 50), (708, 156, 707, 41), (724, 156, 723, 44), (712, 156, 711, 42), (716, 156, 715, 43), (882, 156, 881, 67), (886, 156, 885, 68), (897, 156, 896, 70), (901, 156, 900, 71), (893, 156, 892, 69), (463, 151, 461, 462), (475, 151, 473, 474), (575, 151, 573, 574), (607, 151, 605, 606), (703, 151, 701, 702), (728, 151, 726, 727), (737, 151, 735, 736), (750, 151, 748, 749), (766, 151, 764, 765), (790, 151, 788, 789), (795, 151, 793, 794), (814, 151, 812, 813), (836, 151, 834, 835), (844, 151, 842, 843), (857, 151, 855, 856), (878, 151, 876, 877), (905, 151, 903, 904), (918, 151, 916, 917), (942, 151, 940, 941), (946, 151, 944, 945), (950, 151, 948, 949), (980, 151, 978, 979), (988, 151, 986, 987), (996, 151, 994, 995), (1009, 151, 1007, 1008), (1017, 151, 1015, 1016), (1025, 151, 1023, 1024), (1034, 151, 1032, 1033), (1045, 151, 1043, 1044), (1053, 151, 1051, 1052), (1065, 151, 1063, 1064), (1069, 151, 1067, 1068), (1073, 151, 1071, 1072), (1082, 151, 1080, 1081), (1086, 151, 1084, 1085), (1091, 151, 1089, 1090), (1095, 151, 1094, 91), (1099, 151, 1098, 92), (1103, 151, 1102, 93), (479, 151, 478, 2), (615, 151, 614, 27), (611, 151, 610, 26), (579, 151, 578, 22), (954, 151, 953, 78), (992, 151, 991, 84), (699, 151, 698, 40), (754, 151, 753, 48), (832, 151, 831, 0), (618, 151, 617, 0), (957, 151, 956, 0), (536, 151, 535, 0), (594, 151, 593, 0), (634, 151, 633, 0), (672, 151, 671, 0), (669, 151, 668, 0), (675, 151, 674, 0), (1037, 151, 1036, 0), (1041, 151, 1040, 0), (1001, 151, 1000, 0), (1302, 162, 1301, 0), (1403, 162, 1402, 0), (1469, 162, 1468, 0), (1417, 162, 1416, 0), (1453, 162, 1452, 0), (1447, 162, 1446, 0), (1450, 162, 1449, 0), (1441, 162, 1440, 122), (1614, 162, 1613, 141), (1444, 162, 1443, 0), (1410, 162, 1409, 0), (1457, 162, 1456, 123), (1421, 162, 1420, 119), (1295, 162, 1294, 94), (1291, 162, 1289, 1290), (1310, 162, 1309, 96), (1331, 162, 1330, 101), (1314, 162, 1313, 97), (1381, 162, 1380, 112), (1335, 162, 1334, 102), (1339, 162, 1338, 103), (1326, 162, 1325, 100), (1353, 162, 1352, 105), (1342, 162, 1341, 0), (1345, 162, 1344, 0), (1349, 162, 1348, 104), (1322, 162, 1321, 99), (1357, 162, 1356, 106), (1318, 162, 1317, 98), (1369, 162, 1368, 109), (1373, 162, 1372, 110), (1377, 162, 1376, 111), (1365, 162, 1364, 108), (1361, 162, 1360, 107), (1306, 162, 1305, 95), (1299, 162, 1297, 1298), (1400, 162, 1399, 0), (1397, 162, 1396, 116), (1393, 162, 1392, 115), (1389, 162, 1388, 114), (1407, 162, 1406, 117), (1385, 162, 1384, 113), (1414, 162, 1413, 118), (1429, 162, 1428, 120), (1425, 162, 1423, 1424), (1433, 162, 1432, 121), (1461, 162, 1460, 124), (1465, 162, 1464, 125), (1472, 162, 1471, 0), (1477, 162, 1476, 126), (1437, 162, 1435, 1436), (1481, 162, 1479, 1480), (1486, 162, 1484, 1485), (1493, 162, 1492, 0), (1490, 162, 1488, 1489), (1497, 162, 1495, 1496), (1501, 162, 1499, 1500), (1513, 162, 1512, 128), (1518, 162, 1517, 129), (1509, 162, 1508, 127), (1522, 162, 1521, 130), (1505, 162, 1503, 1504), (1527, 162, 1525, 1526), (1534, 162, 1533, 0), (1538, 162, 1537, 131), (1531, 162, 1529, 1530), (1546, 162, 1545, 132), (1542, 162, 1540, 1541), (1554, 162, 1553, 133), (1550, 162, 1548, 1549), (1562, 162, 1561, 134), (1558, 162, 1556, 1557), (1570, 162, 1569, 135), (1574, 162, 1573, 136), (1566, 162, 1564, 1565), (1582, 162, 1581, 137), (1578, 162, 1576, 1577), (1590, 162, 1589, 138), (1586, 162, 1584, 1585), (1602, 162, 1601, 140), (1598, 162, 1597, 139), (1594, 162, 1592, 1593), (1606, 162, 1604, 1605), (1618, 162, 1617, 142), (1610, 162, 1608, 1609), (1622, 162, 1620, 1621), (1626, 162, 1624, 1625), (1630, 162, 1629, 143), (1638, 162, 1637, 0), (1635, 162, 1633, 1634), (1651, 162, 1650, 144), (1655, 162, 1654, 145), (1659, 162, 1658, 146), (1643, 162, 1641, 1642), (1647, 162, 1645, 1646), (1667, 162, 1666, 147), (1675, 162, 1674, 148), (1663, 162, 1661, 1662), (1671, 162, 1669, 1670), (1680, 162, 1678, 1679), (1688, 162, 1687, 149), (1684, 162, 1682, 1683), (1692, 162, 1690, 1691), (1696, 162, 1694, 1695), (1701, 162, 1699, 1700), (1705, 162, 1703, 1704), (1709, 162, 1707, 1708), (1713, 162, 1711, 1712), (678, 166, 677, 0), (571, 165, 570, 0)]
def dh_has (i : Nat) (w : Cond) : Bool := decide (lw_tbl[i]? = some w) && goodWord w
theorem dh_has_in {i : Nat} {w : Cond} (h : dh_has i w = true) : w ∈ dh_B := by
  simp only [dh_has, Bool.and_eq_true, decide_eq_true_eq] at h
  exact dh_B_at i h.1 h.2
def dh_hasN (n : Bool) (i : Nat) (w : Cond) : Bool := if n then decide (lw_tbl[i]? = some w) else dh_has i w
theorem dh_hasN_in {i : Nat} {w : Cond} (h : dh_hasN true i w = true) (hw : dh_nest w = true) : w ∈ dh_N := by
  simp only [dh_hasN, if_true, decide_eq_true_eq] at h
  exact List.mem_filter.mpr ⟨List.mem_of_getElem? h, hw⟩
def dh_rtc (rtc : Nat) (ret : Option FieldType) : Bool := match rtc, ret with
  | 0, some .int => true
  | 1, some .long => true
  | 2, some (.object _) => true
  | 3, some .boolean => true
  | 4, none => true
  | _, _ => false
def dh_okm (mn : Nat) : Bool := match dh_mt[mn]?, dh_wm[mn]? with
  | some (y, cc, nL, ret, n, st, own, bp, rtc), some (a, b, c, d) =>
    decide (a = a) && (dh_has b (.initialized y.cls) && ((if st then dh_has c (.static y) else dh_has c (.instanceMethod y) && (dh_has d (.selects y.cls y y) && decide (own < 12))) && (decide (y.cls ≠ "java/lang/invoke/MethodHandle" ∧ y.cls ≠ "java/lang/invoke/VarHandle") && (decide ((parseMethodDescriptor y.desc).map (fun d => d.parameters.length) = some n) && (Jvm.plainName y.cls && (decide (nL ≤ 30) && (decide (dh_cn own = y.cls) && (dh_rtc rtc ret && decide (bp[0]? = some 0)))))))))
  | _, _ => false
def dh_fw (e : Nat × Nat × Nat × Nat × Nat) : Cond :=
  if e.1 = e.2.2.1 then .fieldLink (dh_cn e.1) e.2.1 (vwCl.getD e.2.2.1 (RX0, TX0, 2)).1 ((vwCl.getD e.2.2.1 (RX0, TX0, 2)).2.1 e.2.2.2.1).2.1 ((vwCl.getD e.2.2.1 (RX0, TX0, 2)).2.1 e.2.2.2.1).2.2.1
  else .fieldLinkNest (dh_cn e.1) e.2.1 (vwCl.getD e.2.2.1 (RX0, TX0, 2)).1 ((vwCl.getD e.2.2.1 (RX0, TX0, 2)).2.1 e.2.2.2.1).2.1 ((vwCl.getD e.2.2.1 (RX0, TX0, 2)).2.1 e.2.2.2.1).2.2.1 "DoubleHeap"
/-- a field of the pool: its word, its slot, its own class, and of an int or boolean that it isn't final -/
def dh_okf (e : Nat × Nat × Nat × Nat × Nat) : Bool :=
  dh_hasN (decide (e.1 ≠ e.2.2.1)) e.2.2.2.2 (dh_fw e) && (decide (e.2.2.1 < 12) && (decide (e.2.2.2.1 < (vwCl.getD e.2.2.1 (RX0, TX0, 2)).2.2) && (decide (((vwCl.getD e.2.2.1 (RX0, TX0, 2)).2.1 e.2.2.2.1).1 = (vwCl.getD e.2.2.1 (RX0, TX0, 2)).1) &&
    (match (dh_fk e.2.2.1)[e.2.2.2.1]? with
      | some (0, _) => decide (((vwCl.getD e.2.2.1 (RX0, TX0, 2)).2.1 e.2.2.2.1).2.2.2 = false ∧ parseFieldDescriptor ((vwCl.getD e.2.2.1 (RX0, TX0, 2)).2.1 e.2.2.2.1).2.2.1 = some .int)
      | some (1, _) => decide (((vwCl.getD e.2.2.1 (RX0, TX0, 2)).2.1 e.2.2.2.1).2.2.2 = false ∧ parseFieldDescriptor ((vwCl.getD e.2.2.1 (RX0, TX0, 2)).2.1 e.2.2.2.1).2.2.1 = some .boolean)
      | some (3, _) => true
      | _ => false))))
def dh_lw (e : Nat × Nat × Nat × Nat × Nat) : Cond := match dh_mt[e.2.2.1]? with
  | some mi => if e.2.2.2.1 = 0 then .methodLink (dh_cn e.1) e.2.1 mi.1 else .methodLinkNest (dh_cn e.1) e.2.1 mi.1 "DoubleHeap"
  | none => .initialized ""
def dh_okl (e : Nat × Nat × Nat × Nat × Nat) : Bool := dh_hasN (decide (e.2.2.2.1 ≠ 0)) e.2.2.2.2 (dh_lw e) && decide (e.2.2.1 < 256)
def dh_okc (e : Nat × Nat × Int × Nat) : Bool := dh_has e.2.2.2 (.constant (dh_cn e.1) e.2.1 (Int32.ofInt e.2.2.1)) && decide ((Int32.ofInt e.2.2.1).toInt = e.2.2.1)
def dh_okL (e : Nat × Nat × Int × Nat) : Bool := dh_has e.2.2.2 (.constantLong (dh_cn e.1) e.2.1 (Int64.ofInt e.2.2.1))
def dh_oky (e : Nat × Nat × Nat) : Bool := dh_has e.2.2 (.methodLink (dh_cn e.1) e.2.1 arraycopyName)
def dh_hw (own idx a : Nat) : Cond := match a with
  | 0 => .methodLink (dh_cn own) idx Lib.Math.max.name
  | 1 => .methodLink (dh_cn own) idx Lib.Math.min.name
  | 2 => .methodLink (dh_cn own) idx Lib.MathLoose.max_long.x
  | _ => .methodLink (dh_cn own) idx Lib.MathLoose.min_long.x
def dh_okh (e : Nat × Nat × Nat × Nat) : Bool := dh_has e.2.2.2 (dh_hw e.1 e.2.1 e.2.2.1)
set_option maxRecDepth 100000 in
theorem dh_okm0 : (List.range' 0 64).all dh_okm = true := by decide +kernel
set_option maxRecDepth 100000 in
theorem dh_okm1 : (List.range' 64 64).all dh_okm = true := by decide +kernel
set_option maxRecDepth 100000 in
theorem dh_okm2 : (List.range' 128 64).all dh_okm = true := by decide +kernel
set_option maxRecDepth 100000 in
theorem dh_okm3 : (List.range' 192 64).all dh_okm = true := by decide +kernel
set_option maxRecDepth 100000 in
theorem dh_okf_all : dh_fl.all dh_okf = true := by decide +kernel
set_option maxRecDepth 100000 in
theorem dh_okl_all : dh_ml.all dh_okl = true := by decide +kernel
set_option maxRecDepth 100000 in
theorem dh_okc_all : dh_cl.all dh_okc = true := by decide +kernel
set_option maxRecDepth 100000 in
theorem dh_okL_all : dh_ll.all dh_okL = true := by decide +kernel
set_option maxRecDepth 100000 in
theorem dh_oky_all : dh_yl.all dh_oky = true := by decide +kernel
set_option maxRecDepth 100000 in
theorem dh_okh_all : dh_hl.all dh_okh = true := by decide +kernel
set_option maxRecDepth 100000 in
theorem dh_w_nat : (.native arraycopyName : Cond) ∈ dh_B := dh_has_in (i := 567) (by decide +kernel)
set_option maxRecDepth 100000 in
theorem dh_w_sta : (.static arraycopyName : Cond) ∈ dh_B := dh_has_in (i := 566) (by decide +kernel)
set_option maxRecDepth 100000 in
theorem dh_w_sys : (.initialized "java/lang/System" : Cond) ∈ dh_B := dh_has_in (i := 164) (by decide +kernel)
set_option maxRecDepth 100000 in
theorem dh_w_mat : (.initialized "java/lang/Math" : Cond) ∈ dh_B := dh_has_in (i := 163) (by decide +kernel)
set_option maxRecDepth 100000 in
theorem dh_w_ms0 : (.static Lib.Math.max.name : Cond) ∈ dh_B := dh_has_in (i := 492) (by decide +kernel)
set_option maxRecDepth 100000 in
theorem dh_w_mc0 : (.code Lib.Math.max.name Lib.Math.max.code 2 (some .int) : Cond) ∈ dh_B := dh_B_at 493 rfl rfl
set_option maxRecDepth 100000 in
theorem dh_w_ms1 : (.static Lib.Math.min.name : Cond) ∈ dh_B := dh_has_in (i := 489) (by decide +kernel)
set_option maxRecDepth 100000 in
theorem dh_w_mc1 : (.code Lib.Math.min.name Lib.Math.min.code 2 (some .int) : Cond) ∈ dh_B := dh_B_at 490 rfl rfl
set_option maxRecDepth 100000 in
theorem dh_w_ms2 : (.static Lib.MathLoose.max_long.x : Cond) ∈ dh_B := dh_has_in (i := 1003) (by decide +kernel)
set_option maxRecDepth 100000 in
theorem dh_w_mc2 : (.code Lib.MathLoose.max_long.x Lib.MathLoose.max_long.code 4 (some .long) : Cond) ∈ dh_B := dh_B_at 1004 rfl rfl
set_option maxRecDepth 100000 in
theorem dh_w_ms3 : (.static Lib.MathLoose.min_long.x : Cond) ∈ dh_B := dh_has_in (i := 719) (by decide +kernel)
set_option maxRecDepth 100000 in
theorem dh_w_mc3 : (.code Lib.MathLoose.min_long.x Lib.MathLoose.min_long.code 4 (some .long) : Cond) ∈ dh_B := dh_B_at 720 rfl rfl
set_option maxRecDepth 100000 in
theorem dh_u0 : ∀ w ∈ u_ws RX0 TX0 2, w ∈ dh_B := by
  intro w hw
  have h : (u_ws RX0 TX0 2).all (fun w => lw_tbl.any (fun v => decide (v = w)) && goodWord w) = true := by decide +kernel
  have h2 := List.all_eq_true.mp h w hw
  simp only [Bool.and_eq_true, List.any_eq_true, decide_eq_true_eq] at h2
  obtain ⟨⟨v, hv, e⟩, hg⟩ := h2
  exact List.mem_filter.mpr ⟨e ▸ hv, hg⟩
set_option maxRecDepth 100000 in
theorem dh_u1 : ∀ w ∈ u_ws RX1 TX1 5, w ∈ dh_B := by
  intro w hw
  have h : (u_ws RX1 TX1 5).all (fun w => lw_tbl.any (fun v => decide (v = w)) && goodWord w) = true := by decide +kernel
  have h2 := List.all_eq_true.mp h w hw
  simp only [Bool.and_eq_true, List.any_eq_true, decide_eq_true_eq] at h2
  obtain ⟨⟨v, hv, e⟩, hg⟩ := h2
  exact List.mem_filter.mpr ⟨e ▸ hv, hg⟩
set_option maxRecDepth 100000 in
theorem dh_u2 : ∀ w ∈ u_ws RX2 TX2 5, w ∈ dh_B := by
  intro w hw
  have h : (u_ws RX2 TX2 5).all (fun w => lw_tbl.any (fun v => decide (v = w)) && goodWord w) = true := by decide +kernel
  have h2 := List.all_eq_true.mp h w hw
  simp only [Bool.and_eq_true, List.any_eq_true, decide_eq_true_eq] at h2
  obtain ⟨⟨v, hv, e⟩, hg⟩ := h2
  exact List.mem_filter.mpr ⟨e ▸ hv, hg⟩
set_option maxRecDepth 100000 in
theorem dh_u3 : ∀ w ∈ u_ws RX3 TX3 5, w ∈ dh_B := by
  intro w hw
  have h : (u_ws RX3 TX3 5).all (fun w => lw_tbl.any (fun v => decide (v = w)) && goodWord w) = true := by decide +kernel
  have h2 := List.all_eq_true.mp h w hw
  simp only [Bool.and_eq_true, List.any_eq_true, decide_eq_true_eq] at h2
  obtain ⟨⟨v, hv, e⟩, hg⟩ := h2
  exact List.mem_filter.mpr ⟨e ▸ hv, hg⟩
set_option maxRecDepth 100000 in
theorem dh_u4 : ∀ w ∈ u_ws RX4 TX4 5, w ∈ dh_B := by
  intro w hw
  have h : (u_ws RX4 TX4 5).all (fun w => lw_tbl.any (fun v => decide (v = w)) && goodWord w) = true := by decide +kernel
  have h2 := List.all_eq_true.mp h w hw
  simp only [Bool.and_eq_true, List.any_eq_true, decide_eq_true_eq] at h2
  obtain ⟨⟨v, hv, e⟩, hg⟩ := h2
  exact List.mem_filter.mpr ⟨e ▸ hv, hg⟩
set_option maxRecDepth 100000 in
theorem dh_u5 : ∀ w ∈ u_ws RX5 TX5 10, w ∈ dh_B := by
  intro w hw
  have h : (u_ws RX5 TX5 10).all (fun w => lw_tbl.any (fun v => decide (v = w)) && goodWord w) = true := by decide +kernel
  have h2 := List.all_eq_true.mp h w hw
  simp only [Bool.and_eq_true, List.any_eq_true, decide_eq_true_eq] at h2
  obtain ⟨⟨v, hv, e⟩, hg⟩ := h2
  exact List.mem_filter.mpr ⟨e ▸ hv, hg⟩
set_option maxRecDepth 100000 in
theorem dh_u6 : ∀ w ∈ u_ws RX6 TX6 5, w ∈ dh_B := by
  intro w hw
  have h : (u_ws RX6 TX6 5).all (fun w => lw_tbl.any (fun v => decide (v = w)) && goodWord w) = true := by decide +kernel
  have h2 := List.all_eq_true.mp h w hw
  simp only [Bool.and_eq_true, List.any_eq_true, decide_eq_true_eq] at h2
  obtain ⟨⟨v, hv, e⟩, hg⟩ := h2
  exact List.mem_filter.mpr ⟨e ▸ hv, hg⟩
set_option maxRecDepth 100000 in
theorem dh_u7 : ∀ w ∈ u_ws RX7 TX7 5, w ∈ dh_B := by
  intro w hw
  have h : (u_ws RX7 TX7 5).all (fun w => lw_tbl.any (fun v => decide (v = w)) && goodWord w) = true := by decide +kernel
  have h2 := List.all_eq_true.mp h w hw
  simp only [Bool.and_eq_true, List.any_eq_true, decide_eq_true_eq] at h2
  obtain ⟨⟨v, hv, e⟩, hg⟩ := h2
  exact List.mem_filter.mpr ⟨e ▸ hv, hg⟩
set_option maxRecDepth 100000 in
theorem dh_u8 : ∀ w ∈ u_ws RX8 TX8 2, w ∈ dh_B := by
  intro w hw
  have h : (u_ws RX8 TX8 2).all (fun w => lw_tbl.any (fun v => decide (v = w)) && goodWord w) = true := by decide +kernel
  have h2 := List.all_eq_true.mp h w hw
  simp only [Bool.and_eq_true, List.any_eq_true, decide_eq_true_eq] at h2
  obtain ⟨⟨v, hv, e⟩, hg⟩ := h2
  exact List.mem_filter.mpr ⟨e ▸ hv, hg⟩
set_option maxRecDepth 100000 in
theorem dh_u9 : ∀ w ∈ u_ws RX9 TX9 5, w ∈ dh_B := by
  intro w hw
  have h : (u_ws RX9 TX9 5).all (fun w => lw_tbl.any (fun v => decide (v = w)) && goodWord w) = true := by decide +kernel
  have h2 := List.all_eq_true.mp h w hw
  simp only [Bool.and_eq_true, List.any_eq_true, decide_eq_true_eq] at h2
  obtain ⟨⟨v, hv, e⟩, hg⟩ := h2
  exact List.mem_filter.mpr ⟨e ▸ hv, hg⟩
set_option maxRecDepth 100000 in
theorem dh_u10 : ∀ w ∈ u_ws RX10 TX10 14, w ∈ dh_B := by
  intro w hw
  have h : (u_ws RX10 TX10 14).all (fun w => lw_tbl.any (fun v => decide (v = w)) && goodWord w) = true := by decide +kernel
  have h2 := List.all_eq_true.mp h w hw
  simp only [Bool.and_eq_true, List.any_eq_true, decide_eq_true_eq] at h2
  obtain ⟨⟨v, hv, e⟩, hg⟩ := h2
  exact List.mem_filter.mpr ⟨e ▸ hv, hg⟩
set_option maxRecDepth 100000 in
theorem dh_u11 : ∀ w ∈ u_ws RX11 TX11 58, w ∈ dh_B := by
  intro w hw
  have h : (u_ws RX11 TX11 58).all (fun w => lw_tbl.any (fun v => decide (v = w)) && goodWord w) = true := by decide +kernel
  have h2 := List.all_eq_true.mp h w hw
  simp only [Bool.and_eq_true, List.any_eq_true, decide_eq_true_eq] at h2
  obtain ⟨⟨v, hv, e⟩, hg⟩ := h2
  exact List.mem_filter.mpr ⟨e ▸ hv, hg⟩
