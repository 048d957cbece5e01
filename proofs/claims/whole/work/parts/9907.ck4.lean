/-- where the law's blocks begin (from pc 16 on: behind the two constructors) -/
def dh_lbp : List Nat := [16, 18, 192, 255, 288, 321, 374, 428, 452, 485, 538, 581, 615, 678, 741, 804, 847, 922, 985, 1018, 1051, 1104, 1147, 1200, 1233, 1256, 1310, 1343, 1366, 1379, 1392, 1405, 1458, 1511, 1534, 1547, 1560, 1593, 1616, 1622]
def dh_ckl (b : Nat) : Bool := dh_ckB code 4 3 12 dh_lbp (dh_lbp.getD b 0) ((dh_pt.getD 256 []).getD b [])
set_option maxRecDepth 100000 in
theorem dh_ckl0 : (List.range' 0 2).all dh_ckl = true := by decide +kernel
set_option maxRecDepth 100000 in
theorem dh_ckl1 : (List.range' 2 1).all dh_ckl = true := by decide +kernel
set_option maxRecDepth 100000 in
theorem dh_ckl2 : (List.range' 3 2).all dh_ckl = true := by decide +kernel
set_option maxRecDepth 100000 in
theorem dh_ckl3 : (List.range' 5 1).all dh_ckl = true := by decide +kernel
set_option maxRecDepth 100000 in
theorem dh_ckl4 : (List.range' 6 2).all dh_ckl = true := by decide +kernel
set_option maxRecDepth 100000 in
theorem dh_ckl5 : (List.range' 8 1).all dh_ckl = true := by decide +kernel
set_option maxRecDepth 100000 in
theorem dh_ckl6 : (List.range' 9 1).all dh_ckl = true := by decide +kernel
set_option maxRecDepth 100000 in
theorem dh_ckl7 : (List.range' 10 2).all dh_ckl = true := by decide +kernel
set_option maxRecDepth 100000 in
theorem dh_ckl8 : (List.range' 12 1).all dh_ckl = true := by decide +kernel
set_option maxRecDepth 100000 in
theorem dh_ckl9 : (List.range' 13 1).all dh_ckl = true := by decide +kernel
set_option maxRecDepth 100000 in
theorem dh_ckl10 : (List.range' 14 1).all dh_ckl = true := by decide +kernel
set_option maxRecDepth 100000 in
theorem dh_ckl11 : (List.range' 15 1).all dh_ckl = true := by decide +kernel
