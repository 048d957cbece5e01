set_option maxRecDepth 100000 in
theorem dh_ckl12 : (List.range' 16 1).all dh_ckl = true := by decide +kernel
set_option maxRecDepth 100000 in
theorem dh_ckl13 : (List.range' 17 1).all dh_ckl = true := by decide +kernel
set_option maxRecDepth 100000 in
theorem dh_ckl14 : (List.range' 18 2).all dh_ckl = true := by decide +kernel
set_option maxRecDepth 100000 in
theorem dh_ckl15 : (List.range' 20 1).all dh_ckl = true := by decide +kernel
set_option maxRecDepth 100000 in
theorem dh_ckl16 : (List.range' 21 1).all dh_ckl = true := by decide +kernel
set_option maxRecDepth 100000 in
theorem dh_ckl17 : (List.range' 22 1).all dh_ckl = true := by decide +kernel
set_option maxRecDepth 100000 in
theorem dh_ckl18 : (List.range' 23 2).all dh_ckl = true := by decide +kernel
set_option maxRecDepth 100000 in
theorem dh_ckl19 : (List.range' 25 1).all dh_ckl = true := by decide +kernel
set_option maxRecDepth 100000 in
theorem dh_ckl20 : (List.range' 26 5).all dh_ckl = true := by decide +kernel
set_option maxRecDepth 100000 in
theorem dh_ckl21 : (List.range' 31 1).all dh_ckl = true := by decide +kernel
set_option maxRecDepth 100000 in
theorem dh_ckl22 : (List.range' 32 2).all dh_ckl = true := by decide +kernel
set_option maxRecDepth 100000 in
theorem dh_ckl23 : (List.range' 34 6).all dh_ckl = true := by decide +kernel
