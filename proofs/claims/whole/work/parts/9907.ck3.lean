set_option maxRecDepth 100000 in
theorem dh_ckm9 : (List.range' 180 20).all dh_ckM = true := by decide +kernel
set_option maxRecDepth 100000 in
theorem dh_ckm10 : (List.range' 200 20).all dh_ckM = true := by decide +kernel
set_option maxRecDepth 100000 in
theorem dh_ckm11 : (List.range' 220 20).all dh_ckM = true := by decide +kernel
set_option maxRecDepth 100000 in
theorem dh_ckm12 : (List.range' 240 16).all dh_ckM = true := by decide +kernel
