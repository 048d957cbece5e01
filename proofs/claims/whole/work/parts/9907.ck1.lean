set_option maxRecDepth 100000 in
theorem dh_ckm0 : (List.range' 0 20).all dh_ckM = true := by decide +kernel
set_option maxRecDepth 100000 in
theorem dh_ckm1 : (List.range' 20 20).all dh_ckM = true := by decide +kernel
set_option maxRecDepth 100000 in
theorem dh_ckm2 : (List.range' 40 20).all dh_ckM = true := by decide +kernel
set_option maxRecDepth 100000 in
theorem dh_ckm3 : (List.range' 60 20).all dh_ckM = true := by decide +kernel
set_option maxRecDepth 100000 in
theorem dh_ckm4 : (List.range' 80 20).all dh_ckM = true := by decide +kernel
