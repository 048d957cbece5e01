set_option maxRecDepth 100000 in
theorem dh_ckm5 : (List.range' 100 20).all dh_ckM = true := by decide +kernel
set_option maxRecDepth 100000 in
theorem dh_ckm6 : (List.range' 120 20).all dh_ckM = true := by decide +kernel
set_option maxRecDepth 100000 in
theorem dh_ckm7 : (List.range' 140 20).all dh_ckM = true := by decide +kernel
set_option maxRecDepth 100000 in
theorem dh_ckm8 : (List.range' 160 20).all dh_ckM = true := by decide +kernel
