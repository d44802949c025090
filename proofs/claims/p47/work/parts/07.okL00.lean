/-! the law's rows -/
set_option maxRecDepth 100000 in
theorem hm_ok194_0 : (List.range 25).all (fun i => hm_ckr 194 (0 + i)) = true := by decide +kernel
set_option maxRecDepth 100000 in
theorem hm_ok194_25 : (List.range 25).all (fun i => hm_ckr 194 (25 + i)) = true := by decide +kernel
set_option maxRecDepth 100000 in
theorem hm_ok194_50 : (List.range 25).all (fun i => hm_ckr 194 (50 + i)) = true := by decide +kernel
