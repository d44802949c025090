/-! the law's rows -/
set_option maxRecDepth 100000 in
theorem hm_ok194_75 : (List.range 25).all (fun i => hm_ckr 194 (75 + i)) = true := by decide +kernel
set_option maxRecDepth 100000 in
theorem hm_ok194_100 : (List.range 25).all (fun i => hm_ckr 194 (100 + i)) = true := by decide +kernel
set_option maxRecDepth 100000 in
theorem hm_ok194_125 : (List.range 25).all (fun i => hm_ckr 194 (125 + i)) = true := by decide +kernel
