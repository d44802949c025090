/-! the law's rows -/
set_option maxRecDepth 100000 in
theorem hm_ok195_0 : (List.range 25).all (fun i => hm_ckr 195 (0 + i)) = true := by decide +kernel
set_option maxRecDepth 100000 in
theorem hm_ok195_25 : (List.range 25).all (fun i => hm_ckr 195 (25 + i)) = true := by decide +kernel
set_option maxRecDepth 100000 in
theorem hm_ok195_50 : (List.range 25).all (fun i => hm_ckr 195 (50 + i)) = true := by decide +kernel
