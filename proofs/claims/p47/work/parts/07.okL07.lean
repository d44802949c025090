/-! the law's rows -/
set_option maxRecDepth 100000 in
theorem hm_ok196_0 : (List.range 25).all (fun i => hm_ckr 196 (0 + i)) = true := by decide +kernel
set_option maxRecDepth 100000 in
theorem hm_ok196_25 : (List.range 25).all (fun i => hm_ckr 196 (25 + i)) = true := by decide +kernel
set_option maxRecDepth 100000 in
theorem hm_ok196_50 : (List.range 25).all (fun i => hm_ckr 196 (50 + i)) = true := by decide +kernel
