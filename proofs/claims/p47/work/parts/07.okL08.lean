/-! the law's rows -/
set_option maxRecDepth 100000 in
theorem hm_ok196_75 : (List.range 25).all (fun i => hm_ckr 196 (75 + i)) = true := by decide +kernel
set_option maxRecDepth 100000 in
theorem hm_ok196_100 : (List.range 25).all (fun i => hm_ckr 196 (100 + i)) = true := by decide +kernel
set_option maxRecDepth 100000 in
theorem hm_ok196_125 : (List.range 25).all (fun i => hm_ckr 196 (125 + i)) = true := by decide +kernel
