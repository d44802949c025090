/-! the law's rows -/
set_option maxRecDepth 100000 in
theorem hm_ok196_225 : (List.range 25).all (fun i => hm_ckr 196 (225 + i)) = true := by decide +kernel
set_option maxRecDepth 100000 in
theorem hm_ok196_250 : (List.range 25).all (fun i => hm_ckr 196 (250 + i)) = true := by decide +kernel
set_option maxRecDepth 100000 in
theorem hm_ok196_275 : (List.range 25).all (fun i => hm_ckr 196 (275 + i)) = true := by decide +kernel
