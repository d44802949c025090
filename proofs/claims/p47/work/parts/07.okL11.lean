/-! the law's rows -/
set_option maxRecDepth 100000 in
theorem hm_ok196_300 : (List.range 25).all (fun i => hm_ckr 196 (300 + i)) = true := by decide +kernel
set_option maxRecDepth 100000 in
theorem hm_ok196_325 : (List.range 25).all (fun i => hm_ckr 196 (325 + i)) = true := by decide +kernel
set_option maxRecDepth 100000 in
theorem hm_ok196_350 : (List.range 25).all (fun i => hm_ckr 196 (350 + i)) = true := by decide +kernel
