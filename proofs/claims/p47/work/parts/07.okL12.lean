/-! the law's rows -/
set_option maxRecDepth 100000 in
theorem hm_ok196_375 : (List.range 25).all (fun i => hm_ckr 196 (375 + i)) = true := by decide +kernel
set_option maxRecDepth 100000 in
theorem hm_ok196_400 : (List.range 25).all (fun i => hm_ckr 196 (400 + i)) = true := by decide +kernel
set_option maxRecDepth 100000 in
theorem hm_ok196_425 : (List.range 25).all (fun i => hm_ckr 196 (425 + i)) = true := by decide +kernel
