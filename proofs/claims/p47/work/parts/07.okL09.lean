/-! the law's rows -/
set_option maxRecDepth 100000 in
theorem hm_ok196_150 : (List.range 25).all (fun i => hm_ckr 196 (150 + i)) = true := by decide +kernel
set_option maxRecDepth 100000 in
theorem hm_ok196_175 : (List.range 25).all (fun i => hm_ckr 196 (175 + i)) = true := by decide +kernel
set_option maxRecDepth 100000 in
theorem hm_ok196_200 : (List.range 25).all (fun i => hm_ckr 196 (200 + i)) = true := by decide +kernel
