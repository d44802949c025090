/-! the law's rows -/
set_option maxRecDepth 100000 in
theorem hm_ok196_525 : (List.range 25).all (fun i => hm_ckr 196 (525 + i)) = true := by decide +kernel
set_option maxRecDepth 100000 in
theorem hm_ok196_550 : (List.range 25).all (fun i => hm_ckr 196 (550 + i)) = true := by decide +kernel
set_option maxRecDepth 100000 in
theorem hm_ok196_575 : (List.range 24).all (fun i => hm_ckr 196 (575 + i)) = true := by decide +kernel
