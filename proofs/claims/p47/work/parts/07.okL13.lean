/-! the law's rows -/
set_option maxRecDepth 100000 in
theorem hm_ok196_450 : (List.range 25).all (fun i => hm_ckr 196 (450 + i)) = true := by decide +kernel
set_option maxRecDepth 100000 in
theorem hm_ok196_475 : (List.range 25).all (fun i => hm_ckr 196 (475 + i)) = true := by decide +kernel
set_option maxRecDepth 100000 in
theorem hm_ok196_500 : (List.range 25).all (fun i => hm_ckr 196 (500 + i)) = true := by decide +kernel
