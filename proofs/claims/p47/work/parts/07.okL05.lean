/-! the law's rows -/
set_option maxRecDepth 100000 in
theorem hm_ok195_75 : (List.range 25).all (fun i => hm_ckr 195 (75 + i)) = true := by decide +kernel
set_option maxRecDepth 100000 in
theorem hm_ok195_100 : (List.range 25).all (fun i => hm_ckr 195 (100 + i)) = true := by decide +kernel
set_option maxRecDepth 100000 in
theorem hm_ok195_125 : (List.range 25).all (fun i => hm_ckr 195 (125 + i)) = true := by decide +kernel
