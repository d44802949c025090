/-! the law's rows -/
set_option maxRecDepth 100000 in
theorem hm_ok195_150 : (List.range 25).all (fun i => hm_ckr 195 (150 + i)) = true := by decide +kernel
set_option maxRecDepth 100000 in
theorem hm_ok195_175 : (List.range 25).all (fun i => hm_ckr 195 (175 + i)) = true := by decide +kernel
set_option maxRecDepth 100000 in
theorem hm_ok195_200 : (List.range 24).all (fun i => hm_ckr 195 (200 + i)) = true := by decide +kernel
