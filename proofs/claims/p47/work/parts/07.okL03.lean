/-! the law's rows -/
set_option maxRecDepth 100000 in
theorem hm_ok194_186 : (List.range 23).all (fun i => hm_ckr 194 (186 + i)) = true := by decide +kernel
