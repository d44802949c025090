/-! each row is the code's, further -/
set_option maxRecDepth 100000 in
theorem hm_ok100 : ∀ pc, hm_ckr 100 pc = true := hm_okl hm_j100 (fun _ => rfl) (N := 33) (by decide +kernel)
set_option maxRecDepth 100000 in
theorem hm_ok101 : ∀ pc, hm_ckr 101 pc = true := hm_okl hm_j101 (fun _ => rfl) (N := 5) (by decide +kernel)
set_option maxRecDepth 100000 in
theorem hm_ok102 : ∀ pc, hm_ckr 102 pc = true := hm_okl hm_j102 (fun _ => rfl) (N := 5) (by decide +kernel)
set_option maxRecDepth 100000 in
theorem hm_ok103 : ∀ pc, hm_ckr 103 pc = true := hm_okl hm_j103 (fun _ => rfl) (N := 14) (by decide +kernel)
set_option maxRecDepth 100000 in
theorem hm_ok104 : ∀ pc, hm_ckr 104 pc = true := hm_okl hm_j104 (fun _ => rfl) (N := 109) (by decide +kernel)
set_option maxRecDepth 100000 in
theorem hm_ok105 : ∀ pc, hm_ckr 105 pc = true := hm_okl hm_j105 (fun _ => rfl) (N := 26) (by decide +kernel)
set_option maxRecDepth 100000 in
theorem hm_ok106 : ∀ pc, hm_ckr 106 pc = true := hm_okl hm_j106 (fun _ => rfl) (N := 22) (by decide +kernel)
set_option maxRecDepth 100000 in
theorem hm_ok107 : ∀ pc, hm_ckr 107 pc = true := hm_okl hm_j107 (fun _ => rfl) (N := 37) (by decide +kernel)
set_option maxRecDepth 100000 in
theorem hm_ok108 : ∀ pc, hm_ckr 108 pc = true := hm_okl hm_j108 (fun _ => rfl) (N := 51) (by decide +kernel)
set_option maxRecDepth 100000 in
theorem hm_ok109 : ∀ pc, hm_ckr 109 pc = true := hm_okl hm_j109 (fun _ => rfl) (N := 68) (by decide +kernel)
set_option maxRecDepth 100000 in
theorem hm_ok110 : ∀ pc, hm_ckr 110 pc = true := hm_okl hm_j110 (fun _ => rfl) (N := 113) (by decide +kernel)
set_option maxRecDepth 100000 in
theorem hm_ok111 : ∀ pc, hm_ckr 111 pc = true := hm_okl hm_j111 (fun _ => rfl) (N := 11) (by decide +kernel)
set_option maxRecDepth 100000 in
theorem hm_ok112 : ∀ pc, hm_ckr 112 pc = true := hm_okl hm_j112 (fun _ => rfl) (N := 5) (by decide +kernel)
set_option maxRecDepth 100000 in
theorem hm_ok113 : ∀ pc, hm_ckr 113 pc = true := hm_okl hm_j113 (fun _ => rfl) (N := 5) (by decide +kernel)
set_option maxRecDepth 100000 in
theorem hm_ok114 : ∀ pc, hm_ckr 114 pc = true := hm_okl hm_j114 (fun _ => rfl) (N := 9) (by decide +kernel)
set_option maxRecDepth 100000 in
theorem hm_ok115 : ∀ pc, hm_ckr 115 pc = true := hm_okl hm_j115 (fun _ => rfl) (N := 9) (by decide +kernel)
set_option maxRecDepth 100000 in
theorem hm_ok116 : ∀ pc, hm_ckr 116 pc = true := hm_okl hm_j116 (fun _ => rfl) (N := 9) (by decide +kernel)
set_option maxRecDepth 100000 in
theorem hm_ok117 : ∀ pc, hm_ckr 117 pc = true := hm_okl hm_j117 (fun _ => rfl) (N := 11) (by decide +kernel)
set_option maxRecDepth 100000 in
theorem hm_ok118 : ∀ pc, hm_ckr 118 pc = true := hm_okl hm_j118 (fun _ => rfl) (N := 31) (by decide +kernel)
set_option maxRecDepth 100000 in
theorem hm_ok119 : ∀ pc, hm_ckr 119 pc = true := hm_okl hm_j119 (fun _ => rfl) (N := 13) (by decide +kernel)
set_option maxRecDepth 100000 in
theorem hm_ok120 : ∀ pc, hm_ckr 120 pc = true := hm_okl hm_j120 (fun _ => rfl) (N := 84) (by decide +kernel)
set_option maxRecDepth 100000 in
theorem hm_ok121 : ∀ pc, hm_ckr 121 pc = true := hm_okl hm_j121 (fun _ => rfl) (N := 20) (by decide +kernel)
set_option maxRecDepth 100000 in
theorem hm_ok122 : ∀ pc, hm_ckr 122 pc = true := hm_okl hm_j122 (fun _ => rfl) (N := 84) (by decide +kernel)
set_option maxRecDepth 100000 in
theorem hm_ok123 : ∀ pc, hm_ckr 123 pc = true := hm_okl hm_j123 (fun _ => rfl) (N := 18) (by decide +kernel)
set_option maxRecDepth 100000 in
theorem hm_ok124 : ∀ pc, hm_ckr 124 pc = true := hm_okl hm_j124 (fun _ => rfl) (N := 53) (by decide +kernel)
set_option maxRecDepth 100000 in
theorem hm_ok125 : ∀ pc, hm_ckr 125 pc = true := hm_okl hm_j125 (fun _ => rfl) (N := 35) (by decide +kernel)
set_option maxRecDepth 100000 in
theorem hm_ok126 : ∀ pc, hm_ckr 126 pc = true := hm_okl hm_j126 (fun _ => rfl) (N := 49) (by decide +kernel)
set_option maxRecDepth 100000 in
theorem hm_ok127 : ∀ pc, hm_ckr 127 pc = true := hm_okl hm_j127 (fun _ => rfl) (N := 23) (by decide +kernel)
set_option maxRecDepth 100000 in
theorem hm_ok128 : ∀ pc, hm_ckr 128 pc = true := hm_okl hm_j128 (fun _ => rfl) (N := 46) (by decide +kernel)
set_option maxRecDepth 100000 in
theorem hm_ok129 : ∀ pc, hm_ckr 129 pc = true := hm_okl hm_j129 (fun _ => rfl) (N := 46) (by decide +kernel)
set_option maxRecDepth 100000 in
theorem hm_ok130 : ∀ pc, hm_ckr 130 pc = true := hm_okl hm_j130 (fun _ => rfl) (N := 45) (by decide +kernel)
set_option maxRecDepth 100000 in
theorem hm_ok131 : ∀ pc, hm_ckr 131 pc = true := hm_okl hm_j131 (fun _ => rfl) (N := 39) (by decide +kernel)
set_option maxRecDepth 100000 in
theorem hm_ok132 : ∀ pc, hm_ckr 132 pc = true := hm_okl hm_j132 (fun _ => rfl) (N := 59) (by decide +kernel)
set_option maxRecDepth 100000 in
theorem hm_ok133 : ∀ pc, hm_ckr 133 pc = true := hm_okl hm_j133 (fun _ => rfl) (N := 5) (by decide +kernel)
set_option maxRecDepth 100000 in
theorem hm_ok134 : ∀ pc, hm_ckr 134 pc = true := hm_okl hm_j134 (fun _ => rfl) (N := 5) (by decide +kernel)
set_option maxRecDepth 100000 in
theorem hm_ok135 : ∀ pc, hm_ckr 135 pc = true := hm_okl hm_j135 (fun _ => rfl) (N := 5) (by decide +kernel)
set_option maxRecDepth 100000 in
theorem hm_ok136 : ∀ pc, hm_ckr 136 pc = true := hm_okl hm_j136 (fun _ => rfl) (N := 5) (by decide +kernel)
set_option maxRecDepth 100000 in
theorem hm_ok137 : ∀ pc, hm_ckr 137 pc = true := hm_okl hm_j137 (fun _ => rfl) (N := 5) (by decide +kernel)
set_option maxRecDepth 100000 in
theorem hm_ok138 : ∀ pc, hm_ckr 138 pc = true := hm_okl hm_j138 (fun _ => rfl) (N := 9) (by decide +kernel)
set_option maxRecDepth 100000 in
theorem hm_ok139 : ∀ pc, hm_ckr 139 pc = true := hm_okl hm_j139 (fun _ => rfl) (N := 34) (by decide +kernel)
set_option maxRecDepth 100000 in
theorem hm_ok140 : ∀ pc, hm_ckr 140 pc = true := hm_okl hm_j140 (fun _ => rfl) (N := 13) (by decide +kernel)
set_option maxRecDepth 100000 in
theorem hm_ok141 : ∀ pc, hm_ckr 141 pc = true := hm_okl hm_j141 (fun _ => rfl) (N := 53) (by decide +kernel)
set_option maxRecDepth 100000 in
theorem hm_ok142 : ∀ pc, hm_ckr 142 pc = true := hm_okl hm_j142 (fun _ => rfl) (N := 54) (by decide +kernel)
set_option maxRecDepth 100000 in
theorem hm_ok143 : ∀ pc, hm_ckr 143 pc = true := hm_okl hm_j143 (fun _ => rfl) (N := 7) (by decide +kernel)
set_option maxRecDepth 100000 in
theorem hm_ok144 : ∀ pc, hm_ckr 144 pc = true := hm_okl hm_j144 (fun _ => rfl) (N := 13) (by decide +kernel)
set_option maxRecDepth 100000 in
theorem hm_ok145 : ∀ pc, hm_ckr 145 pc = true := hm_okl hm_j145 (fun _ => rfl) (N := 63) (by decide +kernel)
set_option maxRecDepth 100000 in
theorem hm_ok146 : ∀ pc, hm_ckr 146 pc = true := hm_okl hm_j146 (fun _ => rfl) (N := 21) (by decide +kernel)
set_option maxRecDepth 100000 in
theorem hm_ok147 : ∀ pc, hm_ckr 147 pc = true := hm_okl hm_j147 (fun _ => rfl) (N := 49) (by decide +kernel)
set_option maxRecDepth 100000 in
theorem hm_ok148 : ∀ pc, hm_ckr 148 pc = true := hm_okl hm_j148 (fun _ => rfl) (N := 36) (by decide +kernel)
set_option maxRecDepth 100000 in
theorem hm_ok149 : ∀ pc, hm_ckr 149 pc = true := hm_okl hm_j149 (fun _ => rfl) (N := 37) (by decide +kernel)
