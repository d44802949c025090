/-! each row is the code's, further -/
set_option maxRecDepth 100000 in
theorem hm_ok150 : ∀ pc, hm_ckr 150 pc = true := hm_okl hm_j150 (fun _ => rfl) (N := 100) (by decide +kernel)
set_option maxRecDepth 100000 in
theorem hm_ok151 : ∀ pc, hm_ckr 151 pc = true := hm_okl hm_j151 (fun _ => rfl) (N := 21) (by decide +kernel)
set_option maxRecDepth 100000 in
theorem hm_ok152 : ∀ pc, hm_ckr 152 pc = true := hm_okl hm_j152 (fun _ => rfl) (N := 54) (by decide +kernel)
set_option maxRecDepth 100000 in
theorem hm_ok153 : ∀ pc, hm_ckr 153 pc = true := hm_okl hm_j153 (fun _ => rfl) (N := 73) (by decide +kernel)
set_option maxRecDepth 100000 in
theorem hm_ok154 : ∀ pc, hm_ckr 154 pc = true := hm_okl hm_j154 (fun _ => rfl) (N := 66) (by decide +kernel)
set_option maxRecDepth 100000 in
theorem hm_ok155 : ∀ pc, hm_ckr 155 pc = true := hm_okl hm_j155 (fun _ => rfl) (N := 70) (by decide +kernel)
set_option maxRecDepth 100000 in
theorem hm_ok156 : ∀ pc, hm_ckr 156 pc = true := hm_okl hm_j156 (fun _ => rfl) (N := 11) (by decide +kernel)
set_option maxRecDepth 100000 in
theorem hm_ok157 : ∀ pc, hm_ckr 157 pc = true := hm_okl hm_j157 (fun _ => rfl) (N := 5) (by decide +kernel)
set_option maxRecDepth 100000 in
theorem hm_ok158 : ∀ pc, hm_ckr 158 pc = true := hm_okl hm_j158 (fun _ => rfl) (N := 5) (by decide +kernel)
set_option maxRecDepth 100000 in
theorem hm_ok159 : ∀ pc, hm_ckr 159 pc = true := hm_okl hm_j159 (fun _ => rfl) (N := 18) (by decide +kernel)
set_option maxRecDepth 100000 in
theorem hm_ok160 : ∀ pc, hm_ckr 160 pc = true := hm_okl hm_j160 (fun _ => rfl) (N := 26) (by decide +kernel)
set_option maxRecDepth 100000 in
theorem hm_ok161 : ∀ pc, hm_ckr 161 pc = true := hm_okl hm_j161 (fun _ => rfl) (N := 9) (by decide +kernel)
set_option maxRecDepth 100000 in
theorem hm_ok162 : ∀ pc, hm_ckr 162 pc = true := hm_okl hm_j162 (fun _ => rfl) (N := 9) (by decide +kernel)
set_option maxRecDepth 100000 in
theorem hm_ok163 : ∀ pc, hm_ckr 163 pc = true := hm_okl hm_j163 (fun _ => rfl) (N := 9) (by decide +kernel)
set_option maxRecDepth 100000 in
theorem hm_ok164 : ∀ pc, hm_ckr 164 pc = true := hm_okl hm_j164 (fun _ => rfl) (N := 9) (by decide +kernel)
set_option maxRecDepth 100000 in
theorem hm_ok165 : ∀ pc, hm_ckr 165 pc = true := hm_okl hm_j165 (fun _ => rfl) (N := 43) (by decide +kernel)
set_option maxRecDepth 100000 in
theorem hm_ok166 : ∀ pc, hm_ckr 166 pc = true := hm_okl hm_j166 (fun _ => rfl) (N := 19) (by decide +kernel)
set_option maxRecDepth 100000 in
theorem hm_ok167 : ∀ pc, hm_ckr 167 pc = true := hm_okl hm_j167 (fun _ => rfl) (N := 19) (by decide +kernel)
set_option maxRecDepth 100000 in
theorem hm_ok168 : ∀ pc, hm_ckr 168 pc = true := hm_okl hm_j168 (fun _ => rfl) (N := 20) (by decide +kernel)
set_option maxRecDepth 100000 in
theorem hm_ok169 : ∀ pc, hm_ckr 169 pc = true := hm_okl hm_j169 (fun _ => rfl) (N := 24) (by decide +kernel)
set_option maxRecDepth 100000 in
theorem hm_ok170 : ∀ pc, hm_ckr 170 pc = true := hm_okl hm_j170 (fun _ => rfl) (N := 24) (by decide +kernel)
set_option maxRecDepth 100000 in
theorem hm_ok171 : ∀ pc, hm_ckr 171 pc = true := hm_okl hm_j171 (fun _ => rfl) (N := 59) (by decide +kernel)
set_option maxRecDepth 100000 in
theorem hm_ok172 : ∀ pc, hm_ckr 172 pc = true := hm_okl hm_j172 (fun _ => rfl) (N := 30) (by decide +kernel)
set_option maxRecDepth 100000 in
theorem hm_ok173 : ∀ pc, hm_ckr 173 pc = true := hm_okl hm_j173 (fun _ => rfl) (N := 44) (by decide +kernel)
set_option maxRecDepth 100000 in
theorem hm_ok174 : ∀ pc, hm_ckr 174 pc = true := hm_okl hm_j174 (fun _ => rfl) (N := 75) (by decide +kernel)
set_option maxRecDepth 100000 in
theorem hm_ok175 : ∀ pc, hm_ckr 175 pc = true := hm_okl hm_j175 (fun _ => rfl) (N := 22) (by decide +kernel)
set_option maxRecDepth 100000 in
theorem hm_ok176 : ∀ pc, hm_ckr 176 pc = true := hm_okl hm_j176 (fun _ => rfl) (N := 91) (by decide +kernel)
set_option maxRecDepth 100000 in
theorem hm_ok177 : ∀ pc, hm_ckr 177 pc = true := hm_okl hm_j177 (fun _ => rfl) (N := 20) (by decide +kernel)
set_option maxRecDepth 100000 in
theorem hm_ok178 : ∀ pc, hm_ckr 178 pc = true := hm_okl hm_j178 (fun _ => rfl) (N := 24) (by decide +kernel)
set_option maxRecDepth 100000 in
theorem hm_ok179 : ∀ pc, hm_ckr 179 pc = true := hm_okl hm_j179 (fun _ => rfl) (N := 21) (by decide +kernel)
set_option maxRecDepth 100000 in
theorem hm_ok180 : ∀ pc, hm_ckr 180 pc = true := hm_okl hm_j180 (fun _ => rfl) (N := 13) (by decide +kernel)
set_option maxRecDepth 100000 in
theorem hm_ok181 : ∀ pc, hm_ckr 181 pc = true := hm_okl hm_j181 (fun _ => rfl) (N := 25) (by decide +kernel)
set_option maxRecDepth 100000 in
theorem hm_ok182 : ∀ pc, hm_ckr 182 pc = true := hm_okl hm_j182 (fun _ => rfl) (N := 36) (by decide +kernel)
set_option maxRecDepth 100000 in
theorem hm_ok183 : ∀ pc, hm_ckr 183 pc = true := hm_okl hm_j183 (fun _ => rfl) (N := 28) (by decide +kernel)
set_option maxRecDepth 100000 in
theorem hm_ok184 : ∀ pc, hm_ckr 184 pc = true := hm_okl hm_j184 (fun _ => rfl) (N := 57) (by decide +kernel)
