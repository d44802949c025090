/-! each row is the code's, further -/
set_option maxRecDepth 100000 in
theorem hm_ok185 : ∀ pc, hm_ckr 185 pc = true := hm_okl hm_j185 (fun _ => rfl) (N := 6) (by decide +kernel)
set_option maxRecDepth 100000 in
theorem hm_ok186 : ∀ pc, hm_ckr 186 pc = true := hm_okl hm_j186 (fun _ => rfl) (N := 5) (by decide +kernel)
set_option maxRecDepth 100000 in
theorem hm_ok187 : ∀ pc, hm_ckr 187 pc = true := hm_okl hm_j187 (fun _ => rfl) (N := 44) (by decide +kernel)
set_option maxRecDepth 100000 in
theorem hm_ok188 : ∀ pc, hm_ckr 188 pc = true := hm_okl hm_j188 (fun _ => rfl) (N := 25) (by decide +kernel)
set_option maxRecDepth 100000 in
theorem hm_ok189 : ∀ pc, hm_ckr 189 pc = true := hm_okl hm_j189 (fun _ => rfl) (N := 71) (by decide +kernel)
set_option maxRecDepth 100000 in
theorem hm_ok190 : ∀ pc, hm_ckr 190 pc = true := hm_okl hm_j190 (fun _ => rfl) (N := 31) (by decide +kernel)
set_option maxRecDepth 100000 in
theorem hm_ok191 : ∀ pc, hm_ckr 191 pc = true := hm_okl hm_j191 (fun _ => rfl) (N := 56) (by decide +kernel)
set_option maxRecDepth 100000 in
theorem hm_ok192 : ∀ pc, hm_ckr 192 pc = true := hm_okl hm_j192 (fun _ => rfl) (N := 7) (by decide +kernel)
set_option maxRecDepth 100000 in
theorem hm_ok193 : ∀ pc, hm_ckr 193 pc = true := hm_okl hm_j193 (fun _ => rfl) (N := 19) (by decide +kernel)
