/-! each row is the code's, further -/
set_option maxRecDepth 100000 in
theorem hm_ok185 : ∀ pc, hm_ckr 185 pc = true := hm_okl hm_j185 (fun _ => rfl) (N := 6) (by decide +kernel)
set_option maxRecDepth 100000 in
theorem hm_ok186 : ∀ pc, hm_ckr 186 pc = true := hm_okl hm_j186 (fun _ => rfl) (N := 5) (by decide +kernel)
set_option maxRecDepth 100000 in
theorem hm_ok187 : ∀ pc, hm_ckr 187 pc = true := hm_okl hm_j187 (fun _ => rfl) (N := 44) (by decide +kernel)
set_option maxRecDepth 100000 in
theorem hm_ok188 : ∀ pc, hm_ckr 188 pc = true := hm_okl hm_j188 (fun _ => rfl) (N := 25) (by decide +kernel)
set_option maxRecDepth 100000 in
theorem hm_ok189 : ∀ pc, hm_ckr 189 pc = true := hm_okl hm_j189 (fun _ => rfl) (N := 71) (by decide +kernel)
set_option maxRecDepth 100000 in
theorem hm_ok190 : ∀ pc, hm_ckr 190 pc = true := hm_okl hm_j190 (fun _ => rfl) (N := 31) (by decide +kernel)
set_option maxRecDepth 100000 in
theorem hm_ok191 : ∀ pc, hm_ckr 191 pc = true := hm_okl hm_j191 (fun _ => rfl) (N := 56) (by decide +kernel)
set_option maxRecDepth 100000 in
theorem hm_ok192 : ∀ pc, hm_ckr 192 pc = true := hm_okl hm_j192 (fun _ => rfl) (N := 7) (by decide +kernel)
set_option maxRecDepth 100000 in
theorem hm_ok193 : ∀ pc, hm_ckr 193 pc = true := hm_okl hm_j193 (fun _ => rfl) (N := 19) (by decide +kernel)
set_option maxRecDepth 100000 in
theorem hm_ok194_0 : (List.range 45).all (fun i => hm_ckr 194 (0 + i)) = true := by decide +kernel
set_option maxRecDepth 100000 in
theorem hm_ok194_45 : (List.range 45).all (fun i => hm_ckr 194 (45 + i)) = true := by decide +kernel
set_option maxRecDepth 100000 in
theorem hm_ok194_90 : (List.range 45).all (fun i => hm_ckr 194 (90 + i)) = true := by decide +kernel
set_option maxRecDepth 100000 in
theorem hm_ok194_135 : (List.range 45).all (fun i => hm_ckr 194 (135 + i)) = true := by decide +kernel
set_option maxRecDepth 100000 in
theorem hm_ok194_180 : (List.range 29).all (fun i => hm_ckr 194 (180 + i)) = true := by decide +kernel
theorem hm_ok194 : ∀ pc, hm_ckr 194 pc = true := hm_okm hm_j194 (fun _ => rfl) (N := 209) (fun pc hp => by
  by_cases h0 : pc < 45
  · exact hm_okr hm_ok194_0 (by omega) (by omega)
  by_cases h45 : pc < 90
  · exact hm_okr hm_ok194_45 (by omega) (by omega)
  by_cases h90 : pc < 135
  · exact hm_okr hm_ok194_90 (by omega) (by omega)
  by_cases h135 : pc < 180
  · exact hm_okr hm_ok194_135 (by omega) (by omega)
  exact hm_okr hm_ok194_180 (by omega) (by omega))
set_option maxRecDepth 100000 in
theorem hm_ok195_0 : (List.range 45).all (fun i => hm_ckr 195 (0 + i)) = true := by decide +kernel
set_option maxRecDepth 100000 in
theorem hm_ok195_45 : (List.range 45).all (fun i => hm_ckr 195 (45 + i)) = true := by decide +kernel
set_option maxRecDepth 100000 in
theorem hm_ok195_90 : (List.range 45).all (fun i => hm_ckr 195 (90 + i)) = true := by decide +kernel
set_option maxRecDepth 100000 in
theorem hm_ok195_135 : (List.range 45).all (fun i => hm_ckr 195 (135 + i)) = true := by decide +kernel
set_option maxRecDepth 100000 in
theorem hm_ok195_180 : (List.range 44).all (fun i => hm_ckr 195 (180 + i)) = true := by decide +kernel
theorem hm_ok195 : ∀ pc, hm_ckr 195 pc = true := hm_okm hm_j195 (fun _ => rfl) (N := 224) (fun pc hp => by
  by_cases h0 : pc < 45
  · exact hm_okr hm_ok195_0 (by omega) (by omega)
  by_cases h45 : pc < 90
  · exact hm_okr hm_ok195_45 (by omega) (by omega)
  by_cases h90 : pc < 135
  · exact hm_okr hm_ok195_90 (by omega) (by omega)
  by_cases h135 : pc < 180
  · exact hm_okr hm_ok195_135 (by omega) (by omega)
  exact hm_okr hm_ok195_180 (by omega) (by omega))
set_option maxRecDepth 100000 in
theorem hm_ok196_0 : (List.range 45).all (fun i => hm_ckr 196 (0 + i)) = true := by decide +kernel
set_option maxRecDepth 100000 in
theorem hm_ok196_45 : (List.range 45).all (fun i => hm_ckr 196 (45 + i)) = true := by decide +kernel
set_option maxRecDepth 100000 in
theorem hm_ok196_90 : (List.range 45).all (fun i => hm_ckr 196 (90 + i)) = true := by decide +kernel
set_option maxRecDepth 100000 in
theorem hm_ok196_135 : (List.range 45).all (fun i => hm_ckr 196 (135 + i)) = true := by decide +kernel
set_option maxRecDepth 100000 in
theorem hm_ok196_180 : (List.range 45).all (fun i => hm_ckr 196 (180 + i)) = true := by decide +kernel
set_option maxRecDepth 100000 in
theorem hm_ok196_225 : (List.range 45).all (fun i => hm_ckr 196 (225 + i)) = true := by decide +kernel
set_option maxRecDepth 100000 in
theorem hm_ok196_270 : (List.range 45).all (fun i => hm_ckr 196 (270 + i)) = true := by decide +kernel
set_option maxRecDepth 100000 in
theorem hm_ok196_315 : (List.range 45).all (fun i => hm_ckr 196 (315 + i)) = true := by decide +kernel
set_option maxRecDepth 100000 in
theorem hm_ok196_360 : (List.range 45).all (fun i => hm_ckr 196 (360 + i)) = true := by decide +kernel
set_option maxRecDepth 100000 in
theorem hm_ok196_405 : (List.range 45).all (fun i => hm_ckr 196 (405 + i)) = true := by decide +kernel
set_option maxRecDepth 100000 in
theorem hm_ok196_450 : (List.range 45).all (fun i => hm_ckr 196 (450 + i)) = true := by decide +kernel
set_option maxRecDepth 100000 in
theorem hm_ok196_495 : (List.range 45).all (fun i => hm_ckr 196 (495 + i)) = true := by decide +kernel
set_option maxRecDepth 100000 in
theorem hm_ok196_540 : (List.range 45).all (fun i => hm_ckr 196 (540 + i)) = true := by decide +kernel
set_option maxRecDepth 100000 in
theorem hm_ok196_585 : (List.range 14).all (fun i => hm_ckr 196 (585 + i)) = true := by decide +kernel
theorem hm_ok196 : ∀ pc, hm_ckr 196 pc = true := hm_okm hm_j196 (fun _ => rfl) (N := 599) (fun pc hp => by
  by_cases h0 : pc < 45
  · exact hm_okr hm_ok196_0 (by omega) (by omega)
  by_cases h45 : pc < 90
  · exact hm_okr hm_ok196_45 (by omega) (by omega)
  by_cases h90 : pc < 135
  · exact hm_okr hm_ok196_90 (by omega) (by omega)
  by_cases h135 : pc < 180
  · exact hm_okr hm_ok196_135 (by omega) (by omega)
  by_cases h180 : pc < 225
  · exact hm_okr hm_ok196_180 (by omega) (by omega)
  by_cases h225 : pc < 270
  · exact hm_okr hm_ok196_225 (by omega) (by omega)
  by_cases h270 : pc < 315
  · exact hm_okr hm_ok196_270 (by omega) (by omega)
  by_cases h315 : pc < 360
  · exact hm_okr hm_ok196_315 (by omega) (by omega)
  by_cases h360 : pc < 405
  · exact hm_okr hm_ok196_360 (by omega) (by omega)
  by_cases h405 : pc < 450
  · exact hm_okr hm_ok196_405 (by omega) (by omega)
  by_cases h450 : pc < 495
  · exact hm_okr hm_ok196_450 (by omega) (by omega)
  by_cases h495 : pc < 540
  · exact hm_okr hm_ok196_495 (by omega) (by omega)
  by_cases h540 : pc < 585
  · exact hm_okr hm_ok196_540 (by omega) (by omega)
  exact hm_okr hm_ok196_585 (by omega) (by omega))
