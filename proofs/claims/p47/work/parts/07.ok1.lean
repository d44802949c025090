/-! each row is the code's, further -/
set_option maxRecDepth 100000 in
theorem hm_ok50 : ∀ pc, hm_ckr 50 pc = true := hm_okl hm_j50 (fun _ => rfl) (N := 24) (by decide +kernel)
set_option maxRecDepth 100000 in
theorem hm_ok51 : ∀ pc, hm_ckr 51 pc = true := hm_okl hm_j51 (fun _ => rfl) (N := 78) (by decide +kernel)
set_option maxRecDepth 100000 in
theorem hm_ok52 : ∀ pc, hm_ckr 52 pc = true := hm_okl hm_j52 (fun _ => rfl) (N := 30) (by decide +kernel)
set_option maxRecDepth 100000 in
theorem hm_ok53_0 : (List.range 45).all (fun i => hm_ckr 53 (0 + i)) = true := by decide +kernel
set_option maxRecDepth 100000 in
theorem hm_ok53_45 : (List.range 45).all (fun i => hm_ckr 53 (45 + i)) = true := by decide +kernel
set_option maxRecDepth 100000 in
theorem hm_ok53_90 : (List.range 45).all (fun i => hm_ckr 53 (90 + i)) = true := by decide +kernel
set_option maxRecDepth 100000 in
theorem hm_ok53_135 : (List.range 31).all (fun i => hm_ckr 53 (135 + i)) = true := by decide +kernel
theorem hm_ok53 : ∀ pc, hm_ckr 53 pc = true := hm_okm hm_j53 (fun _ => rfl) (N := 166) (fun pc hp => by
  by_cases h0 : pc < 45
  · exact hm_okr hm_ok53_0 (by omega) (by omega)
  by_cases h45 : pc < 90
  · exact hm_okr hm_ok53_45 (by omega) (by omega)
  by_cases h90 : pc < 135
  · exact hm_okr hm_ok53_90 (by omega) (by omega)
  exact hm_okr hm_ok53_135 (by omega) (by omega))
set_option maxRecDepth 100000 in
theorem hm_ok54 : ∀ pc, hm_ckr 54 pc = true := hm_okl hm_j54 (fun _ => rfl) (N := 94) (by decide +kernel)
set_option maxRecDepth 100000 in
theorem hm_ok55 : ∀ pc, hm_ckr 55 pc = true := hm_okl hm_j55 (fun _ => rfl) (N := 105) (by decide +kernel)
set_option maxRecDepth 100000 in
theorem hm_ok56 : ∀ pc, hm_ckr 56 pc = true := hm_okl hm_j56 (fun _ => rfl) (N := 96) (by decide +kernel)
set_option maxRecDepth 100000 in
theorem hm_ok57 : ∀ pc, hm_ckr 57 pc = true := hm_okl hm_j57 (fun _ => rfl) (N := 67) (by decide +kernel)
set_option maxRecDepth 100000 in
theorem hm_ok58 : ∀ pc, hm_ckr 58 pc = true := hm_okl hm_j58 (fun _ => rfl) (N := 52) (by decide +kernel)
set_option maxRecDepth 100000 in
theorem hm_ok59 : ∀ pc, hm_ckr 59 pc = true := hm_okl hm_j59 (fun _ => rfl) (N := 87) (by decide +kernel)
set_option maxRecDepth 100000 in
theorem hm_ok60 : ∀ pc, hm_ckr 60 pc = true := hm_okl hm_j60 (fun _ => rfl) (N := 8) (by decide +kernel)
set_option maxRecDepth 100000 in
theorem hm_ok61 : ∀ pc, hm_ckr 61 pc = true := hm_okl hm_j61 (fun _ => rfl) (N := 97) (by decide +kernel)
set_option maxRecDepth 100000 in
theorem hm_ok62 : ∀ pc, hm_ckr 62 pc = true := hm_okl hm_j62 (fun _ => rfl) (N := 55) (by decide +kernel)
set_option maxRecDepth 100000 in
theorem hm_ok63 : ∀ pc, hm_ckr 63 pc = true := hm_okl hm_j63 (fun _ => rfl) (N := 55) (by decide +kernel)
set_option maxRecDepth 100000 in
theorem hm_ok64 : ∀ pc, hm_ckr 64 pc = true := hm_okl hm_j64 (fun _ => rfl) (N := 59) (by decide +kernel)
set_option maxRecDepth 100000 in
theorem hm_ok65 : ∀ pc, hm_ckr 65 pc = true := hm_okl hm_j65 (fun _ => rfl) (N := 26) (by decide +kernel)
set_option maxRecDepth 100000 in
theorem hm_ok66 : ∀ pc, hm_ckr 66 pc = true := hm_okl hm_j66 (fun _ => rfl) (N := 48) (by decide +kernel)
set_option maxRecDepth 100000 in
theorem hm_ok67 : ∀ pc, hm_ckr 67 pc = true := hm_okl hm_j67 (fun _ => rfl) (N := 52) (by decide +kernel)
set_option maxRecDepth 100000 in
theorem hm_ok68 : ∀ pc, hm_ckr 68 pc = true := hm_okl hm_j68 (fun _ => rfl) (N := 24) (by decide +kernel)
set_option maxRecDepth 100000 in
theorem hm_ok69 : ∀ pc, hm_ckr 69 pc = true := hm_okl hm_j69 (fun _ => rfl) (N := 14) (by decide +kernel)
set_option maxRecDepth 100000 in
theorem hm_ok70 : ∀ pc, hm_ckr 70 pc = true := hm_okl hm_j70 (fun _ => rfl) (N := 18) (by decide +kernel)
set_option maxRecDepth 100000 in
theorem hm_ok71 : ∀ pc, hm_ckr 71 pc = true := hm_okl hm_j71 (fun _ => rfl) (N := 26) (by decide +kernel)
set_option maxRecDepth 100000 in
theorem hm_ok72 : ∀ pc, hm_ckr 72 pc = true := hm_okl hm_j72 (fun _ => rfl) (N := 6) (by decide +kernel)
set_option maxRecDepth 100000 in
theorem hm_ok73 : ∀ pc, hm_ckr 73 pc = true := hm_okl hm_j73 (fun _ => rfl) (N := 11) (by decide +kernel)
set_option maxRecDepth 100000 in
theorem hm_ok74 : ∀ pc, hm_ckr 74 pc = true := hm_okl hm_j74 (fun _ => rfl) (N := 20) (by decide +kernel)
set_option maxRecDepth 100000 in
theorem hm_ok75 : ∀ pc, hm_ckr 75 pc = true := hm_okl hm_j75 (fun _ => rfl) (N := 13) (by decide +kernel)
set_option maxRecDepth 100000 in
theorem hm_ok76 : ∀ pc, hm_ckr 76 pc = true := hm_okl hm_j76 (fun _ => rfl) (N := 40) (by decide +kernel)
set_option maxRecDepth 100000 in
theorem hm_ok77 : ∀ pc, hm_ckr 77 pc = true := hm_okl hm_j77 (fun _ => rfl) (N := 40) (by decide +kernel)
set_option maxRecDepth 100000 in
theorem hm_ok78 : ∀ pc, hm_ckr 78 pc = true := hm_okl hm_j78 (fun _ => rfl) (N := 56) (by decide +kernel)
set_option maxRecDepth 100000 in
theorem hm_ok79 : ∀ pc, hm_ckr 79 pc = true := hm_okl hm_j79 (fun _ => rfl) (N := 8) (by decide +kernel)
set_option maxRecDepth 100000 in
theorem hm_ok80 : ∀ pc, hm_ckr 80 pc = true := hm_okl hm_j80 (fun _ => rfl) (N := 18) (by decide +kernel)
set_option maxRecDepth 100000 in
theorem hm_ok81 : ∀ pc, hm_ckr 81 pc = true := hm_okl hm_j81 (fun _ => rfl) (N := 102) (by decide +kernel)
set_option maxRecDepth 100000 in
theorem hm_ok82 : ∀ pc, hm_ckr 82 pc = true := hm_okl hm_j82 (fun _ => rfl) (N := 51) (by decide +kernel)
set_option maxRecDepth 100000 in
theorem hm_ok83 : ∀ pc, hm_ckr 83 pc = true := hm_okl hm_j83 (fun _ => rfl) (N := 62) (by decide +kernel)
set_option maxRecDepth 100000 in
theorem hm_ok84 : ∀ pc, hm_ckr 84 pc = true := hm_okl hm_j84 (fun _ => rfl) (N := 110) (by decide +kernel)
set_option maxRecDepth 100000 in
theorem hm_ok85 : ∀ pc, hm_ckr 85 pc = true := hm_okl hm_j85 (fun _ => rfl) (N := 5) (by decide +kernel)
set_option maxRecDepth 100000 in
theorem hm_ok86 : ∀ pc, hm_ckr 86 pc = true := hm_okl hm_j86 (fun _ => rfl) (N := 5) (by decide +kernel)
set_option maxRecDepth 100000 in
theorem hm_ok87 : ∀ pc, hm_ckr 87 pc = true := hm_okl hm_j87 (fun _ => rfl) (N := 10) (by decide +kernel)
set_option maxRecDepth 100000 in
theorem hm_ok88 : ∀ pc, hm_ckr 88 pc = true := hm_okl hm_j88 (fun _ => rfl) (N := 22) (by decide +kernel)
set_option maxRecDepth 100000 in
theorem hm_ok89 : ∀ pc, hm_ckr 89 pc = true := hm_okl hm_j89 (fun _ => rfl) (N := 22) (by decide +kernel)
set_option maxRecDepth 100000 in
theorem hm_ok90 : ∀ pc, hm_ckr 90 pc = true := hm_okl hm_j90 (fun _ => rfl) (N := 20) (by decide +kernel)
set_option maxRecDepth 100000 in
theorem hm_ok91 : ∀ pc, hm_ckr 91 pc = true := hm_okl hm_j91 (fun _ => rfl) (N := 13) (by decide +kernel)
set_option maxRecDepth 100000 in
theorem hm_ok92 : ∀ pc, hm_ckr 92 pc = true := hm_okl hm_j92 (fun _ => rfl) (N := 41) (by decide +kernel)
set_option maxRecDepth 100000 in
theorem hm_ok93 : ∀ pc, hm_ckr 93 pc = true := hm_okl hm_j93 (fun _ => rfl) (N := 35) (by decide +kernel)
set_option maxRecDepth 100000 in
theorem hm_ok94 : ∀ pc, hm_ckr 94 pc = true := hm_okl hm_j94 (fun _ => rfl) (N := 143) (by decide +kernel)
set_option maxRecDepth 100000 in
theorem hm_ok95 : ∀ pc, hm_ckr 95 pc = true := hm_okl hm_j95 (fun _ => rfl) (N := 52) (by decide +kernel)
set_option maxRecDepth 100000 in
theorem hm_ok96_0 : (List.range 45).all (fun i => hm_ckr 96 (0 + i)) = true := by decide +kernel
set_option maxRecDepth 100000 in
theorem hm_ok96_45 : (List.range 45).all (fun i => hm_ckr 96 (45 + i)) = true := by decide +kernel
set_option maxRecDepth 100000 in
theorem hm_ok96_90 : (List.range 45).all (fun i => hm_ckr 96 (90 + i)) = true := by decide +kernel
set_option maxRecDepth 100000 in
theorem hm_ok96_135 : (List.range 45).all (fun i => hm_ckr 96 (135 + i)) = true := by decide +kernel
set_option maxRecDepth 100000 in
theorem hm_ok96_180 : (List.range 45).all (fun i => hm_ckr 96 (180 + i)) = true := by decide +kernel
set_option maxRecDepth 100000 in
theorem hm_ok96_225 : (List.range 5).all (fun i => hm_ckr 96 (225 + i)) = true := by decide +kernel
theorem hm_ok96 : ∀ pc, hm_ckr 96 pc = true := hm_okm hm_j96 (fun _ => rfl) (N := 230) (fun pc hp => by
  by_cases h0 : pc < 45
  · exact hm_okr hm_ok96_0 (by omega) (by omega)
  by_cases h45 : pc < 90
  · exact hm_okr hm_ok96_45 (by omega) (by omega)
  by_cases h90 : pc < 135
  · exact hm_okr hm_ok96_90 (by omega) (by omega)
  by_cases h135 : pc < 180
  · exact hm_okr hm_ok96_135 (by omega) (by omega)
  by_cases h180 : pc < 225
  · exact hm_okr hm_ok96_180 (by omega) (by omega)
  exact hm_okr hm_ok96_225 (by omega) (by omega))
set_option maxRecDepth 100000 in
theorem hm_ok97 : ∀ pc, hm_ckr 97 pc = true := hm_okl hm_j97 (fun _ => rfl) (N := 37) (by decide +kernel)
set_option maxRecDepth 100000 in
theorem hm_ok98 : ∀ pc, hm_ckr 98 pc = true := hm_okl hm_j98 (fun _ => rfl) (N := 51) (by decide +kernel)
set_option maxRecDepth 100000 in
theorem hm_ok99_0 : (List.range 45).all (fun i => hm_ckr 99 (0 + i)) = true := by decide +kernel
set_option maxRecDepth 100000 in
theorem hm_ok99_45 : (List.range 45).all (fun i => hm_ckr 99 (45 + i)) = true := by decide +kernel
set_option maxRecDepth 100000 in
theorem hm_ok99_90 : (List.range 45).all (fun i => hm_ckr 99 (90 + i)) = true := by decide +kernel
set_option maxRecDepth 100000 in
theorem hm_ok99_135 : (List.range 34).all (fun i => hm_ckr 99 (135 + i)) = true := by decide +kernel
theorem hm_ok99 : ∀ pc, hm_ckr 99 pc = true := hm_okm hm_j99 (fun _ => rfl) (N := 169) (fun pc hp => by
  by_cases h0 : pc < 45
  · exact hm_okr hm_ok99_0 (by omega) (by omega)
  by_cases h45 : pc < 90
  · exact hm_okr hm_ok99_45 (by omega) (by omega)
  by_cases h90 : pc < 135
  · exact hm_okr hm_ok99_90 (by omega) (by omega)
  exact hm_okr hm_ok99_135 (by omega) (by omega))
