/-! the law's rows, joined -/
theorem hm_ok194 : ∀ pc, hm_ckr 194 pc = true := hm_okm hm_j194 (fun _ => rfl) (N := 209) (fun pc hp => by
  by_cases h0 : pc < 25
  · exact hm_okr hm_ok194_0 (by omega) (by omega)
  by_cases h25 : pc < 50
  · exact hm_okr hm_ok194_25 (by omega) (by omega)
  by_cases h50 : pc < 75
  · exact hm_okr hm_ok194_50 (by omega) (by omega)
  by_cases h75 : pc < 100
  · exact hm_okr hm_ok194_75 (by omega) (by omega)
  by_cases h100 : pc < 125
  · exact hm_okr hm_ok194_100 (by omega) (by omega)
  by_cases h125 : pc < 150
  · exact hm_okr hm_ok194_125 (by omega) (by omega)
  by_cases h150 : pc < 160
  · exact hm_okr hm_ok194_150 (by omega) (by omega)
  by_cases h160 : pc < 161
  · exact hm_okr hm_ok194_160 (by omega) (by omega)
  by_cases h161 : pc < 186
  · exact hm_okr hm_ok194_161 (by omega) (by omega)
  exact hm_okr hm_ok194_186 (by omega) (by omega))
theorem hm_ok195 : ∀ pc, hm_ckr 195 pc = true := hm_okm hm_j195 (fun _ => rfl) (N := 224) (fun pc hp => by
  by_cases h0 : pc < 25
  · exact hm_okr hm_ok195_0 (by omega) (by omega)
  by_cases h25 : pc < 50
  · exact hm_okr hm_ok195_25 (by omega) (by omega)
  by_cases h50 : pc < 75
  · exact hm_okr hm_ok195_50 (by omega) (by omega)
  by_cases h75 : pc < 100
  · exact hm_okr hm_ok195_75 (by omega) (by omega)
  by_cases h100 : pc < 125
  · exact hm_okr hm_ok195_100 (by omega) (by omega)
  by_cases h125 : pc < 150
  · exact hm_okr hm_ok195_125 (by omega) (by omega)
  by_cases h150 : pc < 175
  · exact hm_okr hm_ok195_150 (by omega) (by omega)
  by_cases h175 : pc < 200
  · exact hm_okr hm_ok195_175 (by omega) (by omega)
  exact hm_okr hm_ok195_200 (by omega) (by omega))
theorem hm_ok196 : ∀ pc, hm_ckr 196 pc = true := hm_okm hm_j196 (fun _ => rfl) (N := 599) (fun pc hp => by
  by_cases h0 : pc < 25
  · exact hm_okr hm_ok196_0 (by omega) (by omega)
  by_cases h25 : pc < 50
  · exact hm_okr hm_ok196_25 (by omega) (by omega)
  by_cases h50 : pc < 75
  · exact hm_okr hm_ok196_50 (by omega) (by omega)
  by_cases h75 : pc < 100
  · exact hm_okr hm_ok196_75 (by omega) (by omega)
  by_cases h100 : pc < 125
  · exact hm_okr hm_ok196_100 (by omega) (by omega)
  by_cases h125 : pc < 150
  · exact hm_okr hm_ok196_125 (by omega) (by omega)
  by_cases h150 : pc < 175
  · exact hm_okr hm_ok196_150 (by omega) (by omega)
  by_cases h175 : pc < 200
  · exact hm_okr hm_ok196_175 (by omega) (by omega)
  by_cases h200 : pc < 225
  · exact hm_okr hm_ok196_200 (by omega) (by omega)
  by_cases h225 : pc < 250
  · exact hm_okr hm_ok196_225 (by omega) (by omega)
  by_cases h250 : pc < 275
  · exact hm_okr hm_ok196_250 (by omega) (by omega)
  by_cases h275 : pc < 300
  · exact hm_okr hm_ok196_275 (by omega) (by omega)
  by_cases h300 : pc < 325
  · exact hm_okr hm_ok196_300 (by omega) (by omega)
  by_cases h325 : pc < 350
  · exact hm_okr hm_ok196_325 (by omega) (by omega)
  by_cases h350 : pc < 375
  · exact hm_okr hm_ok196_350 (by omega) (by omega)
  by_cases h375 : pc < 400
  · exact hm_okr hm_ok196_375 (by omega) (by omega)
  by_cases h400 : pc < 425
  · exact hm_okr hm_ok196_400 (by omega) (by omega)
  by_cases h425 : pc < 450
  · exact hm_okr hm_ok196_425 (by omega) (by omega)
  by_cases h450 : pc < 475
  · exact hm_okr hm_ok196_450 (by omega) (by omega)
  by_cases h475 : pc < 500
  · exact hm_okr hm_ok196_475 (by omega) (by omega)
  by_cases h500 : pc < 525
  · exact hm_okr hm_ok196_500 (by omega) (by omega)
  by_cases h525 : pc < 550
  · exact hm_okr hm_ok196_525 (by omega) (by omega)
  by_cases h550 : pc < 575
  · exact hm_okr hm_ok196_550 (by omega) (by omega)
  exact hm_okr hm_ok196_575 (by omega) (by omega))
