/-! the law's rows -/
set_option maxRecDepth 100000 in
theorem hm_ok194_150 : (List.range 10).all (fun i => hm_ckr 194 (150 + i)) = true := by decide +kernel
set_option maxRecDepth 100000 in
theorem hm_wd196 : hm_wd (hm_pC 196) (hm_cw 196) = true := by
  have h : lw_tbl[hm_pC 196]? = some (hm_cw 196) := rfl
  unfold hm_wd
  rw [decide_eq_true h]
  rfl
set_option maxRecDepth 100000 in
theorem hm_ok194_160 : (List.range 1).all (fun i => hm_ckr 194 (160 + i)) = true := by
  have e : hm_ins 194 160 = some (.invokestatic 196, 0, 38, 900, 156259) := by rfl
  have a1 : hm_dc 194 160 (.invokestatic 38) 3 = true := by decide +kernel
  have a2 : hm_cm 194 196 156259 = true := by
    unfold hm_cm
    rw [hm_wd196]
    decide +kernel
  have a3 : hm_wd 900 (.methodLink (hm_own 194) 38 (hm_y 196)) = true := by decide +kernel
  have a4 : hm_wd (hm_pI 196) (.static (hm_y 196)) = true := by decide +kernel
  have f : hm_ckr 194 160 = true := by
    unfold hm_ckr
    rw [e]
    show (hm_dc 194 160 (.invokestatic 38) 3 && hm_cm 194 196 156259 && hm_wd 900 (.methodLink (hm_own 194) 38 (hm_y 196)) && hm_wd (hm_pI 196) (.static (hm_y 196))) = true
    rw [a1, a2, a3, a4]
    rfl
  show (hm_ckr 194 (160 + 0) && true) = true
  rw [Nat.add_zero, f]
  rfl
set_option maxRecDepth 100000 in
theorem hm_ok194_161 : (List.range 25).all (fun i => hm_ckr 194 (161 + i)) = true := by decide +kernel
