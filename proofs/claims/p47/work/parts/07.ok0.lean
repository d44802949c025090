/-! each row of each method is the code's -/
theorem hm_okl {k N : Nat} (T : Nat → Option hm_Row) (hT : ∀ pc, hm_ins k pc = if pc < N then T pc else none) (h : (List.range N).all (fun pc => hm_ckr k pc) = true) : ∀ pc, hm_ckr k pc = true := by
  intro pc
  by_cases hp : pc < N
  · exact List.all_eq_true.mp h pc (List.mem_range.mpr hp)
  · unfold hm_ckr
    rw [hT pc, if_neg hp]
theorem hm_okr {k lo n : Nat} (h : (List.range n).all (fun i => hm_ckr k (lo + i)) = true) {pc : Nat} (h1 : lo ≤ pc) (h2 : pc < lo + n) : hm_ckr k pc = true := by
  have h3 := List.all_eq_true.mp h (pc - lo) (List.mem_range.mpr (by omega))
  rw [show lo + (pc - lo) = pc by omega] at h3
  exact h3
theorem hm_okm {k N : Nat} (T : Nat → Option hm_Row) (hT : ∀ pc, hm_ins k pc = if pc < N then T pc else none) (h : ∀ pc, pc < N → hm_ckr k pc = true) : ∀ pc, hm_ckr k pc = true := by
  intro pc
  by_cases hp : pc < N
  · exact h pc hp
  · unfold hm_ckr
    rw [hT pc, if_neg hp]
set_option maxRecDepth 100000 in
theorem hm_ok0 : ∀ pc, hm_ckr 0 pc = true := hm_okl hm_j0 (fun _ => rfl) (N := 107) (by decide +kernel)
set_option maxRecDepth 100000 in
theorem hm_ok1 : ∀ pc, hm_ckr 1 pc = true := hm_okl hm_j1 (fun _ => rfl) (N := 35) (by decide +kernel)
set_option maxRecDepth 100000 in
theorem hm_ok2 : ∀ pc, hm_ckr 2 pc = true := hm_okl hm_j2 (fun _ => rfl) (N := 49) (by decide +kernel)
set_option maxRecDepth 100000 in
theorem hm_ok3 : ∀ pc, hm_ckr 3 pc = true := hm_okl hm_j3 (fun _ => rfl) (N := 47) (by decide +kernel)
set_option maxRecDepth 100000 in
theorem hm_ok4 : ∀ pc, hm_ckr 4 pc = true := hm_okl hm_j4 (fun _ => rfl) (N := 113) (by decide +kernel)
set_option maxRecDepth 100000 in
theorem hm_ok5 : ∀ pc, hm_ckr 5 pc = true := hm_okl hm_j5 (fun _ => rfl) (N := 46) (by decide +kernel)
set_option maxRecDepth 100000 in
theorem hm_ok6 : ∀ pc, hm_ckr 6 pc = true := hm_okl hm_j6 (fun _ => rfl) (N := 123) (by decide +kernel)
set_option maxRecDepth 100000 in
theorem hm_ok7 : ∀ pc, hm_ckr 7 pc = true := hm_okl hm_j7 (fun _ => rfl) (N := 79) (by decide +kernel)
set_option maxRecDepth 100000 in
theorem hm_ok8 : ∀ pc, hm_ckr 8 pc = true := hm_okl hm_j8 (fun _ => rfl) (N := 58) (by decide +kernel)
set_option maxRecDepth 100000 in
theorem hm_ok9 : ∀ pc, hm_ckr 9 pc = true := hm_okl hm_j9 (fun _ => rfl) (N := 8) (by decide +kernel)
set_option maxRecDepth 100000 in
theorem hm_ok10 : ∀ pc, hm_ckr 10 pc = true := hm_okl hm_j10 (fun _ => rfl) (N := 28) (by decide +kernel)
set_option maxRecDepth 100000 in
theorem hm_ok11 : ∀ pc, hm_ckr 11 pc = true := hm_okl hm_j11 (fun _ => rfl) (N := 30) (by decide +kernel)
set_option maxRecDepth 100000 in
theorem hm_ok12 : ∀ pc, hm_ckr 12 pc = true := hm_okl hm_j12 (fun _ => rfl) (N := 124) (by decide +kernel)
set_option maxRecDepth 100000 in
theorem hm_ok13 : ∀ pc, hm_ckr 13 pc = true := hm_okl hm_j13 (fun _ => rfl) (N := 58) (by decide +kernel)
set_option maxRecDepth 100000 in
theorem hm_ok14 : ∀ pc, hm_ckr 14 pc = true := hm_okl hm_j14 (fun _ => rfl) (N := 60) (by decide +kernel)
set_option maxRecDepth 100000 in
theorem hm_ok15 : ∀ pc, hm_ckr 15 pc = true := hm_okl hm_j15 (fun _ => rfl) (N := 32) (by decide +kernel)
set_option maxRecDepth 100000 in
theorem hm_ok16 : ∀ pc, hm_ckr 16 pc = true := hm_okl hm_j16 (fun _ => rfl) (N := 79) (by decide +kernel)
set_option maxRecDepth 100000 in
theorem hm_ok17 : ∀ pc, hm_ckr 17 pc = true := hm_okl hm_j17 (fun _ => rfl) (N := 77) (by decide +kernel)
set_option maxRecDepth 100000 in
theorem hm_ok18 : ∀ pc, hm_ckr 18 pc = true := hm_okl hm_j18 (fun _ => rfl) (N := 93) (by decide +kernel)
set_option maxRecDepth 100000 in
theorem hm_ok19 : ∀ pc, hm_ckr 19 pc = true := hm_okl hm_j19 (fun _ => rfl) (N := 43) (by decide +kernel)
set_option maxRecDepth 100000 in
theorem hm_ok20 : ∀ pc, hm_ckr 20 pc = true := hm_okl hm_j20 (fun _ => rfl) (N := 30) (by decide +kernel)
set_option maxRecDepth 100000 in
theorem hm_ok21 : ∀ pc, hm_ckr 21 pc = true := hm_okl hm_j21 (fun _ => rfl) (N := 64) (by decide +kernel)
set_option maxRecDepth 100000 in
theorem hm_ok22 : ∀ pc, hm_ckr 22 pc = true := hm_okl hm_j22 (fun _ => rfl) (N := 30) (by decide +kernel)
set_option maxRecDepth 100000 in
theorem hm_ok23 : ∀ pc, hm_ckr 23 pc = true := hm_okl hm_j23 (fun _ => rfl) (N := 63) (by decide +kernel)
set_option maxRecDepth 100000 in
theorem hm_ok24 : ∀ pc, hm_ckr 24 pc = true := hm_okl hm_j24 (fun _ => rfl) (N := 22) (by decide +kernel)
set_option maxRecDepth 100000 in
theorem hm_ok25 : ∀ pc, hm_ckr 25 pc = true := hm_okl hm_j25 (fun _ => rfl) (N := 57) (by decide +kernel)
set_option maxRecDepth 100000 in
theorem hm_ok26 : ∀ pc, hm_ckr 26 pc = true := hm_okl hm_j26 (fun _ => rfl) (N := 46) (by decide +kernel)
set_option maxRecDepth 100000 in
theorem hm_ok27 : ∀ pc, hm_ckr 27 pc = true := hm_okl hm_j27 (fun _ => rfl) (N := 15) (by decide +kernel)
set_option maxRecDepth 100000 in
theorem hm_ok28 : ∀ pc, hm_ckr 28 pc = true := hm_okl hm_j28 (fun _ => rfl) (N := 39) (by decide +kernel)
set_option maxRecDepth 100000 in
theorem hm_ok29 : ∀ pc, hm_ckr 29 pc = true := hm_okl hm_j29 (fun _ => rfl) (N := 51) (by decide +kernel)
set_option maxRecDepth 100000 in
theorem hm_ok30 : ∀ pc, hm_ckr 30 pc = true := hm_okl hm_j30 (fun _ => rfl) (N := 135) (by decide +kernel)
set_option maxRecDepth 100000 in
theorem hm_ok31 : ∀ pc, hm_ckr 31 pc = true := hm_okl hm_j31 (fun _ => rfl) (N := 16) (by decide +kernel)
set_option maxRecDepth 100000 in
theorem hm_ok32 : ∀ pc, hm_ckr 32 pc = true := hm_okl hm_j32 (fun _ => rfl) (N := 16) (by decide +kernel)
set_option maxRecDepth 100000 in
theorem hm_ok33 : ∀ pc, hm_ckr 33 pc = true := hm_okl hm_j33 (fun _ => rfl) (N := 16) (by decide +kernel)
set_option maxRecDepth 100000 in
theorem hm_ok34 : ∀ pc, hm_ckr 34 pc = true := hm_okl hm_j34 (fun _ => rfl) (N := 16) (by decide +kernel)
set_option maxRecDepth 100000 in
theorem hm_ok35 : ∀ pc, hm_ckr 35 pc = true := hm_okl hm_j35 (fun _ => rfl) (N := 7) (by decide +kernel)
set_option maxRecDepth 100000 in
theorem hm_ok36 : ∀ pc, hm_ckr 36 pc = true := hm_okl hm_j36 (fun _ => rfl) (N := 15) (by decide +kernel)
set_option maxRecDepth 100000 in
theorem hm_ok37 : ∀ pc, hm_ckr 37 pc = true := hm_okl hm_j37 (fun _ => rfl) (N := 40) (by decide +kernel)
set_option maxRecDepth 100000 in
theorem hm_ok38 : ∀ pc, hm_ckr 38 pc = true := hm_okl hm_j38 (fun _ => rfl) (N := 50) (by decide +kernel)
set_option maxRecDepth 100000 in
theorem hm_ok39 : ∀ pc, hm_ckr 39 pc = true := hm_okl hm_j39 (fun _ => rfl) (N := 14) (by decide +kernel)
set_option maxRecDepth 100000 in
theorem hm_ok40 : ∀ pc, hm_ckr 40 pc = true := hm_okl hm_j40 (fun _ => rfl) (N := 21) (by decide +kernel)
set_option maxRecDepth 100000 in
theorem hm_ok41 : ∀ pc, hm_ckr 41 pc = true := hm_okl hm_j41 (fun _ => rfl) (N := 14) (by decide +kernel)
set_option maxRecDepth 100000 in
theorem hm_ok42 : ∀ pc, hm_ckr 42 pc = true := hm_okl hm_j42 (fun _ => rfl) (N := 11) (by decide +kernel)
set_option maxRecDepth 100000 in
theorem hm_ok43 : ∀ pc, hm_ckr 43 pc = true := hm_okl hm_j43 (fun _ => rfl) (N := 32) (by decide +kernel)
set_option maxRecDepth 100000 in
theorem hm_ok44 : ∀ pc, hm_ckr 44 pc = true := hm_okl hm_j44 (fun _ => rfl) (N := 20) (by decide +kernel)
set_option maxRecDepth 100000 in
theorem hm_ok45 : ∀ pc, hm_ckr 45 pc = true := hm_okl hm_j45 (fun _ => rfl) (N := 58) (by decide +kernel)
set_option maxRecDepth 100000 in
theorem hm_ok46 : ∀ pc, hm_ckr 46 pc = true := hm_okl hm_j46 (fun _ => rfl) (N := 63) (by decide +kernel)
set_option maxRecDepth 100000 in
theorem hm_ok47 : ∀ pc, hm_ckr 47 pc = true := hm_okl hm_j47 (fun _ => rfl) (N := 75) (by decide +kernel)
set_option maxRecDepth 100000 in
theorem hm_ok48 : ∀ pc, hm_ckr 48 pc = true := hm_okl hm_j48 (fun _ => rfl) (N := 21) (by decide +kernel)
set_option maxRecDepth 100000 in
theorem hm_ok49 : ∀ pc, hm_ckr 49 pc = true := hm_okl hm_j49 (fun _ => rfl) (N := 25) (by decide +kernel)
