/-! Behind a constructor's rows the shape is the house's. -/
theorem hm_nro {sh : Nat → hm_Sh} {N n me j i : Nat} (h1 : i < N) (h2 : i ≠ me) : hm_nr sh N n me j i = sh i := by
  unfold hm_nr
  rw [if_neg (Nat.ne_of_lt h1), if_neg (Nat.ne_of_lt (Nat.lt_succ_of_lt h1)), if_neg h2]
set_option maxRecDepth 20000 in
theorem ag_68 {sh : Nat → hm_Sh} {hc : hm_Sh} {L : Nat} {g : Nat → hm_Sh} (hs : ∀ i, i < 47 → sh i = hm_shh hc L g i) (hme : sh 47 = (1, 0, fun _ => none)) : ∀ i, i < 50 → hm_shh hc L g i = (hm_nr sh 48 1365 47 0) i := by
  intro i hi
  by_cases h : i < 47
  · rw [hm_nro (show i < 48 by omega) (show i ≠ 47 by omega), hs i h]
  · rcases (show i = 47 ∨ i = 48 ∨ i = 49 by omega) with rfl | rfl | rfl
    · simp only [hm_nr, hme]
      refine Prod.ext rfl (Prod.ext rfl (funext fun q => ?_))
      by_cases q0 : q = 0
      · subst q0
        rfl
      show (if q = 0 then some 48 else none) = _
      simp [q0]
    · rfl
    · rfl
set_option maxRecDepth 20000 in
theorem ag_84 {sh : Nat → hm_Sh} {hc : hm_Sh} {L : Nat} {g : Nat → hm_Sh} (hs : ∀ i, i < 3 → sh i = hm_shh hc L g i) (hme : sh 3 = (2, 0, fun _ => none)) : ∀ i, i < 14 → hm_shh hc L g i = (hm_nr (hm_nr (hm_nr (hm_nr (hm_nr sh 4 16 3 0) 6 16 3 1) 8 6144 3 2) 10 6144 3 3) 12 24 3 4) i := by
  intro i hi
  by_cases h : i < 3
  · rw [hm_nro (show i < 12 by omega) (show i ≠ 3 by omega), hm_nro (show i < 10 by omega) (show i ≠ 3 by omega), hm_nro (show i < 8 by omega) (show i ≠ 3 by omega), hm_nro (show i < 6 by omega) (show i ≠ 3 by omega), hm_nro (show i < 4 by omega) (show i ≠ 3 by omega), hs i h]
  · rcases (show i = 3 ∨ i = 4 ∨ i = 5 ∨ i = 6 ∨ i = 7 ∨ i = 8 ∨ i = 9 ∨ i = 10 ∨ i = 11 ∨ i = 12 ∨ i = 13 by omega) with rfl | rfl | rfl | rfl | rfl | rfl | rfl | rfl | rfl | rfl | rfl
    · simp only [hm_nr, hme]
      refine Prod.ext rfl (Prod.ext rfl (funext fun q => ?_))
      by_cases q0 : q = 0
      · subst q0
        rfl
      by_cases q1 : q = 1
      · subst q1
        rfl
      by_cases q2 : q = 2
      · subst q2
        rfl
      by_cases q3 : q = 3
      · subst q3
        rfl
      by_cases q4 : q = 4
      · subst q4
        rfl
      show (if q = 0 then some 4 else if q = 1 then some 6 else if q = 2 then some 8 else if q = 3 then some 10 else if q = 4 then some 12 else none) = _
      simp [q0, q1, q2, q3, q4]
    · rfl
    · rfl
    · rfl
    · rfl
    · rfl
    · rfl
    · rfl
    · rfl
    · rfl
    · rfl
set_option maxRecDepth 20000 in
theorem ag_100 {sh : Nat → hm_Sh} {hc : hm_Sh} {L : Nat} {g : Nat → hm_Sh} (hs : ∀ i, i < 59 → sh i = hm_shh hc L g i) (hme : sh 59 = (3, 0, fun _ => none)) : ∀ i, i < 64 → hm_shh hc L g i = (hm_nr (hm_nr sh 60 1024 59 0) 62 1024 59 1) i := by
  intro i hi
  by_cases h : i < 59
  · rw [hm_nro (show i < 62 by omega) (show i ≠ 59 by omega), hm_nro (show i < 60 by omega) (show i ≠ 59 by omega), hs i h]
  · rcases (show i = 59 ∨ i = 60 ∨ i = 61 ∨ i = 62 ∨ i = 63 by omega) with rfl | rfl | rfl | rfl | rfl
    · simp only [hm_nr, hme]
      refine Prod.ext rfl (Prod.ext rfl (funext fun q => ?_))
      by_cases q0 : q = 0
      · subst q0
        rfl
      by_cases q1 : q = 1
      · subst q1
        rfl
      show (if q = 0 then some 60 else if q = 1 then some 62 else none) = _
      simp [q0, q1]
    · rfl
    · rfl
    · rfl
    · rfl
set_option maxRecDepth 20000 in
theorem ag_110 {sh : Nat → hm_Sh} {hc : hm_Sh} {L : Nat} {g : Nat → hm_Sh} (hs : ∀ i, i < 25 → sh i = hm_shh hc L g i) (hme : sh 25 = (4, 0, fun _ => none)) : ∀ i, i < 42 → hm_shh hc L g i = (hm_nr (hm_nr (hm_nr (hm_nr (hm_nr (hm_nr (hm_nr (hm_nr sh 26 2048 25 0) 28 2048 25 1) 30 2048 25 2) 32 2048 25 3) 34 80 25 4) 36 80 25 5) 38 80 25 6) 40 80 25 7) i := by
  intro i hi
  by_cases h : i < 25
  · rw [hm_nro (show i < 40 by omega) (show i ≠ 25 by omega), hm_nro (show i < 38 by omega) (show i ≠ 25 by omega), hm_nro (show i < 36 by omega) (show i ≠ 25 by omega), hm_nro (show i < 34 by omega) (show i ≠ 25 by omega), hm_nro (show i < 32 by omega) (show i ≠ 25 by omega), hm_nro (show i < 30 by omega) (show i ≠ 25 by omega), hm_nro (show i < 28 by omega) (show i ≠ 25 by omega), hm_nro (show i < 26 by omega) (show i ≠ 25 by omega), hs i h]
  · rcases (show i = 25 ∨ i = 26 ∨ i = 27 ∨ i = 28 ∨ i = 29 ∨ i = 30 ∨ i = 31 ∨ i = 32 ∨ i = 33 ∨ i = 34 ∨ i = 35 ∨ i = 36 ∨ i = 37 ∨ i = 38 ∨ i = 39 ∨ i = 40 ∨ i = 41 by omega) with rfl | rfl | rfl | rfl | rfl | rfl | rfl | rfl | rfl | rfl | rfl | rfl | rfl | rfl | rfl | rfl | rfl
    · simp only [hm_nr, hme]
      refine Prod.ext rfl (Prod.ext rfl (funext fun q => ?_))
      by_cases q0 : q = 0
      · subst q0
        rfl
      by_cases q1 : q = 1
      · subst q1
        rfl
      by_cases q2 : q = 2
      · subst q2
        rfl
      by_cases q3 : q = 3
      · subst q3
        rfl
      by_cases q4 : q = 4
      · subst q4
        rfl
      by_cases q5 : q = 5
      · subst q5
        rfl
      by_cases q6 : q = 6
      · subst q6
        rfl
      by_cases q7 : q = 7
      · subst q7
        rfl
      show (if q = 0 then some 26 else if q = 1 then some 28 else if q = 2 then some 30 else if q = 3 then some 32 else if q = 4 then some 34 else if q = 5 then some 36 else if q = 6 then some 38 else if q = 7 then some 40 else none) = _
      simp [q0, q1, q2, q3, q4, q5, q6, q7]
    · rfl
    · rfl
    · rfl
    · rfl
    · rfl
    · rfl
    · rfl
    · rfl
    · rfl
    · rfl
    · rfl
    · rfl
    · rfl
    · rfl
    · rfl
    · rfl
set_option maxRecDepth 20000 in
theorem ag_123 {sh : Nat → hm_Sh} {hc : hm_Sh} {L : Nat} {g : Nat → hm_Sh} (hs : ∀ i, i < 64 → sh i = hm_shh hc L g i) (hme : sh 64 = (5, 0, fun _ => none)) : ∀ i, i < 67 → hm_shh hc L g i = (hm_nr sh 65 80 64 0) i := by
  intro i hi
  by_cases h : i < 64
  · rw [hm_nro (show i < 65 by omega) (show i ≠ 64 by omega), hs i h]
  · rcases (show i = 64 ∨ i = 65 ∨ i = 66 by omega) with rfl | rfl | rfl
    · simp only [hm_nr, hme]
      refine Prod.ext rfl (Prod.ext rfl (funext fun q => ?_))
      by_cases q0 : q = 0
      · subst q0
        rfl
      show (if q = 0 then some 65 else none) = _
      simp [q0]
    · rfl
    · rfl
set_option maxRecDepth 20000 in
theorem ag_131 {sh : Nat → hm_Sh} {hc : hm_Sh} {L : Nat} {g : Nat → hm_Sh} (hs : ∀ i, i < 42 → sh i = hm_shh hc L g i) (hme : sh 42 = (6, 0, fun _ => none)) : ∀ i, i < 47 → hm_shh hc L g i = (hm_nr (hm_nr sh 43 1024 42 0) 45 1025 42 1) i := by
  intro i hi
  by_cases h : i < 42
  · rw [hm_nro (show i < 45 by omega) (show i ≠ 42 by omega), hm_nro (show i < 43 by omega) (show i ≠ 42 by omega), hs i h]
  · rcases (show i = 42 ∨ i = 43 ∨ i = 44 ∨ i = 45 ∨ i = 46 by omega) with rfl | rfl | rfl | rfl | rfl
    · simp only [hm_nr, hme]
      refine Prod.ext rfl (Prod.ext rfl (funext fun q => ?_))
      by_cases q0 : q = 0
      · subst q0
        rfl
      by_cases q1 : q = 1
      · subst q1
        rfl
      show (if q = 0 then some 43 else if q = 1 then some 45 else none) = _
      simp [q0, q1]
    · rfl
    · rfl
    · rfl
    · rfl
set_option maxRecDepth 20000 in
theorem ag_155 {sh : Nat → hm_Sh} {hc : hm_Sh} {L : Nat} {g : Nat → hm_Sh} (hs : ∀ i, i < 14 → sh i = hm_shh hc L g i) (hme : sh 14 = (7, 0, fun _ => none)) : ∀ i, i < 25 → hm_shh hc L g i = (hm_nr (hm_nr (hm_nr (hm_nr (hm_nr sh 15 80 14 0) 17 80 14 1) 19 80 14 2) 21 80 14 3) 23 80 14 4) i := by
  intro i hi
  by_cases h : i < 14
  · rw [hm_nro (show i < 23 by omega) (show i ≠ 14 by omega), hm_nro (show i < 21 by omega) (show i ≠ 14 by omega), hm_nro (show i < 19 by omega) (show i ≠ 14 by omega), hm_nro (show i < 17 by omega) (show i ≠ 14 by omega), hm_nro (show i < 15 by omega) (show i ≠ 14 by omega), hs i h]
  · rcases (show i = 14 ∨ i = 15 ∨ i = 16 ∨ i = 17 ∨ i = 18 ∨ i = 19 ∨ i = 20 ∨ i = 21 ∨ i = 22 ∨ i = 23 ∨ i = 24 by omega) with rfl | rfl | rfl | rfl | rfl | rfl | rfl | rfl | rfl | rfl | rfl
    · simp only [hm_nr, hme]
      refine Prod.ext rfl (Prod.ext rfl (funext fun q => ?_))
      by_cases q0 : q = 0
      · subst q0
        rfl
      by_cases q1 : q = 1
      · subst q1
        rfl
      by_cases q2 : q = 2
      · subst q2
        rfl
      by_cases q3 : q = 3
      · subst q3
        rfl
      by_cases q4 : q = 4
      · subst q4
        rfl
      show (if q = 0 then some 15 else if q = 1 then some 17 else if q = 2 then some 19 else if q = 3 then some 21 else if q = 4 then some 23 else none) = _
      simp [q0, q1, q2, q3, q4]
    · rfl
    · rfl
    · rfl
    · rfl
    · rfl
    · rfl
    · rfl
    · rfl
    · rfl
    · rfl
set_option maxRecDepth 20000 in
theorem ag_184 {sh : Nat → hm_Sh} {hc : hm_Sh} {L : Nat} {g : Nat → hm_Sh} (hs : ∀ i, i < 50 → sh i = hm_shh hc L g i) (hme : sh 50 = (9, 0, fun _ => none)) : ∀ i, i < 59 → hm_shh hc L g i = (hm_nr (hm_nr (hm_nr (hm_nr sh 51 20 50 0) 53 20 50 1) 55 20 50 2) 57 20 50 3) i := by
  intro i hi
  by_cases h : i < 50
  · rw [hm_nro (show i < 57 by omega) (show i ≠ 50 by omega), hm_nro (show i < 55 by omega) (show i ≠ 50 by omega), hm_nro (show i < 53 by omega) (show i ≠ 50 by omega), hm_nro (show i < 51 by omega) (show i ≠ 50 by omega), hs i h]
  · rcases (show i = 50 ∨ i = 51 ∨ i = 52 ∨ i = 53 ∨ i = 54 ∨ i = 55 ∨ i = 56 ∨ i = 57 ∨ i = 58 by omega) with rfl | rfl | rfl | rfl | rfl | rfl | rfl | rfl | rfl
    · simp only [hm_nr, hme]
      refine Prod.ext rfl (Prod.ext rfl (funext fun q => ?_))
      by_cases q0 : q = 0
      · subst q0
        rfl
      by_cases q1 : q = 1
      · subst q1
        rfl
      by_cases q2 : q = 2
      · subst q2
        rfl
      by_cases q3 : q = 3
      · subst q3
        rfl
      show (if q = 0 then some 51 else if q = 1 then some 53 else if q = 2 then some 55 else if q = 3 then some 57 else none) = _
      simp [q0, q1, q2, q3]
    · rfl
    · rfl
    · rfl
    · rfl
    · rfl
    · rfl
    · rfl
    · rfl
