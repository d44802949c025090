/-! The house's constructor. -/
def hm_hu (hc : hm_Sh) (j r : Nat) : hm_Sh := (hc.1, hc.2.1, fun q => if q = j then some r else hc.2.2 q)
theorem hm_wr2 {n L j r : Nat} {hc : hm_Sh} {g : Nat → hm_Sh} {s : hm_St} : hm_wr (n, hm_shh hc L g, s) 2 j (some r) = (n, hm_shh (hm_hu hc j r) L g, s) := by
  unfold hm_wr
  refine Prod.ext rfl (Prod.ext ?_ rfl)
  funext i
  show (if i = 2 then _ else hm_shh hc L g i) = hm_shh (hm_hu hc j r) L g i
  by_cases h : i = 2
  · subst h
    rfl
  · rw [if_neg h]
    unfold hm_shh
    have e : Nat.beq i 2 = false := by
      cases q : Nat.beq i 2 with
      | false => rfl
      | true => exact absurd (Nat.eq_of_beq_eq_true q) h
    rw [e]
    rfl
def hm_mks (sh : Nat → hm_Sh) (N c : Nat) : Nat → hm_Sh := fun i => if i = N then (c, 0, fun _ => none) else sh i
theorem hm_mkS (N : Nat) (sh : Nat → hm_Sh) (s : hm_St) (c : Nat) : hm_mk (N, sh, s) c 0 = (N + 1, hm_mks sh N c, hm_sn s N) := rfl
theorem hm_mkl {N c i : Nat} {sh : Nat → hm_Sh} (h : i < N) : hm_mks sh N c i = sh i := if_neg (Nat.ne_of_lt h)
theorem hm_mkq {N c : Nat} {sh : Nat → hm_Sh} : hm_mks sh N c N = (c, 0, fun _ => none) := if_pos rfl
theorem ag_0 {L : Nat} {g : Nat → hm_Sh} : ∀ i, i < 67 → hm_sh L g i = hm_shh (hm_hu (hm_hu (hm_hu (hm_hu (hm_hu (hm_hu (hm_hu (hm_hu (10, 0, fun _ => none) 0 3) 1 14) 2 25) 3 42) 4 47) 5 50) 6 59) 7 64) L g i := by
  intro i hi
  have e1 : Nat.blt i 68 = true := Nat.blt_eq.mpr (Nat.lt_succ_of_lt hi)
  by_cases h : i = 2
  · subst h
    refine Prod.ext rfl (Prod.ext rfl (funext fun q => ?_))
    by_cases q0 : q = 0
    · subst q0
      rfl
    by_cases q1 : q = 1
    · subst q1
      rfl
    by_cases q2 : q = 2
    · subst q2
      rfl
    by_cases q3 : q = 3
    · subst q3
      rfl
    by_cases q4 : q = 4
    · subst q4
      rfl
    by_cases q5 : q = 5
    · subst q5
      rfl
    by_cases q6 : q = 6
    · subst q6
      rfl
    by_cases q7 : q = 7
    · subst q7
      rfl
    show (if q = 0 then some 3 else if q = 1 then some 14 else if q = 2 then some 25 else if q = 3 then some 42 else if q = 4 then some 47 else if q = 5 then some 50 else if q = 6 then some 59 else if q = 7 then some 64 else none) = _
    simp [hm_hu, hm_shh, q0, q1, q2, q3, q4, q5, q6, q7]
  · have e2 : Nat.beq i 2 = false := by
      cases q : Nat.beq i 2 with
      | false => rfl
      | true => exact absurd (Nat.eq_of_beq_eq_true q) h
    unfold hm_sh hm_shh
    rw [e1, e2]
    rfl
def hm_s0 (s : hm_St) : hm_St := (hm_w1 (hm_w1 (hm_ns (hm_sn (hm_ns (hm_ns (hm_sn (hm_ns (hm_ns (hm_ns (hm_ns (hm_sn (T_69 (hm_ns (hm_sn (T_132 (hm_ns (hm_ns (hm_sn (hm_ns (hm_ns (hm_ns (hm_ns (hm_ns (hm_ns (hm_ns (hm_ns (hm_sn (hm_ns (hm_ns (hm_ns (hm_ns (hm_ns (hm_sn (T_84 (hm_ns (hm_ns (hm_ns (hm_ns (hm_ns (hm_sn s 3) 4) 6) 8) 10) 12) 3) 14) 15) 17) 19) 21) 23) 25) 26) 28) 30) 32) 34) 36) 38) 40) 42) 43) 45) 3 4) 47) 48) 3) 50) 51) 53) 55) 57) 59) 60) 62) 64) 65) 2 8 3) 2 9 1)
set_option maxRecDepth 20000 in
theorem ci_0 {R : hm_R} (hR : hm_Ce R) {sh : Nat → hm_Sh} {L : Nat} {g : Nat → hm_Sh} {s : hm_St} {b : hm_B} {Q : hm_Q} (h0 : sh 0 = hm_sh0 L 0) (h1 : sh 1 = hm_sh0 L 1) (h2 : sh 2 = (10, 0, fun _ => none)) (hb1 : 64 ≤ b.1) (hb2 : 26950 ≤ b.2) (hq : Q (.inr none) (67, hm_sh L g, hm_s0 s)) : R 0 0 (lv_args 0 [.ref 2]) [] (3, sh, s) b Q := by
  show R 0 0 [(0, .ref 2)] [] (3, sh, s) b Q
  refine hR.2 _ _ _ _ _ _ (hm_shh (10, 0, fun _ => none) L g) _ _ _ _ (fun i hi => ⟨?_, rfl⟩) ?_
  · rcases (show i = 0 ∨ i = 1 ∨ i = 2 by omega) with rfl | rfl | rfl
    · rw [h0]; rfl
    · rw [h1]; rfl
    · rw [h2]; rfl
  refine hm_st hR.1 (hm_st hR.1 ⟨hm_le rfl, ?_⟩)
  show R 0 4 [(0, .ref 2)] [] (3, hm_shh (10, 0, fun _ => none) L g, s) (b.1, b.2) Q
  refine hm_st hR.1 ?_
  show R 0 5 [(0, .ref 2)] [.ref 2] (3, hm_shh (10, 0, fun _ => none) L g, s) (b.1, b.2) Q
  refine hm_st hR.1 ⟨(by show 1 ≤ b.1; omega), (by show 7 ≤ b.2; omega), hm_st hR.1 ⟨rfl, hm_st hR.1 (?_)⟩⟩
  show R 0 10 [(0, .ref 2)] [.int 3, .ref 3, .ref 3, .ref 2] (hm_mk (3, hm_shh (10, 0, fun _ => none) L g, s) 2 0) (b.1 - 1, b.2 - 7) Q
  rw [hm_mkS 3 (hm_shh (10, 0, fun _ => none) L g) s 2]
  refine hm_st hR.1 ⟨hm_le rfl, hm_le rfl, hm_le rfl, hm_le rfl, (10, 12349), (by show 10 ≤ b.1 - 1; omega), (by show 12349 ≤ b.2 - 7; omega), ?_⟩
  refine ci_84 hR (hc := (10, 0, fun _ => none)) (L := L) (g := g) (fun i hi => hm_mkl hi) (hm_mkq)  (Nat.le_refl _) (Nat.le_refl _) ?_
  show R 0 13 [(0, .ref 2)] [.ref 3, .ref 2] (14, hm_shh (10, 0, fun _ => none) L g, (T_84 (hm_ns (hm_ns (hm_ns (hm_ns (hm_ns (hm_sn s 3) 4) 6) 8) 10) 12) 3)) (b.1 - 1 - 10, b.2 - 7 - 12349) Q
  refine hm_st hR.1 ⟨rfl, rfl, hm_le rfl, (show 2 < 14 by decide), ?_⟩
  rw [hm_wr2]
  show R 0 16 [(0, .ref 2)] [] (14, hm_shh (hm_hu (10, 0, fun _ => none) 0 3) L g, (T_84 (hm_ns (hm_ns (hm_ns (hm_ns (hm_ns (hm_sn s 3) 4) 6) 8) 10) 12) 3)) (b.1 - 1 - 10, b.2 - 7 - 12349) Q
  refine hm_st hR.1 ?_
  show R 0 17 [(0, .ref 2)] [.ref 2] (14, hm_shh (hm_hu (10, 0, fun _ => none) 0 3) L g, (T_84 (hm_ns (hm_ns (hm_ns (hm_ns (hm_ns (hm_sn s 3) 4) 6) 8) 10) 12) 3)) (b.1 - 1 - 10, b.2 - 7 - 12349) Q
  refine hm_st hR.1 ⟨(by show 1 ≤ b.1 - 1 - 10; omega), (by show 7 ≤ b.2 - 7 - 12349; omega), hm_st hR.1 ⟨rfl, ?_⟩⟩
  show R 0 21 [(0, .ref 2)] [.ref 14, .ref 14, .ref 2] (hm_mk (14, hm_shh (hm_hu (10, 0, fun _ => none) 0 3) L g, (T_84 (hm_ns (hm_ns (hm_ns (hm_ns (hm_ns (hm_sn s 3) 4) 6) 8) 10) 12) 3)) 7 0) (b.1 - 1 - 10 - 1, b.2 - 7 - 12349 - 7) Q
  rw [hm_mkS 14 (hm_shh (hm_hu (10, 0, fun _ => none) 0 3) L g) (T_84 (hm_ns (hm_ns (hm_ns (hm_ns (hm_ns (hm_sn s 3) 4) 6) 8) 10) 12) 3) 7]
  refine hm_st hR.1 ⟨hm_le rfl, hm_le rfl, hm_le rfl, hm_le rfl, (10, 405), (by show 10 ≤ b.1 - 1 - 10 - 1; omega), (by show 405 ≤ b.2 - 7 - 12349 - 7; omega), ?_⟩
  refine ci_155 hR (hc := (hm_hu (10, 0, fun _ => none) 0 3)) (L := L) (g := g) (fun i hi => hm_mkl hi) (hm_mkq)  (Nat.le_refl _) (Nat.le_refl _) ?_
  show R 0 24 [(0, .ref 2)] [.ref 14, .ref 2] (25, hm_shh (hm_hu (10, 0, fun _ => none) 0 3) L g, (hm_ns (hm_ns (hm_ns (hm_ns (hm_ns (hm_sn (T_84 (hm_ns (hm_ns (hm_ns (hm_ns (hm_ns (hm_sn s 3) 4) 6) 8) 10) 12) 3) 14) 15) 17) 19) 21) 23)) (b.1 - 1 - 10 - 1 - 10, b.2 - 7 - 12349 - 7 - 405) Q
  refine hm_st hR.1 ⟨rfl, rfl, hm_le rfl, (show 2 < 25 by decide), ?_⟩
  rw [hm_wr2]
  show R 0 27 [(0, .ref 2)] [] (25, hm_shh (hm_hu (hm_hu (10, 0, fun _ => none) 0 3) 1 14) L g, (hm_ns (hm_ns (hm_ns (hm_ns (hm_ns (hm_sn (T_84 (hm_ns (hm_ns (hm_ns (hm_ns (hm_ns (hm_sn s 3) 4) 6) 8) 10) 12) 3) 14) 15) 17) 19) 21) 23)) (b.1 - 1 - 10 - 1 - 10, b.2 - 7 - 12349 - 7 - 405) Q
  refine hm_st hR.1 ?_
  show R 0 28 [(0, .ref 2)] [.ref 2] (25, hm_shh (hm_hu (hm_hu (10, 0, fun _ => none) 0 3) 1 14) L g, (hm_ns (hm_ns (hm_ns (hm_ns (hm_ns (hm_sn (T_84 (hm_ns (hm_ns (hm_ns (hm_ns (hm_ns (hm_sn s 3) 4) 6) 8) 10) 12) 3) 14) 15) 17) 19) 21) 23)) (b.1 - 1 - 10 - 1 - 10, b.2 - 7 - 12349 - 7 - 405) Q
  refine hm_st hR.1 ⟨(by show 1 ≤ b.1 - 1 - 10 - 1 - 10; omega), (by show 10 ≤ b.2 - 7 - 12349 - 7 - 405; omega), hm_st hR.1 ⟨rfl, ?_⟩⟩
  show R 0 32 [(0, .ref 2)] [.ref 25, .ref 25, .ref 2] (hm_mk (25, hm_shh (hm_hu (hm_hu (10, 0, fun _ => none) 0 3) 1 14) L g, (hm_ns (hm_ns (hm_ns (hm_ns (hm_ns (hm_sn (T_84 (hm_ns (hm_ns (hm_ns (hm_ns (hm_ns (hm_sn s 3) 4) 6) 8) 10) 12) 3) 14) 15) 17) 19) 21) 23)) 4 0) (b.1 - 1 - 10 - 1 - 10 - 1, b.2 - 7 - 12349 - 7 - 405 - 10) Q
  rw [hm_mkS 25 (hm_shh (hm_hu (hm_hu (10, 0, fun _ => none) 0 3) 1 14) L g) (hm_ns (hm_ns (hm_ns (hm_ns (hm_ns (hm_sn (T_84 (hm_ns (hm_ns (hm_ns (hm_ns (hm_ns (hm_sn s 3) 4) 6) 8) 10) 12) 3) 14) 15) 17) 19) 21) 23) 4]
  refine hm_st hR.1 ⟨hm_le rfl, hm_le rfl, hm_le rfl, hm_le rfl, (16, 8520), (by show 16 ≤ b.1 - 1 - 10 - 1 - 10 - 1; omega), (by show 8520 ≤ b.2 - 7 - 12349 - 7 - 405 - 10; omega), ?_⟩
  refine ci_110 hR (hc := (hm_hu (hm_hu (10, 0, fun _ => none) 0 3) 1 14)) (L := L) (g := g) (fun i hi => hm_mkl hi) (hm_mkq)  (Nat.le_refl _) (Nat.le_refl _) ?_
  show R 0 35 [(0, .ref 2)] [.ref 25, .ref 2] (42, hm_shh (hm_hu (hm_hu (10, 0, fun _ => none) 0 3) 1 14) L g, (hm_ns (hm_ns (hm_ns (hm_ns (hm_ns (hm_ns (hm_ns (hm_ns (hm_sn (hm_ns (hm_ns (hm_ns (hm_ns (hm_ns (hm_sn (T_84 (hm_ns (hm_ns (hm_ns (hm_ns (hm_ns (hm_sn s 3) 4) 6) 8) 10) 12) 3) 14) 15) 17) 19) 21) 23) 25) 26) 28) 30) 32) 34) 36) 38) 40)) (b.1 - 1 - 10 - 1 - 10 - 1 - 16, b.2 - 7 - 12349 - 7 - 405 - 10 - 8520) Q
  refine hm_st hR.1 ⟨rfl, rfl, hm_le rfl, (show 2 < 42 by decide), ?_⟩
  rw [hm_wr2]
  show R 0 38 [(0, .ref 2)] [] (42, hm_shh (hm_hu (hm_hu (hm_hu (10, 0, fun _ => none) 0 3) 1 14) 2 25) L g, (hm_ns (hm_ns (hm_ns (hm_ns (hm_ns (hm_ns (hm_ns (hm_ns (hm_sn (hm_ns (hm_ns (hm_ns (hm_ns (hm_ns (hm_sn (T_84 (hm_ns (hm_ns (hm_ns (hm_ns (hm_ns (hm_sn s 3) 4) 6) 8) 10) 12) 3) 14) 15) 17) 19) 21) 23) 25) 26) 28) 30) 32) 34) 36) 38) 40)) (b.1 - 1 - 10 - 1 - 10 - 1 - 16, b.2 - 7 - 12349 - 7 - 405 - 10 - 8520) Q
  refine hm_st hR.1 ?_
  show R 0 39 [(0, .ref 2)] [.ref 2] (42, hm_shh (hm_hu (hm_hu (hm_hu (10, 0, fun _ => none) 0 3) 1 14) 2 25) L g, (hm_ns (hm_ns (hm_ns (hm_ns (hm_ns (hm_ns (hm_ns (hm_ns (hm_sn (hm_ns (hm_ns (hm_ns (hm_ns (hm_ns (hm_sn (T_84 (hm_ns (hm_ns (hm_ns (hm_ns (hm_ns (hm_sn s 3) 4) 6) 8) 10) 12) 3) 14) 15) 17) 19) 21) 23) 25) 26) 28) 30) 32) 34) 36) 38) 40)) (b.1 - 1 - 10 - 1 - 10 - 1 - 16, b.2 - 7 - 12349 - 7 - 405 - 10 - 8520) Q
  refine hm_st hR.1 ⟨(by show 1 ≤ b.1 - 1 - 10 - 1 - 10 - 1 - 16; omega), (by show 7 ≤ b.2 - 7 - 12349 - 7 - 405 - 10 - 8520; omega), hm_st hR.1 ⟨rfl, hm_st hR.1 (hm_st hR.1 (?_))⟩⟩
  show R 0 45 [(0, .ref 2)] [.int 4, .int 3, .ref 42, .ref 42, .ref 2] (hm_mk (42, hm_shh (hm_hu (hm_hu (hm_hu (10, 0, fun _ => none) 0 3) 1 14) 2 25) L g, (hm_ns (hm_ns (hm_ns (hm_ns (hm_ns (hm_ns (hm_ns (hm_ns (hm_sn (hm_ns (hm_ns (hm_ns (hm_ns (hm_ns (hm_sn (T_84 (hm_ns (hm_ns (hm_ns (hm_ns (hm_ns (hm_sn s 3) 4) 6) 8) 10) 12) 3) 14) 15) 17) 19) 21) 23) 25) 26) 28) 30) 32) 34) 36) 38) 40)) 6 0) (b.1 - 1 - 10 - 1 - 10 - 1 - 16 - 1, b.2 - 7 - 12349 - 7 - 405 - 10 - 8520 - 7) Q
  rw [hm_mkS 42 (hm_shh (hm_hu (hm_hu (hm_hu (10, 0, fun _ => none) 0 3) 1 14) 2 25) L g) (hm_ns (hm_ns (hm_ns (hm_ns (hm_ns (hm_ns (hm_ns (hm_ns (hm_sn (hm_ns (hm_ns (hm_ns (hm_ns (hm_ns (hm_sn (T_84 (hm_ns (hm_ns (hm_ns (hm_ns (hm_ns (hm_sn s 3) 4) 6) 8) 10) 12) 3) 14) 15) 17) 19) 21) 23) 25) 26) 28) 30) 32) 34) 36) 38) 40) 6]
  refine hm_st hR.1 ⟨hm_le rfl, hm_le rfl, hm_le rfl, hm_le rfl, (4, 2051), (by show 4 ≤ b.1 - 1 - 10 - 1 - 10 - 1 - 16 - 1; omega), (by show 2051 ≤ b.2 - 7 - 12349 - 7 - 405 - 10 - 8520 - 7; omega), ?_⟩
  refine ci_131 hR (hc := (hm_hu (hm_hu (hm_hu (10, 0, fun _ => none) 0 3) 1 14) 2 25)) (L := L) (g := g) (fun i hi => hm_mkl hi) (hm_mkq)  (Nat.le_refl _) (Nat.le_refl _) ?_
  show R 0 48 [(0, .ref 2)] [.ref 42, .ref 2] (47, hm_shh (hm_hu (hm_hu (hm_hu (10, 0, fun _ => none) 0 3) 1 14) 2 25) L g, (T_132 (hm_ns (hm_ns (hm_sn (hm_ns (hm_ns (hm_ns (hm_ns (hm_ns (hm_ns (hm_ns (hm_ns (hm_sn (hm_ns (hm_ns (hm_ns (hm_ns (hm_ns (hm_sn (T_84 (hm_ns (hm_ns (hm_ns (hm_ns (hm_ns (hm_sn s 3) 4) 6) 8) 10) 12) 3) 14) 15) 17) 19) 21) 23) 25) 26) 28) 30) 32) 34) 36) 38) 40) 42) 43) 45) 3 4)) (b.1 - 1 - 10 - 1 - 10 - 1 - 16 - 1 - 4, b.2 - 7 - 12349 - 7 - 405 - 10 - 8520 - 7 - 2051) Q
  refine hm_st hR.1 ⟨rfl, rfl, hm_le rfl, (show 2 < 47 by decide), ?_⟩
  rw [hm_wr2]
  show R 0 51 [(0, .ref 2)] [] (47, hm_shh (hm_hu (hm_hu (hm_hu (hm_hu (10, 0, fun _ => none) 0 3) 1 14) 2 25) 3 42) L g, (T_132 (hm_ns (hm_ns (hm_sn (hm_ns (hm_ns (hm_ns (hm_ns (hm_ns (hm_ns (hm_ns (hm_ns (hm_sn (hm_ns (hm_ns (hm_ns (hm_ns (hm_ns (hm_sn (T_84 (hm_ns (hm_ns (hm_ns (hm_ns (hm_ns (hm_sn s 3) 4) 6) 8) 10) 12) 3) 14) 15) 17) 19) 21) 23) 25) 26) 28) 30) 32) 34) 36) 38) 40) 42) 43) 45) 3 4)) (b.1 - 1 - 10 - 1 - 10 - 1 - 16 - 1 - 4, b.2 - 7 - 12349 - 7 - 405 - 10 - 8520 - 7 - 2051) Q
  refine hm_st hR.1 ?_
  show R 0 52 [(0, .ref 2)] [.ref 2] (47, hm_shh (hm_hu (hm_hu (hm_hu (hm_hu (10, 0, fun _ => none) 0 3) 1 14) 2 25) 3 42) L g, (T_132 (hm_ns (hm_ns (hm_sn (hm_ns (hm_ns (hm_ns (hm_ns (hm_ns (hm_ns (hm_ns (hm_ns (hm_sn (hm_ns (hm_ns (hm_ns (hm_ns (hm_ns (hm_sn (T_84 (hm_ns (hm_ns (hm_ns (hm_ns (hm_ns (hm_sn s 3) 4) 6) 8) 10) 12) 3) 14) 15) 17) 19) 21) 23) 25) 26) 28) 30) 32) 34) 36) 38) 40) 42) 43) 45) 3 4)) (b.1 - 1 - 10 - 1 - 10 - 1 - 16 - 1 - 4, b.2 - 7 - 12349 - 7 - 405 - 10 - 8520 - 7 - 2051) Q
  refine hm_st hR.1 ⟨(by show 1 ≤ b.1 - 1 - 10 - 1 - 10 - 1 - 16 - 1 - 4; omega), (by show 2 ≤ b.2 - 7 - 12349 - 7 - 405 - 10 - 8520 - 7 - 2051; omega), hm_st hR.1 ⟨rfl, hm_st hR.1 (?_)⟩⟩
  show R 0 57 [(0, .ref 2)] [.int 3, .ref 47, .ref 47, .ref 2] (hm_mk (47, hm_shh (hm_hu (hm_hu (hm_hu (hm_hu (10, 0, fun _ => none) 0 3) 1 14) 2 25) 3 42) L g, (T_132 (hm_ns (hm_ns (hm_sn (hm_ns (hm_ns (hm_ns (hm_ns (hm_ns (hm_ns (hm_ns (hm_ns (hm_sn (hm_ns (hm_ns (hm_ns (hm_ns (hm_ns (hm_sn (T_84 (hm_ns (hm_ns (hm_ns (hm_ns (hm_ns (hm_sn s 3) 4) 6) 8) 10) 12) 3) 14) 15) 17) 19) 21) 23) 25) 26) 28) 30) 32) 34) 36) 38) 40) 42) 43) 45) 3 4)) 1 0) (b.1 - 1 - 10 - 1 - 10 - 1 - 16 - 1 - 4 - 1, b.2 - 7 - 12349 - 7 - 405 - 10 - 8520 - 7 - 2051 - 2) Q
  rw [hm_mkS 47 (hm_shh (hm_hu (hm_hu (hm_hu (hm_hu (10, 0, fun _ => none) 0 3) 1 14) 2 25) 3 42) L g) (T_132 (hm_ns (hm_ns (hm_sn (hm_ns (hm_ns (hm_ns (hm_ns (hm_ns (hm_ns (hm_ns (hm_ns (hm_sn (hm_ns (hm_ns (hm_ns (hm_ns (hm_ns (hm_sn (T_84 (hm_ns (hm_ns (hm_ns (hm_ns (hm_ns (hm_sn s 3) 4) 6) 8) 10) 12) 3) 14) 15) 17) 19) 21) 23) 25) 26) 28) 30) 32) 34) 36) 38) 40) 42) 43) 45) 3 4) 1]
  refine hm_st hR.1 ⟨hm_le rfl, hm_le rfl, hm_le rfl, hm_le rfl, (2, 1366), (by show 2 ≤ b.1 - 1 - 10 - 1 - 10 - 1 - 16 - 1 - 4 - 1; omega), (by show 1366 ≤ b.2 - 7 - 12349 - 7 - 405 - 10 - 8520 - 7 - 2051 - 2; omega), ?_⟩
  refine ci_68 hR (hc := (hm_hu (hm_hu (hm_hu (hm_hu (10, 0, fun _ => none) 0 3) 1 14) 2 25) 3 42)) (L := L) (g := g) (fun i hi => hm_mkl hi) (hm_mkq)  (Nat.le_refl _) (Nat.le_refl _) ?_
  show R 0 60 [(0, .ref 2)] [.ref 47, .ref 2] (50, hm_shh (hm_hu (hm_hu (hm_hu (hm_hu (10, 0, fun _ => none) 0 3) 1 14) 2 25) 3 42) L g, (T_69 (hm_ns (hm_sn (T_132 (hm_ns (hm_ns (hm_sn (hm_ns (hm_ns (hm_ns (hm_ns (hm_ns (hm_ns (hm_ns (hm_ns (hm_sn (hm_ns (hm_ns (hm_ns (hm_ns (hm_ns (hm_sn (T_84 (hm_ns (hm_ns (hm_ns (hm_ns (hm_ns (hm_sn s 3) 4) 6) 8) 10) 12) 3) 14) 15) 17) 19) 21) 23) 25) 26) 28) 30) 32) 34) 36) 38) 40) 42) 43) 45) 3 4) 47) 48) 3)) (b.1 - 1 - 10 - 1 - 10 - 1 - 16 - 1 - 4 - 1 - 2, b.2 - 7 - 12349 - 7 - 405 - 10 - 8520 - 7 - 2051 - 2 - 1366) Q
  refine hm_st hR.1 ⟨rfl, rfl, hm_le rfl, (show 2 < 50 by decide), ?_⟩
  rw [hm_wr2]
  show R 0 63 [(0, .ref 2)] [] (50, hm_shh (hm_hu (hm_hu (hm_hu (hm_hu (hm_hu (10, 0, fun _ => none) 0 3) 1 14) 2 25) 3 42) 4 47) L g, (T_69 (hm_ns (hm_sn (T_132 (hm_ns (hm_ns (hm_sn (hm_ns (hm_ns (hm_ns (hm_ns (hm_ns (hm_ns (hm_ns (hm_ns (hm_sn (hm_ns (hm_ns (hm_ns (hm_ns (hm_ns (hm_sn (T_84 (hm_ns (hm_ns (hm_ns (hm_ns (hm_ns (hm_sn s 3) 4) 6) 8) 10) 12) 3) 14) 15) 17) 19) 21) 23) 25) 26) 28) 30) 32) 34) 36) 38) 40) 42) 43) 45) 3 4) 47) 48) 3)) (b.1 - 1 - 10 - 1 - 10 - 1 - 16 - 1 - 4 - 1 - 2, b.2 - 7 - 12349 - 7 - 405 - 10 - 8520 - 7 - 2051 - 2 - 1366) Q
  refine hm_st hR.1 ?_
  show R 0 64 [(0, .ref 2)] [.ref 2] (50, hm_shh (hm_hu (hm_hu (hm_hu (hm_hu (hm_hu (10, 0, fun _ => none) 0 3) 1 14) 2 25) 3 42) 4 47) L g, (T_69 (hm_ns (hm_sn (T_132 (hm_ns (hm_ns (hm_sn (hm_ns (hm_ns (hm_ns (hm_ns (hm_ns (hm_ns (hm_ns (hm_ns (hm_sn (hm_ns (hm_ns (hm_ns (hm_ns (hm_ns (hm_sn (T_84 (hm_ns (hm_ns (hm_ns (hm_ns (hm_ns (hm_sn s 3) 4) 6) 8) 10) 12) 3) 14) 15) 17) 19) 21) 23) 25) 26) 28) 30) 32) 34) 36) 38) 40) 42) 43) 45) 3 4) 47) 48) 3)) (b.1 - 1 - 10 - 1 - 10 - 1 - 16 - 1 - 4 - 1 - 2, b.2 - 7 - 12349 - 7 - 405 - 10 - 8520 - 7 - 2051 - 2 - 1366) Q
  refine hm_st hR.1 ⟨(by show 1 ≤ b.1 - 1 - 10 - 1 - 10 - 1 - 16 - 1 - 4 - 1 - 2; omega), (by show 5 ≤ b.2 - 7 - 12349 - 7 - 405 - 10 - 8520 - 7 - 2051 - 2 - 1366; omega), hm_st hR.1 ⟨rfl, ?_⟩⟩
  show R 0 68 [(0, .ref 2)] [.ref 50, .ref 50, .ref 2] (hm_mk (50, hm_shh (hm_hu (hm_hu (hm_hu (hm_hu (hm_hu (10, 0, fun _ => none) 0 3) 1 14) 2 25) 3 42) 4 47) L g, (T_69 (hm_ns (hm_sn (T_132 (hm_ns (hm_ns (hm_sn (hm_ns (hm_ns (hm_ns (hm_ns (hm_ns (hm_ns (hm_ns (hm_ns (hm_sn (hm_ns (hm_ns (hm_ns (hm_ns (hm_ns (hm_sn (T_84 (hm_ns (hm_ns (hm_ns (hm_ns (hm_ns (hm_sn s 3) 4) 6) 8) 10) 12) 3) 14) 15) 17) 19) 21) 23) 25) 26) 28) 30) 32) 34) 36) 38) 40) 42) 43) 45) 3 4) 47) 48) 3)) 9 0) (b.1 - 1 - 10 - 1 - 10 - 1 - 16 - 1 - 4 - 1 - 2 - 1, b.2 - 7 - 12349 - 7 - 405 - 10 - 8520 - 7 - 2051 - 2 - 1366 - 5) Q
  rw [hm_mkS 50 (hm_shh (hm_hu (hm_hu (hm_hu (hm_hu (hm_hu (10, 0, fun _ => none) 0 3) 1 14) 2 25) 3 42) 4 47) L g) (T_69 (hm_ns (hm_sn (T_132 (hm_ns (hm_ns (hm_sn (hm_ns (hm_ns (hm_ns (hm_ns (hm_ns (hm_ns (hm_ns (hm_ns (hm_sn (hm_ns (hm_ns (hm_ns (hm_ns (hm_ns (hm_sn (T_84 (hm_ns (hm_ns (hm_ns (hm_ns (hm_ns (hm_sn s 3) 4) 6) 8) 10) 12) 3) 14) 15) 17) 19) 21) 23) 25) 26) 28) 30) 32) 34) 36) 38) 40) 42) 43) 45) 3 4) 47) 48) 3) 9]
  refine hm_st hR.1 ⟨hm_le rfl, hm_le rfl, hm_le rfl, hm_le rfl, (8, 84), (by show 8 ≤ b.1 - 1 - 10 - 1 - 10 - 1 - 16 - 1 - 4 - 1 - 2 - 1; omega), (by show 84 ≤ b.2 - 7 - 12349 - 7 - 405 - 10 - 8520 - 7 - 2051 - 2 - 1366 - 5; omega), ?_⟩
  refine ci_184 hR (hc := (hm_hu (hm_hu (hm_hu (hm_hu (hm_hu (10, 0, fun _ => none) 0 3) 1 14) 2 25) 3 42) 4 47)) (L := L) (g := g) (fun i hi => hm_mkl hi) (hm_mkq)  (Nat.le_refl _) (Nat.le_refl _) ?_
  show R 0 71 [(0, .ref 2)] [.ref 50, .ref 2] (59, hm_shh (hm_hu (hm_hu (hm_hu (hm_hu (hm_hu (10, 0, fun _ => none) 0 3) 1 14) 2 25) 3 42) 4 47) L g, (hm_ns (hm_ns (hm_ns (hm_ns (hm_sn (T_69 (hm_ns (hm_sn (T_132 (hm_ns (hm_ns (hm_sn (hm_ns (hm_ns (hm_ns (hm_ns (hm_ns (hm_ns (hm_ns (hm_ns (hm_sn (hm_ns (hm_ns (hm_ns (hm_ns (hm_ns (hm_sn (T_84 (hm_ns (hm_ns (hm_ns (hm_ns (hm_ns (hm_sn s 3) 4) 6) 8) 10) 12) 3) 14) 15) 17) 19) 21) 23) 25) 26) 28) 30) 32) 34) 36) 38) 40) 42) 43) 45) 3 4) 47) 48) 3) 50) 51) 53) 55) 57)) (b.1 - 1 - 10 - 1 - 10 - 1 - 16 - 1 - 4 - 1 - 2 - 1 - 8, b.2 - 7 - 12349 - 7 - 405 - 10 - 8520 - 7 - 2051 - 2 - 1366 - 5 - 84) Q
  refine hm_st hR.1 ⟨rfl, rfl, hm_le rfl, (show 2 < 59 by decide), ?_⟩
  rw [hm_wr2]
  show R 0 74 [(0, .ref 2)] [] (59, hm_shh (hm_hu (hm_hu (hm_hu (hm_hu (hm_hu (hm_hu (10, 0, fun _ => none) 0 3) 1 14) 2 25) 3 42) 4 47) 5 50) L g, (hm_ns (hm_ns (hm_ns (hm_ns (hm_sn (T_69 (hm_ns (hm_sn (T_132 (hm_ns (hm_ns (hm_sn (hm_ns (hm_ns (hm_ns (hm_ns (hm_ns (hm_ns (hm_ns (hm_ns (hm_sn (hm_ns (hm_ns (hm_ns (hm_ns (hm_ns (hm_sn (T_84 (hm_ns (hm_ns (hm_ns (hm_ns (hm_ns (hm_sn s 3) 4) 6) 8) 10) 12) 3) 14) 15) 17) 19) 21) 23) 25) 26) 28) 30) 32) 34) 36) 38) 40) 42) 43) 45) 3 4) 47) 48) 3) 50) 51) 53) 55) 57)) (b.1 - 1 - 10 - 1 - 10 - 1 - 16 - 1 - 4 - 1 - 2 - 1 - 8, b.2 - 7 - 12349 - 7 - 405 - 10 - 8520 - 7 - 2051 - 2 - 1366 - 5 - 84) Q
  refine hm_st hR.1 ?_
  show R 0 75 [(0, .ref 2)] [.ref 2] (59, hm_shh (hm_hu (hm_hu (hm_hu (hm_hu (hm_hu (hm_hu (10, 0, fun _ => none) 0 3) 1 14) 2 25) 3 42) 4 47) 5 50) L g, (hm_ns (hm_ns (hm_ns (hm_ns (hm_sn (T_69 (hm_ns (hm_sn (T_132 (hm_ns (hm_ns (hm_sn (hm_ns (hm_ns (hm_ns (hm_ns (hm_ns (hm_ns (hm_ns (hm_ns (hm_sn (hm_ns (hm_ns (hm_ns (hm_ns (hm_ns (hm_sn (T_84 (hm_ns (hm_ns (hm_ns (hm_ns (hm_ns (hm_sn s 3) 4) 6) 8) 10) 12) 3) 14) 15) 17) 19) 21) 23) 25) 26) 28) 30) 32) 34) 36) 38) 40) 42) 43) 45) 3 4) 47) 48) 3) 50) 51) 53) 55) 57)) (b.1 - 1 - 10 - 1 - 10 - 1 - 16 - 1 - 4 - 1 - 2 - 1 - 8, b.2 - 7 - 12349 - 7 - 405 - 10 - 8520 - 7 - 2051 - 2 - 1366 - 5 - 84) Q
  refine hm_st hR.1 ⟨(by show 1 ≤ b.1 - 1 - 10 - 1 - 10 - 1 - 16 - 1 - 4 - 1 - 2 - 1 - 8; omega), (by show 4 ≤ b.2 - 7 - 12349 - 7 - 405 - 10 - 8520 - 7 - 2051 - 2 - 1366 - 5 - 84; omega), hm_st hR.1 ⟨rfl, ?_⟩⟩
  show R 0 79 [(0, .ref 2)] [.ref 59, .ref 59, .ref 2] (hm_mk (59, hm_shh (hm_hu (hm_hu (hm_hu (hm_hu (hm_hu (hm_hu (10, 0, fun _ => none) 0 3) 1 14) 2 25) 3 42) 4 47) 5 50) L g, (hm_ns (hm_ns (hm_ns (hm_ns (hm_sn (T_69 (hm_ns (hm_sn (T_132 (hm_ns (hm_ns (hm_sn (hm_ns (hm_ns (hm_ns (hm_ns (hm_ns (hm_ns (hm_ns (hm_ns (hm_sn (hm_ns (hm_ns (hm_ns (hm_ns (hm_ns (hm_sn (T_84 (hm_ns (hm_ns (hm_ns (hm_ns (hm_ns (hm_sn s 3) 4) 6) 8) 10) 12) 3) 14) 15) 17) 19) 21) 23) 25) 26) 28) 30) 32) 34) 36) 38) 40) 42) 43) 45) 3 4) 47) 48) 3) 50) 51) 53) 55) 57)) 3 0) (b.1 - 1 - 10 - 1 - 10 - 1 - 16 - 1 - 4 - 1 - 2 - 1 - 8 - 1, b.2 - 7 - 12349 - 7 - 405 - 10 - 8520 - 7 - 2051 - 2 - 1366 - 5 - 84 - 4) Q
  rw [hm_mkS 59 (hm_shh (hm_hu (hm_hu (hm_hu (hm_hu (hm_hu (hm_hu (10, 0, fun _ => none) 0 3) 1 14) 2 25) 3 42) 4 47) 5 50) L g) (hm_ns (hm_ns (hm_ns (hm_ns (hm_sn (T_69 (hm_ns (hm_sn (T_132 (hm_ns (hm_ns (hm_sn (hm_ns (hm_ns (hm_ns (hm_ns (hm_ns (hm_ns (hm_ns (hm_ns (hm_sn (hm_ns (hm_ns (hm_ns (hm_ns (hm_ns (hm_sn (T_84 (hm_ns (hm_ns (hm_ns (hm_ns (hm_ns (hm_sn s 3) 4) 6) 8) 10) 12) 3) 14) 15) 17) 19) 21) 23) 25) 26) 28) 30) 32) 34) 36) 38) 40) 42) 43) 45) 3 4) 47) 48) 3) 50) 51) 53) 55) 57) 3]
  refine hm_st hR.1 ⟨hm_le rfl, hm_le rfl, hm_le rfl, hm_le rfl, (4, 2050), (by show 4 ≤ b.1 - 1 - 10 - 1 - 10 - 1 - 16 - 1 - 4 - 1 - 2 - 1 - 8 - 1; omega), (by show 2050 ≤ b.2 - 7 - 12349 - 7 - 405 - 10 - 8520 - 7 - 2051 - 2 - 1366 - 5 - 84 - 4; omega), ?_⟩
  refine ci_100 hR (hc := (hm_hu (hm_hu (hm_hu (hm_hu (hm_hu (hm_hu (10, 0, fun _ => none) 0 3) 1 14) 2 25) 3 42) 4 47) 5 50)) (L := L) (g := g) (fun i hi => hm_mkl hi) (hm_mkq)  (Nat.le_refl _) (Nat.le_refl _) ?_
  show R 0 82 [(0, .ref 2)] [.ref 59, .ref 2] (64, hm_shh (hm_hu (hm_hu (hm_hu (hm_hu (hm_hu (hm_hu (10, 0, fun _ => none) 0 3) 1 14) 2 25) 3 42) 4 47) 5 50) L g, (hm_ns (hm_ns (hm_sn (hm_ns (hm_ns (hm_ns (hm_ns (hm_sn (T_69 (hm_ns (hm_sn (T_132 (hm_ns (hm_ns (hm_sn (hm_ns (hm_ns (hm_ns (hm_ns (hm_ns (hm_ns (hm_ns (hm_ns (hm_sn (hm_ns (hm_ns (hm_ns (hm_ns (hm_ns (hm_sn (T_84 (hm_ns (hm_ns (hm_ns (hm_ns (hm_ns (hm_sn s 3) 4) 6) 8) 10) 12) 3) 14) 15) 17) 19) 21) 23) 25) 26) 28) 30) 32) 34) 36) 38) 40) 42) 43) 45) 3 4) 47) 48) 3) 50) 51) 53) 55) 57) 59) 60) 62)) (b.1 - 1 - 10 - 1 - 10 - 1 - 16 - 1 - 4 - 1 - 2 - 1 - 8 - 1 - 4, b.2 - 7 - 12349 - 7 - 405 - 10 - 8520 - 7 - 2051 - 2 - 1366 - 5 - 84 - 4 - 2050) Q
  refine hm_st hR.1 ⟨rfl, rfl, hm_le rfl, (show 2 < 64 by decide), ?_⟩
  rw [hm_wr2]
  show R 0 85 [(0, .ref 2)] [] (64, hm_shh (hm_hu (hm_hu (hm_hu (hm_hu (hm_hu (hm_hu (hm_hu (10, 0, fun _ => none) 0 3) 1 14) 2 25) 3 42) 4 47) 5 50) 6 59) L g, (hm_ns (hm_ns (hm_sn (hm_ns (hm_ns (hm_ns (hm_ns (hm_sn (T_69 (hm_ns (hm_sn (T_132 (hm_ns (hm_ns (hm_sn (hm_ns (hm_ns (hm_ns (hm_ns (hm_ns (hm_ns (hm_ns (hm_ns (hm_sn (hm_ns (hm_ns (hm_ns (hm_ns (hm_ns (hm_sn (T_84 (hm_ns (hm_ns (hm_ns (hm_ns (hm_ns (hm_sn s 3) 4) 6) 8) 10) 12) 3) 14) 15) 17) 19) 21) 23) 25) 26) 28) 30) 32) 34) 36) 38) 40) 42) 43) 45) 3 4) 47) 48) 3) 50) 51) 53) 55) 57) 59) 60) 62)) (b.1 - 1 - 10 - 1 - 10 - 1 - 16 - 1 - 4 - 1 - 2 - 1 - 8 - 1 - 4, b.2 - 7 - 12349 - 7 - 405 - 10 - 8520 - 7 - 2051 - 2 - 1366 - 5 - 84 - 4 - 2050) Q
  refine hm_st hR.1 ?_
  show R 0 86 [(0, .ref 2)] [.ref 2] (64, hm_shh (hm_hu (hm_hu (hm_hu (hm_hu (hm_hu (hm_hu (hm_hu (10, 0, fun _ => none) 0 3) 1 14) 2 25) 3 42) 4 47) 5 50) 6 59) L g, (hm_ns (hm_ns (hm_sn (hm_ns (hm_ns (hm_ns (hm_ns (hm_sn (T_69 (hm_ns (hm_sn (T_132 (hm_ns (hm_ns (hm_sn (hm_ns (hm_ns (hm_ns (hm_ns (hm_ns (hm_ns (hm_ns (hm_ns (hm_sn (hm_ns (hm_ns (hm_ns (hm_ns (hm_ns (hm_sn (T_84 (hm_ns (hm_ns (hm_ns (hm_ns (hm_ns (hm_sn s 3) 4) 6) 8) 10) 12) 3) 14) 15) 17) 19) 21) 23) 25) 26) 28) 30) 32) 34) 36) 38) 40) 42) 43) 45) 3 4) 47) 48) 3) 50) 51) 53) 55) 57) 59) 60) 62)) (b.1 - 1 - 10 - 1 - 10 - 1 - 16 - 1 - 4 - 1 - 2 - 1 - 8 - 1 - 4, b.2 - 7 - 12349 - 7 - 405 - 10 - 8520 - 7 - 2051 - 2 - 1366 - 5 - 84 - 4 - 2050) Q
  refine hm_st hR.1 ⟨(by show 1 ≤ b.1 - 1 - 10 - 1 - 10 - 1 - 16 - 1 - 4 - 1 - 2 - 1 - 8 - 1 - 4; omega), (by show 2 ≤ b.2 - 7 - 12349 - 7 - 405 - 10 - 8520 - 7 - 2051 - 2 - 1366 - 5 - 84 - 4 - 2050; omega), hm_st hR.1 ⟨rfl, ?_⟩⟩
  show R 0 90 [(0, .ref 2)] [.ref 64, .ref 64, .ref 2] (hm_mk (64, hm_shh (hm_hu (hm_hu (hm_hu (hm_hu (hm_hu (hm_hu (hm_hu (10, 0, fun _ => none) 0 3) 1 14) 2 25) 3 42) 4 47) 5 50) 6 59) L g, (hm_ns (hm_ns (hm_sn (hm_ns (hm_ns (hm_ns (hm_ns (hm_sn (T_69 (hm_ns (hm_sn (T_132 (hm_ns (hm_ns (hm_sn (hm_ns (hm_ns (hm_ns (hm_ns (hm_ns (hm_ns (hm_ns (hm_ns (hm_sn (hm_ns (hm_ns (hm_ns (hm_ns (hm_ns (hm_sn (T_84 (hm_ns (hm_ns (hm_ns (hm_ns (hm_ns (hm_sn s 3) 4) 6) 8) 10) 12) 3) 14) 15) 17) 19) 21) 23) 25) 26) 28) 30) 32) 34) 36) 38) 40) 42) 43) 45) 3 4) 47) 48) 3) 50) 51) 53) 55) 57) 59) 60) 62)) 5 0) (b.1 - 1 - 10 - 1 - 10 - 1 - 16 - 1 - 4 - 1 - 2 - 1 - 8 - 1 - 4 - 1, b.2 - 7 - 12349 - 7 - 405 - 10 - 8520 - 7 - 2051 - 2 - 1366 - 5 - 84 - 4 - 2050 - 2) Q
  rw [hm_mkS 64 (hm_shh (hm_hu (hm_hu (hm_hu (hm_hu (hm_hu (hm_hu (hm_hu (10, 0, fun _ => none) 0 3) 1 14) 2 25) 3 42) 4 47) 5 50) 6 59) L g) (hm_ns (hm_ns (hm_sn (hm_ns (hm_ns (hm_ns (hm_ns (hm_sn (T_69 (hm_ns (hm_sn (T_132 (hm_ns (hm_ns (hm_sn (hm_ns (hm_ns (hm_ns (hm_ns (hm_ns (hm_ns (hm_ns (hm_ns (hm_sn (hm_ns (hm_ns (hm_ns (hm_ns (hm_ns (hm_sn (T_84 (hm_ns (hm_ns (hm_ns (hm_ns (hm_ns (hm_sn s 3) 4) 6) 8) 10) 12) 3) 14) 15) 17) 19) 21) 23) 25) 26) 28) 30) 32) 34) 36) 38) 40) 42) 43) 45) 3 4) 47) 48) 3) 50) 51) 53) 55) 57) 59) 60) 62) 5]
  refine hm_st hR.1 ⟨hm_le rfl, hm_le rfl, hm_le rfl, hm_le rfl, (2, 81), (by show 2 ≤ b.1 - 1 - 10 - 1 - 10 - 1 - 16 - 1 - 4 - 1 - 2 - 1 - 8 - 1 - 4 - 1; omega), (by show 81 ≤ b.2 - 7 - 12349 - 7 - 405 - 10 - 8520 - 7 - 2051 - 2 - 1366 - 5 - 84 - 4 - 2050 - 2; omega), ?_⟩
  refine ci_123 hR (hc := (hm_hu (hm_hu (hm_hu (hm_hu (hm_hu (hm_hu (hm_hu (10, 0, fun _ => none) 0 3) 1 14) 2 25) 3 42) 4 47) 5 50) 6 59)) (L := L) (g := g) (fun i hi => hm_mkl hi) (hm_mkq)  (Nat.le_refl _) (Nat.le_refl _) ?_
  show R 0 93 [(0, .ref 2)] [.ref 64, .ref 2] (67, hm_shh (hm_hu (hm_hu (hm_hu (hm_hu (hm_hu (hm_hu (hm_hu (10, 0, fun _ => none) 0 3) 1 14) 2 25) 3 42) 4 47) 5 50) 6 59) L g, (hm_ns (hm_sn (hm_ns (hm_ns (hm_sn (hm_ns (hm_ns (hm_ns (hm_ns (hm_sn (T_69 (hm_ns (hm_sn (T_132 (hm_ns (hm_ns (hm_sn (hm_ns (hm_ns (hm_ns (hm_ns (hm_ns (hm_ns (hm_ns (hm_ns (hm_sn (hm_ns (hm_ns (hm_ns (hm_ns (hm_ns (hm_sn (T_84 (hm_ns (hm_ns (hm_ns (hm_ns (hm_ns (hm_sn s 3) 4) 6) 8) 10) 12) 3) 14) 15) 17) 19) 21) 23) 25) 26) 28) 30) 32) 34) 36) 38) 40) 42) 43) 45) 3 4) 47) 48) 3) 50) 51) 53) 55) 57) 59) 60) 62) 64) 65)) (b.1 - 1 - 10 - 1 - 10 - 1 - 16 - 1 - 4 - 1 - 2 - 1 - 8 - 1 - 4 - 1 - 2, b.2 - 7 - 12349 - 7 - 405 - 10 - 8520 - 7 - 2051 - 2 - 1366 - 5 - 84 - 4 - 2050 - 2 - 81) Q
  refine hm_st hR.1 ⟨rfl, rfl, hm_le rfl, (show 2 < 67 by decide), ?_⟩
  rw [hm_wr2]
  show R 0 96 [(0, .ref 2)] [] (67, hm_shh (hm_hu (hm_hu (hm_hu (hm_hu (hm_hu (hm_hu (hm_hu (hm_hu (10, 0, fun _ => none) 0 3) 1 14) 2 25) 3 42) 4 47) 5 50) 6 59) 7 64) L g, (hm_ns (hm_sn (hm_ns (hm_ns (hm_sn (hm_ns (hm_ns (hm_ns (hm_ns (hm_sn (T_69 (hm_ns (hm_sn (T_132 (hm_ns (hm_ns (hm_sn (hm_ns (hm_ns (hm_ns (hm_ns (hm_ns (hm_ns (hm_ns (hm_ns (hm_sn (hm_ns (hm_ns (hm_ns (hm_ns (hm_ns (hm_sn (T_84 (hm_ns (hm_ns (hm_ns (hm_ns (hm_ns (hm_sn s 3) 4) 6) 8) 10) 12) 3) 14) 15) 17) 19) 21) 23) 25) 26) 28) 30) 32) 34) 36) 38) 40) 42) 43) 45) 3 4) 47) 48) 3) 50) 51) 53) 55) 57) 59) 60) 62) 64) 65)) (b.1 - 1 - 10 - 1 - 10 - 1 - 16 - 1 - 4 - 1 - 2 - 1 - 8 - 1 - 4 - 1 - 2, b.2 - 7 - 12349 - 7 - 405 - 10 - 8520 - 7 - 2051 - 2 - 1366 - 5 - 84 - 4 - 2050 - 2 - 81) Q
  refine hm_st hR.1 (hm_st hR.1 (hm_st hR.1 ⟨rfl, rfl, hm_le rfl, (show 2 < 67 by decide), ?_⟩))
  show R 0 101 [(0, .ref 2)] [] (67, hm_shh (hm_hu (hm_hu (hm_hu (hm_hu (hm_hu (hm_hu (hm_hu (hm_hu (10, 0, fun _ => none) 0 3) 1 14) 2 25) 3 42) 4 47) 5 50) 6 59) 7 64) L g, (hm_w1 (hm_ns (hm_sn (hm_ns (hm_ns (hm_sn (hm_ns (hm_ns (hm_ns (hm_ns (hm_sn (T_69 (hm_ns (hm_sn (T_132 (hm_ns (hm_ns (hm_sn (hm_ns (hm_ns (hm_ns (hm_ns (hm_ns (hm_ns (hm_ns (hm_ns (hm_sn (hm_ns (hm_ns (hm_ns (hm_ns (hm_ns (hm_sn (T_84 (hm_ns (hm_ns (hm_ns (hm_ns (hm_ns (hm_sn s 3) 4) 6) 8) 10) 12) 3) 14) 15) 17) 19) 21) 23) 25) 26) 28) 30) 32) 34) 36) 38) 40) 42) 43) 45) 3 4) 47) 48) 3) 50) 51) 53) 55) 57) 59) 60) 62) 64) 65) 2 8 3)) (b.1 - 1 - 10 - 1 - 10 - 1 - 16 - 1 - 4 - 1 - 2 - 1 - 8 - 1 - 4 - 1 - 2, b.2 - 7 - 12349 - 7 - 405 - 10 - 8520 - 7 - 2051 - 2 - 1366 - 5 - 84 - 4 - 2050 - 2 - 81) Q
  refine hm_st hR.1 (hm_st hR.1 (hm_st hR.1 ⟨rfl, rfl, hm_le rfl, (show 2 < 67 by decide), ?_⟩))
  show R 0 106 [(0, .ref 2)] [] (67, hm_shh (hm_hu (hm_hu (hm_hu (hm_hu (hm_hu (hm_hu (hm_hu (hm_hu (10, 0, fun _ => none) 0 3) 1 14) 2 25) 3 42) 4 47) 5 50) 6 59) 7 64) L g, (hm_w1 (hm_w1 (hm_ns (hm_sn (hm_ns (hm_ns (hm_sn (hm_ns (hm_ns (hm_ns (hm_ns (hm_sn (T_69 (hm_ns (hm_sn (T_132 (hm_ns (hm_ns (hm_sn (hm_ns (hm_ns (hm_ns (hm_ns (hm_ns (hm_ns (hm_ns (hm_ns (hm_sn (hm_ns (hm_ns (hm_ns (hm_ns (hm_ns (hm_sn (T_84 (hm_ns (hm_ns (hm_ns (hm_ns (hm_ns (hm_sn s 3) 4) 6) 8) 10) 12) 3) 14) 15) 17) 19) 21) 23) 25) 26) 28) 30) 32) 34) 36) 38) 40) 42) 43) 45) 3 4) 47) 48) 3) 50) 51) 53) 55) 57) 59) 60) 62) 64) 65) 2 8 3) 2 9 1)) (b.1 - 1 - 10 - 1 - 10 - 1 - 16 - 1 - 4 - 1 - 2 - 1 - 8 - 1 - 4 - 1 - 2, b.2 - 7 - 12349 - 7 - 405 - 10 - 8520 - 7 - 2051 - 2 - 1366 - 5 - 84 - 4 - 2050 - 2 - 81) Q
  refine hR.2 _ _ _ _ _ _ (hm_sh L g) _ _ _ _ (fun i hi => ⟨ag_0 i hi, rfl⟩) ?_
  exact hm_st hR.1 hq
