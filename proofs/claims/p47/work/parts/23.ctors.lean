/-! Constructors, each where it stands. -/
set_option maxRecDepth 20000 in
theorem ci_68 {R : hm_R} (hR : hm_Ce R) {sh : Nat → hm_Sh} {hc : hm_Sh} {L : Nat} {g : Nat → hm_Sh} {s : hm_St} {b : hm_B} {Q : hm_Q} {p1 : Int32} (hs : ∀ i, i < 47 → sh i = hm_shh hc L g i) (hme : sh 47 = (1, 0, fun _ => none)) (hb1 : 2 ≤ b.1) (hb2 : 1366 ≤ b.2) (hq : Q (.inr none) (50, hm_shh hc L g, (T_69 (hm_ns s 48) p1))) : R 68 0 (lv_args 0 [.ref 47, .int p1]) [] (48, sh, s) b Q := by
  refine cr_68 hR.1 (by rw [hme]) (hm_le rfl) (Nat.lt_succ_self _) hb1 hb2 ?_
  refine hR.2 _ _ _ _ _ _ (hm_shh hc L g) _ _ _ _ (fun i hi => ⟨ag_68 hs hme i hi, rfl⟩) ?_
  show R 68 18 [(0, .ref 47), (1, .int p1)] [] (50, hm_shh hc L g, (hm_ns s 48)) _ Q
  refine hm_st hR.1 (hm_st hR.1 (?_))
  refine hm_st hR.1 ⟨hm_le rfl, rfl, hm_le rfl, (show 47 < 50 by decide), hm_le rfl, hm_le rfl, (0, 0), Nat.zero_le _, Nat.zero_le _, ?_⟩
  refine cp_69 hR.1 (hm_le rfl) ?_
  exact hm_st hR.1 hq
set_option maxRecDepth 20000 in
theorem ci_100 {R : hm_R} (hR : hm_Ce R) {sh : Nat → hm_Sh} {hc : hm_Sh} {L : Nat} {g : Nat → hm_Sh} {s : hm_St} {b : hm_B} {Q : hm_Q} (hs : ∀ i, i < 59 → sh i = hm_shh hc L g i) (hme : sh 59 = (3, 0, fun _ => none)) (hb1 : 4 ≤ b.1) (hb2 : 2050 ≤ b.2) (hq : Q (.inr none) (64, hm_shh hc L g, (hm_ns (hm_ns s 60) 62))) : R 100 0 (lv_args 0 [.ref 59]) [] (60, sh, s) b Q := by
  refine cr_100 hR.1 (by rw [hme]) (hm_le rfl) (Nat.lt_succ_self _) hb1 hb2 ?_
  refine hR.2 _ _ _ _ _ _ (hm_shh hc L g) _ _ _ _ (fun i hi => ⟨ag_100 hs hme i hi, rfl⟩) ?_
  show R 100 32 [(0, .ref 59)] [] (64, hm_shh hc L g, (hm_ns (hm_ns s 60) 62)) _ Q
  exact hm_st hR.1 hq
set_option maxRecDepth 20000 in
theorem ci_110 {R : hm_R} (hR : hm_Ce R) {sh : Nat → hm_Sh} {hc : hm_Sh} {L : Nat} {g : Nat → hm_Sh} {s : hm_St} {b : hm_B} {Q : hm_Q} (hs : ∀ i, i < 25 → sh i = hm_shh hc L g i) (hme : sh 25 = (4, 0, fun _ => none)) (hb1 : 16 ≤ b.1) (hb2 : 8520 ≤ b.2) (hq : Q (.inr none) (42, hm_shh hc L g, (hm_ns (hm_ns (hm_ns (hm_ns (hm_ns (hm_ns (hm_ns (hm_ns s 26) 28) 30) 32) 34) 36) 38) 40))) : R 110 0 (lv_args 0 [.ref 25]) [] (26, sh, s) b Q := by
  refine cr_110 hR.1 (by rw [hme]) (hm_le rfl) (Nat.lt_succ_self _) hb1 hb2 ?_
  refine hR.2 _ _ _ _ _ _ (hm_shh hc L g) _ _ _ _ (fun i hi => ⟨ag_110 hs hme i hi, rfl⟩) ?_
  show R 110 112 [(0, .ref 25)] [] (42, hm_shh hc L g, (hm_ns (hm_ns (hm_ns (hm_ns (hm_ns (hm_ns (hm_ns (hm_ns s 26) 28) 30) 32) 34) 36) 38) 40)) _ Q
  exact hm_st hR.1 hq
set_option maxRecDepth 20000 in
theorem ci_123 {R : hm_R} (hR : hm_Ce R) {sh : Nat → hm_Sh} {hc : hm_Sh} {L : Nat} {g : Nat → hm_Sh} {s : hm_St} {b : hm_B} {Q : hm_Q} (hs : ∀ i, i < 64 → sh i = hm_shh hc L g i) (hme : sh 64 = (5, 0, fun _ => none)) (hb1 : 2 ≤ b.1) (hb2 : 81 ≤ b.2) (hq : Q (.inr none) (67, hm_shh hc L g, (hm_ns s 65))) : R 123 0 (lv_args 0 [.ref 64]) [] (65, sh, s) b Q := by
  refine cr_123 hR.1 (by rw [hme]) (hm_le rfl) (Nat.lt_succ_self _) hb1 hb2 ?_
  refine hR.2 _ _ _ _ _ _ (hm_shh hc L g) _ _ _ _ (fun i hi => ⟨ag_123 hs hme i hi, rfl⟩) ?_
  show R 123 17 [(0, .ref 64)] [] (67, hm_shh hc L g, (hm_ns s 65)) _ Q
  exact hm_st hR.1 hq
set_option maxRecDepth 20000 in
theorem ci_131 {R : hm_R} (hR : hm_Ce R) {sh : Nat → hm_Sh} {hc : hm_Sh} {L : Nat} {g : Nat → hm_Sh} {s : hm_St} {b : hm_B} {Q : hm_Q} {p1 : Int32} {p2 : Int32} (hs : ∀ i, i < 42 → sh i = hm_shh hc L g i) (hme : sh 42 = (6, 0, fun _ => none)) (hb1 : 4 ≤ b.1) (hb2 : 2051 ≤ b.2) (hq : Q (.inr none) (47, hm_shh hc L g, (T_132 (hm_ns (hm_ns s 43) 45) p1 p2))) : R 131 0 (lv_args 0 [.ref 42, .int p1, .int p2]) [] (43, sh, s) b Q := by
  refine cr_131 hR.1 (by rw [hme]) (hm_le rfl) (Nat.lt_succ_self _) hb1 hb2 ?_
  refine hR.2 _ _ _ _ _ _ (hm_shh hc L g) _ _ _ _ (fun i hi => ⟨ag_131 hs hme i hi, rfl⟩) ?_
  show R 131 32 [(0, .ref 42), (1, .int p1), (2, .int p2)] [] (47, hm_shh hc L g, (hm_ns (hm_ns s 43) 45)) _ Q
  refine hm_st hR.1 (hm_st hR.1 (hm_st hR.1 (?_)))
  refine hm_st hR.1 ⟨hm_le rfl, rfl, hm_le rfl, (show 42 < 47 by decide), hm_le rfl, hm_le rfl, (0, 0), Nat.zero_le _, Nat.zero_le _, ?_⟩
  refine cp_132 hR.1 (hm_le rfl) ?_
  exact hm_st hR.1 hq
set_option maxRecDepth 20000 in
theorem ci_155 {R : hm_R} (hR : hm_Ce R) {sh : Nat → hm_Sh} {hc : hm_Sh} {L : Nat} {g : Nat → hm_Sh} {s : hm_St} {b : hm_B} {Q : hm_Q} (hs : ∀ i, i < 14 → sh i = hm_shh hc L g i) (hme : sh 14 = (7, 0, fun _ => none)) (hb1 : 10 ≤ b.1) (hb2 : 405 ≤ b.2) (hq : Q (.inr none) (25, hm_shh hc L g, (hm_ns (hm_ns (hm_ns (hm_ns (hm_ns s 15) 17) 19) 21) 23))) : R 155 0 (lv_args 0 [.ref 14]) [] (15, sh, s) b Q := by
  refine cr_155 hR.1 (by rw [hme]) (hm_le rfl) (Nat.lt_succ_self _) hb1 hb2 ?_
  refine hR.2 _ _ _ _ _ _ (hm_shh hc L g) _ _ _ _ (fun i hi => ⟨ag_155 hs hme i hi, rfl⟩) ?_
  show R 155 69 [(0, .ref 14)] [] (25, hm_shh hc L g, (hm_ns (hm_ns (hm_ns (hm_ns (hm_ns s 15) 17) 19) 21) 23)) _ Q
  exact hm_st hR.1 hq
set_option maxRecDepth 20000 in
theorem ci_184 {R : hm_R} (hR : hm_Ce R) {sh : Nat → hm_Sh} {hc : hm_Sh} {L : Nat} {g : Nat → hm_Sh} {s : hm_St} {b : hm_B} {Q : hm_Q} (hs : ∀ i, i < 50 → sh i = hm_shh hc L g i) (hme : sh 50 = (9, 0, fun _ => none)) (hb1 : 8 ≤ b.1) (hb2 : 84 ≤ b.2) (hq : Q (.inr none) (59, hm_shh hc L g, (hm_ns (hm_ns (hm_ns (hm_ns s 51) 53) 55) 57))) : R 184 0 (lv_args 0 [.ref 50]) [] (51, sh, s) b Q := by
  refine cr_184 hR.1 (by rw [hme]) (hm_le rfl) (Nat.lt_succ_self _) hb1 hb2 ?_
  refine hR.2 _ _ _ _ _ _ (hm_shh hc L g) _ _ _ _ (fun i hi => ⟨ag_184 hs hme i hi, rfl⟩) ?_
  show R 184 56 [(0, .ref 50)] [] (59, hm_shh hc L g, (hm_ns (hm_ns (hm_ns (hm_ns s 51) 53) 55) 57)) _ Q
  exact hm_st hR.1 hq
