/-! The methods as functions; the abstract machine does them. -/
/-- CurvekeyHouse.nextOfRow(I)I -/
def T_42 (s : hm_St) (p1 : Int32) : Int32 := (((37 * p1) + 11) - ((37 * p1) + 11) / 113 * 113)
set_option maxRecDepth 20000 in
theorem sp_42 {R : hm_R} (hR : hm_Cm R) {N L : Nat} {g : Nat → hm_Sh} {s : hm_St} {b : hm_B} {Q : hm_Q} (hN : 68 ≤ N) {p1 : Int32} (hq : Q (.inr (some (.int (T_42 s p1)))) (N, hm_sh L g, s)) : R 42 0 (lv_args 0 [.int p1]) [] (N, hm_sh L g, s) b Q := by
  unfold T_42 at hq
  show R 42 0 [(0, .int p1)] [] (N, hm_sh L g, s) _ Q
  refine hm_st hR (hm_st hR (hm_st hR (hm_st hR (hm_st hR (hm_st hR (hm_st hR ⟨(by decide), ?_⟩))))))
  exact hm_st hR ⟨fun z => absurd z (by decide), hq⟩
/-- CurvekeyHouse$History.rise()V -/
def T_117 (s : hm_St) : hm_St := (hm_w1 s 25 9 ((s 25 9) + 1))
theorem N_117 {c j : Nat} (h25 : c ≠ 25) {s : hm_St} : (T_117 s) c j = s c j := by
  unfold T_117
  repeat' split
  all_goals first | rfl | simp only [hm_w1n h25]
set_option maxRecDepth 20000 in
theorem sp_117 {R : hm_R} (hR : hm_Cm R) {N L : Nat} {g : Nat → hm_Sh} {s : hm_St} {b : hm_B} {Q : hm_Q} (hN : 68 ≤ N) (hq : Q (.inr none) (N, hm_sh L g, (T_117 s))) : R 117 0 (lv_args 0 [.ref 25]) [] (N, hm_sh L g, s) b Q := by
  unfold T_117 at hq
  show R 117 0 [(0, .ref 25)] [] (N, hm_sh L g, s) _ Q
  refine hm_st hR (hm_st hR ⟨rfl, hm_st hR ⟨rfl, hm_le rfl, (hm_ltN hN rfl), hm_st hR (hm_st hR (hm_st hR ⟨rfl, rfl, hm_le rfl, (hm_ltN hN rfl), ?_⟩))⟩⟩)
  show R 117 10 [(0, .ref 25)] [] (N, hm_sh L g, (hm_w1 s 25 9 ((s 25 9) + 1))) _ Q
  exact hm_st hR hq
/-- CurvekeyHouse$Points.hurry(III)V -/
def T_167 (s : hm_St) (p1 : Int32) (p2 : Int32) (p3 : Int32) : hm_St := (T_179 (T_179 s 22 80 p1 p2) 24 80 p1 p3)
theorem N_167 {c j : Nat} (h22 : c ≠ 22) (h24 : c ≠ 24) {s : hm_St} {p1 : Int32} {p2 : Int32} {p3 : Int32} : (T_167 s p1 p2 p3) c j = s c j := by
  unfold T_167
  repeat' split
  all_goals first | rfl | simp only [hm_w1n h22, hm_w1n h24, N_179 h22, N_179 h24]
set_option maxRecDepth 20000 in
theorem sp_167 {R : hm_R} (hR : hm_Cm R) {N L : Nat} {g : Nat → hm_Sh} {s : hm_St} {b : hm_B} {Q : hm_Q} (hN : 68 ≤ N) {p1 : Int32} {p2 : Int32} {p3 : Int32} (hq : Q (.inr none) (N, hm_sh L g, (T_167 s p1 p2 p3))) : R 167 0 (lv_args 0 [.ref 14, .int p1, .int p2, .int p3]) [] (N, hm_sh L g, s) b Q := by
  unfold T_167 at hq
  show R 167 0 [(0, .ref 14), (1, .int p1), (2, .int p2), (3, .int p3)] [] (N, hm_sh L g, s) _ Q
  refine hm_st hR (hm_st hR ⟨rfl, hm_le rfl, (hm_ltN hN rfl), hm_st hR (hm_st hR (?_))⟩)
  refine hm_st hR ⟨hm_le rfl, rfl, (hm_le rfl), (hm_ltN hN rfl), hm_le rfl, hm_le rfl, (0, 0), Nat.zero_le _, Nat.zero_le _, ?_⟩
  refine sp_179 hR hN (rr := 21) (aa := 22) (nn := 80) rfl rfl (hm_le rfl) (hm_ltN hN rfl) rfl rfl (hm_le rfl) (hm_ltN hN rfl) (by decide) ?_
  show R 167 9 [(0, .ref 14), (1, .int p1), (2, .int p2), (3, .int p3)] [] (N, hm_sh L g, (T_179 s 22 80 p1 p2)) _ Q
  refine hm_st hR (hm_st hR ⟨rfl, hm_le rfl, (hm_ltN hN rfl), hm_st hR (hm_st hR (?_))⟩)
  refine hm_st hR ⟨hm_le rfl, rfl, (hm_le rfl), (hm_ltN hN rfl), hm_le rfl, hm_le rfl, (0, 0), Nat.zero_le _, Nat.zero_le _, ?_⟩
  refine sp_179 hR hN (rr := 23) (aa := 24) (nn := 80) rfl rfl (hm_le rfl) (hm_ltN hN rfl) rfl rfl (hm_le rfl) (hm_ltN hN rfl) (by decide) ?_
  show R 167 18 [(0, .ref 14), (1, .int p1), (2, .int p2), (3, .int p3)] [] (N, hm_sh L g, (T_179 (T_179 s 22 80 p1 p2) 24 80 p1 p3)) _ Q
  exact hm_st hR hq
/-- CurvekeyHouse$Points.take()I -/
def T_165 (s : hm_St) : (Int32 × hm_St) := ((s 14 5), (hm_w1 (hm_w1 (T_167 (T_179 s 20 80 (s 14 5) 1) (s 14 5) 0 0) 14 5 (((T_167 (T_179 s 20 80 (s 14 5) 1) (s 14 5) 0 0) 14 5) + 1)) 14 6 (((hm_w1 (T_167 (T_179 s 20 80 (s 14 5) 1) (s 14 5) 0 0) 14 5 (((T_167 (T_179 s 20 80 (s 14 5) 1) (s 14 5) 0 0) 14 5) + 1)) 14 6) + 1)))
theorem N_165 {c j : Nat} (h14 : c ≠ 14) (h20 : c ≠ 20) (h22 : c ≠ 22) (h24 : c ≠ 24) {s : hm_St} : (T_165 s).2 c j = s c j := by
  unfold T_165
  repeat' split
  all_goals first | rfl | simp only [hm_w1n h14, hm_w1n h20, hm_w1n h22, hm_w1n h24, N_167 h22 h24, N_179 h14, N_179 h20, N_179 h22, N_179 h24]
set_option maxRecDepth 20000 in
theorem sp_165 {R : hm_R} (hR : hm_Cm R) {N L : Nat} {g : Nat → hm_Sh} {s : hm_St} {b : hm_B} {Q : hm_Q} (hN : 68 ≤ N) (hq : Q (.inr (some (.int (T_165 s).1))) (N, hm_sh L g, (T_165 s).2)) : R 165 0 (lv_args 0 [.ref 14]) [] (N, hm_sh L g, s) b Q := by
  unfold T_165 at hq
  show R 165 0 [(0, .ref 14)] [] (N, hm_sh L g, s) _ Q
  refine hm_st hR (hm_st hR ⟨rfl, hm_le rfl, (hm_ltN hN rfl), hm_st hR (hm_st hR (hm_st hR ⟨rfl, hm_le rfl, (hm_ltN hN rfl), hm_st hR (hm_st hR (?_))⟩))⟩)
  refine hm_st hR ⟨hm_le rfl, rfl, (hm_le rfl), (hm_ltN hN rfl), hm_le rfl, hm_le rfl, (0, 0), Nat.zero_le _, Nat.zero_le _, ?_⟩
  refine sp_179 hR hN (rr := 19) (aa := 20) (nn := 80) rfl rfl (hm_le rfl) (hm_ltN hN rfl) rfl rfl (hm_le rfl) (hm_ltN hN rfl) (by decide) ?_
  show R 165 14 [(1, .int (s 14 5)), (0, .ref 14)] [] (N, hm_sh L g, (T_179 s 20 80 (s 14 5) 1)) _ Q
  refine hm_st hR (hm_st hR (hm_st hR (hm_st hR (?_))))
  refine hm_st hR ⟨hm_le rfl, rfl, (hm_le rfl), (hm_ltN hN rfl), hm_le rfl, hm_le rfl, (0, 0), Nat.zero_le _, Nat.zero_le _, ?_⟩
  refine sp_167 hR hN ?_
  show R 165 21 [(1, .int (s 14 5)), (0, .ref 14)] [] (N, hm_sh L g, (T_167 (T_179 s 20 80 (s 14 5) 1) (s 14 5) 0 0)) _ Q
  refine hm_st hR (hm_st hR ⟨rfl, hm_st hR ⟨rfl, hm_le rfl, (hm_ltN hN rfl), hm_st hR (hm_st hR (hm_st hR ⟨rfl, rfl, hm_le rfl, (hm_ltN hN rfl), ?_⟩))⟩⟩)
  show R 165 31 [(1, .int (s 14 5)), (0, .ref 14)] [] (N, hm_sh L g, (hm_w1 (T_167 (T_179 s 20 80 (s 14 5) 1) (s 14 5) 0 0) 14 5 (((T_167 (T_179 s 20 80 (s 14 5) 1) (s 14 5) 0 0) 14 5) + 1))) _ Q
  refine hm_st hR (hm_st hR ⟨rfl, hm_st hR ⟨rfl, hm_le rfl, (hm_ltN hN rfl), hm_st hR (hm_st hR (hm_st hR ⟨rfl, rfl, hm_le rfl, (hm_ltN hN rfl), ?_⟩))⟩⟩)
  show R 165 41 [(1, .int (s 14 5)), (0, .ref 14)] [] (N, hm_sh L g, (hm_w1 (hm_w1 (T_167 (T_179 s 20 80 (s 14 5) 1) (s 14 5) 0 0) 14 5 (((T_167 (T_179 s 20 80 (s 14 5) 1) (s 14 5) 0 0) 14 5) + 1)) 14 6 (((hm_w1 (T_167 (T_179 s 20 80 (s 14 5) 1) (s 14 5) 0 0) 14 5 (((T_167 (T_179 s 20 80 (s 14 5) 1) (s 14 5) 0 0) 14 5) + 1)) 14 6) + 1))) _ Q
  refine hm_st hR (?_)
  exact hm_st hR ⟨fun z => absurd z (by decide), hq⟩
/-- CurvekeyHouse$History.greet(I)V -/
def T_118 (s : hm_St) (p1 : Int32) : hm_St := (T_179 (T_179 (T_179 s 37 80 p1 0) 39 80 p1 ((T_179 s 37 80 p1 0) 25 9)) 41 80 p1 (-1))
theorem N_118 {c j : Nat} (h37 : c ≠ 37) (h39 : c ≠ 39) (h41 : c ≠ 41) {s : hm_St} {p1 : Int32} : (T_118 s p1) c j = s c j := by
  unfold T_118
  repeat' split
  all_goals first | rfl | simp only [hm_w1n h37, hm_w1n h39, hm_w1n h41, N_179 h37, N_179 h39, N_179 h41]
set_option maxRecDepth 20000 in
theorem sp_118 {R : hm_R} (hR : hm_Cm R) {N L : Nat} {g : Nat → hm_Sh} {s : hm_St} {b : hm_B} {Q : hm_Q} (hN : 68 ≤ N) {p1 : Int32} (hq : Q (.inr none) (N, hm_sh L g, (T_118 s p1))) : R 118 0 (lv_args 0 [.ref 25, .int p1]) [] (N, hm_sh L g, s) b Q := by
  unfold T_118 at hq
  show R 118 0 [(0, .ref 25), (1, .int p1)] [] (N, hm_sh L g, s) _ Q
  refine hm_st hR (hm_st hR ⟨rfl, hm_le rfl, (hm_ltN hN rfl), hm_st hR (hm_st hR (?_))⟩)
  refine hm_st hR ⟨hm_le rfl, rfl, (hm_le rfl), (hm_ltN hN rfl), hm_le rfl, hm_le rfl, (0, 0), Nat.zero_le _, Nat.zero_le _, ?_⟩
  refine sp_179 hR hN (rr := 36) (aa := 37) (nn := 80) rfl rfl (hm_le rfl) (hm_ltN hN rfl) rfl rfl (hm_le rfl) (hm_ltN hN rfl) (by decide) ?_
  show R 118 9 [(0, .ref 25), (1, .int p1)] [] (N, hm_sh L g, (T_179 s 37 80 p1 0)) _ Q
  refine hm_st hR (hm_st hR ⟨rfl, hm_le rfl, (hm_ltN hN rfl), hm_st hR (hm_st hR (hm_st hR ⟨rfl, hm_le rfl, (hm_ltN hN rfl), ?_⟩))⟩)
  refine hm_st hR ⟨hm_le rfl, rfl, (hm_le rfl), (hm_ltN hN rfl), hm_le rfl, hm_le rfl, (0, 0), Nat.zero_le _, Nat.zero_le _, ?_⟩
  refine sp_179 hR hN (rr := 38) (aa := 39) (nn := 80) rfl rfl (hm_le rfl) (hm_ltN hN rfl) rfl rfl (hm_le rfl) (hm_ltN hN rfl) (by decide) ?_
  show R 118 21 [(0, .ref 25), (1, .int p1)] [] (N, hm_sh L g, (T_179 (T_179 s 37 80 p1 0) 39 80 p1 ((T_179 s 37 80 p1 0) 25 9))) _ Q
  refine hm_st hR (hm_st hR ⟨rfl, hm_le rfl, (hm_ltN hN rfl), hm_st hR (hm_st hR (?_))⟩)
  refine hm_st hR ⟨hm_le rfl, rfl, (hm_le rfl), (hm_ltN hN rfl), hm_le rfl, hm_le rfl, (0, 0), Nat.zero_le _, Nat.zero_le _, ?_⟩
  refine sp_179 hR hN (rr := 40) (aa := 41) (nn := 80) rfl rfl (hm_le rfl) (hm_ltN hN rfl) rfl rfl (hm_le rfl) (hm_ltN hN rfl) (by decide) ?_
  show R 118 30 [(0, .ref 25), (1, .int p1)] [] (N, hm_sh L g, (T_179 (T_179 (T_179 s 37 80 p1 0) 39 80 p1 ((T_179 s 37 80 p1 0) 25 9)) 41 80 p1 (-1))) _ Q
  exact hm_st hR hq
/-- CurvekeyHouse$Points.stand(III)V -/
def T_166 (s : hm_St) (p1 : Int32) (p2 : Int32) (p3 : Int32) : hm_St := (T_179 (T_179 s 16 80 p1 p2) 18 80 p1 p3)
theorem N_166 {c j : Nat} (h16 : c ≠ 16) (h18 : c ≠ 18) {s : hm_St} {p1 : Int32} {p2 : Int32} {p3 : Int32} : (T_166 s p1 p2 p3) c j = s c j := by
  unfold T_166
  repeat' split
  all_goals first | rfl | simp only [hm_w1n h16, hm_w1n h18, N_179 h16, N_179 h18]
set_option maxRecDepth 20000 in
theorem sp_166 {R : hm_R} (hR : hm_Cm R) {N L : Nat} {g : Nat → hm_Sh} {s : hm_St} {b : hm_B} {Q : hm_Q} (hN : 68 ≤ N) {p1 : Int32} {p2 : Int32} {p3 : Int32} (hq : Q (.inr none) (N, hm_sh L g, (T_166 s p1 p2 p3))) : R 166 0 (lv_args 0 [.ref 14, .int p1, .int p2, .int p3]) [] (N, hm_sh L g, s) b Q := by
  unfold T_166 at hq
  show R 166 0 [(0, .ref 14), (1, .int p1), (2, .int p2), (3, .int p3)] [] (N, hm_sh L g, s) _ Q
  refine hm_st hR (hm_st hR ⟨rfl, hm_le rfl, (hm_ltN hN rfl), hm_st hR (hm_st hR (?_))⟩)
  refine hm_st hR ⟨hm_le rfl, rfl, (hm_le rfl), (hm_ltN hN rfl), hm_le rfl, hm_le rfl, (0, 0), Nat.zero_le _, Nat.zero_le _, ?_⟩
  refine sp_179 hR hN (rr := 15) (aa := 16) (nn := 80) rfl rfl (hm_le rfl) (hm_ltN hN rfl) rfl rfl (hm_le rfl) (hm_ltN hN rfl) (by decide) ?_
  show R 166 9 [(0, .ref 14), (1, .int p1), (2, .int p2), (3, .int p3)] [] (N, hm_sh L g, (T_179 s 16 80 p1 p2)) _ Q
  refine hm_st hR (hm_st hR ⟨rfl, hm_le rfl, (hm_ltN hN rfl), hm_st hR (hm_st hR (?_))⟩)
  refine hm_st hR ⟨hm_le rfl, rfl, (hm_le rfl), (hm_ltN hN rfl), hm_le rfl, hm_le rfl, (0, 0), Nat.zero_le _, Nat.zero_le _, ?_⟩
  refine sp_179 hR hN (rr := 17) (aa := 18) (nn := 80) rfl rfl (hm_le rfl) (hm_ltN hN rfl) rfl rfl (hm_le rfl) (hm_ltN hN rfl) (by decide) ?_
  show R 166 18 [(0, .ref 14), (1, .int p1), (2, .int p2), (3, .int p3)] [] (N, hm_sh L g, (T_179 (T_179 s 16 80 p1 p2) 18 80 p1 p3)) _ Q
  exact hm_st hR hq
/-- CurvekeyHouse$Row.add(II)V -/
def T_180 (s : hm_St) (aa : Nat) (nn : Nat) (p1 : Int32) (p2 : Int32) : hm_St := (T_179 s aa nn p1 ((T_178 s aa nn p1) + p2))
theorem N_180 {c j : Nat} {aa nn : Nat} (haa : c ≠ aa) {s : hm_St} {p1 : Int32} {p2 : Int32} : (T_180 s aa nn p1 p2) c j = s c j := by
  unfold T_180
  repeat' split
  all_goals first | rfl | simp only [hm_w1n haa, N_179 haa]
set_option maxRecDepth 20000 in
theorem sp_180 {R : hm_R} (hR : hm_Cm R) {N L : Nat} {g : Nat → hm_Sh} {s : hm_St} {b : hm_B} {Q : hm_Q} (hN : 68 ≤ N) {rr aa nn : Nat} (hrk : (hm_sh L g rr).1 = 8) (hra : (hm_sh L g rr).2.2 0 = some aa) (hr2 : 2 ≤ rr) (hrl : rr < N) (hak : (hm_sh L g aa).1 = 1000) (han : (hm_sh L g aa).2.1 = nn) (ha2 : 2 ≤ aa) (hal : aa < N) (hnn : nn < 2 ^ 31) {p1 : Int32} {p2 : Int32} (hq : Q (.inr none) (N, hm_sh L g, (T_180 s aa nn p1 p2))) : R 180 0 (lv_args 0 [.ref rr, .int p1, .int p2]) [] (N, hm_sh L g, s) b Q := by
  unfold T_180 at hq
  show R 180 0 [(0, .ref rr), (1, .int p1), (2, .int p2)] [] (N, hm_sh L g, s) _ Q
  refine hm_st hR (hm_st hR (hm_st hR (hm_st hR (?_))))
  refine hm_st hR ⟨hm_le rfl, hrk, hr2, hrl, hm_le rfl, hm_le rfl, (0, 0), Nat.zero_le _, Nat.zero_le _, ?_⟩
  refine sp_178 hR hN (rr := rr) (aa := aa) (nn := nn) hrk hra hr2 hrl hak han ha2 hal hnn ?_
  show R 180 7 [(0, .ref rr), (1, .int p1), (2, .int p2)] [.int (T_178 s aa nn p1), .int p1, .ref rr] (N, hm_sh L g, s) _ Q
  refine hm_st hR (hm_st hR (?_))
  refine hm_st hR ⟨hm_le rfl, hrk, hr2, hrl, hm_le rfl, hm_le rfl, (0, 0), Nat.zero_le _, Nat.zero_le _, ?_⟩
  refine sp_179 hR hN (rr := rr) (aa := aa) (nn := nn) hrk hra hr2 hrl hak han ha2 hal hnn ?_
  show R 180 12 [(0, .ref rr), (1, .int p1), (2, .int p2)] [] (N, hm_sh L g, (T_179 s aa nn p1 ((T_178 s aa nn p1) + p2))) _ Q
  exact hm_st hR hq
/-- CurvekeyHouse$History.begin(III)V -/
def T_120 (s : hm_St) (p1 : Int32) (p2 : Int32) (p3 : Int32) : hm_St := (hm_w1 (T_180 (T_179 (T_179 (T_179 (T_179 (T_179 s 27 2048 (s 25 8) p2) 29 2048 ((T_179 s 27 2048 (s 25 8) p2) 25 8) p3) 31 2048 ((T_179 (T_179 s 27 2048 (s 25 8) p2) 29 2048 ((T_179 s 27 2048 (s 25 8) p2) 25 8) p3) 25 8) ((T_179 (T_179 s 27 2048 (s 25 8) p2) 29 2048 ((T_179 s 27 2048 (s 25 8) p2) 25 8) p3) 25 9)) 33 2048 ((T_179 (T_179 (T_179 s 27 2048 (s 25 8) p2) 29 2048 ((T_179 s 27 2048 (s 25 8) p2) 25 8) p3) 31 2048 ((T_179 (T_179 s 27 2048 (s 25 8) p2) 29 2048 ((T_179 s 27 2048 (s 25 8) p2) 25 8) p3) 25 8) ((T_179 (T_179 s 27 2048 (s 25 8) p2) 29 2048 ((T_179 s 27 2048 (s 25 8) p2) 25 8) p3) 25 9)) 25 8) 2147483647) 35 80 p1 ((T_179 (T_179 (T_179 (T_179 s 27 2048 (s 25 8) p2) 29 2048 ((T_179 s 27 2048 (s 25 8) p2) 25 8) p3) 31 2048 ((T_179 (T_179 s 27 2048 (s 25 8) p2) 29 2048 ((T_179 s 27 2048 (s 25 8) p2) 25 8) p3) 25 8) ((T_179 (T_179 s 27 2048 (s 25 8) p2) 29 2048 ((T_179 s 27 2048 (s 25 8) p2) 25 8) p3) 25 9)) 33 2048 ((T_179 (T_179 (T_179 s 27 2048 (s 25 8) p2) 29 2048 ((T_179 s 27 2048 (s 25 8) p2) 25 8) p3) 31 2048 ((T_179 (T_179 s 27 2048 (s 25 8) p2) 29 2048 ((T_179 s 27 2048 (s 25 8) p2) 25 8) p3) 25 8) ((T_179 (T_179 s 27 2048 (s 25 8) p2) 29 2048 ((T_179 s 27 2048 (s 25 8) p2) 25 8) p3) 25 9)) 25 8) 2147483647) 25 8)) 37 80 p1 1) 25 8 (((T_180 (T_179 (T_179 (T_179 (T_179 (T_179 s 27 2048 (s 25 8) p2) 29 2048 ((T_179 s 27 2048 (s 25 8) p2) 25 8) p3) 31 2048 ((T_179 (T_179 s 27 2048 (s 25 8) p2) 29 2048 ((T_179 s 27 2048 (s 25 8) p2) 25 8) p3) 25 8) ((T_179 (T_179 s 27 2048 (s 25 8) p2) 29 2048 ((T_179 s 27 2048 (s 25 8) p2) 25 8) p3) 25 9)) 33 2048 ((T_179 (T_179 (T_179 s 27 2048 (s 25 8) p2) 29 2048 ((T_179 s 27 2048 (s 25 8) p2) 25 8) p3) 31 2048 ((T_179 (T_179 s 27 2048 (s 25 8) p2) 29 2048 ((T_179 s 27 2048 (s 25 8) p2) 25 8) p3) 25 8) ((T_179 (T_179 s 27 2048 (s 25 8) p2) 29 2048 ((T_179 s 27 2048 (s 25 8) p2) 25 8) p3) 25 9)) 25 8) 2147483647) 35 80 p1 ((T_179 (T_179 (T_179 (T_179 s 27 2048 (s 25 8) p2) 29 2048 ((T_179 s 27 2048 (s 25 8) p2) 25 8) p3) 31 2048 ((T_179 (T_179 s 27 2048 (s 25 8) p2) 29 2048 ((T_179 s 27 2048 (s 25 8) p2) 25 8) p3) 25 8) ((T_179 (T_179 s 27 2048 (s 25 8) p2) 29 2048 ((T_179 s 27 2048 (s 25 8) p2) 25 8) p3) 25 9)) 33 2048 ((T_179 (T_179 (T_179 s 27 2048 (s 25 8) p2) 29 2048 ((T_179 s 27 2048 (s 25 8) p2) 25 8) p3) 31 2048 ((T_179 (T_179 s 27 2048 (s 25 8) p2) 29 2048 ((T_179 s 27 2048 (s 25 8) p2) 25 8) p3) 25 8) ((T_179 (T_179 s 27 2048 (s 25 8) p2) 29 2048 ((T_179 s 27 2048 (s 25 8) p2) 25 8) p3) 25 9)) 25 8) 2147483647) 25 8)) 37 80 p1 1) 25 8) + 1))
theorem N_120 {c j : Nat} (h25 : c ≠ 25) (h27 : c ≠ 27) (h29 : c ≠ 29) (h31 : c ≠ 31) (h33 : c ≠ 33) (h35 : c ≠ 35) (h37 : c ≠ 37) {s : hm_St} {p1 : Int32} {p2 : Int32} {p3 : Int32} : (T_120 s p1 p2 p3) c j = s c j := by
  unfold T_120
  repeat' split
  all_goals first | rfl | simp only [hm_w1n h25, hm_w1n h27, hm_w1n h29, hm_w1n h31, hm_w1n h33, hm_w1n h35, hm_w1n h37, N_179 h25, N_179 h27, N_179 h29, N_179 h31, N_179 h33, N_179 h35, N_179 h37, N_180 h25, N_180 h27, N_180 h29, N_180 h31, N_180 h33, N_180 h35, N_180 h37]
set_option maxRecDepth 20000 in
theorem sp_120 {R : hm_R} (hR : hm_Cm R) {N L : Nat} {g : Nat → hm_Sh} {s : hm_St} {b : hm_B} {Q : hm_Q} (hN : 68 ≤ N) {p1 : Int32} {p2 : Int32} {p3 : Int32} (hq : Q (.inr none) (N, hm_sh L g, (T_120 s p1 p2 p3))) : R 120 0 (lv_args 0 [.ref 25, .int p1, .int p2, .int p3]) [] (N, hm_sh L g, s) b Q := by
  unfold T_120 at hq
  show R 120 0 [(0, .ref 25), (1, .int p1), (2, .int p2), (3, .int p3)] [] (N, hm_sh L g, s) _ Q
  refine hm_st hR (hm_st hR ⟨rfl, hm_le rfl, (hm_ltN hN rfl), hm_st hR (hm_st hR ⟨rfl, hm_le rfl, (hm_ltN hN rfl), hm_st hR (?_)⟩)⟩)
  refine hm_st hR ⟨hm_le rfl, rfl, (hm_le rfl), (hm_ltN hN rfl), hm_le rfl, hm_le rfl, (0, 0), Nat.zero_le _, Nat.zero_le _, ?_⟩
  refine sp_179 hR hN (rr := 26) (aa := 27) (nn := 2048) rfl rfl (hm_le rfl) (hm_ltN hN rfl) rfl rfl (hm_le rfl) (hm_ltN hN rfl) (by decide) ?_
  show R 120 12 [(0, .ref 25), (1, .int p1), (2, .int p2), (3, .int p3)] [] (N, hm_sh L g, (T_179 s 27 2048 (s 25 8) p2)) _ Q
  refine hm_st hR (hm_st hR ⟨rfl, hm_le rfl, (hm_ltN hN rfl), hm_st hR (hm_st hR ⟨rfl, hm_le rfl, (hm_ltN hN rfl), hm_st hR (?_)⟩)⟩)
  refine hm_st hR ⟨hm_le rfl, rfl, (hm_le rfl), (hm_ltN hN rfl), hm_le rfl, hm_le rfl, (0, 0), Nat.zero_le _, Nat.zero_le _, ?_⟩
  refine sp_179 hR hN (rr := 28) (aa := 29) (nn := 2048) rfl rfl (hm_le rfl) (hm_ltN hN rfl) rfl rfl (hm_le rfl) (hm_ltN hN rfl) (by decide) ?_
  show R 120 24 [(0, .ref 25), (1, .int p1), (2, .int p2), (3, .int p3)] [] (N, hm_sh L g, (T_179 (T_179 s 27 2048 (s 25 8) p2) 29 2048 ((T_179 s 27 2048 (s 25 8) p2) 25 8) p3)) _ Q
  refine hm_st hR (hm_st hR ⟨rfl, hm_le rfl, (hm_ltN hN rfl), hm_st hR (hm_st hR ⟨rfl, hm_le rfl, (hm_ltN hN rfl), hm_st hR (hm_st hR ⟨rfl, hm_le rfl, (hm_ltN hN rfl), ?_⟩)⟩)⟩)
  refine hm_st hR ⟨hm_le rfl, rfl, (hm_le rfl), (hm_ltN hN rfl), hm_le rfl, hm_le rfl, (0, 0), Nat.zero_le _, Nat.zero_le _, ?_⟩
  refine sp_179 hR hN (rr := 30) (aa := 31) (nn := 2048) rfl rfl (hm_le rfl) (hm_ltN hN rfl) rfl rfl (hm_le rfl) (hm_ltN hN rfl) (by decide) ?_
  show R 120 39 [(0, .ref 25), (1, .int p1), (2, .int p2), (3, .int p3)] [] (N, hm_sh L g, (T_179 (T_179 (T_179 s 27 2048 (s 25 8) p2) 29 2048 ((T_179 s 27 2048 (s 25 8) p2) 25 8) p3) 31 2048 ((T_179 (T_179 s 27 2048 (s 25 8) p2) 29 2048 ((T_179 s 27 2048 (s 25 8) p2) 25 8) p3) 25 8) ((T_179 (T_179 s 27 2048 (s 25 8) p2) 29 2048 ((T_179 s 27 2048 (s 25 8) p2) 25 8) p3) 25 9))) _ Q
  refine hm_st hR (hm_st hR ⟨rfl, hm_le rfl, (hm_ltN hN rfl), hm_st hR (hm_st hR ⟨rfl, hm_le rfl, (hm_ltN hN rfl), hm_st hR (?_)⟩)⟩)
  refine hm_st hR ⟨hm_le rfl, rfl, (hm_le rfl), (hm_ltN hN rfl), hm_le rfl, hm_le rfl, (0, 0), Nat.zero_le _, Nat.zero_le _, ?_⟩
  refine sp_179 hR hN (rr := 32) (aa := 33) (nn := 2048) rfl rfl (hm_le rfl) (hm_ltN hN rfl) rfl rfl (hm_le rfl) (hm_ltN hN rfl) (by decide) ?_
  show R 120 52 [(0, .ref 25), (1, .int p1), (2, .int p2), (3, .int p3)] [] (N, hm_sh L g, (T_179 (T_179 (T_179 (T_179 s 27 2048 (s 25 8) p2) 29 2048 ((T_179 s 27 2048 (s 25 8) p2) 25 8) p3) 31 2048 ((T_179 (T_179 s 27 2048 (s 25 8) p2) 29 2048 ((T_179 s 27 2048 (s 25 8) p2) 25 8) p3) 25 8) ((T_179 (T_179 s 27 2048 (s 25 8) p2) 29 2048 ((T_179 s 27 2048 (s 25 8) p2) 25 8) p3) 25 9)) 33 2048 ((T_179 (T_179 (T_179 s 27 2048 (s 25 8) p2) 29 2048 ((T_179 s 27 2048 (s 25 8) p2) 25 8) p3) 31 2048 ((T_179 (T_179 s 27 2048 (s 25 8) p2) 29 2048 ((T_179 s 27 2048 (s 25 8) p2) 25 8) p3) 25 8) ((T_179 (T_179 s 27 2048 (s 25 8) p2) 29 2048 ((T_179 s 27 2048 (s 25 8) p2) 25 8) p3) 25 9)) 25 8) 2147483647)) _ Q
  refine hm_st hR (hm_st hR ⟨rfl, hm_le rfl, (hm_ltN hN rfl), hm_st hR (hm_st hR (hm_st hR ⟨rfl, hm_le rfl, (hm_ltN hN rfl), ?_⟩))⟩)
  refine hm_st hR ⟨hm_le rfl, rfl, (hm_le rfl), (hm_ltN hN rfl), hm_le rfl, hm_le rfl, (0, 0), Nat.zero_le _, Nat.zero_le _, ?_⟩
  refine sp_179 hR hN (rr := 34) (aa := 35) (nn := 80) rfl rfl (hm_le rfl) (hm_ltN hN rfl) rfl rfl (hm_le rfl) (hm_ltN hN rfl) (by decide) ?_
  show R 120 64 [(0, .ref 25), (1, .int p1), (2, .int p2), (3, .int p3)] [] (N, hm_sh L g, (T_179 (T_179 (T_179 (T_179 (T_179 s 27 2048 (s 25 8) p2) 29 2048 ((T_179 s 27 2048 (s 25 8) p2) 25 8) p3) 31 2048 ((T_179 (T_179 s 27 2048 (s 25 8) p2) 29 2048 ((T_179 s 27 2048 (s 25 8) p2) 25 8) p3) 25 8) ((T_179 (T_179 s 27 2048 (s 25 8) p2) 29 2048 ((T_179 s 27 2048 (s 25 8) p2) 25 8) p3) 25 9)) 33 2048 ((T_179 (T_179 (T_179 s 27 2048 (s 25 8) p2) 29 2048 ((T_179 s 27 2048 (s 25 8) p2) 25 8) p3) 31 2048 ((T_179 (T_179 s 27 2048 (s 25 8) p2) 29 2048 ((T_179 s 27 2048 (s 25 8) p2) 25 8) p3) 25 8) ((T_179 (T_179 s 27 2048 (s 25 8) p2) 29 2048 ((T_179 s 27 2048 (s 25 8) p2) 25 8) p3) 25 9)) 25 8) 2147483647) 35 80 p1 ((T_179 (T_179 (T_179 (T_179 s 27 2048 (s 25 8) p2) 29 2048 ((T_179 s 27 2048 (s 25 8) p2) 25 8) p3) 31 2048 ((T_179 (T_179 s 27 2048 (s 25 8) p2) 29 2048 ((T_179 s 27 2048 (s 25 8) p2) 25 8) p3) 25 8) ((T_179 (T_179 s 27 2048 (s 25 8) p2) 29 2048 ((T_179 s 27 2048 (s 25 8) p2) 25 8) p3) 25 9)) 33 2048 ((T_179 (T_179 (T_179 s 27 2048 (s 25 8) p2) 29 2048 ((T_179 s 27 2048 (s 25 8) p2) 25 8) p3) 31 2048 ((T_179 (T_179 s 27 2048 (s 25 8) p2) 29 2048 ((T_179 s 27 2048 (s 25 8) p2) 25 8) p3) 25 8) ((T_179 (T_179 s 27 2048 (s 25 8) p2) 29 2048 ((T_179 s 27 2048 (s 25 8) p2) 25 8) p3) 25 9)) 25 8) 2147483647) 25 8))) _ Q
  refine hm_st hR (hm_st hR ⟨rfl, hm_le rfl, (hm_ltN hN rfl), hm_st hR (hm_st hR (?_))⟩)
  refine hm_st hR ⟨hm_le rfl, rfl, (hm_le rfl), (hm_ltN hN rfl), hm_le rfl, hm_le rfl, (0, 0), Nat.zero_le _, Nat.zero_le _, ?_⟩
  refine sp_180 hR hN (rr := 36) (aa := 37) (nn := 80) rfl rfl (hm_le rfl) (hm_ltN hN rfl) rfl rfl (hm_le rfl) (hm_ltN hN rfl) (by decide) ?_
  show R 120 73 [(0, .ref 25), (1, .int p1), (2, .int p2), (3, .int p3)] [] (N, hm_sh L g, (T_180 (T_179 (T_179 (T_179 (T_179 (T_179 s 27 2048 (s 25 8) p2) 29 2048 ((T_179 s 27 2048 (s 25 8) p2) 25 8) p3) 31 2048 ((T_179 (T_179 s 27 2048 (s 25 8) p2) 29 2048 ((T_179 s 27 2048 (s 25 8) p2) 25 8) p3) 25 8) ((T_179 (T_179 s 27 2048 (s 25 8) p2) 29 2048 ((T_179 s 27 2048 (s 25 8) p2) 25 8) p3) 25 9)) 33 2048 ((T_179 (T_179 (T_179 s 27 2048 (s 25 8) p2) 29 2048 ((T_179 s 27 2048 (s 25 8) p2) 25 8) p3) 31 2048 ((T_179 (T_179 s 27 2048 (s 25 8) p2) 29 2048 ((T_179 s 27 2048 (s 25 8) p2) 25 8) p3) 25 8) ((T_179 (T_179 s 27 2048 (s 25 8) p2) 29 2048 ((T_179 s 27 2048 (s 25 8) p2) 25 8) p3) 25 9)) 25 8) 2147483647) 35 80 p1 ((T_179 (T_179 (T_179 (T_179 s 27 2048 (s 25 8) p2) 29 2048 ((T_179 s 27 2048 (s 25 8) p2) 25 8) p3) 31 2048 ((T_179 (T_179 s 27 2048 (s 25 8) p2) 29 2048 ((T_179 s 27 2048 (s 25 8) p2) 25 8) p3) 25 8) ((T_179 (T_179 s 27 2048 (s 25 8) p2) 29 2048 ((T_179 s 27 2048 (s 25 8) p2) 25 8) p3) 25 9)) 33 2048 ((T_179 (T_179 (T_179 s 27 2048 (s 25 8) p2) 29 2048 ((T_179 s 27 2048 (s 25 8) p2) 25 8) p3) 31 2048 ((T_179 (T_179 s 27 2048 (s 25 8) p2) 29 2048 ((T_179 s 27 2048 (s 25 8) p2) 25 8) p3) 25 8) ((T_179 (T_179 s 27 2048 (s 25 8) p2) 29 2048 ((T_179 s 27 2048 (s 25 8) p2) 25 8) p3) 25 9)) 25 8) 2147483647) 25 8)) 37 80 p1 1)) _ Q
  refine hm_st hR (hm_st hR ⟨rfl, hm_st hR ⟨rfl, hm_le rfl, (hm_ltN hN rfl), hm_st hR (hm_st hR (hm_st hR ⟨rfl, rfl, hm_le rfl, (hm_ltN hN rfl), ?_⟩))⟩⟩)
  show R 120 83 [(0, .ref 25), (1, .int p1), (2, .int p2), (3, .int p3)] [] (N, hm_sh L g, (hm_w1 (T_180 (T_179 (T_179 (T_179 (T_179 (T_179 s 27 2048 (s 25 8) p2) 29 2048 ((T_179 s 27 2048 (s 25 8) p2) 25 8) p3) 31 2048 ((T_179 (T_179 s 27 2048 (s 25 8) p2) 29 2048 ((T_179 s 27 2048 (s 25 8) p2) 25 8) p3) 25 8) ((T_179 (T_179 s 27 2048 (s 25 8) p2) 29 2048 ((T_179 s 27 2048 (s 25 8) p2) 25 8) p3) 25 9)) 33 2048 ((T_179 (T_179 (T_179 s 27 2048 (s 25 8) p2) 29 2048 ((T_179 s 27 2048 (s 25 8) p2) 25 8) p3) 31 2048 ((T_179 (T_179 s 27 2048 (s 25 8) p2) 29 2048 ((T_179 s 27 2048 (s 25 8) p2) 25 8) p3) 25 8) ((T_179 (T_179 s 27 2048 (s 25 8) p2) 29 2048 ((T_179 s 27 2048 (s 25 8) p2) 25 8) p3) 25 9)) 25 8) 2147483647) 35 80 p1 ((T_179 (T_179 (T_179 (T_179 s 27 2048 (s 25 8) p2) 29 2048 ((T_179 s 27 2048 (s 25 8) p2) 25 8) p3) 31 2048 ((T_179 (T_179 s 27 2048 (s 25 8) p2) 29 2048 ((T_179 s 27 2048 (s 25 8) p2) 25 8) p3) 25 8) ((T_179 (T_179 s 27 2048 (s 25 8) p2) 29 2048 ((T_179 s 27 2048 (s 25 8) p2) 25 8) p3) 25 9)) 33 2048 ((T_179 (T_179 (T_179 s 27 2048 (s 25 8) p2) 29 2048 ((T_179 s 27 2048 (s 25 8) p2) 25 8) p3) 31 2048 ((T_179 (T_179 s 27 2048 (s 25 8) p2) 29 2048 ((T_179 s 27 2048 (s 25 8) p2) 25 8) p3) 25 8) ((T_179 (T_179 s 27 2048 (s 25 8) p2) 29 2048 ((T_179 s 27 2048 (s 25 8) p2) 25 8) p3) 25 9)) 25 8) 2147483647) 25 8)) 37 80 p1 1) 25 8 (((T_180 (T_179 (T_179 (T_179 (T_179 (T_179 s 27 2048 (s 25 8) p2) 29 2048 ((T_179 s 27 2048 (s 25 8) p2) 25 8) p3) 31 2048 ((T_179 (T_179 s 27 2048 (s 25 8) p2) 29 2048 ((T_179 s 27 2048 (s 25 8) p2) 25 8) p3) 25 8) ((T_179 (T_179 s 27 2048 (s 25 8) p2) 29 2048 ((T_179 s 27 2048 (s 25 8) p2) 25 8) p3) 25 9)) 33 2048 ((T_179 (T_179 (T_179 s 27 2048 (s 25 8) p2) 29 2048 ((T_179 s 27 2048 (s 25 8) p2) 25 8) p3) 31 2048 ((T_179 (T_179 s 27 2048 (s 25 8) p2) 29 2048 ((T_179 s 27 2048 (s 25 8) p2) 25 8) p3) 25 8) ((T_179 (T_179 s 27 2048 (s 25 8) p2) 29 2048 ((T_179 s 27 2048 (s 25 8) p2) 25 8) p3) 25 9)) 25 8) 2147483647) 35 80 p1 ((T_179 (T_179 (T_179 (T_179 s 27 2048 (s 25 8) p2) 29 2048 ((T_179 s 27 2048 (s 25 8) p2) 25 8) p3) 31 2048 ((T_179 (T_179 s 27 2048 (s 25 8) p2) 29 2048 ((T_179 s 27 2048 (s 25 8) p2) 25 8) p3) 25 8) ((T_179 (T_179 s 27 2048 (s 25 8) p2) 29 2048 ((T_179 s 27 2048 (s 25 8) p2) 25 8) p3) 25 9)) 33 2048 ((T_179 (T_179 (T_179 s 27 2048 (s 25 8) p2) 29 2048 ((T_179 s 27 2048 (s 25 8) p2) 25 8) p3) 31 2048 ((T_179 (T_179 s 27 2048 (s 25 8) p2) 29 2048 ((T_179 s 27 2048 (s 25 8) p2) 25 8) p3) 25 8) ((T_179 (T_179 s 27 2048 (s 25 8) p2) 29 2048 ((T_179 s 27 2048 (s 25 8) p2) 25 8) p3) 25 9)) 25 8) 2147483647) 25 8)) 37 80 p1 1) 25 8) + 1))) _ Q
  exact hm_st hR hq
def T_182_3 (aa : Nat) (nn : Nat) : Nat → hm_St → Int32 → Int32 → Int32 → Int32 → hm_St
  | 0, s, _, _, _, _ => s
  | n + 1, s, v1, v2, v3, v4 => (if v4 ≤ v1 then (T_179 s aa nn v1 v3) else (T_182_3 aa nn n (T_179 s aa nn v4 (T_178 s aa nn (v4 - 1))) v1 v2 v3 (v4 + (-1))))
/-- CurvekeyHouse$Row.insert(III)V -/
def T_182 (s : hm_St) (aa : Nat) (nn : Nat) (p1 : Int32) (p2 : Int32) (p3 : Int32) : hm_St := (T_182_3 aa nn (hm_df p2 p1 + 1) s p1 p2 p3 p2)
theorem N_182_3 (aa : Nat) (nn : Nat) {c j : Nat} (haa : c ≠ aa) : ∀ (n : Nat) (s : hm_St) (v0 v1 v2 v3 : Int32), (T_182_3 aa nn n s v0 v1 v2 v3) c j = s c j := by
  intro n
  induction n with
  | zero => intros; rfl
  | succ n ih =>
    intros
    unfold T_182_3
    repeat' split
    all_goals first | rfl | simp only [ih, hm_w1n haa, N_179 haa]
theorem N_182 {c j : Nat} {aa nn : Nat} (haa : c ≠ aa) {s : hm_St} {p1 : Int32} {p2 : Int32} {p3 : Int32} : (T_182 s aa nn p1 p2 p3) c j = s c j := by
  unfold T_182
  repeat' split
  all_goals first | rfl | simp only [hm_w1n haa, N_179 haa, N_182_3 _ _ haa]
set_option maxRecDepth 20000 in
theorem lp_182_3 {R : hm_R} (hR : hm_Cm R) {N L : Nat} {g : Nat → hm_Sh} {b : hm_B} {Q : hm_Q} (hN : 68 ≤ N) {rr aa nn : Nat} (hrk : (hm_sh L g rr).1 = 8) (hra : (hm_sh L g rr).2.2 0 = some aa) (hr2 : 2 ≤ rr) (hrl : rr < N) (hak : (hm_sh L g aa).1 = 1000) (han : (hm_sh L g aa).2.1 = nn) (ha2 : 2 ≤ aa) (hal : aa < N) (hnn : nn < 2 ^ 31) : ∀ (n : Nat) (s : hm_St) (v1 : Int32) (v2 : Int32) (v3 : Int32) (v4 : Int32), hm_df v4 v1 < n → (hq : Q (.inr none) (N, hm_sh L g, (T_182_3 aa nn n s v1 v2 v3 v4))) → R 182 3 [(4, .int v4), (0, .ref rr), (1, .int v1), (2, .int v2), (3, .int v3)] [] (N, hm_sh L g, s) b Q := by
  intro n
  induction n with
  | zero => intro s v1 v2 v3 v4 hm _; exact absurd hm (Nat.not_lt_zero _)
  | succ n ih =>
    intro s v1 v2 v3 v4 hm hq
    unfold T_182_3 at hq
    refine hm_st hR (hm_st hR (?_))
    show R 182 6 [(4, .int v4), (0, .ref rr), (1, .int v1), (2, .int v2), (3, .int v3)] [.int v1, .int v4] (N, hm_sh L g, s) _ Q
    refine hm_st hR ⟨fun c6 => ?_, fun c6 => ?_⟩
    · rw [if_pos c6] at hq
      show R 182 29 [(4, .int v4), (0, .ref rr), (1, .int v1), (2, .int v2), (3, .int v3)] [] (N, hm_sh L g, s) _ Q
      refine hm_st hR (hm_st hR (hm_st hR (?_)))
      refine hm_st hR ⟨hm_le rfl, hrk, hr2, hrl, hm_le rfl, hm_le rfl, (0, 0), Nat.zero_le _, Nat.zero_le _, ?_⟩
      refine sp_179 hR hN (rr := rr) (aa := aa) (nn := nn) hrk hra hr2 hrl hak han ha2 hal hnn ?_
      show R 182 35 [(4, .int v4), (0, .ref rr), (1, .int v1), (2, .int v2), (3, .int v3)] [] (N, hm_sh L g, (T_179 s aa nn v1 v3)) _ Q
      exact hm_st hR hq
    · rw [if_neg c6] at hq
      show R 182 9 [(4, .int v4), (0, .ref rr), (1, .int v1), (2, .int v2), (3, .int v3)] [] (N, hm_sh L g, s) _ Q
      refine hm_st hR (hm_st hR (hm_st hR (hm_st hR (hm_st hR (hm_st hR (?_))))))
      refine hm_st hR ⟨hm_le rfl, hrk, hr2, hrl, hm_le rfl, hm_le rfl, (0, 0), Nat.zero_le _, Nat.zero_le _, ?_⟩
      refine sp_178 hR hN (rr := rr) (aa := aa) (nn := nn) hrk hra hr2 hrl hak han ha2 hal hnn ?_
      show R 182 20 [(4, .int v4), (0, .ref rr), (1, .int v1), (2, .int v2), (3, .int v3)] [.int (T_178 s aa nn (v4 - 1)), .int v4, .ref rr] (N, hm_sh L g, s) _ Q
      refine hm_st hR ⟨hm_le rfl, hrk, hr2, hrl, hm_le rfl, hm_le rfl, (0, 0), Nat.zero_le _, Nat.zero_le _, ?_⟩
      refine sp_179 hR hN (rr := rr) (aa := aa) (nn := nn) hrk hra hr2 hrl hak han ha2 hal hnn ?_
      show R 182 23 [(4, .int v4), (0, .ref rr), (1, .int v1), (2, .int v2), (3, .int v3)] [] (N, hm_sh L g, (T_179 s aa nn v4 (T_178 s aa nn (v4 - 1)))) _ Q
      refine hm_st hR (hm_st hR (?_))
      show R 182 3 [(4, .int (v4 + (-1))), (0, .ref rr), (1, .int v1), (2, .int v2), (3, .int v3)] [] (N, hm_sh L g, (T_179 s aa nn v4 (T_178 s aa nn (v4 - 1)))) _ Q
      exact hm_lvS hR (by intro q hq; simp only [List.mem_cons, List.not_mem_nil, or_false] at hq ⊢; rcases hq with rfl | rfl | rfl | rfl | rfl <;> simp) (ih (T_179 s aa nn v4 (T_178 s aa nn (v4 - 1))) v1 v2 v3 (v4 + (-1)) (hm_dcm c6 hm) hq)
set_option maxRecDepth 20000 in
theorem sp_182 {R : hm_R} (hR : hm_Cm R) {N L : Nat} {g : Nat → hm_Sh} {s : hm_St} {b : hm_B} {Q : hm_Q} (hN : 68 ≤ N) {rr aa nn : Nat} (hrk : (hm_sh L g rr).1 = 8) (hra : (hm_sh L g rr).2.2 0 = some aa) (hr2 : 2 ≤ rr) (hrl : rr < N) (hak : (hm_sh L g aa).1 = 1000) (han : (hm_sh L g aa).2.1 = nn) (ha2 : 2 ≤ aa) (hal : aa < N) (hnn : nn < 2 ^ 31) {p1 : Int32} {p2 : Int32} {p3 : Int32} (hq : Q (.inr none) (N, hm_sh L g, (T_182 s aa nn p1 p2 p3))) : R 182 0 (lv_args 0 [.ref rr, .int p1, .int p2, .int p3]) [] (N, hm_sh L g, s) b Q := by
  unfold T_182 at hq
  show R 182 0 [(0, .ref rr), (1, .int p1), (2, .int p2), (3, .int p3)] [] (N, hm_sh L g, s) _ Q
  refine hm_st hR (hm_st hR (?_))
  show R 182 3 [(4, .int p2), (0, .ref rr), (1, .int p1), (2, .int p2), (3, .int p3)] [] (N, hm_sh L g, s) _ Q
  exact lp_182_3 hR hN hrk hra hr2 hrl hak han ha2 hal hnn _ _ _ _ _ _ (Nat.lt_succ_self _) hq
/-- CurvekeyHouse$Pages.enter(II)V -/
def T_150 (s : hm_St) (p1 : Int32) (p2 : Int32) : hm_St := (if (T_178 s 44 1024 p1) = (-2) then (if (T_141 (T_179 (hm_w1 s 42 5 ((s 42 5) - 1)) 44 1024 p1 p2) (T_139 (T_179 (hm_w1 s 42 5 ((s 42 5) - 1)) 44 1024 p1 p2) p1)) ≤ ((T_179 (hm_w1 s 42 5 ((s 42 5) - 1)) 44 1024 p1 p2) 42 3) then (T_179 (hm_w1 s 42 5 ((s 42 5) - 1)) 44 1024 p1 p2) else (hm_w1 (hm_w1 (T_182 (T_179 (hm_w1 s 42 5 ((s 42 5) - 1)) 44 1024 p1 p2) 46 1025 ((T_139 (T_179 (hm_w1 s 42 5 ((s 42 5) - 1)) 44 1024 p1 p2) p1) + 1) (((T_179 (hm_w1 s 42 5 ((s 42 5) - 1)) 44 1024 p1 p2) 42 4) + 1) (T_145 (T_179 (hm_w1 s 42 5 ((s 42 5) - 1)) 44 1024 p1 p2) (T_139 (T_179 (hm_w1 s 42 5 ((s 42 5) - 1)) 44 1024 p1 p2) p1) ((T_141 (T_179 (hm_w1 s 42 5 ((s 42 5) - 1)) 44 1024 p1 p2) (T_139 (T_179 (hm_w1 s 42 5 ((s 42 5) - 1)) 44 1024 p1 p2) p1)) / 2))) 42 4 (((T_182 (T_179 (hm_w1 s 42 5 ((s 42 5) - 1)) 44 1024 p1 p2) 46 1025 ((T_139 (T_179 (hm_w1 s 42 5 ((s 42 5) - 1)) 44 1024 p1 p2) p1) + 1) (((T_179 (hm_w1 s 42 5 ((s 42 5) - 1)) 44 1024 p1 p2) 42 4) + 1) (T_145 (T_179 (hm_w1 s 42 5 ((s 42 5) - 1)) 44 1024 p1 p2) (T_139 (T_179 (hm_w1 s 42 5 ((s 42 5) - 1)) 44 1024 p1 p2) p1) ((T_141 (T_179 (hm_w1 s 42 5 ((s 42 5) - 1)) 44 1024 p1 p2) (T_139 (T_179 (hm_w1 s 42 5 ((s 42 5) - 1)) 44 1024 p1 p2) p1)) / 2))) 42 4) + 1)) 42 6 (((hm_w1 (T_182 (T_179 (hm_w1 s 42 5 ((s 42 5) - 1)) 44 1024 p1 p2) 46 1025 ((T_139 (T_179 (hm_w1 s 42 5 ((s 42 5) - 1)) 44 1024 p1 p2) p1) + 1) (((T_179 (hm_w1 s 42 5 ((s 42 5) - 1)) 44 1024 p1 p2) 42 4) + 1) (T_145 (T_179 (hm_w1 s 42 5 ((s 42 5) - 1)) 44 1024 p1 p2) (T_139 (T_179 (hm_w1 s 42 5 ((s 42 5) - 1)) 44 1024 p1 p2) p1) ((T_141 (T_179 (hm_w1 s 42 5 ((s 42 5) - 1)) 44 1024 p1 p2) (T_139 (T_179 (hm_w1 s 42 5 ((s 42 5) - 1)) 44 1024 p1 p2) p1)) / 2))) 42 4 (((T_182 (T_179 (hm_w1 s 42 5 ((s 42 5) - 1)) 44 1024 p1 p2) 46 1025 ((T_139 (T_179 (hm_w1 s 42 5 ((s 42 5) - 1)) 44 1024 p1 p2) p1) + 1) (((T_179 (hm_w1 s 42 5 ((s 42 5) - 1)) 44 1024 p1 p2) 42 4) + 1) (T_145 (T_179 (hm_w1 s 42 5 ((s 42 5) - 1)) 44 1024 p1 p2) (T_139 (T_179 (hm_w1 s 42 5 ((s 42 5) - 1)) 44 1024 p1 p2) p1) ((T_141 (T_179 (hm_w1 s 42 5 ((s 42 5) - 1)) 44 1024 p1 p2) (T_139 (T_179 (hm_w1 s 42 5 ((s 42 5) - 1)) 44 1024 p1 p2) p1)) / 2))) 42 4) + 1)) 42 6) + 1))) else (if (T_141 (T_179 s 44 1024 p1 p2) (T_139 (T_179 s 44 1024 p1 p2) p1)) ≤ ((T_179 s 44 1024 p1 p2) 42 3) then (T_179 s 44 1024 p1 p2) else (hm_w1 (hm_w1 (T_182 (T_179 s 44 1024 p1 p2) 46 1025 ((T_139 (T_179 s 44 1024 p1 p2) p1) + 1) (((T_179 s 44 1024 p1 p2) 42 4) + 1) (T_145 (T_179 s 44 1024 p1 p2) (T_139 (T_179 s 44 1024 p1 p2) p1) ((T_141 (T_179 s 44 1024 p1 p2) (T_139 (T_179 s 44 1024 p1 p2) p1)) / 2))) 42 4 (((T_182 (T_179 s 44 1024 p1 p2) 46 1025 ((T_139 (T_179 s 44 1024 p1 p2) p1) + 1) (((T_179 s 44 1024 p1 p2) 42 4) + 1) (T_145 (T_179 s 44 1024 p1 p2) (T_139 (T_179 s 44 1024 p1 p2) p1) ((T_141 (T_179 s 44 1024 p1 p2) (T_139 (T_179 s 44 1024 p1 p2) p1)) / 2))) 42 4) + 1)) 42 6 (((hm_w1 (T_182 (T_179 s 44 1024 p1 p2) 46 1025 ((T_139 (T_179 s 44 1024 p1 p2) p1) + 1) (((T_179 s 44 1024 p1 p2) 42 4) + 1) (T_145 (T_179 s 44 1024 p1 p2) (T_139 (T_179 s 44 1024 p1 p2) p1) ((T_141 (T_179 s 44 1024 p1 p2) (T_139 (T_179 s 44 1024 p1 p2) p1)) / 2))) 42 4 (((T_182 (T_179 s 44 1024 p1 p2) 46 1025 ((T_139 (T_179 s 44 1024 p1 p2) p1) + 1) (((T_179 s 44 1024 p1 p2) 42 4) + 1) (T_145 (T_179 s 44 1024 p1 p2) (T_139 (T_179 s 44 1024 p1 p2) p1) ((T_141 (T_179 s 44 1024 p1 p2) (T_139 (T_179 s 44 1024 p1 p2) p1)) / 2))) 42 4) + 1)) 42 6) + 1))))
theorem N_150 {c j : Nat} (h42 : c ≠ 42) (h44 : c ≠ 44) (h46 : c ≠ 46) {s : hm_St} {p1 : Int32} {p2 : Int32} : (T_150 s p1 p2) c j = s c j := by
  unfold T_150
  repeat' split
  all_goals first | rfl | simp only [hm_w1n h42, hm_w1n h44, hm_w1n h46, N_179 h42, N_179 h44, N_179 h46, N_182 h42, N_182 h44, N_182 h46]
set_option maxRecDepth 20000 in
theorem sp_150 {R : hm_R} (hR : hm_Cm R) {N L : Nat} {g : Nat → hm_Sh} {s : hm_St} {b : hm_B} {Q : hm_Q} (hN : 68 ≤ N) {p1 : Int32} {p2 : Int32} (hq : Q (.inr none) (N, hm_sh L g, (T_150 s p1 p2))) : R 150 0 (lv_args 0 [.ref 42, .int p1, .int p2]) [] (N, hm_sh L g, s) b Q := by
  unfold T_150 at hq
  show R 150 0 [(0, .ref 42), (1, .int p1), (2, .int p2)] [] (N, hm_sh L g, s) _ Q
  refine hm_st hR (hm_st hR ⟨rfl, hm_le rfl, (hm_ltN hN rfl), hm_st hR (?_)⟩)
  refine hm_st hR ⟨hm_le rfl, rfl, (hm_le rfl), (hm_ltN hN rfl), hm_le rfl, hm_le rfl, (0, 0), Nat.zero_le _, Nat.zero_le _, ?_⟩
  refine sp_178 hR hN (rr := 43) (aa := 44) (nn := 1024) rfl rfl (hm_le rfl) (hm_ltN hN rfl) rfl rfl (hm_le rfl) (hm_ltN hN rfl) (by decide) ?_
  show R 150 8 [(0, .ref 42), (1, .int p1), (2, .int p2)] [.int (T_178 s 44 1024 p1)] (N, hm_sh L g, s) _ Q
  refine hm_st hR (?_)
  show R 150 10 [(0, .ref 42), (1, .int p1), (2, .int p2)] [.int (-2), .int (T_178 s 44 1024 p1)] (N, hm_sh L g, s) _ Q
  refine hm_st hR ⟨fun c10 => ?_, fun c10 => ?_⟩
  · rw [if_neg c10] at hq
    show R 150 23 [(0, .ref 42), (1, .int p1), (2, .int p2)] [] (N, hm_sh L g, s) _ Q
    refine hm_st hR (hm_st hR ⟨rfl, hm_le rfl, (hm_ltN hN rfl), hm_st hR (hm_st hR (?_))⟩)
    refine hm_st hR ⟨hm_le rfl, rfl, (hm_le rfl), (hm_ltN hN rfl), hm_le rfl, hm_le rfl, (0, 0), Nat.zero_le _, Nat.zero_le _, ?_⟩
    refine sp_179 hR hN (rr := 43) (aa := 44) (nn := 1024) rfl rfl (hm_le rfl) (hm_ltN hN rfl) rfl rfl (hm_le rfl) (hm_ltN hN rfl) (by decide) ?_
    show R 150 32 [(0, .ref 42), (1, .int p1), (2, .int p2)] [] (N, hm_sh L g, (T_179 s 44 1024 p1 p2)) _ Q
    refine hm_st hR (hm_st hR (?_))
    refine hm_st hR ⟨hm_le rfl, rfl, (hm_le rfl), (hm_ltN hN rfl), hm_le rfl, hm_le rfl, (0, 0), Nat.zero_le _, Nat.zero_le _, ?_⟩
    refine sp_139 hR hN ?_
    show R 150 37 [(0, .ref 42), (1, .int p1), (2, .int p2)] [.int (T_139 (T_179 s 44 1024 p1 p2) p1)] (N, hm_sh L g, (T_179 s 44 1024 p1 p2)) _ Q
    refine hm_st hR (hm_st hR (hm_st hR (?_)))
    refine hm_st hR ⟨hm_le rfl, rfl, (hm_le rfl), (hm_ltN hN rfl), hm_le rfl, hm_le rfl, (0, 0), Nat.zero_le _, Nat.zero_le _, ?_⟩
    refine sp_141 hR hN ?_
    show R 150 43 [(3, .int (T_139 (T_179 s 44 1024 p1 p2) p1)), (0, .ref 42), (1, .int p1), (2, .int p2)] [.int (T_141 (T_179 s 44 1024 p1 p2) (T_139 (T_179 s 44 1024 p1 p2) p1))] (N, hm_sh L g, (T_179 s 44 1024 p1 p2)) _ Q
    refine hm_st hR (hm_st hR (hm_st hR (hm_st hR ⟨rfl, hm_le rfl, (hm_ltN hN rfl), ?_⟩)))
    show R 150 51 [(4, .int (T_141 (T_179 s 44 1024 p1 p2) (T_139 (T_179 s 44 1024 p1 p2) p1))), (3, .int (T_139 (T_179 s 44 1024 p1 p2) p1)), (0, .ref 42), (1, .int p1), (2, .int p2)] [.int ((T_179 s 44 1024 p1 p2) 42 3), .int (T_141 (T_179 s 44 1024 p1 p2) (T_139 (T_179 s 44 1024 p1 p2) p1))] (N, hm_sh L g, (T_179 s 44 1024 p1 p2)) _ Q
    refine hm_st hR ⟨fun c51 => ?_, fun c51 => ?_⟩
    · rw [if_pos c51] at hq
      show R 150 99 [(4, .int (T_141 (T_179 s 44 1024 p1 p2) (T_139 (T_179 s 44 1024 p1 p2) p1))), (3, .int (T_139 (T_179 s 44 1024 p1 p2) p1)), (0, .ref 42), (1, .int p1), (2, .int p2)] [] (N, hm_sh L g, (T_179 s 44 1024 p1 p2)) _ Q
      exact hm_st hR hq
    · rw [if_neg c51] at hq
      show R 150 54 [(4, .int (T_141 (T_179 s 44 1024 p1 p2) (T_139 (T_179 s 44 1024 p1 p2) p1))), (3, .int (T_139 (T_179 s 44 1024 p1 p2) p1)), (0, .ref 42), (1, .int p1), (2, .int p2)] [] (N, hm_sh L g, (T_179 s 44 1024 p1 p2)) _ Q
      refine hm_st hR (hm_st hR ⟨rfl, hm_le rfl, (hm_ltN hN rfl), hm_st hR (hm_st hR (hm_st hR (hm_st hR (hm_st hR ⟨rfl, hm_le rfl, (hm_ltN hN rfl), hm_st hR (hm_st hR (hm_st hR (hm_st hR (hm_st hR (hm_st hR (hm_st hR ⟨(by decide), ?_⟩))))))⟩))))⟩)
      refine hm_st hR ⟨hm_le rfl, rfl, (hm_le rfl), (hm_ltN hN rfl), hm_le rfl, hm_le rfl, (0, 0), Nat.zero_le _, Nat.zero_le _, ?_⟩
      refine sp_145 hR hN ?_
      show R 150 76 [(4, .int (T_141 (T_179 s 44 1024 p1 p2) (T_139 (T_179 s 44 1024 p1 p2) p1))), (3, .int (T_139 (T_179 s 44 1024 p1 p2) p1)), (0, .ref 42), (1, .int p1), (2, .int p2)] [.int (T_145 (T_179 s 44 1024 p1 p2) (T_139 (T_179 s 44 1024 p1 p2) p1) ((T_141 (T_179 s 44 1024 p1 p2) (T_139 (T_179 s 44 1024 p1 p2) p1)) / 2)), .int (((T_179 s 44 1024 p1 p2) 42 4) + 1), .int ((T_139 (T_179 s 44 1024 p1 p2) p1) + 1), .ref 45] (N, hm_sh L g, (T_179 s 44 1024 p1 p2)) _ Q
      refine hm_st hR ⟨hm_le rfl, rfl, (hm_le rfl), (hm_ltN hN rfl), hm_le rfl, hm_le rfl, (0, 0), Nat.zero_le _, Nat.zero_le _, ?_⟩
      refine sp_182 hR hN (rr := 45) (aa := 46) (nn := 1025) rfl rfl (hm_le rfl) (hm_ltN hN rfl) rfl rfl (hm_le rfl) (hm_ltN hN rfl) (by decide) ?_
      show R 150 79 [(4, .int (T_141 (T_179 s 44 1024 p1 p2) (T_139 (T_179 s 44 1024 p1 p2) p1))), (3, .int (T_139 (T_179 s 44 1024 p1 p2) p1)), (0, .ref 42), (1, .int p1), (2, .int p2)] [] (N, hm_sh L g, (T_182 (T_179 s 44 1024 p1 p2) 46 1025 ((T_139 (T_179 s 44 1024 p1 p2) p1) + 1) (((T_179 s 44 1024 p1 p2) 42 4) + 1) (T_145 (T_179 s 44 1024 p1 p2) (T_139 (T_179 s 44 1024 p1 p2) p1) ((T_141 (T_179 s 44 1024 p1 p2) (T_139 (T_179 s 44 1024 p1 p2) p1)) / 2)))) _ Q
      refine hm_st hR (hm_st hR ⟨rfl, hm_st hR ⟨rfl, hm_le rfl, (hm_ltN hN rfl), hm_st hR (hm_st hR (hm_st hR ⟨rfl, rfl, hm_le rfl, (hm_ltN hN rfl), ?_⟩))⟩⟩)
      show R 150 89 [(4, .int (T_141 (T_179 s 44 1024 p1 p2) (T_139 (T_179 s 44 1024 p1 p2) p1))), (3, .int (T_139 (T_179 s 44 1024 p1 p2) p1)), (0, .ref 42), (1, .int p1), (2, .int p2)] [] (N, hm_sh L g, (hm_w1 (T_182 (T_179 s 44 1024 p1 p2) 46 1025 ((T_139 (T_179 s 44 1024 p1 p2) p1) + 1) (((T_179 s 44 1024 p1 p2) 42 4) + 1) (T_145 (T_179 s 44 1024 p1 p2) (T_139 (T_179 s 44 1024 p1 p2) p1) ((T_141 (T_179 s 44 1024 p1 p2) (T_139 (T_179 s 44 1024 p1 p2) p1)) / 2))) 42 4 (((T_182 (T_179 s 44 1024 p1 p2) 46 1025 ((T_139 (T_179 s 44 1024 p1 p2) p1) + 1) (((T_179 s 44 1024 p1 p2) 42 4) + 1) (T_145 (T_179 s 44 1024 p1 p2) (T_139 (T_179 s 44 1024 p1 p2) p1) ((T_141 (T_179 s 44 1024 p1 p2) (T_139 (T_179 s 44 1024 p1 p2) p1)) / 2))) 42 4) + 1))) _ Q
      refine hm_st hR (hm_st hR ⟨rfl, hm_st hR ⟨rfl, hm_le rfl, (hm_ltN hN rfl), hm_st hR (hm_st hR (hm_st hR ⟨rfl, rfl, hm_le rfl, (hm_ltN hN rfl), ?_⟩))⟩⟩)
      show R 150 99 [(4, .int (T_141 (T_179 s 44 1024 p1 p2) (T_139 (T_179 s 44 1024 p1 p2) p1))), (3, .int (T_139 (T_179 s 44 1024 p1 p2) p1)), (0, .ref 42), (1, .int p1), (2, .int p2)] [] (N, hm_sh L g, (hm_w1 (hm_w1 (T_182 (T_179 s 44 1024 p1 p2) 46 1025 ((T_139 (T_179 s 44 1024 p1 p2) p1) + 1) (((T_179 s 44 1024 p1 p2) 42 4) + 1) (T_145 (T_179 s 44 1024 p1 p2) (T_139 (T_179 s 44 1024 p1 p2) p1) ((T_141 (T_179 s 44 1024 p1 p2) (T_139 (T_179 s 44 1024 p1 p2) p1)) / 2))) 42 4 (((T_182 (T_179 s 44 1024 p1 p2) 46 1025 ((T_139 (T_179 s 44 1024 p1 p2) p1) + 1) (((T_179 s 44 1024 p1 p2) 42 4) + 1) (T_145 (T_179 s 44 1024 p1 p2) (T_139 (T_179 s 44 1024 p1 p2) p1) ((T_141 (T_179 s 44 1024 p1 p2) (T_139 (T_179 s 44 1024 p1 p2) p1)) / 2))) 42 4) + 1)) 42 6 (((hm_w1 (T_182 (T_179 s 44 1024 p1 p2) 46 1025 ((T_139 (T_179 s 44 1024 p1 p2) p1) + 1) (((T_179 s 44 1024 p1 p2) 42 4) + 1) (T_145 (T_179 s 44 1024 p1 p2) (T_139 (T_179 s 44 1024 p1 p2) p1) ((T_141 (T_179 s 44 1024 p1 p2) (T_139 (T_179 s 44 1024 p1 p2) p1)) / 2))) 42 4 (((T_182 (T_179 s 44 1024 p1 p2) 46 1025 ((T_139 (T_179 s 44 1024 p1 p2) p1) + 1) (((T_179 s 44 1024 p1 p2) 42 4) + 1) (T_145 (T_179 s 44 1024 p1 p2) (T_139 (T_179 s 44 1024 p1 p2) p1) ((T_141 (T_179 s 44 1024 p1 p2) (T_139 (T_179 s 44 1024 p1 p2) p1)) / 2))) 42 4) + 1)) 42 6) + 1))) _ Q
      exact hm_st hR hq
  · rw [if_pos c10] at hq
    show R 150 13 [(0, .ref 42), (1, .int p1), (2, .int p2)] [] (N, hm_sh L g, s) _ Q
    refine hm_st hR (hm_st hR ⟨rfl, hm_st hR ⟨rfl, hm_le rfl, (hm_ltN hN rfl), hm_st hR (hm_st hR (hm_st hR ⟨rfl, rfl, hm_le rfl, (hm_ltN hN rfl), ?_⟩))⟩⟩)
    show R 150 23 [(0, .ref 42), (1, .int p1), (2, .int p2)] [] (N, hm_sh L g, (hm_w1 s 42 5 ((s 42 5) - 1))) _ Q
    refine hm_st hR (hm_st hR ⟨rfl, hm_le rfl, (hm_ltN hN rfl), hm_st hR (hm_st hR (?_))⟩)
    refine hm_st hR ⟨hm_le rfl, rfl, (hm_le rfl), (hm_ltN hN rfl), hm_le rfl, hm_le rfl, (0, 0), Nat.zero_le _, Nat.zero_le _, ?_⟩
    refine sp_179 hR hN (rr := 43) (aa := 44) (nn := 1024) rfl rfl (hm_le rfl) (hm_ltN hN rfl) rfl rfl (hm_le rfl) (hm_ltN hN rfl) (by decide) ?_
    show R 150 32 [(0, .ref 42), (1, .int p1), (2, .int p2)] [] (N, hm_sh L g, (T_179 (hm_w1 s 42 5 ((s 42 5) - 1)) 44 1024 p1 p2)) _ Q
    refine hm_st hR (hm_st hR (?_))
    refine hm_st hR ⟨hm_le rfl, rfl, (hm_le rfl), (hm_ltN hN rfl), hm_le rfl, hm_le rfl, (0, 0), Nat.zero_le _, Nat.zero_le _, ?_⟩
    refine sp_139 hR hN ?_
    show R 150 37 [(0, .ref 42), (1, .int p1), (2, .int p2)] [.int (T_139 (T_179 (hm_w1 s 42 5 ((s 42 5) - 1)) 44 1024 p1 p2) p1)] (N, hm_sh L g, (T_179 (hm_w1 s 42 5 ((s 42 5) - 1)) 44 1024 p1 p2)) _ Q
    refine hm_st hR (hm_st hR (hm_st hR (?_)))
    refine hm_st hR ⟨hm_le rfl, rfl, (hm_le rfl), (hm_ltN hN rfl), hm_le rfl, hm_le rfl, (0, 0), Nat.zero_le _, Nat.zero_le _, ?_⟩
    refine sp_141 hR hN ?_
    show R 150 43 [(3, .int (T_139 (T_179 (hm_w1 s 42 5 ((s 42 5) - 1)) 44 1024 p1 p2) p1)), (0, .ref 42), (1, .int p1), (2, .int p2)] [.int (T_141 (T_179 (hm_w1 s 42 5 ((s 42 5) - 1)) 44 1024 p1 p2) (T_139 (T_179 (hm_w1 s 42 5 ((s 42 5) - 1)) 44 1024 p1 p2) p1))] (N, hm_sh L g, (T_179 (hm_w1 s 42 5 ((s 42 5) - 1)) 44 1024 p1 p2)) _ Q
    refine hm_st hR (hm_st hR (hm_st hR (hm_st hR ⟨rfl, hm_le rfl, (hm_ltN hN rfl), ?_⟩)))
    show R 150 51 [(4, .int (T_141 (T_179 (hm_w1 s 42 5 ((s 42 5) - 1)) 44 1024 p1 p2) (T_139 (T_179 (hm_w1 s 42 5 ((s 42 5) - 1)) 44 1024 p1 p2) p1))), (3, .int (T_139 (T_179 (hm_w1 s 42 5 ((s 42 5) - 1)) 44 1024 p1 p2) p1)), (0, .ref 42), (1, .int p1), (2, .int p2)] [.int ((T_179 (hm_w1 s 42 5 ((s 42 5) - 1)) 44 1024 p1 p2) 42 3), .int (T_141 (T_179 (hm_w1 s 42 5 ((s 42 5) - 1)) 44 1024 p1 p2) (T_139 (T_179 (hm_w1 s 42 5 ((s 42 5) - 1)) 44 1024 p1 p2) p1))] (N, hm_sh L g, (T_179 (hm_w1 s 42 5 ((s 42 5) - 1)) 44 1024 p1 p2)) _ Q
    refine hm_st hR ⟨fun c51 => ?_, fun c51 => ?_⟩
    · rw [if_pos c51] at hq
      show R 150 99 [(4, .int (T_141 (T_179 (hm_w1 s 42 5 ((s 42 5) - 1)) 44 1024 p1 p2) (T_139 (T_179 (hm_w1 s 42 5 ((s 42 5) - 1)) 44 1024 p1 p2) p1))), (3, .int (T_139 (T_179 (hm_w1 s 42 5 ((s 42 5) - 1)) 44 1024 p1 p2) p1)), (0, .ref 42), (1, .int p1), (2, .int p2)] [] (N, hm_sh L g, (T_179 (hm_w1 s 42 5 ((s 42 5) - 1)) 44 1024 p1 p2)) _ Q
      exact hm_st hR hq
    · rw [if_neg c51] at hq
      show R 150 54 [(4, .int (T_141 (T_179 (hm_w1 s 42 5 ((s 42 5) - 1)) 44 1024 p1 p2) (T_139 (T_179 (hm_w1 s 42 5 ((s 42 5) - 1)) 44 1024 p1 p2) p1))), (3, .int (T_139 (T_179 (hm_w1 s 42 5 ((s 42 5) - 1)) 44 1024 p1 p2) p1)), (0, .ref 42), (1, .int p1), (2, .int p2)] [] (N, hm_sh L g, (T_179 (hm_w1 s 42 5 ((s 42 5) - 1)) 44 1024 p1 p2)) _ Q
      refine hm_st hR (hm_st hR ⟨rfl, hm_le rfl, (hm_ltN hN rfl), hm_st hR (hm_st hR (hm_st hR (hm_st hR (hm_st hR ⟨rfl, hm_le rfl, (hm_ltN hN rfl), hm_st hR (hm_st hR (hm_st hR (hm_st hR (hm_st hR (hm_st hR (hm_st hR ⟨(by decide), ?_⟩))))))⟩))))⟩)
      refine hm_st hR ⟨hm_le rfl, rfl, (hm_le rfl), (hm_ltN hN rfl), hm_le rfl, hm_le rfl, (0, 0), Nat.zero_le _, Nat.zero_le _, ?_⟩
      refine sp_145 hR hN ?_
      show R 150 76 [(4, .int (T_141 (T_179 (hm_w1 s 42 5 ((s 42 5) - 1)) 44 1024 p1 p2) (T_139 (T_179 (hm_w1 s 42 5 ((s 42 5) - 1)) 44 1024 p1 p2) p1))), (3, .int (T_139 (T_179 (hm_w1 s 42 5 ((s 42 5) - 1)) 44 1024 p1 p2) p1)), (0, .ref 42), (1, .int p1), (2, .int p2)] [.int (T_145 (T_179 (hm_w1 s 42 5 ((s 42 5) - 1)) 44 1024 p1 p2) (T_139 (T_179 (hm_w1 s 42 5 ((s 42 5) - 1)) 44 1024 p1 p2) p1) ((T_141 (T_179 (hm_w1 s 42 5 ((s 42 5) - 1)) 44 1024 p1 p2) (T_139 (T_179 (hm_w1 s 42 5 ((s 42 5) - 1)) 44 1024 p1 p2) p1)) / 2)), .int (((T_179 (hm_w1 s 42 5 ((s 42 5) - 1)) 44 1024 p1 p2) 42 4) + 1), .int ((T_139 (T_179 (hm_w1 s 42 5 ((s 42 5) - 1)) 44 1024 p1 p2) p1) + 1), .ref 45] (N, hm_sh L g, (T_179 (hm_w1 s 42 5 ((s 42 5) - 1)) 44 1024 p1 p2)) _ Q
      refine hm_st hR ⟨hm_le rfl, rfl, (hm_le rfl), (hm_ltN hN rfl), hm_le rfl, hm_le rfl, (0, 0), Nat.zero_le _, Nat.zero_le _, ?_⟩
      refine sp_182 hR hN (rr := 45) (aa := 46) (nn := 1025) rfl rfl (hm_le rfl) (hm_ltN hN rfl) rfl rfl (hm_le rfl) (hm_ltN hN rfl) (by decide) ?_
      show R 150 79 [(4, .int (T_141 (T_179 (hm_w1 s 42 5 ((s 42 5) - 1)) 44 1024 p1 p2) (T_139 (T_179 (hm_w1 s 42 5 ((s 42 5) - 1)) 44 1024 p1 p2) p1))), (3, .int (T_139 (T_179 (hm_w1 s 42 5 ((s 42 5) - 1)) 44 1024 p1 p2) p1)), (0, .ref 42), (1, .int p1), (2, .int p2)] [] (N, hm_sh L g, (T_182 (T_179 (hm_w1 s 42 5 ((s 42 5) - 1)) 44 1024 p1 p2) 46 1025 ((T_139 (T_179 (hm_w1 s 42 5 ((s 42 5) - 1)) 44 1024 p1 p2) p1) + 1) (((T_179 (hm_w1 s 42 5 ((s 42 5) - 1)) 44 1024 p1 p2) 42 4) + 1) (T_145 (T_179 (hm_w1 s 42 5 ((s 42 5) - 1)) 44 1024 p1 p2) (T_139 (T_179 (hm_w1 s 42 5 ((s 42 5) - 1)) 44 1024 p1 p2) p1) ((T_141 (T_179 (hm_w1 s 42 5 ((s 42 5) - 1)) 44 1024 p1 p2) (T_139 (T_179 (hm_w1 s 42 5 ((s 42 5) - 1)) 44 1024 p1 p2) p1)) / 2)))) _ Q
      refine hm_st hR (hm_st hR ⟨rfl, hm_st hR ⟨rfl, hm_le rfl, (hm_ltN hN rfl), hm_st hR (hm_st hR (hm_st hR ⟨rfl, rfl, hm_le rfl, (hm_ltN hN rfl), ?_⟩))⟩⟩)
      show R 150 89 [(4, .int (T_141 (T_179 (hm_w1 s 42 5 ((s 42 5) - 1)) 44 1024 p1 p2) (T_139 (T_179 (hm_w1 s 42 5 ((s 42 5) - 1)) 44 1024 p1 p2) p1))), (3, .int (T_139 (T_179 (hm_w1 s 42 5 ((s 42 5) - 1)) 44 1024 p1 p2) p1)), (0, .ref 42), (1, .int p1), (2, .int p2)] [] (N, hm_sh L g, (hm_w1 (T_182 (T_179 (hm_w1 s 42 5 ((s 42 5) - 1)) 44 1024 p1 p2) 46 1025 ((T_139 (T_179 (hm_w1 s 42 5 ((s 42 5) - 1)) 44 1024 p1 p2) p1) + 1) (((T_179 (hm_w1 s 42 5 ((s 42 5) - 1)) 44 1024 p1 p2) 42 4) + 1) (T_145 (T_179 (hm_w1 s 42 5 ((s 42 5) - 1)) 44 1024 p1 p2) (T_139 (T_179 (hm_w1 s 42 5 ((s 42 5) - 1)) 44 1024 p1 p2) p1) ((T_141 (T_179 (hm_w1 s 42 5 ((s 42 5) - 1)) 44 1024 p1 p2) (T_139 (T_179 (hm_w1 s 42 5 ((s 42 5) - 1)) 44 1024 p1 p2) p1)) / 2))) 42 4 (((T_182 (T_179 (hm_w1 s 42 5 ((s 42 5) - 1)) 44 1024 p1 p2) 46 1025 ((T_139 (T_179 (hm_w1 s 42 5 ((s 42 5) - 1)) 44 1024 p1 p2) p1) + 1) (((T_179 (hm_w1 s 42 5 ((s 42 5) - 1)) 44 1024 p1 p2) 42 4) + 1) (T_145 (T_179 (hm_w1 s 42 5 ((s 42 5) - 1)) 44 1024 p1 p2) (T_139 (T_179 (hm_w1 s 42 5 ((s 42 5) - 1)) 44 1024 p1 p2) p1) ((T_141 (T_179 (hm_w1 s 42 5 ((s 42 5) - 1)) 44 1024 p1 p2) (T_139 (T_179 (hm_w1 s 42 5 ((s 42 5) - 1)) 44 1024 p1 p2) p1)) / 2))) 42 4) + 1))) _ Q
      refine hm_st hR (hm_st hR ⟨rfl, hm_st hR ⟨rfl, hm_le rfl, (hm_ltN hN rfl), hm_st hR (hm_st hR (hm_st hR ⟨rfl, rfl, hm_le rfl, (hm_ltN hN rfl), ?_⟩))⟩⟩)
      show R 150 99 [(4, .int (T_141 (T_179 (hm_w1 s 42 5 ((s 42 5) - 1)) 44 1024 p1 p2) (T_139 (T_179 (hm_w1 s 42 5 ((s 42 5) - 1)) 44 1024 p1 p2) p1))), (3, .int (T_139 (T_179 (hm_w1 s 42 5 ((s 42 5) - 1)) 44 1024 p1 p2) p1)), (0, .ref 42), (1, .int p1), (2, .int p2)] [] (N, hm_sh L g, (hm_w1 (hm_w1 (T_182 (T_179 (hm_w1 s 42 5 ((s 42 5) - 1)) 44 1024 p1 p2) 46 1025 ((T_139 (T_179 (hm_w1 s 42 5 ((s 42 5) - 1)) 44 1024 p1 p2) p1) + 1) (((T_179 (hm_w1 s 42 5 ((s 42 5) - 1)) 44 1024 p1 p2) 42 4) + 1) (T_145 (T_179 (hm_w1 s 42 5 ((s 42 5) - 1)) 44 1024 p1 p2) (T_139 (T_179 (hm_w1 s 42 5 ((s 42 5) - 1)) 44 1024 p1 p2) p1) ((T_141 (T_179 (hm_w1 s 42 5 ((s 42 5) - 1)) 44 1024 p1 p2) (T_139 (T_179 (hm_w1 s 42 5 ((s 42 5) - 1)) 44 1024 p1 p2) p1)) / 2))) 42 4 (((T_182 (T_179 (hm_w1 s 42 5 ((s 42 5) - 1)) 44 1024 p1 p2) 46 1025 ((T_139 (T_179 (hm_w1 s 42 5 ((s 42 5) - 1)) 44 1024 p1 p2) p1) + 1) (((T_179 (hm_w1 s 42 5 ((s 42 5) - 1)) 44 1024 p1 p2) 42 4) + 1) (T_145 (T_179 (hm_w1 s 42 5 ((s 42 5) - 1)) 44 1024 p1 p2) (T_139 (T_179 (hm_w1 s 42 5 ((s 42 5) - 1)) 44 1024 p1 p2) p1) ((T_141 (T_179 (hm_w1 s 42 5 ((s 42 5) - 1)) 44 1024 p1 p2) (T_139 (T_179 (hm_w1 s 42 5 ((s 42 5) - 1)) 44 1024 p1 p2) p1)) / 2))) 42 4) + 1)) 42 6 (((hm_w1 (T_182 (T_179 (hm_w1 s 42 5 ((s 42 5) - 1)) 44 1024 p1 p2) 46 1025 ((T_139 (T_179 (hm_w1 s 42 5 ((s 42 5) - 1)) 44 1024 p1 p2) p1) + 1) (((T_179 (hm_w1 s 42 5 ((s 42 5) - 1)) 44 1024 p1 p2) 42 4) + 1) (T_145 (T_179 (hm_w1 s 42 5 ((s 42 5) - 1)) 44 1024 p1 p2) (T_139 (T_179 (hm_w1 s 42 5 ((s 42 5) - 1)) 44 1024 p1 p2) p1) ((T_141 (T_179 (hm_w1 s 42 5 ((s 42 5) - 1)) 44 1024 p1 p2) (T_139 (T_179 (hm_w1 s 42 5 ((s 42 5) - 1)) 44 1024 p1 p2) p1)) / 2))) 42 4 (((T_182 (T_179 (hm_w1 s 42 5 ((s 42 5) - 1)) 44 1024 p1 p2) 46 1025 ((T_139 (T_179 (hm_w1 s 42 5 ((s 42 5) - 1)) 44 1024 p1 p2) p1) + 1) (((T_179 (hm_w1 s 42 5 ((s 42 5) - 1)) 44 1024 p1 p2) 42 4) + 1) (T_145 (T_179 (hm_w1 s 42 5 ((s 42 5) - 1)) 44 1024 p1 p2) (T_139 (T_179 (hm_w1 s 42 5 ((s 42 5) - 1)) 44 1024 p1 p2) p1) ((T_141 (T_179 (hm_w1 s 42 5 ((s 42 5) - 1)) 44 1024 p1 p2) (T_139 (T_179 (hm_w1 s 42 5 ((s 42 5) - 1)) 44 1024 p1 p2) p1)) / 2))) 42 4) + 1)) 42 6) + 1))) _ Q
      exact hm_st hR hq
/-- CurvekeyHouse$Cells.cellAt(III)I -/
def T_74 (s : hm_St) (p1 : Int32) (p2 : Int32) (p3 : Int32) : Int32 := (((p3 >>> (((s 47 1) - p1) &&& 31)) <<< (p1 &&& 31)) + (p2 >>> (((s 47 1) - p1) &&& 31)))
set_option maxRecDepth 20000 in
theorem sp_74 {R : hm_R} (hR : hm_Cm R) {N L : Nat} {g : Nat → hm_Sh} {s : hm_St} {b : hm_B} {Q : hm_Q} (hN : 68 ≤ N) {p1 : Int32} {p2 : Int32} {p3 : Int32} (hq : Q (.inr (some (.int (T_74 s p1 p2 p3)))) (N, hm_sh L g, s)) : R 74 0 (lv_args 0 [.ref 47, .int p1, .int p2, .int p3]) [] (N, hm_sh L g, s) b Q := by
  unfold T_74 at hq
  show R 74 0 [(0, .ref 47), (1, .int p1), (2, .int p2), (3, .int p3)] [] (N, hm_sh L g, s) _ Q
  refine hm_st hR (hm_st hR ⟨rfl, hm_le rfl, (hm_ltN hN rfl), hm_st hR (hm_st hR (hm_st hR (hm_st hR (hm_st hR (hm_st hR (hm_st hR (hm_st hR (hm_st hR (hm_st hR (hm_st hR (hm_st hR (?_))))))))))))⟩)
  exact hm_st hR ⟨fun z => absurd z (by decide), hq⟩
/-- CurvekeyHouse$Cells.indexOf(II)I -/
def T_73 (s : hm_St) (p1 : Int32) (p2 : Int32) : Int32 := ((((T_72 s p1) - 1) / 3) + p2)
set_option maxRecDepth 20000 in
theorem sp_73 {R : hm_R} (hR : hm_Cm R) {N L : Nat} {g : Nat → hm_Sh} {s : hm_St} {b : hm_B} {Q : hm_Q} (hN : 68 ≤ N) {p1 : Int32} {p2 : Int32} (hq : Q (.inr (some (.int (T_73 s p1 p2)))) (N, hm_sh L g, s)) : R 73 0 (lv_args 0 [.int p1, .int p2]) [] (N, hm_sh L g, s) b Q := by
  unfold T_73 at hq
  show R 73 0 [(0, .int p1), (1, .int p2)] [] (N, hm_sh L g, s) _ Q
  refine hm_st hR (?_)
  refine hm_st hR ⟨hm_le rfl, hm_le rfl, hm_le rfl, (0, 0), Nat.zero_le _, Nat.zero_le _, ?_⟩
  refine sp_72 hR hN ?_
  show R 73 4 [(0, .int p1), (1, .int p2)] [.int (T_72 s p1)] (N, hm_sh L g, s) _ Q
  refine hm_st hR (hm_st hR (hm_st hR (hm_st hR ⟨(by decide), hm_st hR (hm_st hR (?_))⟩)))
  exact hm_st hR ⟨fun z => absurd z (by decide), hq⟩
def T_76_3 : Nat → hm_St → Int32 → Int32 → Int32 → Int32 → hm_St
  | 0, s, _, _, _, _ => s
  | n + 1, s, v1, v2, v3, v4 => (if (s 47 1) < v4 then s else (T_76_3 n (T_180 s 49 1365 (T_73 s v4 (T_74 s v4 v1 v2)) v3) v1 v2 v3 (v4 + 1)))
/-- CurvekeyHouse$Cells.count(III)V -/
def T_76 (s : hm_St) (p1 : Int32) (p2 : Int32) (p3 : Int32) : hm_St := (T_76_3 (hm_df1 (s 47 1) 0 + 1) s p1 p2 p3 0)
theorem N_76_3 {c j : Nat} (h49 : c ≠ 49) : ∀ (n : Nat) (s : hm_St) (v0 v1 v2 v3 : Int32), (T_76_3  n s v0 v1 v2 v3) c j = s c j := by
  intro n
  induction n with
  | zero => intros; rfl
  | succ n ih =>
    intros
    unfold T_76_3
    repeat' split
    all_goals first | rfl | simp only [ih, hm_w1n h49, N_180 h49]
theorem N_76 {c j : Nat} (h49 : c ≠ 49) {s : hm_St} {p1 : Int32} {p2 : Int32} {p3 : Int32} : (T_76 s p1 p2 p3) c j = s c j := by
  unfold T_76
  repeat' split
  all_goals first | rfl | simp only [hm_w1n h49, N_180 h49, N_76_3 h49]
set_option maxRecDepth 20000 in
theorem lp_76_3 {R : hm_R} (hR : hm_Cm R) {N L : Nat} {g : Nat → hm_Sh} {b : hm_B} {Q : hm_Q} (hN : 68 ≤ N) : ∀ (n : Nat) (s : hm_St) (v1 : Int32) (v2 : Int32) (v3 : Int32) (v4 : Int32), hm_df1 (s 47 1) v4 < n → (hinv : s 47 1 < 100000) → (hq : Q (.inr none) (N, hm_sh L g, (T_76_3 n s v1 v2 v3 v4))) → R 76 3 [(4, .int v4), (0, .ref 47), (1, .int v1), (2, .int v2), (3, .int v3)] [] (N, hm_sh L g, s) b Q := by
  intro n
  induction n with
  | zero => intro s v1 v2 v3 v4 hm hinv _; exact absurd hm (Nat.not_lt_zero _)
  | succ n ih =>
    intro s v1 v2 v3 v4 hm hinv hq
    unfold T_76_3 at hq
    refine hm_st hR (hm_st hR (hm_st hR ⟨rfl, hm_le rfl, (hm_ltN hN rfl), ?_⟩))
    show R 76 9 [(4, .int v4), (0, .ref 47), (1, .int v1), (2, .int v2), (3, .int v3)] [.int (s 47 1), .int v4] (N, hm_sh L g, s) _ Q
    refine hm_st hR ⟨fun c9 => ?_, fun c9 => ?_⟩
    · rw [if_pos c9] at hq
      show R 76 39 [(4, .int v4), (0, .ref 47), (1, .int v1), (2, .int v2), (3, .int v3)] [] (N, hm_sh L g, s) _ Q
      exact hm_st hR hq
    · rw [if_neg c9] at hq
      show R 76 12 [(4, .int v4), (0, .ref 47), (1, .int v1), (2, .int v2), (3, .int v3)] [] (N, hm_sh L g, s) _ Q
      refine hm_st hR (hm_st hR ⟨rfl, hm_le rfl, (hm_ltN hN rfl), hm_st hR (hm_st hR (hm_st hR (hm_st hR (hm_st hR (?_)))))⟩)
      refine hm_st hR ⟨hm_le rfl, rfl, (hm_le rfl), (hm_ltN hN rfl), hm_le rfl, hm_le rfl, (0, 0), Nat.zero_le _, Nat.zero_le _, ?_⟩
      refine sp_74 hR hN ?_
      show R 76 26 [(4, .int v4), (0, .ref 47), (1, .int v1), (2, .int v2), (3, .int v3)] [.int (T_74 s v4 v1 v2), .int v4, .ref 48] (N, hm_sh L g, s) _ Q
      refine hm_st hR ⟨hm_le rfl, hm_le rfl, hm_le rfl, (0, 0), Nat.zero_le _, Nat.zero_le _, ?_⟩
      refine sp_73 hR hN ?_
      show R 76 29 [(4, .int v4), (0, .ref 47), (1, .int v1), (2, .int v2), (3, .int v3)] [.int (T_73 s v4 (T_74 s v4 v1 v2)), .ref 48] (N, hm_sh L g, s) _ Q
      refine hm_st hR (?_)
      refine hm_st hR ⟨hm_le rfl, rfl, (hm_le rfl), (hm_ltN hN rfl), hm_le rfl, hm_le rfl, (0, 0), Nat.zero_le _, Nat.zero_le _, ?_⟩
      refine sp_180 hR hN (rr := 48) (aa := 49) (nn := 1365) rfl rfl (hm_le rfl) (hm_ltN hN rfl) rfl rfl (hm_le rfl) (hm_ltN hN rfl) (by decide) ?_
      show R 76 33 [(4, .int v4), (0, .ref 47), (1, .int v1), (2, .int v2), (3, .int v3)] [] (N, hm_sh L g, (T_180 s 49 1365 (T_73 s v4 (T_74 s v4 v1 v2)) v3)) _ Q
      refine hm_st hR (hm_st hR (?_))
      show R 76 3 [(4, .int (v4 + 1)), (0, .ref 47), (1, .int v1), (2, .int v2), (3, .int v3)] [] (N, hm_sh L g, (T_180 s 49 1365 (T_73 s v4 (T_74 s v4 v1 v2)) v3)) _ Q
      exact hm_lvS hR (by intro q hq; simp only [List.mem_cons, List.not_mem_nil, or_false] at hq ⊢; rcases hq with rfl | rfl | rfl | rfl | rfl <;> simp) (ih (T_180 s 49 1365 (T_73 s v4 (T_74 s v4 v1 v2)) v3) v1 v2 v3 (v4 + 1) (by rw [N_180 (by decide)]; exact hm_dcy c9 hinv hm) (by rw [N_180 (by decide)]; exact hinv) hq)
set_option maxRecDepth 20000 in
theorem sp_76 {R : hm_R} (hR : hm_Cm R) {N L : Nat} {g : Nat → hm_Sh} {s : hm_St} {b : hm_B} {Q : hm_Q} (hN : 68 ≤ N) {p1 : Int32} {p2 : Int32} {p3 : Int32} (hO : s 47 1 < 100000) (hq : Q (.inr none) (N, hm_sh L g, (T_76 s p1 p2 p3))) : R 76 0 (lv_args 0 [.ref 47, .int p1, .int p2, .int p3]) [] (N, hm_sh L g, s) b Q := by
  unfold T_76 at hq
  show R 76 0 [(0, .ref 47), (1, .int p1), (2, .int p2), (3, .int p3)] [] (N, hm_sh L g, s) _ Q
  refine hm_st hR (hm_st hR (?_))
  show R 76 3 [(4, .int 0), (0, .ref 47), (1, .int p1), (2, .int p2), (3, .int p3)] [] (N, hm_sh L g, s) _ Q
  exact lp_76_3 hR hN _ _ _ _ _ _ (Nat.lt_succ_self _) hO hq
def T_191_3 : Nat → hm_St → Int32 → Int32 → Int32 → hm_St
  | 0, s, _, _, _ => s
  | n + 1, s, v2, v3, v4 => (if (s 50 4) ≤ v4 then s else (if (T_74 s (T_178 s 52 20 v4) v2 v3) = (T_178 s 54 20 v4) then (T_191_3 n (T_179 s 58 20 v4 1) v2 v3 (v4 + 1)) else (T_191_3 n s v2 v3 (v4 + 1))))
/-- CurvekeyHouse$Tiles.spoil(LCurvekeyHouse$Cells;II)V -/
def T_191 (s : hm_St) (p2 : Int32) (p3 : Int32) : hm_St := (T_191_3 (hm_df (s 50 4) 0 + 1) s p2 p3 0)
theorem N_191_3 {c j : Nat} (h58 : c ≠ 58) : ∀ (n : Nat) (s : hm_St) (v0 v1 v2 : Int32), (T_191_3  n s v0 v1 v2) c j = s c j := by
  intro n
  induction n with
  | zero => intros; rfl
  | succ n ih =>
    intros
    unfold T_191_3
    repeat' split
    all_goals first | rfl | simp only [ih, hm_w1n h58, N_179 h58]
theorem N_191 {c j : Nat} (h58 : c ≠ 58) {s : hm_St} {p2 : Int32} {p3 : Int32} : (T_191 s p2 p3) c j = s c j := by
  unfold T_191
  repeat' split
  all_goals first | rfl | simp only [hm_w1n h58, N_179 h58, N_191_3 h58]
set_option maxRecDepth 20000 in
theorem lp_191_3 {R : hm_R} (hR : hm_Cm R) {N L : Nat} {g : Nat → hm_Sh} {b : hm_B} {Q : hm_Q} (hN : 68 ≤ N) : ∀ (n : Nat) (s : hm_St) (v2 : Int32) (v3 : Int32) (v4 : Int32), hm_df (s 50 4) v4 < n → (hq : Q (.inr none) (N, hm_sh L g, (T_191_3 n s v2 v3 v4))) → R 191 3 [(4, .int v4), (0, .ref 50), (1, .ref 47), (2, .int v2), (3, .int v3)] [] (N, hm_sh L g, s) b Q := by
  intro n
  induction n with
  | zero => intro s v2 v3 v4 hm _; exact absurd hm (Nat.not_lt_zero _)
  | succ n ih =>
    intro s v2 v3 v4 hm hq
    unfold T_191_3 at hq
    refine hm_st hR (hm_st hR (hm_st hR ⟨rfl, hm_le rfl, (hm_ltN hN rfl), ?_⟩))
    show R 191 9 [(4, .int v4), (0, .ref 50), (1, .ref 47), (2, .int v2), (3, .int v3)] [.int (s 50 4), .int v4] (N, hm_sh L g, s) _ Q
    refine hm_st hR ⟨fun c9 => ?_, fun c9 => ?_⟩
    · rw [if_pos c9] at hq
      show R 191 55 [(4, .int v4), (0, .ref 50), (1, .ref 47), (2, .int v2), (3, .int v3)] [] (N, hm_sh L g, s) _ Q
      exact hm_st hR hq
    · rw [if_neg c9] at hq
      show R 191 12 [(4, .int v4), (0, .ref 50), (1, .ref 47), (2, .int v2), (3, .int v3)] [] (N, hm_sh L g, s) _ Q
      refine hm_st hR (hm_st hR (hm_st hR ⟨rfl, hm_le rfl, (hm_ltN hN rfl), hm_st hR (?_)⟩))
      refine hm_st hR ⟨hm_le rfl, rfl, (hm_le rfl), (hm_ltN hN rfl), hm_le rfl, hm_le rfl, (0, 0), Nat.zero_le _, Nat.zero_le _, ?_⟩
      refine sp_178 hR hN (rr := 51) (aa := 52) (nn := 20) rfl rfl (hm_le rfl) (hm_ltN hN rfl) rfl rfl (hm_le rfl) (hm_ltN hN rfl) (by decide) ?_
      show R 191 22 [(4, .int v4), (0, .ref 50), (1, .ref 47), (2, .int v2), (3, .int v3)] [.int (T_178 s 52 20 v4), .ref 47] (N, hm_sh L g, s) _ Q
      refine hm_st hR (hm_st hR (?_))
      refine hm_st hR ⟨hm_le rfl, rfl, (hm_le rfl), (hm_ltN hN rfl), hm_le rfl, hm_le rfl, (0, 0), Nat.zero_le _, Nat.zero_le _, ?_⟩
      refine sp_74 hR hN ?_
      show R 191 27 [(4, .int v4), (0, .ref 50), (1, .ref 47), (2, .int v2), (3, .int v3)] [.int (T_74 s (T_178 s 52 20 v4) v2 v3)] (N, hm_sh L g, s) _ Q
      refine hm_st hR (hm_st hR ⟨rfl, hm_le rfl, (hm_ltN hN rfl), hm_st hR (?_)⟩)
      refine hm_st hR ⟨hm_le rfl, rfl, (hm_le rfl), (hm_ltN hN rfl), hm_le rfl, hm_le rfl, (0, 0), Nat.zero_le _, Nat.zero_le _, ?_⟩
      refine sp_178 hR hN (rr := 53) (aa := 54) (nn := 20) rfl rfl (hm_le rfl) (hm_ltN hN rfl) rfl rfl (hm_le rfl) (hm_ltN hN rfl) (by decide) ?_
      show R 191 36 [(4, .int v4), (0, .ref 50), (1, .ref 47), (2, .int v2), (3, .int v3)] [.int (T_178 s 54 20 v4), .int (T_74 s (T_178 s 52 20 v4) v2 v3)] (N, hm_sh L g, s) _ Q
      show R 191 36 [(4, .int v4), (0, .ref 50), (1, .ref 47), (2, .int v2), (3, .int v3)] [.int (T_178 s 54 20 v4), .int (T_74 s (T_178 s 52 20 v4) v2 v3)] (N, hm_sh L g, s) _ Q
      refine hm_st hR ⟨fun c36 => ?_, fun c36 => ?_⟩
      · rw [if_neg c36] at hq
        show R 191 49 [(4, .int v4), (0, .ref 50), (1, .ref 47), (2, .int v2), (3, .int v3)] [] (N, hm_sh L g, s) _ Q
        refine hm_st hR (hm_st hR (?_))
        show R 191 3 [(4, .int (v4 + 1)), (0, .ref 50), (1, .ref 47), (2, .int v2), (3, .int v3)] [] (N, hm_sh L g, s) _ Q
        exact hm_lvS hR (by intro q hq; simp only [List.mem_cons, List.not_mem_nil, or_false] at hq ⊢; rcases hq with rfl | rfl | rfl | rfl | rfl <;> simp) (ih s v2 v3 (v4 + 1) (hm_dcx c9 hm) hq)
      · rw [if_pos c36] at hq
        show R 191 39 [(4, .int v4), (0, .ref 50), (1, .ref 47), (2, .int v2), (3, .int v3)] [] (N, hm_sh L g, s) _ Q
        refine hm_st hR (hm_st hR ⟨rfl, hm_le rfl, (hm_ltN hN rfl), hm_st hR (hm_st hR (?_))⟩)
        refine hm_st hR ⟨hm_le rfl, rfl, (hm_le rfl), (hm_ltN hN rfl), hm_le rfl, hm_le rfl, (0, 0), Nat.zero_le _, Nat.zero_le _, ?_⟩
        refine sp_179 hR hN (rr := 57) (aa := 58) (nn := 20) rfl rfl (hm_le rfl) (hm_ltN hN rfl) rfl rfl (hm_le rfl) (hm_ltN hN rfl) (by decide) ?_
        show R 191 49 [(4, .int v4), (0, .ref 50), (1, .ref 47), (2, .int v2), (3, .int v3)] [] (N, hm_sh L g, (T_179 s 58 20 v4 1)) _ Q
        refine hm_st hR (hm_st hR (?_))
        show R 191 3 [(4, .int (v4 + 1)), (0, .ref 50), (1, .ref 47), (2, .int v2), (3, .int v3)] [] (N, hm_sh L g, (T_179 s 58 20 v4 1)) _ Q
        exact hm_lvS hR (by intro q hq; simp only [List.mem_cons, List.not_mem_nil, or_false] at hq ⊢; rcases hq with rfl | rfl | rfl | rfl | rfl <;> simp) (ih (T_179 s 58 20 v4 1) v2 v3 (v4 + 1) (hm_dcx c9 hm) hq)
set_option maxRecDepth 20000 in
theorem sp_191 {R : hm_R} (hR : hm_Cm R) {N L : Nat} {g : Nat → hm_Sh} {s : hm_St} {b : hm_B} {Q : hm_Q} (hN : 68 ≤ N) {p2 : Int32} {p3 : Int32} (hq : Q (.inr none) (N, hm_sh L g, (T_191 s p2 p3))) : R 191 0 (lv_args 0 [.ref 50, .ref 47, .int p2, .int p3]) [] (N, hm_sh L g, s) b Q := by
  unfold T_191 at hq
  show R 191 0 [(0, .ref 50), (1, .ref 47), (2, .int p2), (3, .int p3)] [] (N, hm_sh L g, s) _ Q
  refine hm_st hR (hm_st hR (?_))
  show R 191 3 [(4, .int 0), (0, .ref 50), (1, .ref 47), (2, .int p2), (3, .int p3)] [] (N, hm_sh L g, s) _ Q
  exact lp_191_3 hR hN _ _ _ _ _ (Nat.lt_succ_self _) hq
/-- CurvekeyHouse.arrive(III)V -/
def T_45 (s : hm_St) (p1 : Int32) (p2 : Int32) (p3 : Int32) : hm_St := (T_191 (T_76 (T_150 (T_120 (T_166 s p1 p2 p3) p1 p2 p3) (T_39 (T_120 (T_166 s p1 p2 p3) p1 p2 p3) p2 p3) p1) p2 p3 1) p2 p3)
theorem N_45 {c j : Nat} (h16 : c ≠ 16) (h18 : c ≠ 18) (h25 : c ≠ 25) (h27 : c ≠ 27) (h29 : c ≠ 29) (h31 : c ≠ 31) (h33 : c ≠ 33) (h35 : c ≠ 35) (h37 : c ≠ 37) (h42 : c ≠ 42) (h44 : c ≠ 44) (h46 : c ≠ 46) (h49 : c ≠ 49) (h58 : c ≠ 58) {s : hm_St} {p1 : Int32} {p2 : Int32} {p3 : Int32} : (T_45 s p1 p2 p3) c j = s c j := by
  unfold T_45
  repeat' split
  all_goals first | rfl | simp only [hm_w1n h16, hm_w1n h18, hm_w1n h25, hm_w1n h27, hm_w1n h29, hm_w1n h31, hm_w1n h33, hm_w1n h35, hm_w1n h37, hm_w1n h42, hm_w1n h44, hm_w1n h46, hm_w1n h49, hm_w1n h58, N_76 h49, N_120 h25 h27 h29 h31 h33 h35 h37, N_150 h42 h44 h46, N_166 h16 h18, N_191 h58]
set_option maxRecDepth 20000 in
theorem sp_45 {R : hm_R} (hR : hm_Cm R) {N L : Nat} {g : Nat → hm_Sh} {s : hm_St} {b : hm_B} {Q : hm_Q} (hN : 68 ≤ N) {p1 : Int32} {p2 : Int32} {p3 : Int32} (hO : s 47 1 < 100000) (hq : Q (.inr none) (N, hm_sh L g, (T_45 s p1 p2 p3))) : R 45 0 (lv_args 0 [.ref 2, .int p1, .int p2, .int p3]) [] (N, hm_sh L g, s) b Q := by
  unfold T_45 at hq
  show R 45 0 [(0, .ref 2), (1, .int p1), (2, .int p2), (3, .int p3)] [] (N, hm_sh L g, s) _ Q
  refine hm_st hR (hm_st hR ⟨rfl, hm_le rfl, (hm_ltN hN rfl), hm_st hR (hm_st hR (hm_st hR (?_)))⟩)
  refine hm_st hR ⟨hm_le rfl, rfl, (hm_le rfl), (hm_ltN hN rfl), hm_le rfl, hm_le rfl, (0, 0), Nat.zero_le _, Nat.zero_le _, ?_⟩
  refine sp_166 hR hN ?_
  show R 45 10 [(0, .ref 2), (1, .int p1), (2, .int p2), (3, .int p3)] [] (N, hm_sh L g, (T_166 s p1 p2 p3)) _ Q
  refine hm_st hR (hm_st hR ⟨rfl, hm_le rfl, (hm_ltN hN rfl), hm_st hR (hm_st hR (hm_st hR (?_)))⟩)
  refine hm_st hR ⟨hm_le rfl, rfl, (hm_le rfl), (hm_ltN hN rfl), hm_le rfl, hm_le rfl, (0, 0), Nat.zero_le _, Nat.zero_le _, ?_⟩
  refine sp_120 hR hN ?_
  show R 45 20 [(0, .ref 2), (1, .int p1), (2, .int p2), (3, .int p3)] [] (N, hm_sh L g, (T_120 (T_166 s p1 p2 p3) p1 p2 p3)) _ Q
  refine hm_st hR (hm_st hR ⟨rfl, hm_le rfl, (hm_ltN hN rfl), hm_st hR (hm_st hR (hm_st hR (?_)))⟩)
  refine hm_st hR ⟨hm_le rfl, rfl, (hm_le rfl), (hm_ltN hN rfl), hm_le rfl, hm_le rfl, (0, 0), Nat.zero_le _, Nat.zero_le _, ?_⟩
  refine sp_39 hR hN ?_
  show R 45 30 [(0, .ref 2), (1, .int p1), (2, .int p2), (3, .int p3)] [.int (T_39 (T_120 (T_166 s p1 p2 p3) p1 p2 p3) p2 p3), .ref 42] (N, hm_sh L g, (T_120 (T_166 s p1 p2 p3) p1 p2 p3)) _ Q
  refine hm_st hR (?_)
  refine hm_st hR ⟨hm_le rfl, rfl, (hm_le rfl), (hm_ltN hN rfl), hm_le rfl, hm_le rfl, (0, 0), Nat.zero_le _, Nat.zero_le _, ?_⟩
  refine sp_150 hR hN ?_
  show R 45 34 [(0, .ref 2), (1, .int p1), (2, .int p2), (3, .int p3)] [] (N, hm_sh L g, (T_150 (T_120 (T_166 s p1 p2 p3) p1 p2 p3) (T_39 (T_120 (T_166 s p1 p2 p3) p1 p2 p3) p2 p3) p1)) _ Q
  refine hm_st hR (hm_st hR ⟨rfl, hm_le rfl, (hm_ltN hN rfl), hm_st hR (hm_st hR (hm_st hR (?_)))⟩)
  refine hm_st hR ⟨hm_le rfl, rfl, (hm_le rfl), (hm_ltN hN rfl), hm_le rfl, hm_le rfl, (0, 0), Nat.zero_le _, Nat.zero_le _, ?_⟩
  refine sp_76 hR hN hO ?_
  show R 45 44 [(0, .ref 2), (1, .int p1), (2, .int p2), (3, .int p3)] [] (N, hm_sh L g, (T_76 (T_150 (T_120 (T_166 s p1 p2 p3) p1 p2 p3) (T_39 (T_120 (T_166 s p1 p2 p3) p1 p2 p3) p2 p3) p1) p2 p3 1)) _ Q
  refine hm_st hR (hm_st hR ⟨rfl, hm_le rfl, (hm_ltN hN rfl), hm_st hR (hm_st hR ⟨rfl, hm_le rfl, (hm_ltN hN rfl), hm_st hR (hm_st hR (?_))⟩)⟩)
  refine hm_st hR ⟨hm_le rfl, rfl, (hm_le rfl), (hm_ltN hN rfl), hm_le rfl, hm_le rfl, (0, 0), Nat.zero_le _, Nat.zero_le _, ?_⟩
  refine sp_191 hR hN ?_
  show R 45 57 [(0, .ref 2), (1, .int p1), (2, .int p2), (3, .int p3)] [] (N, hm_sh L g, (T_191 (T_76 (T_150 (T_120 (T_166 s p1 p2 p3) p1 p2 p3) (T_39 (T_120 (T_166 s p1 p2 p3) p1 p2 p3) p2 p3) p1) p2 p3 1) p2 p3)) _ Q
  exact hm_st hR hq
/-- CurvekeyHouse.putNew(II)I -/
def T_43 (s : hm_St) (p1 : Int32) (p2 : Int32) : (Int32 × hm_St) := ((T_165 (T_117 s)).1, (T_45 (T_118 ((T_165 (T_117 s)).2) ((T_165 (T_117 s)).1)) ((T_165 (T_117 s)).1) p1 p2))
theorem N_43 {c j : Nat} (h14 : c ≠ 14) (h16 : c ≠ 16) (h18 : c ≠ 18) (h20 : c ≠ 20) (h22 : c ≠ 22) (h24 : c ≠ 24) (h25 : c ≠ 25) (h27 : c ≠ 27) (h29 : c ≠ 29) (h31 : c ≠ 31) (h33 : c ≠ 33) (h35 : c ≠ 35) (h37 : c ≠ 37) (h39 : c ≠ 39) (h41 : c ≠ 41) (h42 : c ≠ 42) (h44 : c ≠ 44) (h46 : c ≠ 46) (h49 : c ≠ 49) (h58 : c ≠ 58) {s : hm_St} {p1 : Int32} {p2 : Int32} : (T_43 s p1 p2).2 c j = s c j := by
  unfold T_43
  repeat' split
  all_goals first | rfl | simp only [hm_w1n h14, hm_w1n h16, hm_w1n h18, hm_w1n h20, hm_w1n h22, hm_w1n h24, hm_w1n h25, hm_w1n h27, hm_w1n h29, hm_w1n h31, hm_w1n h33, hm_w1n h35, hm_w1n h37, hm_w1n h39, hm_w1n h41, hm_w1n h42, hm_w1n h44, hm_w1n h46, hm_w1n h49, hm_w1n h58, N_45 h16 h18 h25 h27 h29 h31 h33 h35 h37 h42 h44 h46 h49 h58, N_117 h25, N_118 h37 h39 h41, N_165 h14 h20 h22 h24]
set_option maxRecDepth 20000 in
theorem sp_43 {R : hm_R} (hR : hm_Cm R) {N L : Nat} {g : Nat → hm_Sh} {s : hm_St} {b : hm_B} {Q : hm_Q} (hN : 68 ≤ N) {p1 : Int32} {p2 : Int32} (hO : s 47 1 < 100000) (hq : Q (.inr (some (.int (T_43 s p1 p2).1))) (N, hm_sh L g, (T_43 s p1 p2).2)) : R 43 0 (lv_args 0 [.ref 2, .int p1, .int p2]) [] (N, hm_sh L g, s) b Q := by
  unfold T_43 at hq
  show R 43 0 [(0, .ref 2), (1, .int p1), (2, .int p2)] [] (N, hm_sh L g, s) _ Q
  refine hm_st hR (hm_st hR ⟨rfl, hm_le rfl, (hm_ltN hN rfl), ?_⟩)
  refine hm_st hR ⟨hm_le rfl, rfl, (hm_le rfl), (hm_ltN hN rfl), hm_le rfl, hm_le rfl, (0, 0), Nat.zero_le _, Nat.zero_le _, ?_⟩
  refine sp_117 hR hN ?_
  show R 43 7 [(0, .ref 2), (1, .int p1), (2, .int p2)] [] (N, hm_sh L g, (T_117 s)) _ Q
  refine hm_st hR (hm_st hR ⟨rfl, hm_le rfl, (hm_ltN hN rfl), ?_⟩)
  refine hm_st hR ⟨hm_le rfl, rfl, (hm_le rfl), (hm_ltN hN rfl), hm_le rfl, hm_le rfl, (0, 0), Nat.zero_le _, Nat.zero_le _, ?_⟩
  refine sp_165 hR hN ?_
  show R 43 14 [(0, .ref 2), (1, .int p1), (2, .int p2)] [.int (T_165 (T_117 s)).1] (N, hm_sh L g, (T_165 (T_117 s)).2) _ Q
  refine hm_st hR (hm_st hR (hm_st hR ⟨rfl, hm_le rfl, (hm_ltN hN rfl), hm_st hR (?_)⟩))
  refine hm_st hR ⟨hm_le rfl, rfl, (hm_le rfl), (hm_ltN hN rfl), hm_le rfl, hm_le rfl, (0, 0), Nat.zero_le _, Nat.zero_le _, ?_⟩
  refine sp_118 hR hN ?_
  show R 43 23 [(3, .int (T_165 (T_117 s)).1), (0, .ref 2), (1, .int p1), (2, .int p2)] [] (N, hm_sh L g, (T_118 ((T_165 (T_117 s)).2) ((T_165 (T_117 s)).1))) _ Q
  refine hm_st hR (hm_st hR (hm_st hR (hm_st hR (?_))))
  refine hm_st hR ⟨hm_le rfl, rfl, (hm_le rfl), (hm_ltN hN rfl), hm_le rfl, hm_le rfl, (0, 0), Nat.zero_le _, Nat.zero_le _, ?_⟩
  refine sp_45 hR hN hO ?_
  show R 43 30 [(3, .int (T_165 (T_117 s)).1), (0, .ref 2), (1, .int p1), (2, .int p2)] [] (N, hm_sh L g, (T_45 (T_118 ((T_165 (T_117 s)).2) ((T_165 (T_117 s)).1)) ((T_165 (T_117 s)).1) p1 p2)) _ Q
  refine hm_st hR (?_)
  exact hm_st hR ⟨fun z => absurd z (by decide), hq⟩
/-- CurvekeyHouse$History.end(I)V -/
def T_121 (s : hm_St) (p1 : Int32) : hm_St := (T_179 s 33 2048 (T_178 s 35 80 p1) (s 25 9))
theorem N_121 {c j : Nat} (h33 : c ≠ 33) {s : hm_St} {p1 : Int32} : (T_121 s p1) c j = s c j := by
  unfold T_121
  repeat' split
  all_goals first | rfl | simp only [hm_w1n h33, N_179 h33]
set_option maxRecDepth 20000 in
theorem sp_121 {R : hm_R} (hR : hm_Cm R) {N L : Nat} {g : Nat → hm_Sh} {s : hm_St} {b : hm_B} {Q : hm_Q} (hN : 68 ≤ N) {p1 : Int32} (hq : Q (.inr none) (N, hm_sh L g, (T_121 s p1))) : R 121 0 (lv_args 0 [.ref 25, .int p1]) [] (N, hm_sh L g, s) b Q := by
  unfold T_121 at hq
  show R 121 0 [(0, .ref 25), (1, .int p1)] [] (N, hm_sh L g, s) _ Q
  refine hm_st hR (hm_st hR ⟨rfl, hm_le rfl, (hm_ltN hN rfl), hm_st hR (hm_st hR ⟨rfl, hm_le rfl, (hm_ltN hN rfl), hm_st hR (?_)⟩)⟩)
  refine hm_st hR ⟨hm_le rfl, rfl, (hm_le rfl), (hm_ltN hN rfl), hm_le rfl, hm_le rfl, (0, 0), Nat.zero_le _, Nat.zero_le _, ?_⟩
  refine sp_178 hR hN (rr := 34) (aa := 35) (nn := 80) rfl rfl (hm_le rfl) (hm_ltN hN rfl) rfl rfl (hm_le rfl) (hm_ltN hN rfl) (by decide) ?_
  show R 121 12 [(0, .ref 25), (1, .int p1)] [.int (T_178 s 35 80 p1), .ref 32] (N, hm_sh L g, s) _ Q
  refine hm_st hR (hm_st hR ⟨rfl, hm_le rfl, (hm_ltN hN rfl), ?_⟩)
  refine hm_st hR ⟨hm_le rfl, rfl, (hm_le rfl), (hm_ltN hN rfl), hm_le rfl, hm_le rfl, (0, 0), Nat.zero_le _, Nat.zero_le _, ?_⟩
  refine sp_179 hR hN (rr := 32) (aa := 33) (nn := 2048) rfl rfl (hm_le rfl) (hm_ltN hN rfl) rfl rfl (hm_le rfl) (hm_ltN hN rfl) (by decide) ?_
  show R 121 19 [(0, .ref 25), (1, .int p1)] [] (N, hm_sh L g, (T_179 s 33 2048 (T_178 s 35 80 p1) (s 25 9))) _ Q
  exact hm_st hR hq
/-- CurvekeyHouse$Pages.bury(I)V -/
def T_151 (s : hm_St) (p1 : Int32) : hm_St := (hm_w1 (T_179 s 44 1024 p1 (-2)) 42 5 (((T_179 s 44 1024 p1 (-2)) 42 5) + 1))
theorem N_151 {c j : Nat} (h42 : c ≠ 42) (h44 : c ≠ 44) {s : hm_St} {p1 : Int32} : (T_151 s p1) c j = s c j := by
  unfold T_151
  repeat' split
  all_goals first | rfl | simp only [hm_w1n h42, hm_w1n h44, N_179 h42, N_179 h44]
set_option maxRecDepth 20000 in
theorem sp_151 {R : hm_R} (hR : hm_Cm R) {N L : Nat} {g : Nat → hm_Sh} {s : hm_St} {b : hm_B} {Q : hm_Q} (hN : 68 ≤ N) {p1 : Int32} (hq : Q (.inr none) (N, hm_sh L g, (T_151 s p1))) : R 151 0 (lv_args 0 [.ref 42, .int p1]) [] (N, hm_sh L g, s) b Q := by
  unfold T_151 at hq
  show R 151 0 [(0, .ref 42), (1, .int p1)] [] (N, hm_sh L g, s) _ Q
  refine hm_st hR (hm_st hR ⟨rfl, hm_le rfl, (hm_ltN hN rfl), hm_st hR (hm_st hR (?_))⟩)
  refine hm_st hR ⟨hm_le rfl, rfl, (hm_le rfl), (hm_ltN hN rfl), hm_le rfl, hm_le rfl, (0, 0), Nat.zero_le _, Nat.zero_le _, ?_⟩
  refine sp_179 hR hN (rr := 43) (aa := 44) (nn := 1024) rfl rfl (hm_le rfl) (hm_ltN hN rfl) rfl rfl (hm_le rfl) (hm_ltN hN rfl) (by decide) ?_
  show R 151 10 [(0, .ref 42), (1, .int p1)] [] (N, hm_sh L g, (T_179 s 44 1024 p1 (-2))) _ Q
  refine hm_st hR (hm_st hR ⟨rfl, hm_st hR ⟨rfl, hm_le rfl, (hm_ltN hN rfl), hm_st hR (hm_st hR (hm_st hR ⟨rfl, rfl, hm_le rfl, (hm_ltN hN rfl), ?_⟩))⟩⟩)
  show R 151 20 [(0, .ref 42), (1, .int p1)] [] (N, hm_sh L g, (hm_w1 (T_179 s 44 1024 p1 (-2)) 42 5 (((T_179 s 44 1024 p1 (-2)) 42 5) + 1))) _ Q
  exact hm_st hR hq
/-- CurvekeyHouse.leave(I)V -/
def T_46 (s : hm_St) (p1 : Int32) : hm_St := (T_191 (T_76 (T_151 (T_121 s p1) (T_39 (T_121 s p1) (T_161 s p1) (T_162 s p1))) (T_161 s p1) (T_162 s p1) (-1)) (T_161 s p1) (T_162 s p1))
theorem N_46 {c j : Nat} (h33 : c ≠ 33) (h42 : c ≠ 42) (h44 : c ≠ 44) (h49 : c ≠ 49) (h58 : c ≠ 58) {s : hm_St} {p1 : Int32} : (T_46 s p1) c j = s c j := by
  unfold T_46
  repeat' split
  all_goals first | rfl | simp only [hm_w1n h33, hm_w1n h42, hm_w1n h44, hm_w1n h49, hm_w1n h58, N_76 h49, N_121 h33, N_151 h42 h44, N_191 h58]
set_option maxRecDepth 20000 in
theorem sp_46 {R : hm_R} (hR : hm_Cm R) {N L : Nat} {g : Nat → hm_Sh} {s : hm_St} {b : hm_B} {Q : hm_Q} (hN : 68 ≤ N) {p1 : Int32} (hO : s 47 1 < 100000) (hq : Q (.inr none) (N, hm_sh L g, (T_46 s p1))) : R 46 0 (lv_args 0 [.ref 2, .int p1]) [] (N, hm_sh L g, s) b Q := by
  unfold T_46 at hq
  show R 46 0 [(0, .ref 2), (1, .int p1)] [] (N, hm_sh L g, s) _ Q
  refine hm_st hR (hm_st hR ⟨rfl, hm_le rfl, (hm_ltN hN rfl), hm_st hR (?_)⟩)
  refine hm_st hR ⟨hm_le rfl, rfl, (hm_le rfl), (hm_ltN hN rfl), hm_le rfl, hm_le rfl, (0, 0), Nat.zero_le _, Nat.zero_le _, ?_⟩
  refine sp_161 hR hN ?_
  show R 46 8 [(0, .ref 2), (1, .int p1)] [.int (T_161 s p1)] (N, hm_sh L g, s) _ Q
  refine hm_st hR (hm_st hR (hm_st hR ⟨rfl, hm_le rfl, (hm_ltN hN rfl), hm_st hR (?_)⟩))
  refine hm_st hR ⟨hm_le rfl, rfl, (hm_le rfl), (hm_ltN hN rfl), hm_le rfl, hm_le rfl, (0, 0), Nat.zero_le _, Nat.zero_le _, ?_⟩
  refine sp_162 hR hN ?_
  show R 46 17 [(2, .int (T_161 s p1)), (0, .ref 2), (1, .int p1)] [.int (T_162 s p1)] (N, hm_sh L g, s) _ Q
  refine hm_st hR (hm_st hR (hm_st hR ⟨rfl, hm_le rfl, (hm_ltN hN rfl), hm_st hR (?_)⟩))
  refine hm_st hR ⟨hm_le rfl, rfl, (hm_le rfl), (hm_ltN hN rfl), hm_le rfl, hm_le rfl, (0, 0), Nat.zero_le _, Nat.zero_le _, ?_⟩
  refine sp_121 hR hN ?_
  show R 46 26 [(3, .int (T_162 s p1)), (2, .int (T_161 s p1)), (0, .ref 2), (1, .int p1)] [] (N, hm_sh L g, (T_121 s p1)) _ Q
  refine hm_st hR (hm_st hR ⟨rfl, hm_le rfl, (hm_ltN hN rfl), hm_st hR (hm_st hR (hm_st hR (?_)))⟩)
  refine hm_st hR ⟨hm_le rfl, rfl, (hm_le rfl), (hm_ltN hN rfl), hm_le rfl, hm_le rfl, (0, 0), Nat.zero_le _, Nat.zero_le _, ?_⟩
  refine sp_39 hR hN ?_
  show R 46 36 [(3, .int (T_162 s p1)), (2, .int (T_161 s p1)), (0, .ref 2), (1, .int p1)] [.int (T_39 (T_121 s p1) (T_161 s p1) (T_162 s p1)), .ref 42] (N, hm_sh L g, (T_121 s p1)) _ Q
  refine hm_st hR ⟨hm_le rfl, rfl, (hm_le rfl), (hm_ltN hN rfl), hm_le rfl, hm_le rfl, (0, 0), Nat.zero_le _, Nat.zero_le _, ?_⟩
  refine sp_151 hR hN ?_
  show R 46 39 [(3, .int (T_162 s p1)), (2, .int (T_161 s p1)), (0, .ref 2), (1, .int p1)] [] (N, hm_sh L g, (T_151 (T_121 s p1) (T_39 (T_121 s p1) (T_161 s p1) (T_162 s p1)))) _ Q
  refine hm_st hR (hm_st hR ⟨rfl, hm_le rfl, (hm_ltN hN rfl), hm_st hR (hm_st hR (hm_st hR (?_)))⟩)
  refine hm_st hR ⟨hm_le rfl, rfl, (hm_le rfl), (hm_ltN hN rfl), hm_le rfl, hm_le rfl, (0, 0), Nat.zero_le _, Nat.zero_le _, ?_⟩
  refine sp_76 hR hN hO ?_
  show R 46 49 [(3, .int (T_162 s p1)), (2, .int (T_161 s p1)), (0, .ref 2), (1, .int p1)] [] (N, hm_sh L g, (T_76 (T_151 (T_121 s p1) (T_39 (T_121 s p1) (T_161 s p1) (T_162 s p1))) (T_161 s p1) (T_162 s p1) (-1))) _ Q
  refine hm_st hR (hm_st hR ⟨rfl, hm_le rfl, (hm_ltN hN rfl), hm_st hR (hm_st hR ⟨rfl, hm_le rfl, (hm_ltN hN rfl), hm_st hR (hm_st hR (?_))⟩)⟩)
  refine hm_st hR ⟨hm_le rfl, rfl, (hm_le rfl), (hm_ltN hN rfl), hm_le rfl, hm_le rfl, (0, 0), Nat.zero_le _, Nat.zero_le _, ?_⟩
  refine sp_191 hR hN ?_
  show R 46 62 [(3, .int (T_162 s p1)), (2, .int (T_161 s p1)), (0, .ref 2), (1, .int p1)] [] (N, hm_sh L g, (T_191 (T_76 (T_151 (T_121 s p1) (T_39 (T_121 s p1) (T_161 s p1) (T_162 s p1))) (T_161 s p1) (T_162 s p1) (-1)) (T_161 s p1) (T_162 s p1))) _ Q
  exact hm_st hR hq
/-- CurvekeyHouse.relocate(III)V -/
def T_44 (s : hm_St) (p1 : Int32) (p2 : Int32) (p3 : Int32) : hm_St := (T_45 (T_46 (T_117 s) p1) p1 p2 p3)
theorem N_44 {c j : Nat} (h16 : c ≠ 16) (h18 : c ≠ 18) (h25 : c ≠ 25) (h27 : c ≠ 27) (h29 : c ≠ 29) (h31 : c ≠ 31) (h33 : c ≠ 33) (h35 : c ≠ 35) (h37 : c ≠ 37) (h42 : c ≠ 42) (h44 : c ≠ 44) (h46 : c ≠ 46) (h49 : c ≠ 49) (h58 : c ≠ 58) {s : hm_St} {p1 : Int32} {p2 : Int32} {p3 : Int32} : (T_44 s p1 p2 p3) c j = s c j := by
  unfold T_44
  repeat' split
  all_goals first | rfl | simp only [hm_w1n h16, hm_w1n h18, hm_w1n h25, hm_w1n h27, hm_w1n h29, hm_w1n h31, hm_w1n h33, hm_w1n h35, hm_w1n h37, hm_w1n h42, hm_w1n h44, hm_w1n h46, hm_w1n h49, hm_w1n h58, N_45 h16 h18 h25 h27 h29 h31 h33 h35 h37 h42 h44 h46 h49 h58, N_46 h33 h42 h44 h49 h58, N_117 h25]
set_option maxRecDepth 20000 in
theorem sp_44 {R : hm_R} (hR : hm_Cm R) {N L : Nat} {g : Nat → hm_Sh} {s : hm_St} {b : hm_B} {Q : hm_Q} (hN : 68 ≤ N) {p1 : Int32} {p2 : Int32} {p3 : Int32} (hO : s 47 1 < 100000) (hq : Q (.inr none) (N, hm_sh L g, (T_44 s p1 p2 p3))) : R 44 0 (lv_args 0 [.ref 2, .int p1, .int p2, .int p3]) [] (N, hm_sh L g, s) b Q := by
  unfold T_44 at hq
  show R 44 0 [(0, .ref 2), (1, .int p1), (2, .int p2), (3, .int p3)] [] (N, hm_sh L g, s) _ Q
  refine hm_st hR (hm_st hR ⟨rfl, hm_le rfl, (hm_ltN hN rfl), ?_⟩)
  refine hm_st hR ⟨hm_le rfl, rfl, (hm_le rfl), (hm_ltN hN rfl), hm_le rfl, hm_le rfl, (0, 0), Nat.zero_le _, Nat.zero_le _, ?_⟩
  refine sp_117 hR hN ?_
  show R 44 7 [(0, .ref 2), (1, .int p1), (2, .int p2), (3, .int p3)] [] (N, hm_sh L g, (T_117 s)) _ Q
  refine hm_st hR (hm_st hR (?_))
  refine hm_st hR ⟨hm_le rfl, rfl, (hm_le rfl), (hm_ltN hN rfl), hm_le rfl, hm_le rfl, (0, 0), Nat.zero_le _, Nat.zero_le _, ?_⟩
  refine sp_46 hR hN hO ?_
  show R 44 12 [(0, .ref 2), (1, .int p1), (2, .int p2), (3, .int p3)] [] (N, hm_sh L g, (T_46 (T_117 s) p1)) _ Q
  refine hm_st hR (hm_st hR (hm_st hR (hm_st hR (?_))))
  refine hm_st hR ⟨hm_le rfl, rfl, (hm_le rfl), (hm_ltN hN rfl), hm_le rfl, hm_le rfl, (0, 0), Nat.zero_le _, Nat.zero_le _, ?_⟩
  refine sp_45 hR hN hO ?_
  show R 44 19 [(0, .ref 2), (1, .int p1), (2, .int p2), (3, .int p3)] [] (N, hm_sh L g, (T_45 (T_46 (T_117 s) p1) p1 p2 p3)) _ Q
  exact hm_st hR hq
/-- CurvekeyHouse$Points.soonX(III)I -/
def T_169 (s : hm_St) (p1 : Int32) (p2 : Int32) (p3 : Int32) : Int32 := (hm_max 0 (hm_min (p3 - 1) ((T_161 s p1) + (p2 * (T_163 s p1)))))
set_option maxRecDepth 20000 in
theorem sp_169 {R : hm_R} (hR : hm_Cm R) {N L : Nat} {g : Nat → hm_Sh} {s : hm_St} {b : hm_B} {Q : hm_Q} (hN : 68 ≤ N) {p1 : Int32} {p2 : Int32} {p3 : Int32} (hq : Q (.inr (some (.int (T_169 s p1 p2 p3)))) (N, hm_sh L g, s)) : R 169 0 (lv_args 0 [.ref 14, .int p1, .int p2, .int p3]) [] (N, hm_sh L g, s) b Q := by
  unfold T_169 at hq
  show R 169 0 [(0, .ref 14), (1, .int p1), (2, .int p2), (3, .int p3)] [] (N, hm_sh L g, s) _ Q
  refine hm_st hR (hm_st hR (hm_st hR (hm_st hR (hm_st hR (hm_st hR (?_))))))
  refine hm_st hR ⟨hm_le rfl, rfl, (hm_le rfl), (hm_ltN hN rfl), hm_le rfl, hm_le rfl, (0, 0), Nat.zero_le _, Nat.zero_le _, ?_⟩
  refine sp_161 hR hN ?_
  show R 169 9 [(0, .ref 14), (1, .int p1), (2, .int p2), (3, .int p3)] [.int (T_161 s p1), .int (p3 - 1), .int 0] (N, hm_sh L g, s) _ Q
  refine hm_st hR (hm_st hR (hm_st hR (?_)))
  refine hm_st hR ⟨hm_le rfl, rfl, (hm_le rfl), (hm_ltN hN rfl), hm_le rfl, hm_le rfl, (0, 0), Nat.zero_le _, Nat.zero_le _, ?_⟩
  refine sp_163 hR hN ?_
  show R 169 15 [(0, .ref 14), (1, .int p1), (2, .int p2), (3, .int p3)] [.int (T_163 s p1), .int p2, .int (T_161 s p1), .int (p3 - 1), .int 0] (N, hm_sh L g, s) _ Q
  refine hm_st hR (hm_st hR (hm_st hR ⟨hm_le rfl, ?_⟩))
  show R 169 20 [(0, .ref 14), (1, .int p1), (2, .int p2), (3, .int p3)] [.int (hm_min (p3 - 1) ((T_161 s p1) + (p2 * (T_163 s p1)))), .int 0] (N, hm_sh L g, s) _ Q
  refine hm_st hR ⟨hm_le rfl, ?_⟩
  show R 169 23 [(0, .ref 14), (1, .int p1), (2, .int p2), (3, .int p3)] [.int (hm_max 0 (hm_min (p3 - 1) ((T_161 s p1) + (p2 * (T_163 s p1)))))] (N, hm_sh L g, s) _ Q
  exact hm_st hR ⟨fun z => absurd z (by decide), hq⟩
/-- CurvekeyHouse$Points.soonY(III)I -/
def T_170 (s : hm_St) (p1 : Int32) (p2 : Int32) (p3 : Int32) : Int32 := (hm_max 0 (hm_min (p3 - 1) ((T_162 s p1) + (p2 * (T_164 s p1)))))
set_option maxRecDepth 20000 in
theorem sp_170 {R : hm_R} (hR : hm_Cm R) {N L : Nat} {g : Nat → hm_Sh} {s : hm_St} {b : hm_B} {Q : hm_Q} (hN : 68 ≤ N) {p1 : Int32} {p2 : Int32} {p3 : Int32} (hq : Q (.inr (some (.int (T_170 s p1 p2 p3)))) (N, hm_sh L g, s)) : R 170 0 (lv_args 0 [.ref 14, .int p1, .int p2, .int p3]) [] (N, hm_sh L g, s) b Q := by
  unfold T_170 at hq
  show R 170 0 [(0, .ref 14), (1, .int p1), (2, .int p2), (3, .int p3)] [] (N, hm_sh L g, s) _ Q
  refine hm_st hR (hm_st hR (hm_st hR (hm_st hR (hm_st hR (hm_st hR (?_))))))
  refine hm_st hR ⟨hm_le rfl, rfl, (hm_le rfl), (hm_ltN hN rfl), hm_le rfl, hm_le rfl, (0, 0), Nat.zero_le _, Nat.zero_le _, ?_⟩
  refine sp_162 hR hN ?_
  show R 170 9 [(0, .ref 14), (1, .int p1), (2, .int p2), (3, .int p3)] [.int (T_162 s p1), .int (p3 - 1), .int 0] (N, hm_sh L g, s) _ Q
  refine hm_st hR (hm_st hR (hm_st hR (?_)))
  refine hm_st hR ⟨hm_le rfl, rfl, (hm_le rfl), (hm_ltN hN rfl), hm_le rfl, hm_le rfl, (0, 0), Nat.zero_le _, Nat.zero_le _, ?_⟩
  refine sp_164 hR hN ?_
  show R 170 15 [(0, .ref 14), (1, .int p1), (2, .int p2), (3, .int p3)] [.int (T_164 s p1), .int p2, .int (T_162 s p1), .int (p3 - 1), .int 0] (N, hm_sh L g, s) _ Q
  refine hm_st hR (hm_st hR (hm_st hR ⟨hm_le rfl, ?_⟩))
  show R 170 20 [(0, .ref 14), (1, .int p1), (2, .int p2), (3, .int p3)] [.int (hm_min (p3 - 1) ((T_162 s p1) + (p2 * (T_164 s p1)))), .int 0] (N, hm_sh L g, s) _ Q
  refine hm_st hR ⟨hm_le rfl, ?_⟩
  show R 170 23 [(0, .ref 14), (1, .int p1), (2, .int p2), (3, .int p3)] [.int (hm_max 0 (hm_min (p3 - 1) ((T_162 s p1) + (p2 * (T_164 s p1)))))] (N, hm_sh L g, s) _ Q
  exact hm_st hR ⟨fun z => absurd z (by decide), hq⟩
/-- CurvekeyHouse.isDriven(I)Z -/
def T_47 (s : hm_St) (p1 : Int32) : (Int32 × hm_St) := (if (T_41 s (T_169 s p1 1 (T_86 s)) (T_170 s p1 1 (T_86 s))) = (-1) then (1, (T_44 s p1 (T_169 s p1 1 (T_86 s)) (T_170 s p1 1 (T_86 s)))) else (if (T_41 s (T_169 s p1 1 (T_86 s)) (T_170 s p1 1 (T_86 s))) = p1 then (0, s) else (0, (hm_w1 s 2 12 ((s 2 12) + 1)))))
theorem N_47 {c j : Nat} (h2 : c ≠ 2) (h16 : c ≠ 16) (h18 : c ≠ 18) (h25 : c ≠ 25) (h27 : c ≠ 27) (h29 : c ≠ 29) (h31 : c ≠ 31) (h33 : c ≠ 33) (h35 : c ≠ 35) (h37 : c ≠ 37) (h42 : c ≠ 42) (h44 : c ≠ 44) (h46 : c ≠ 46) (h49 : c ≠ 49) (h58 : c ≠ 58) {s : hm_St} {p1 : Int32} : (T_47 s p1).2 c j = s c j := by
  unfold T_47
  repeat' split
  all_goals first | rfl | simp only [hm_w1n h2, hm_w1n h16, hm_w1n h18, hm_w1n h25, hm_w1n h27, hm_w1n h29, hm_w1n h31, hm_w1n h33, hm_w1n h35, hm_w1n h37, hm_w1n h42, hm_w1n h44, hm_w1n h46, hm_w1n h49, hm_w1n h58, N_44 h16 h18 h25 h27 h29 h31 h33 h35 h37 h42 h44 h46 h49 h58]
set_option maxRecDepth 20000 in
theorem sp_47 {R : hm_R} (hR : hm_Cm R) {N L : Nat} {g : Nat → hm_Sh} {s : hm_St} {b : hm_B} {Q : hm_Q} (hN : 68 ≤ N) {p1 : Int32} (hO : s 47 1 < 100000) (hq : Q (.inr (some (.int (T_47 s p1).1))) (N, hm_sh L g, (T_47 s p1).2)) : R 47 0 (lv_args 0 [.ref 2, .int p1]) [] (N, hm_sh L g, s) b Q := by
  unfold T_47 at hq
  show R 47 0 [(0, .ref 2), (1, .int p1)] [] (N, hm_sh L g, s) _ Q
  refine hm_st hR (hm_st hR ⟨rfl, hm_le rfl, (hm_ltN hN rfl), hm_st hR (hm_st hR (hm_st hR (hm_st hR ⟨rfl, hm_le rfl, (hm_ltN hN rfl), ?_⟩)))⟩)
  refine hm_st hR ⟨hm_le rfl, rfl, (hm_le rfl), (hm_ltN hN rfl), hm_le rfl, hm_le rfl, (0, 0), Nat.zero_le _, Nat.zero_le _, ?_⟩
  refine sp_86 hR hN ?_
  show R 47 13 [(0, .ref 2), (1, .int p1)] [.int (T_86 s), .int 1, .int p1, .ref 14] (N, hm_sh L g, s) _ Q
  refine hm_st hR ⟨hm_le rfl, rfl, (hm_le rfl), (hm_ltN hN rfl), hm_le rfl, hm_le rfl, (0, 0), Nat.zero_le _, Nat.zero_le _, ?_⟩
  refine sp_169 hR hN ?_
  show R 47 16 [(0, .ref 2), (1, .int p1)] [.int (T_169 s p1 1 (T_86 s))] (N, hm_sh L g, s) _ Q
  refine hm_st hR (hm_st hR (hm_st hR ⟨rfl, hm_le rfl, (hm_ltN hN rfl), hm_st hR (hm_st hR (hm_st hR (hm_st hR ⟨rfl, hm_le rfl, (hm_ltN hN rfl), ?_⟩)))⟩))
  refine hm_st hR ⟨hm_le rfl, rfl, (hm_le rfl), (hm_ltN hN rfl), hm_le rfl, hm_le rfl, (0, 0), Nat.zero_le _, Nat.zero_le _, ?_⟩
  refine sp_86 hR hN ?_
  show R 47 30 [(2, .int (T_169 s p1 1 (T_86 s))), (0, .ref 2), (1, .int p1)] [.int (T_86 s), .int 1, .int p1, .ref 14] (N, hm_sh L g, s) _ Q
  refine hm_st hR ⟨hm_le rfl, rfl, (hm_le rfl), (hm_ltN hN rfl), hm_le rfl, hm_le rfl, (0, 0), Nat.zero_le _, Nat.zero_le _, ?_⟩
  refine sp_170 hR hN ?_
  show R 47 33 [(2, .int (T_169 s p1 1 (T_86 s))), (0, .ref 2), (1, .int p1)] [.int (T_170 s p1 1 (T_86 s))] (N, hm_sh L g, s) _ Q
  refine hm_st hR (hm_st hR (hm_st hR (hm_st hR (?_))))
  refine hm_st hR ⟨hm_le rfl, rfl, (hm_le rfl), (hm_ltN hN rfl), hm_le rfl, hm_le rfl, (0, 0), Nat.zero_le _, Nat.zero_le _, ?_⟩
  refine sp_41 hR hN ?_
  show R 47 40 [(3, .int (T_170 s p1 1 (T_86 s))), (2, .int (T_169 s p1 1 (T_86 s))), (0, .ref 2), (1, .int p1)] [.int (T_41 s (T_169 s p1 1 (T_86 s)) (T_170 s p1 1 (T_86 s)))] (N, hm_sh L g, s) _ Q
  refine hm_st hR (hm_st hR (hm_st hR (?_)))
  show R 47 45 [(4, .int (T_41 s (T_169 s p1 1 (T_86 s)) (T_170 s p1 1 (T_86 s)))), (3, .int (T_170 s p1 1 (T_86 s))), (2, .int (T_169 s p1 1 (T_86 s))), (0, .ref 2), (1, .int p1)] [.int (-1), .int (T_41 s (T_169 s p1 1 (T_86 s)) (T_170 s p1 1 (T_86 s)))] (N, hm_sh L g, s) _ Q
  refine hm_st hR ⟨fun c45 => ?_, fun c45 => ?_⟩
  · rw [if_neg c45] at hq
    show R 47 57 [(4, .int (T_41 s (T_169 s p1 1 (T_86 s)) (T_170 s p1 1 (T_86 s)))), (3, .int (T_170 s p1 1 (T_86 s))), (2, .int (T_169 s p1 1 (T_86 s))), (0, .ref 2), (1, .int p1)] [] (N, hm_sh L g, s) _ Q
    refine hm_st hR (hm_st hR (?_))
    show R 47 60 [(4, .int (T_41 s (T_169 s p1 1 (T_86 s)) (T_170 s p1 1 (T_86 s)))), (3, .int (T_170 s p1 1 (T_86 s))), (2, .int (T_169 s p1 1 (T_86 s))), (0, .ref 2), (1, .int p1)] [.int p1, .int (T_41 s (T_169 s p1 1 (T_86 s)) (T_170 s p1 1 (T_86 s)))] (N, hm_sh L g, s) _ Q
    refine hm_st hR ⟨fun c60 => ?_, fun c60 => ?_⟩
    · rw [if_pos c60] at hq
      show R 47 73 [(4, .int (T_41 s (T_169 s p1 1 (T_86 s)) (T_170 s p1 1 (T_86 s)))), (3, .int (T_170 s p1 1 (T_86 s))), (2, .int (T_169 s p1 1 (T_86 s))), (0, .ref 2), (1, .int p1)] [] (N, hm_sh L g, s) _ Q
      refine hm_st hR (?_)
      exact hm_st hR ⟨fun _ => Or.inl rfl, hq⟩
    · rw [if_neg c60] at hq
      show R 47 63 [(4, .int (T_41 s (T_169 s p1 1 (T_86 s)) (T_170 s p1 1 (T_86 s)))), (3, .int (T_170 s p1 1 (T_86 s))), (2, .int (T_169 s p1 1 (T_86 s))), (0, .ref 2), (1, .int p1)] [] (N, hm_sh L g, s) _ Q
      refine hm_st hR (hm_st hR ⟨rfl, hm_st hR ⟨rfl, hm_le rfl, (hm_ltN hN rfl), hm_st hR (hm_st hR (hm_st hR ⟨rfl, rfl, hm_le rfl, (hm_ltN hN rfl), ?_⟩))⟩⟩)
      show R 47 73 [(4, .int (T_41 s (T_169 s p1 1 (T_86 s)) (T_170 s p1 1 (T_86 s)))), (3, .int (T_170 s p1 1 (T_86 s))), (2, .int (T_169 s p1 1 (T_86 s))), (0, .ref 2), (1, .int p1)] [] (N, hm_sh L g, (hm_w1 s 2 12 ((s 2 12) + 1))) _ Q
      refine hm_st hR (?_)
      exact hm_st hR ⟨fun _ => Or.inl rfl, hq⟩
  · rw [if_pos c45] at hq
    show R 47 48 [(4, .int (T_41 s (T_169 s p1 1 (T_86 s)) (T_170 s p1 1 (T_86 s)))), (3, .int (T_170 s p1 1 (T_86 s))), (2, .int (T_169 s p1 1 (T_86 s))), (0, .ref 2), (1, .int p1)] [] (N, hm_sh L g, s) _ Q
    refine hm_st hR (hm_st hR (hm_st hR (hm_st hR (?_))))
    refine hm_st hR ⟨hm_le rfl, rfl, (hm_le rfl), (hm_ltN hN rfl), hm_le rfl, hm_le rfl, (0, 0), Nat.zero_le _, Nat.zero_le _, ?_⟩
    refine sp_44 hR hN hO ?_
    show R 47 55 [(4, .int (T_41 s (T_169 s p1 1 (T_86 s)) (T_170 s p1 1 (T_86 s)))), (3, .int (T_170 s p1 1 (T_86 s))), (2, .int (T_169 s p1 1 (T_86 s))), (0, .ref 2), (1, .int p1)] [] (N, hm_sh L g, (T_44 s p1 (T_169 s p1 1 (T_86 s)) (T_170 s p1 1 (T_86 s)))) _ Q
    refine hm_st hR (?_)
    exact hm_st hR ⟨fun _ => Or.inr rfl, hq⟩
/-- CurvekeyHouse$Curves.xOf(II)I -/
def T_89 (s : hm_St) (p1 : Int32) (p2 : Int32) : Int32 := ((T_178 s 11 6144 ((p1 * 1024) + p2)) &&& ((s 3 6) - 1))
set_option maxRecDepth 20000 in
theorem sp_89 {R : hm_R} (hR : hm_Cm R) {N L : Nat} {g : Nat → hm_Sh} {s : hm_St} {b : hm_B} {Q : hm_Q} (hN : 68 ≤ N) {p1 : Int32} {p2 : Int32} (hq : Q (.inr (some (.int (T_89 s p1 p2)))) (N, hm_sh L g, s)) : R 89 0 (lv_args 0 [.ref 3, .int p1, .int p2]) [] (N, hm_sh L g, s) b Q := by
  unfold T_89 at hq
  show R 89 0 [(0, .ref 3), (1, .int p1), (2, .int p2)] [] (N, hm_sh L g, s) _ Q
  refine hm_st hR (hm_st hR ⟨rfl, hm_le rfl, (hm_ltN hN rfl), hm_st hR (hm_st hR (hm_st hR (hm_st hR (hm_st hR (?_)))))⟩)
  refine hm_st hR ⟨hm_le rfl, rfl, (hm_le rfl), (hm_ltN hN rfl), hm_le rfl, hm_le rfl, (0, 0), Nat.zero_le _, Nat.zero_le _, ?_⟩
  refine sp_178 hR hN (rr := 10) (aa := 11) (nn := 6144) rfl rfl (hm_le rfl) (hm_ltN hN rfl) rfl rfl (hm_le rfl) (hm_ltN hN rfl) (by decide) ?_
  show R 89 14 [(0, .ref 3), (1, .int p1), (2, .int p2)] [.int (T_178 s 11 6144 ((p1 * 1024) + p2))] (N, hm_sh L g, s) _ Q
  refine hm_st hR (hm_st hR ⟨rfl, hm_le rfl, (hm_ltN hN rfl), hm_st hR (hm_st hR (hm_st hR (?_)))⟩)
  exact hm_st hR ⟨fun z => absurd z (by decide), hq⟩
/-- CurvekeyHouse$Curves.yOf(II)I -/
def T_90 (s : hm_St) (p1 : Int32) (p2 : Int32) : Int32 := ((T_178 s 11 6144 ((p1 * 1024) + p2)) >>> ((s 3 5) &&& 31))
set_option maxRecDepth 20000 in
theorem sp_90 {R : hm_R} (hR : hm_Cm R) {N L : Nat} {g : Nat → hm_Sh} {s : hm_St} {b : hm_B} {Q : hm_Q} (hN : 68 ≤ N) {p1 : Int32} {p2 : Int32} (hq : Q (.inr (some (.int (T_90 s p1 p2)))) (N, hm_sh L g, s)) : R 90 0 (lv_args 0 [.ref 3, .int p1, .int p2]) [] (N, hm_sh L g, s) b Q := by
  unfold T_90 at hq
  show R 90 0 [(0, .ref 3), (1, .int p1), (2, .int p2)] [] (N, hm_sh L g, s) _ Q
  refine hm_st hR (hm_st hR ⟨rfl, hm_le rfl, (hm_ltN hN rfl), hm_st hR (hm_st hR (hm_st hR (hm_st hR (hm_st hR (?_)))))⟩)
  refine hm_st hR ⟨hm_le rfl, rfl, (hm_le rfl), (hm_ltN hN rfl), hm_le rfl, hm_le rfl, (0, 0), Nat.zero_le _, Nat.zero_le _, ?_⟩
  refine sp_178 hR hN (rr := 10) (aa := 11) (nn := 6144) rfl rfl (hm_le rfl) (hm_ltN hN rfl) rfl rfl (hm_le rfl) (hm_ltN hN rfl) (by decide) ?_
  show R 90 14 [(0, .ref 3), (1, .int p1), (2, .int p2)] [.int (T_178 s 11 6144 ((p1 * 1024) + p2))] (N, hm_sh L g, s) _ Q
  refine hm_st hR (hm_st hR ⟨rfl, hm_le rfl, (hm_ltN hN rfl), hm_st hR (?_)⟩)
  exact hm_st hR ⟨fun z => absurd z (by decide), hq⟩
