/-! The methods as functions; the abstract machine does them. -/
/-- CurvekeyHouse.holderAt(II)I -/
def T_41 (s : hm_St) (p1 : Int32) (p2 : Int32) : Int32 := (T_140 s (T_39 s p1 p2))
set_option maxRecDepth 20000 in
theorem sp_41 {R : hm_R} (hR : hm_Cm R) {N L : Nat} {g : Nat → hm_Sh} {s : hm_St} {b : hm_B} {Q : hm_Q} (hN : 68 ≤ N) {p1 : Int32} {p2 : Int32} (hq : Q (.inr (some (.int (T_41 s p1 p2)))) (N, hm_sh L g, s)) : R 41 0 (lv_args 0 [.ref 2, .int p1, .int p2]) [] (N, hm_sh L g, s) b Q := by
  unfold T_41 at hq
  show R 41 0 [(0, .ref 2), (1, .int p1), (2, .int p2)] [] (N, hm_sh L g, s) _ Q
  refine hm_st hR (hm_st hR ⟨rfl, hm_le rfl, (hm_ltN hN rfl), hm_st hR (hm_st hR (hm_st hR (?_)))⟩)
  refine hm_st hR ⟨hm_le rfl, rfl, (hm_le rfl), (hm_ltN hN rfl), hm_le rfl, hm_le rfl, (0, 0), Nat.zero_le _, Nat.zero_le _, ?_⟩
  refine sp_39 hR hN ?_
  show R 41 10 [(0, .ref 2), (1, .int p1), (2, .int p2)] [.int (T_39 s p1 p2), .ref 42] (N, hm_sh L g, s) _ Q
  refine hm_st hR ⟨hm_le rfl, rfl, (hm_le rfl), (hm_ltN hN rfl), hm_le rfl, hm_le rfl, (0, 0), Nat.zero_le _, Nat.zero_le _, ?_⟩
  refine sp_140 hR hN ?_
  show R 41 13 [(0, .ref 2), (1, .int p1), (2, .int p2)] [.int (T_140 s (T_39 s p1 p2))] (N, hm_sh L g, s) _ Q
  exact hm_st hR ⟨fun z => absurd z (by decide), hq⟩
/-- CurvekeyHouse$Points.size()I -/
def T_157 (s : hm_St) : Int32 := (s 14 5)
set_option maxRecDepth 20000 in
theorem sp_157 {R : hm_R} (hR : hm_Cm R) {N L : Nat} {g : Nat → hm_Sh} {s : hm_St} {b : hm_B} {Q : hm_Q} (hN : 68 ≤ N) (hq : Q (.inr (some (.int (T_157 s)))) (N, hm_sh L g, s)) : R 157 0 (lv_args 0 [.ref 14]) [] (N, hm_sh L g, s) b Q := by
  unfold T_157 at hq
  show R 157 0 [(0, .ref 14)] [] (N, hm_sh L g, s) _ Q
  refine hm_st hR (hm_st hR ⟨rfl, hm_le rfl, (hm_ltN hN rfl), ?_⟩)
  exact hm_st hR ⟨fun z => absurd z (by decide), hq⟩
/-- CurvekeyHouse$History.rise()V -/
def T_117 (s : hm_St) : hm_St := (hm_w1 s 25 9 ((s 25 9) + 1))
theorem N_117 {c j : Nat} (h25 : c ≠ 25) {s : hm_St} : (T_117 s) c j = s c j := by
  unfold T_117
  repeat' split
  all_goals first | with_reducible rfl | simp only [hm_w1n h25]
set_option maxRecDepth 20000 in
theorem sp_117 {R : hm_R} (hR : hm_Cm R) {N L : Nat} {g : Nat → hm_Sh} {s : hm_St} {b : hm_B} {Q : hm_Q} (hN : 68 ≤ N) (hq : Q (.inr none) (N, hm_sh L g, (T_117 s))) : R 117 0 (lv_args 0 [.ref 25]) [] (N, hm_sh L g, s) b Q := by
  unfold T_117 at hq
  show R 117 0 [(0, .ref 25)] [] (N, hm_sh L g, s) _ Q
  refine hm_st hR (hm_st hR ⟨rfl, hm_st hR ⟨rfl, hm_le rfl, (hm_ltN hN rfl), hm_st hR (hm_st hR (hm_st hR ⟨rfl, rfl, hm_le rfl, (hm_ltN hN rfl), ?_⟩))⟩⟩)
  show R 117 10 [(0, .ref 25)] [] (N, hm_sh L g, (hm_w1 s 25 9 ((s 25 9) + 1))) _ Q
  exact hm_st hR (hq)
/-- CurvekeyHouse$Points.hurry(III)V -/
def T_167 (s : hm_St) (p1 : Int32) (p2 : Int32) (p3 : Int32) : hm_St := (T_179 (T_179 s 22 80 p1 p2) 24 80 p1 p3)
theorem N_167 {c j : Nat} (h22 : c ≠ 22) (h24 : c ≠ 24) {s : hm_St} {p1 : Int32} {p2 : Int32} {p3 : Int32} : (T_167 s p1 p2 p3) c j = s c j := by
  unfold T_167
  repeat' split
  all_goals first | with_reducible rfl | simp only [hm_w1n h22, hm_w1n h24, N_179 h22, N_179 h24]
set_option maxRecDepth 20000 in
theorem sp_167 {R : hm_R} (hR : hm_Cm R) {N L : Nat} {g : Nat → hm_Sh} {s : hm_St} {b : hm_B} {Q : hm_Q} (hN : 68 ≤ N) {p1 : Int32} {p2 : Int32} {p3 : Int32} (hq : Q (.inr none) (N, hm_sh L g, (T_167 s p1 p2 p3))) : R 167 0 (lv_args 0 [.ref 14, .int p1, .int p2, .int p3]) [] (N, hm_sh L g, s) b Q := by
  unfold T_167 at hq
  show R 167 0 [(0, .ref 14), (1, .int p1), (2, .int p2), (3, .int p3)] [] (N, hm_sh L g, s) _ Q
  refine hm_st hR (hm_st hR ⟨rfl, hm_le rfl, (hm_ltN hN rfl), hm_st hR (hm_st hR (?_))⟩)
  refine hm_st hR ⟨hm_le rfl, rfl, (hm_le rfl), (hm_ltN hN rfl), hm_le rfl, hm_le rfl, (0, 0), Nat.zero_le _, Nat.zero_le _, ?_⟩
  refine sp_179 hR hN (rr := 21) (aa := 22) (nn := 80) rfl rfl (hm_le rfl) (hm_ltN hN rfl) rfl rfl (hm_le rfl) (hm_ltN hN rfl) (by decide) ?_
  show R 167 9 [(0, .ref 14), (1, .int p1), (2, .int p2), (3, .int p3)] [] (N, hm_sh L g, (T_179 s 22 80 p1 p2)) _ Q
  refine hm_st hR (hm_st hR ⟨rfl, hm_le rfl, (hm_ltN hN rfl), hm_st hR (hm_st hR (?_))⟩)
  refine hm_st hR ⟨hm_le rfl, rfl, (hm_le rfl), (hm_ltN hN rfl), hm_le rfl, hm_le rfl, (0, 0), Nat.zero_le _, Nat.zero_le _, ?_⟩
  refine sp_179 hR hN (rr := 23) (aa := 24) (nn := 80) rfl rfl (hm_le rfl) (hm_ltN hN rfl) rfl rfl (hm_le rfl) (hm_ltN hN rfl) (by decide) ?_
  show R 167 18 [(0, .ref 14), (1, .int p1), (2, .int p2), (3, .int p3)] [] (N, hm_sh L g, (T_179 (T_179 s 22 80 p1 p2) 24 80 p1 p3)) _ Q
  exact hm_st hR (hq)
/-- CurvekeyHouse$Points.take()I -/
def T_165 (s : hm_St) : (Int32 × hm_St) := ((s 14 5), (hm_w1 (hm_w1 (T_167 (T_179 s 20 80 (s 14 5) 1) (s 14 5) 0 0) 14 5 (((T_167 (T_179 s 20 80 (s 14 5) 1) (s 14 5) 0 0) 14 5) + 1)) 14 6 (((hm_w1 (T_167 (T_179 s 20 80 (s 14 5) 1) (s 14 5) 0 0) 14 5 (((T_167 (T_179 s 20 80 (s 14 5) 1) (s 14 5) 0 0) 14 5) + 1)) 14 6) + 1)))
theorem N_165 {c j : Nat} (h14 : c ≠ 14) (h20 : c ≠ 20) (h22 : c ≠ 22) (h24 : c ≠ 24) {s : hm_St} : (T_165 s).2 c j = s c j := by
  unfold T_165
  repeat' split
  all_goals first | with_reducible rfl | simp only [hm_w1n h14, hm_w1n h20, hm_w1n h22, hm_w1n h24, N_167 h22 h24, N_179 h14, N_179 h20, N_179 h22, N_179 h24]
set_option maxRecDepth 20000 in
theorem sp_165 {R : hm_R} (hR : hm_Cm R) {N L : Nat} {g : Nat → hm_Sh} {s : hm_St} {b : hm_B} {Q : hm_Q} (hN : 68 ≤ N) (hq : Q (.inr (some (.int (T_165 s).1))) (N, hm_sh L g, (T_165 s).2)) : R 165 0 (lv_args 0 [.ref 14]) [] (N, hm_sh L g, s) b Q := by
  unfold T_165 at hq
  show R 165 0 [(0, .ref 14)] [] (N, hm_sh L g, s) _ Q
  refine hm_st hR (hm_st hR ⟨rfl, hm_le rfl, (hm_ltN hN rfl), hm_st hR (hm_st hR (hm_st hR ⟨rfl, hm_le rfl, (hm_ltN hN rfl), hm_st hR (hm_st hR (?_))⟩))⟩)
  refine hm_st hR ⟨hm_le rfl, rfl, (hm_le rfl), (hm_ltN hN rfl), hm_le rfl, hm_le rfl, (0, 0), Nat.zero_le _, Nat.zero_le _, ?_⟩
  refine sp_179 hR hN (rr := 19) (aa := 20) (nn := 80) rfl rfl (hm_le rfl) (hm_ltN hN rfl) rfl rfl (hm_le rfl) (hm_ltN hN rfl) (by decide) ?_
  show R 165 14 [(1, .int (s 14 5)), (0, .ref 14)] [] (N, hm_sh L g, (T_179 s 20 80 (s 14 5) 1)) _ Q
  refine hm_st hR (hm_st hR (hm_st hR (hm_st hR (?_))))
  refine hm_st hR ⟨hm_le rfl, rfl, (hm_le rfl), (hm_ltN hN rfl), hm_le rfl, hm_le rfl, (0, 0), Nat.zero_le _, Nat.zero_le _, ?_⟩
  refine sp_167 hR hN ?_
  show R 165 21 [(1, .int (s 14 5)), (0, .ref 14)] [] (N, hm_sh L g, (T_167 (T_179 s 20 80 (s 14 5) 1) (s 14 5) 0 0)) _ Q
  refine hm_st hR (hm_st hR ⟨rfl, hm_st hR ⟨rfl, hm_le rfl, (hm_ltN hN rfl), hm_st hR (hm_st hR (hm_st hR ⟨rfl, rfl, hm_le rfl, (hm_ltN hN rfl), ?_⟩))⟩⟩)
  show R 165 31 [(1, .int (s 14 5)), (0, .ref 14)] [] (N, hm_sh L g, (hm_w1 (T_167 (T_179 s 20 80 (s 14 5) 1) (s 14 5) 0 0) 14 5 (((T_167 (T_179 s 20 80 (s 14 5) 1) (s 14 5) 0 0) 14 5) + 1))) _ Q
  refine hm_st hR (hm_st hR ⟨rfl, hm_st hR ⟨rfl, hm_le rfl, (hm_ltN hN rfl), hm_st hR (hm_st hR (hm_st hR ⟨rfl, rfl, hm_le rfl, (hm_ltN hN rfl), ?_⟩))⟩⟩)
  show R 165 41 [(1, .int (s 14 5)), (0, .ref 14)] [] (N, hm_sh L g, (hm_w1 (hm_w1 (T_167 (T_179 s 20 80 (s 14 5) 1) (s 14 5) 0 0) 14 5 (((T_167 (T_179 s 20 80 (s 14 5) 1) (s 14 5) 0 0) 14 5) + 1)) 14 6 (((hm_w1 (T_167 (T_179 s 20 80 (s 14 5) 1) (s 14 5) 0 0) 14 5 (((T_167 (T_179 s 20 80 (s 14 5) 1) (s 14 5) 0 0) 14 5) + 1)) 14 6) + 1))) _ Q
  refine hm_st hR (?_)
  exact hm_st hR ⟨fun z => absurd z (by decide), hm_pqi hq⟩
/-- CurvekeyHouse$History.greet(I)V -/
def T_118 (s : hm_St) (p1 : Int32) : hm_St := (T_179 (T_179 (T_179 s 37 80 p1 0) 39 80 p1 ((T_179 s 37 80 p1 0) 25 9)) 41 80 p1 (-1))
theorem N_118 {c j : Nat} (h37 : c ≠ 37) (h39 : c ≠ 39) (h41 : c ≠ 41) {s : hm_St} {p1 : Int32} : (T_118 s p1) c j = s c j := by
  unfold T_118
  repeat' split
  all_goals first | with_reducible rfl | simp only [hm_w1n h37, hm_w1n h39, hm_w1n h41, N_179 h37, N_179 h39, N_179 h41]
set_option maxRecDepth 20000 in
theorem sp_118 {R : hm_R} (hR : hm_Cm R) {N L : Nat} {g : Nat → hm_Sh} {s : hm_St} {b : hm_B} {Q : hm_Q} (hN : 68 ≤ N) {p1 : Int32} (hq : Q (.inr none) (N, hm_sh L g, (T_118 s p1))) : R 118 0 (lv_args 0 [.ref 25, .int p1]) [] (N, hm_sh L g, s) b Q := by
  unfold T_118 at hq
  show R 118 0 [(0, .ref 25), (1, .int p1)] [] (N, hm_sh L g, s) _ Q
  refine hm_st hR (hm_st hR ⟨rfl, hm_le rfl, (hm_ltN hN rfl), hm_st hR (hm_st hR (?_))⟩)
  refine hm_st hR ⟨hm_le rfl, rfl, (hm_le rfl), (hm_ltN hN rfl), hm_le rfl, hm_le rfl, (0, 0), Nat.zero_le _, Nat.zero_le _, ?_⟩
  refine sp_179 hR hN (rr := 36) (aa := 37) (nn := 80) rfl rfl (hm_le rfl) (hm_ltN hN rfl) rfl rfl (hm_le rfl) (hm_ltN hN rfl) (by decide) ?_
  show R 118 9 [(0, .ref 25), (1, .int p1)] [] (N, hm_sh L g, (T_179 s 37 80 p1 0)) _ Q
  refine hm_st hR (hm_st hR ⟨rfl, hm_le rfl, (hm_ltN hN rfl), hm_st hR (hm_st hR (hm_st hR ⟨rfl, hm_le rfl, (hm_ltN hN rfl), ?_⟩))⟩)
  refine hm_st hR ⟨hm_le rfl, rfl, (hm_le rfl), (hm_ltN hN rfl), hm_le rfl, hm_le rfl, (0, 0), Nat.zero_le _, Nat.zero_le _, ?_⟩
  refine sp_179 hR hN (rr := 38) (aa := 39) (nn := 80) rfl rfl (hm_le rfl) (hm_ltN hN rfl) rfl rfl (hm_le rfl) (hm_ltN hN rfl) (by decide) ?_
  show R 118 21 [(0, .ref 25), (1, .int p1)] [] (N, hm_sh L g, (T_179 (T_179 s 37 80 p1 0) 39 80 p1 ((T_179 s 37 80 p1 0) 25 9))) _ Q
  refine hm_st hR (hm_st hR ⟨rfl, hm_le rfl, (hm_ltN hN rfl), hm_st hR (hm_st hR (?_))⟩)
  refine hm_st hR ⟨hm_le rfl, rfl, (hm_le rfl), (hm_ltN hN rfl), hm_le rfl, hm_le rfl, (0, 0), Nat.zero_le _, Nat.zero_le _, ?_⟩
  refine sp_179 hR hN (rr := 40) (aa := 41) (nn := 80) rfl rfl (hm_le rfl) (hm_ltN hN rfl) rfl rfl (hm_le rfl) (hm_ltN hN rfl) (by decide) ?_
  show R 118 30 [(0, .ref 25), (1, .int p1)] [] (N, hm_sh L g, (T_179 (T_179 (T_179 s 37 80 p1 0) 39 80 p1 ((T_179 s 37 80 p1 0) 25 9)) 41 80 p1 (-1))) _ Q
  exact hm_st hR (hq)
/-- CurvekeyHouse$Points.stand(III)V -/
def T_166 (s : hm_St) (p1 : Int32) (p2 : Int32) (p3 : Int32) : hm_St := (T_179 (T_179 s 16 80 p1 p2) 18 80 p1 p3)
theorem N_166 {c j : Nat} (h16 : c ≠ 16) (h18 : c ≠ 18) {s : hm_St} {p1 : Int32} {p2 : Int32} {p3 : Int32} : (T_166 s p1 p2 p3) c j = s c j := by
  unfold T_166
  repeat' split
  all_goals first | with_reducible rfl | simp only [hm_w1n h16, hm_w1n h18, N_179 h16, N_179 h18]
set_option maxRecDepth 20000 in
theorem sp_166 {R : hm_R} (hR : hm_Cm R) {N L : Nat} {g : Nat → hm_Sh} {s : hm_St} {b : hm_B} {Q : hm_Q} (hN : 68 ≤ N) {p1 : Int32} {p2 : Int32} {p3 : Int32} (hq : Q (.inr none) (N, hm_sh L g, (T_166 s p1 p2 p3))) : R 166 0 (lv_args 0 [.ref 14, .int p1, .int p2, .int p3]) [] (N, hm_sh L g, s) b Q := by
  unfold T_166 at hq
  show R 166 0 [(0, .ref 14), (1, .int p1), (2, .int p2), (3, .int p3)] [] (N, hm_sh L g, s) _ Q
  refine hm_st hR (hm_st hR ⟨rfl, hm_le rfl, (hm_ltN hN rfl), hm_st hR (hm_st hR (?_))⟩)
  refine hm_st hR ⟨hm_le rfl, rfl, (hm_le rfl), (hm_ltN hN rfl), hm_le rfl, hm_le rfl, (0, 0), Nat.zero_le _, Nat.zero_le _, ?_⟩
  refine sp_179 hR hN (rr := 15) (aa := 16) (nn := 80) rfl rfl (hm_le rfl) (hm_ltN hN rfl) rfl rfl (hm_le rfl) (hm_ltN hN rfl) (by decide) ?_
  show R 166 9 [(0, .ref 14), (1, .int p1), (2, .int p2), (3, .int p3)] [] (N, hm_sh L g, (T_179 s 16 80 p1 p2)) _ Q
  refine hm_st hR (hm_st hR ⟨rfl, hm_le rfl, (hm_ltN hN rfl), hm_st hR (hm_st hR (?_))⟩)
  refine hm_st hR ⟨hm_le rfl, rfl, (hm_le rfl), (hm_ltN hN rfl), hm_le rfl, hm_le rfl, (0, 0), Nat.zero_le _, Nat.zero_le _, ?_⟩
  refine sp_179 hR hN (rr := 17) (aa := 18) (nn := 80) rfl rfl (hm_le rfl) (hm_ltN hN rfl) rfl rfl (hm_le rfl) (hm_ltN hN rfl) (by decide) ?_
  show R 166 18 [(0, .ref 14), (1, .int p1), (2, .int p2), (3, .int p3)] [] (N, hm_sh L g, (T_179 (T_179 s 16 80 p1 p2) 18 80 p1 p3)) _ Q
  exact hm_st hR (hq)
/-- CurvekeyHouse$Row.add(II)V -/
def T_180 (s : hm_St) (aa : Nat) (nn : Nat) (p1 : Int32) (p2 : Int32) : hm_St := (T_179 s aa nn p1 ((T_178 s aa nn p1) + p2))
theorem N_180 {c j : Nat} {aa nn : Nat} (haa : c ≠ aa) {s : hm_St} {p1 : Int32} {p2 : Int32} : (T_180 s aa nn p1 p2) c j = s c j := by
  unfold T_180
  repeat' split
  all_goals first | with_reducible rfl | simp only [hm_w1n haa, N_179 haa]
set_option maxRecDepth 20000 in
theorem sp_180 {R : hm_R} (hR : hm_Cm R) {N L : Nat} {g : Nat → hm_Sh} {s : hm_St} {b : hm_B} {Q : hm_Q} (hN : 68 ≤ N) {rr aa nn : Nat} (hrk : (hm_sh L g rr).1 = 8) (hra : (hm_sh L g rr).2.2 0 = some aa) (hr2 : 2 ≤ rr) (hrl : rr < N) (hak : (hm_sh L g aa).1 = 1000) (han : (hm_sh L g aa).2.1 = nn) (ha2 : 2 ≤ aa) (hal : aa < N) (hnn : nn < 2 ^ 31) {p1 : Int32} {p2 : Int32} (hq : Q (.inr none) (N, hm_sh L g, (T_180 s aa nn p1 p2))) : R 180 0 (lv_args 0 [.ref rr, .int p1, .int p2]) [] (N, hm_sh L g, s) b Q := by
  unfold T_180 at hq
  show R 180 0 [(0, .ref rr), (1, .int p1), (2, .int p2)] [] (N, hm_sh L g, s) _ Q
  refine hm_st hR (hm_st hR (hm_st hR (hm_st hR (?_))))
  refine hm_st hR ⟨hm_le rfl, hrk, hr2, hrl, hm_le rfl, hm_le rfl, (0, 0), Nat.zero_le _, Nat.zero_le _, ?_⟩
  refine sp_178 hR hN (rr := rr) (aa := aa) (nn := nn) hrk hra hr2 hrl hak han ha2 hal hnn ?_
  show R 180 7 [(0, .ref rr), (1, .int p1), (2, .int p2)] [.int (T_178 s aa nn p1), .int p1, .ref rr] (N, hm_sh L g, s) _ Q
  refine hm_st hR (hm_st hR (?_))
  refine hm_st hR ⟨hm_le rfl, hrk, hr2, hrl, hm_le rfl, hm_le rfl, (0, 0), Nat.zero_le _, Nat.zero_le _, ?_⟩
  refine sp_179 hR hN (rr := rr) (aa := aa) (nn := nn) hrk hra hr2 hrl hak han ha2 hal hnn ?_
  show R 180 12 [(0, .ref rr), (1, .int p1), (2, .int p2)] [] (N, hm_sh L g, (T_179 s aa nn p1 ((T_178 s aa nn p1) + p2))) _ Q
  exact hm_st hR (hq)
/-- CurvekeyHouse$History.begin(III)V -/
def T_120 (s : hm_St) (p1 : Int32) (p2 : Int32) (p3 : Int32) : hm_St := (hm_w1 (T_180 (T_179 (T_179 (T_179 (T_179 (T_179 s 27 2048 (s 25 8) p2) 29 2048 ((T_179 s 27 2048 (s 25 8) p2) 25 8) p3) 31 2048 ((T_179 (T_179 s 27 2048 (s 25 8) p2) 29 2048 ((T_179 s 27 2048 (s 25 8) p2) 25 8) p3) 25 8) ((T_179 (T_179 s 27 2048 (s 25 8) p2) 29 2048 ((T_179 s 27 2048 (s 25 8) p2) 25 8) p3) 25 9)) 33 2048 ((T_179 (T_179 (T_179 s 27 2048 (s 25 8) p2) 29 2048 ((T_179 s 27 2048 (s 25 8) p2) 25 8) p3) 31 2048 ((T_179 (T_179 s 27 2048 (s 25 8) p2) 29 2048 ((T_179 s 27 2048 (s 25 8) p2) 25 8) p3) 25 8) ((T_179 (T_179 s 27 2048 (s 25 8) p2) 29 2048 ((T_179 s 27 2048 (s 25 8) p2) 25 8) p3) 25 9)) 25 8) 2147483647) 35 80 p1 ((T_179 (T_179 (T_179 (T_179 s 27 2048 (s 25 8) p2) 29 2048 ((T_179 s 27 2048 (s 25 8) p2) 25 8) p3) 31 2048 ((T_179 (T_179 s 27 2048 (s 25 8) p2) 29 2048 ((T_179 s 27 2048 (s 25 8) p2) 25 8) p3) 25 8) ((T_179 (T_179 s 27 2048 (s 25 8) p2) 29 2048 ((T_179 s 27 2048 (s 25 8) p2) 25 8) p3) 25 9)) 33 2048 ((T_179 (T_179 (T_179 s 27 2048 (s 25 8) p2) 29 2048 ((T_179 s 27 2048 (s 25 8) p2) 25 8) p3) 31 2048 ((T_179 (T_179 s 27 2048 (s 25 8) p2) 29 2048 ((T_179 s 27 2048 (s 25 8) p2) 25 8) p3) 25 8) ((T_179 (T_179 s 27 2048 (s 25 8) p2) 29 2048 ((T_179 s 27 2048 (s 25 8) p2) 25 8) p3) 25 9)) 25 8) 2147483647) 25 8)) 37 80 p1 1) 25 8 (((T_180 (T_179 (T_179 (T_179 (T_179 (T_179 s 27 2048 (s 25 8) p2) 29 2048 ((T_179 s 27 2048 (s 25 8) p2) 25 8) p3) 31 2048 ((T_179 (T_179 s 27 2048 (s 25 8) p2) 29 2048 ((T_179 s 27 2048 (s 25 8) p2) 25 8) p3) 25 8) ((T_179 (T_179 s 27 2048 (s 25 8) p2) 29 2048 ((T_179 s 27 2048 (s 25 8) p2) 25 8) p3) 25 9)) 33 2048 ((T_179 (T_179 (T_179 s 27 2048 (s 25 8) p2) 29 2048 ((T_179 s 27 2048 (s 25 8) p2) 25 8) p3) 31 2048 ((T_179 (T_179 s 27 2048 (s 25 8) p2) 29 2048 ((T_179 s 27 2048 (s 25 8) p2) 25 8) p3) 25 8) ((T_179 (T_179 s 27 2048 (s 25 8) p2) 29 2048 ((T_179 s 27 2048 (s 25 8) p2) 25 8) p3) 25 9)) 25 8) 2147483647) 35 80 p1 ((T_179 (T_179 (T_179 (T_179 s 27 2048 (s 25 8) p2) 29 2048 ((T_179 s 27 2048 (s 25 8) p2) 25 8) p3) 31 2048 ((T_179 (T_179 s 27 2048 (s 25 8) p2) 29 2048 ((T_179 s 27 2048 (s 25 8) p2) 25 8) p3) 25 8) ((T_179 (T_179 s 27 2048 (s 25 8) p2) 29 2048 ((T_179 s 27 2048 (s 25 8) p2) 25 8) p3) 25 9)) 33 2048 ((T_179 (T_179 (T_179 s 27 2048 (s 25 8) p2) 29 2048 ((T_179 s 27 2048 (s 25 8) p2) 25 8) p3) 31 2048 ((T_179 (T_179 s 27 2048 (s 25 8) p2) 29 2048 ((T_179 s 27 2048 (s 25 8) p2) 25 8) p3) 25 8) ((T_179 (T_179 s 27 2048 (s 25 8) p2) 29 2048 ((T_179 s 27 2048 (s 25 8) p2) 25 8) p3) 25 9)) 25 8) 2147483647) 25 8)) 37 80 p1 1) 25 8) + 1))
theorem N_120 {c j : Nat} (h25 : c ≠ 25) (h27 : c ≠ 27) (h29 : c ≠ 29) (h31 : c ≠ 31) (h33 : c ≠ 33) (h35 : c ≠ 35) (h37 : c ≠ 37) {s : hm_St} {p1 : Int32} {p2 : Int32} {p3 : Int32} : (T_120 s p1 p2 p3) c j = s c j := by
  unfold T_120
  repeat' split
  all_goals first | with_reducible rfl | simp only [hm_w1n h25, hm_w1n h27, hm_w1n h29, hm_w1n h31, hm_w1n h33, hm_w1n h35, hm_w1n h37, N_179 h25, N_179 h27, N_179 h29, N_179 h31, N_179 h33, N_179 h35, N_179 h37, N_180 h25, N_180 h27, N_180 h29, N_180 h31, N_180 h33, N_180 h35, N_180 h37]
set_option maxRecDepth 20000 in
theorem sp_120 {R : hm_R} (hR : hm_Cm R) {N L : Nat} {g : Nat → hm_Sh} {s : hm_St} {b : hm_B} {Q : hm_Q} (hN : 68 ≤ N) {p1 : Int32} {p2 : Int32} {p3 : Int32} (hq : Q (.inr none) (N, hm_sh L g, (T_120 s p1 p2 p3))) : R 120 0 (lv_args 0 [.ref 25, .int p1, .int p2, .int p3]) [] (N, hm_sh L g, s) b Q := by
  unfold T_120 at hq
  show R 120 0 [(0, .ref 25), (1, .int p1), (2, .int p2), (3, .int p3)] [] (N, hm_sh L g, s) _ Q
  refine hm_st hR (hm_st hR ⟨rfl, hm_le rfl, (hm_ltN hN rfl), hm_st hR (hm_st hR ⟨rfl, hm_le rfl, (hm_ltN hN rfl), hm_st hR (?_)⟩)⟩)
  refine hm_st hR ⟨hm_le rfl, rfl, (hm_le rfl), (hm_ltN hN rfl), hm_le rfl, hm_le rfl, (0, 0), Nat.zero_le _, Nat.zero_le _, ?_⟩
  refine sp_179 hR hN (rr := 26) (aa := 27) (nn := 2048) rfl rfl (hm_le rfl) (hm_ltN hN rfl) rfl rfl (hm_le rfl) (hm_ltN hN rfl) (by decide) ?_
  show R 120 12 [(0, .ref 25), (1, .int p1), (2, .int p2), (3, .int p3)] [] (N, hm_sh L g, (T_179 s 27 2048 (s 25 8) p2)) _ Q
  refine hm_st hR (hm_st hR ⟨rfl, hm_le rfl, (hm_ltN hN rfl), hm_st hR (hm_st hR ⟨rfl, hm_le rfl, (hm_ltN hN rfl), hm_st hR (?_)⟩)⟩)
  refine hm_st hR ⟨hm_le rfl, rfl, (hm_le rfl), (hm_ltN hN rfl), hm_le rfl, hm_le rfl, (0, 0), Nat.zero_le _, Nat.zero_le _, ?_⟩
  refine sp_179 hR hN (rr := 28) (aa := 29) (nn := 2048) rfl rfl (hm_le rfl) (hm_ltN hN rfl) rfl rfl (hm_le rfl) (hm_ltN hN rfl) (by decide) ?_
  show R 120 24 [(0, .ref 25), (1, .int p1), (2, .int p2), (3, .int p3)] [] (N, hm_sh L g, (T_179 (T_179 s 27 2048 (s 25 8) p2) 29 2048 ((T_179 s 27 2048 (s 25 8) p2) 25 8) p3)) _ Q
  refine hm_st hR (hm_st hR ⟨rfl, hm_le rfl, (hm_ltN hN rfl), hm_st hR (hm_st hR ⟨rfl, hm_le rfl, (hm_ltN hN rfl), hm_st hR (hm_st hR ⟨rfl, hm_le rfl, (hm_ltN hN rfl), ?_⟩)⟩)⟩)
  refine hm_st hR ⟨hm_le rfl, rfl, (hm_le rfl), (hm_ltN hN rfl), hm_le rfl, hm_le rfl, (0, 0), Nat.zero_le _, Nat.zero_le _, ?_⟩
  refine sp_179 hR hN (rr := 30) (aa := 31) (nn := 2048) rfl rfl (hm_le rfl) (hm_ltN hN rfl) rfl rfl (hm_le rfl) (hm_ltN hN rfl) (by decide) ?_
  show R 120 39 [(0, .ref 25), (1, .int p1), (2, .int p2), (3, .int p3)] [] (N, hm_sh L g, (T_179 (T_179 (T_179 s 27 2048 (s 25 8) p2) 29 2048 ((T_179 s 27 2048 (s 25 8) p2) 25 8) p3) 31 2048 ((T_179 (T_179 s 27 2048 (s 25 8) p2) 29 2048 ((T_179 s 27 2048 (s 25 8) p2) 25 8) p3) 25 8) ((T_179 (T_179 s 27 2048 (s 25 8) p2) 29 2048 ((T_179 s 27 2048 (s 25 8) p2) 25 8) p3) 25 9))) _ Q
  refine hm_st hR (hm_st hR ⟨rfl, hm_le rfl, (hm_ltN hN rfl), hm_st hR (hm_st hR ⟨rfl, hm_le rfl, (hm_ltN hN rfl), hm_st hR (?_)⟩)⟩)
  refine hm_st hR ⟨hm_le rfl, rfl, (hm_le rfl), (hm_ltN hN rfl), hm_le rfl, hm_le rfl, (0, 0), Nat.zero_le _, Nat.zero_le _, ?_⟩
  refine sp_179 hR hN (rr := 32) (aa := 33) (nn := 2048) rfl rfl (hm_le rfl) (hm_ltN hN rfl) rfl rfl (hm_le rfl) (hm_ltN hN rfl) (by decide) ?_
  show R 120 52 [(0, .ref 25), (1, .int p1), (2, .int p2), (3, .int p3)] [] (N, hm_sh L g, (T_179 (T_179 (T_179 (T_179 s 27 2048 (s 25 8) p2) 29 2048 ((T_179 s 27 2048 (s 25 8) p2) 25 8) p3) 31 2048 ((T_179 (T_179 s 27 2048 (s 25 8) p2) 29 2048 ((T_179 s 27 2048 (s 25 8) p2) 25 8) p3) 25 8) ((T_179 (T_179 s 27 2048 (s 25 8) p2) 29 2048 ((T_179 s 27 2048 (s 25 8) p2) 25 8) p3) 25 9)) 33 2048 ((T_179 (T_179 (T_179 s 27 2048 (s 25 8) p2) 29 2048 ((T_179 s 27 2048 (s 25 8) p2) 25 8) p3) 31 2048 ((T_179 (T_179 s 27 2048 (s 25 8) p2) 29 2048 ((T_179 s 27 2048 (s 25 8) p2) 25 8) p3) 25 8) ((T_179 (T_179 s 27 2048 (s 25 8) p2) 29 2048 ((T_179 s 27 2048 (s 25 8) p2) 25 8) p3) 25 9)) 25 8) 2147483647)) _ Q
  refine hm_st hR (hm_st hR ⟨rfl, hm_le rfl, (hm_ltN hN rfl), hm_st hR (hm_st hR (hm_st hR ⟨rfl, hm_le rfl, (hm_ltN hN rfl), ?_⟩))⟩)
  refine hm_st hR ⟨hm_le rfl, rfl, (hm_le rfl), (hm_ltN hN rfl), hm_le rfl, hm_le rfl, (0, 0), Nat.zero_le _, Nat.zero_le _, ?_⟩
  refine sp_179 hR hN (rr := 34) (aa := 35) (nn := 80) rfl rfl (hm_le rfl) (hm_ltN hN rfl) rfl rfl (hm_le rfl) (hm_ltN hN rfl) (by decide) ?_
  show R 120 64 [(0, .ref 25), (1, .int p1), (2, .int p2), (3, .int p3)] [] (N, hm_sh L g, (T_179 (T_179 (T_179 (T_179 (T_179 s 27 2048 (s 25 8) p2) 29 2048 ((T_179 s 27 2048 (s 25 8) p2) 25 8) p3) 31 2048 ((T_179 (T_179 s 27 2048 (s 25 8) p2) 29 2048 ((T_179 s 27 2048 (s 25 8) p2) 25 8) p3) 25 8) ((T_179 (T_179 s 27 2048 (s 25 8) p2) 29 2048 ((T_179 s 27 2048 (s 25 8) p2) 25 8) p3) 25 9)) 33 2048 ((T_179 (T_179 (T_179 s 27 2048 (s 25 8) p2) 29 2048 ((T_179 s 27 2048 (s 25 8) p2) 25 8) p3) 31 2048 ((T_179 (T_179 s 27 2048 (s 25 8) p2) 29 2048 ((T_179 s 27 2048 (s 25 8) p2) 25 8) p3) 25 8) ((T_179 (T_179 s 27 2048 (s 25 8) p2) 29 2048 ((T_179 s 27 2048 (s 25 8) p2) 25 8) p3) 25 9)) 25 8) 2147483647) 35 80 p1 ((T_179 (T_179 (T_179 (T_179 s 27 2048 (s 25 8) p2) 29 2048 ((T_179 s 27 2048 (s 25 8) p2) 25 8) p3) 31 2048 ((T_179 (T_179 s 27 2048 (s 25 8) p2) 29 2048 ((T_179 s 27 2048 (s 25 8) p2) 25 8) p3) 25 8) ((T_179 (T_179 s 27 2048 (s 25 8) p2) 29 2048 ((T_179 s 27 2048 (s 25 8) p2) 25 8) p3) 25 9)) 33 2048 ((T_179 (T_179 (T_179 s 27 2048 (s 25 8) p2) 29 2048 ((T_179 s 27 2048 (s 25 8) p2) 25 8) p3) 31 2048 ((T_179 (T_179 s 27 2048 (s 25 8) p2) 29 2048 ((T_179 s 27 2048 (s 25 8) p2) 25 8) p3) 25 8) ((T_179 (T_179 s 27 2048 (s 25 8) p2) 29 2048 ((T_179 s 27 2048 (s 25 8) p2) 25 8) p3) 25 9)) 25 8) 2147483647) 25 8))) _ Q
  refine hm_st hR (hm_st hR ⟨rfl, hm_le rfl, (hm_ltN hN rfl), hm_st hR (hm_st hR (?_))⟩)
  refine hm_st hR ⟨hm_le rfl, rfl, (hm_le rfl), (hm_ltN hN rfl), hm_le rfl, hm_le rfl, (0, 0), Nat.zero_le _, Nat.zero_le _, ?_⟩
  refine sp_180 hR hN (rr := 36) (aa := 37) (nn := 80) rfl rfl (hm_le rfl) (hm_ltN hN rfl) rfl rfl (hm_le rfl) (hm_ltN hN rfl) (by decide) ?_
  show R 120 73 [(0, .ref 25), (1, .int p1), (2, .int p2), (3, .int p3)] [] (N, hm_sh L g, (T_180 (T_179 (T_179 (T_179 (T_179 (T_179 s 27 2048 (s 25 8) p2) 29 2048 ((T_179 s 27 2048 (s 25 8) p2) 25 8) p3) 31 2048 ((T_179 (T_179 s 27 2048 (s 25 8) p2) 29 2048 ((T_179 s 27 2048 (s 25 8) p2) 25 8) p3) 25 8) ((T_179 (T_179 s 27 2048 (s 25 8) p2) 29 2048 ((T_179 s 27 2048 (s 25 8) p2) 25 8) p3) 25 9)) 33 2048 ((T_179 (T_179 (T_179 s 27 2048 (s 25 8) p2) 29 2048 ((T_179 s 27 2048 (s 25 8) p2) 25 8) p3) 31 2048 ((T_179 (T_179 s 27 2048 (s 25 8) p2) 29 2048 ((T_179 s 27 2048 (s 25 8) p2) 25 8) p3) 25 8) ((T_179 (T_179 s 27 2048 (s 25 8) p2) 29 2048 ((T_179 s 27 2048 (s 25 8) p2) 25 8) p3) 25 9)) 25 8) 2147483647) 35 80 p1 ((T_179 (T_179 (T_179 (T_179 s 27 2048 (s 25 8) p2) 29 2048 ((T_179 s 27 2048 (s 25 8) p2) 25 8) p3) 31 2048 ((T_179 (T_179 s 27 2048 (s 25 8) p2) 29 2048 ((T_179 s 27 2048 (s 25 8) p2) 25 8) p3) 25 8) ((T_179 (T_179 s 27 2048 (s 25 8) p2) 29 2048 ((T_179 s 27 2048 (s 25 8) p2) 25 8) p3) 25 9)) 33 2048 ((T_179 (T_179 (T_179 s 27 2048 (s 25 8) p2) 29 2048 ((T_179 s 27 2048 (s 25 8) p2) 25 8) p3) 31 2048 ((T_179 (T_179 s 27 2048 (s 25 8) p2) 29 2048 ((T_179 s 27 2048 (s 25 8) p2) 25 8) p3) 25 8) ((T_179 (T_179 s 27 2048 (s 25 8) p2) 29 2048 ((T_179 s 27 2048 (s 25 8) p2) 25 8) p3) 25 9)) 25 8) 2147483647) 25 8)) 37 80 p1 1)) _ Q
  refine hm_st hR (hm_st hR ⟨rfl, hm_st hR ⟨rfl, hm_le rfl, (hm_ltN hN rfl), hm_st hR (hm_st hR (hm_st hR ⟨rfl, rfl, hm_le rfl, (hm_ltN hN rfl), ?_⟩))⟩⟩)
  show R 120 83 [(0, .ref 25), (1, .int p1), (2, .int p2), (3, .int p3)] [] (N, hm_sh L g, (hm_w1 (T_180 (T_179 (T_179 (T_179 (T_179 (T_179 s 27 2048 (s 25 8) p2) 29 2048 ((T_179 s 27 2048 (s 25 8) p2) 25 8) p3) 31 2048 ((T_179 (T_179 s 27 2048 (s 25 8) p2) 29 2048 ((T_179 s 27 2048 (s 25 8) p2) 25 8) p3) 25 8) ((T_179 (T_179 s 27 2048 (s 25 8) p2) 29 2048 ((T_179 s 27 2048 (s 25 8) p2) 25 8) p3) 25 9)) 33 2048 ((T_179 (T_179 (T_179 s 27 2048 (s 25 8) p2) 29 2048 ((T_179 s 27 2048 (s 25 8) p2) 25 8) p3) 31 2048 ((T_179 (T_179 s 27 2048 (s 25 8) p2) 29 2048 ((T_179 s 27 2048 (s 25 8) p2) 25 8) p3) 25 8) ((T_179 (T_179 s 27 2048 (s 25 8) p2) 29 2048 ((T_179 s 27 2048 (s 25 8) p2) 25 8) p3) 25 9)) 25 8) 2147483647) 35 80 p1 ((T_179 (T_179 (T_179 (T_179 s 27 2048 (s 25 8) p2) 29 2048 ((T_179 s 27 2048 (s 25 8) p2) 25 8) p3) 31 2048 ((T_179 (T_179 s 27 2048 (s 25 8) p2) 29 2048 ((T_179 s 27 2048 (s 25 8) p2) 25 8) p3) 25 8) ((T_179 (T_179 s 27 2048 (s 25 8) p2) 29 2048 ((T_179 s 27 2048 (s 25 8) p2) 25 8) p3) 25 9)) 33 2048 ((T_179 (T_179 (T_179 s 27 2048 (s 25 8) p2) 29 2048 ((T_179 s 27 2048 (s 25 8) p2) 25 8) p3) 31 2048 ((T_179 (T_179 s 27 2048 (s 25 8) p2) 29 2048 ((T_179 s 27 2048 (s 25 8) p2) 25 8) p3) 25 8) ((T_179 (T_179 s 27 2048 (s 25 8) p2) 29 2048 ((T_179 s 27 2048 (s 25 8) p2) 25 8) p3) 25 9)) 25 8) 2147483647) 25 8)) 37 80 p1 1) 25 8 (((T_180 (T_179 (T_179 (T_179 (T_179 (T_179 s 27 2048 (s 25 8) p2) 29 2048 ((T_179 s 27 2048 (s 25 8) p2) 25 8) p3) 31 2048 ((T_179 (T_179 s 27 2048 (s 25 8) p2) 29 2048 ((T_179 s 27 2048 (s 25 8) p2) 25 8) p3) 25 8) ((T_179 (T_179 s 27 2048 (s 25 8) p2) 29 2048 ((T_179 s 27 2048 (s 25 8) p2) 25 8) p3) 25 9)) 33 2048 ((T_179 (T_179 (T_179 s 27 2048 (s 25 8) p2) 29 2048 ((T_179 s 27 2048 (s 25 8) p2) 25 8) p3) 31 2048 ((T_179 (T_179 s 27 2048 (s 25 8) p2) 29 2048 ((T_179 s 27 2048 (s 25 8) p2) 25 8) p3) 25 8) ((T_179 (T_179 s 27 2048 (s 25 8) p2) 29 2048 ((T_179 s 27 2048 (s 25 8) p2) 25 8) p3) 25 9)) 25 8) 2147483647) 35 80 p1 ((T_179 (T_179 (T_179 (T_179 s 27 2048 (s 25 8) p2) 29 2048 ((T_179 s 27 2048 (s 25 8) p2) 25 8) p3) 31 2048 ((T_179 (T_179 s 27 2048 (s 25 8) p2) 29 2048 ((T_179 s 27 2048 (s 25 8) p2) 25 8) p3) 25 8) ((T_179 (T_179 s 27 2048 (s 25 8) p2) 29 2048 ((T_179 s 27 2048 (s 25 8) p2) 25 8) p3) 25 9)) 33 2048 ((T_179 (T_179 (T_179 s 27 2048 (s 25 8) p2) 29 2048 ((T_179 s 27 2048 (s 25 8) p2) 25 8) p3) 31 2048 ((T_179 (T_179 s 27 2048 (s 25 8) p2) 29 2048 ((T_179 s 27 2048 (s 25 8) p2) 25 8) p3) 25 8) ((T_179 (T_179 s 27 2048 (s 25 8) p2) 29 2048 ((T_179 s 27 2048 (s 25 8) p2) 25 8) p3) 25 9)) 25 8) 2147483647) 25 8)) 37 80 p1 1) 25 8) + 1))) _ Q
  exact hm_st hR (hq)
def T_139_4 : Nat → hm_St → Int32 → Int32 → Int32 → Int32
  | 0, s, _, _, _ => 0
  | n + 1, s, v1, v2, v3 => (if (s 42 4) ≤ v3 then v2 else (if v1 < (T_178 s 46 1025 v3) then v2 else (T_139_4 n s v1 v3 (v3 + 1))))
/-- CurvekeyHouse$Pages.pageOf(I)I -/
def T_139 (s : hm_St) (p1 : Int32) : Int32 := (T_139_4 (hm_df (s 42 4) 1 + 1) s p1 0 1)
set_option maxRecDepth 20000 in
theorem lp_139_4 {R : hm_R} (hR : hm_Cm R) {N L : Nat} {g : Nat → hm_Sh} {b : hm_B} {Q : hm_Q} (hN : 68 ≤ N) : ∀ (n : Nat) (s : hm_St) (v1 : Int32) (v2 : Int32) (v3 : Int32), hm_df (s 42 4) v3 < n → (hq : Q (.inr (some (.int (T_139_4 n s v1 v2 v3)))) (N, hm_sh L g, s)) → R 139 4 [(3, .int v3), (2, .int v2), (0, .ref 42), (1, .int v1)] [] (N, hm_sh L g, s) b Q := by
  intro n
  induction n with
  | zero => intro s v1 v2 v3 hm _; exact absurd hm (Nat.not_lt_zero _)
  | succ n ih =>
    intro s v1 v2 v3 hm hq
    unfold T_139_4 at hq
    refine hm_st hR (hm_st hR (hm_st hR ⟨rfl, hm_le rfl, (hm_ltN hN rfl), ?_⟩))
    show R 139 9 [(3, .int v3), (2, .int v2), (0, .ref 42), (1, .int v1)] [.int (s 42 4), .int v3] (N, hm_sh L g, s) _ Q
    refine hm_st hR ⟨fun c9 => ?_, fun c9 => ?_⟩
    · rw [if_pos c9] at hq
      show R 139 32 [(3, .int v3), (2, .int v2), (0, .ref 42), (1, .int v1)] [] (N, hm_sh L g, s) _ Q
      refine hm_st hR (?_)
      exact hm_st hR ⟨fun z => absurd z (by decide), hq⟩
    · rw [if_neg c9] at hq
      show R 139 12 [(3, .int v3), (2, .int v2), (0, .ref 42), (1, .int v1)] [] (N, hm_sh L g, s) _ Q
      refine hm_st hR (hm_st hR ⟨rfl, hm_le rfl, (hm_ltN hN rfl), hm_st hR (?_)⟩)
      refine hm_st hR ⟨hm_le rfl, rfl, (hm_le rfl), (hm_ltN hN rfl), hm_le rfl, hm_le rfl, (0, 0), Nat.zero_le _, Nat.zero_le _, ?_⟩
      refine sp_178 hR hN (rr := 45) (aa := 46) (nn := 1025) rfl rfl (hm_le rfl) (hm_ltN hN rfl) rfl rfl (hm_le rfl) (hm_ltN hN rfl) (by decide) ?_
      show R 139 20 [(3, .int v3), (2, .int v2), (0, .ref 42), (1, .int v1)] [.int (T_178 s 46 1025 v3)] (N, hm_sh L g, s) _ Q
      refine hm_st hR (?_)
      show R 139 21 [(3, .int v3), (2, .int v2), (0, .ref 42), (1, .int v1)] [.int v1, .int (T_178 s 46 1025 v3)] (N, hm_sh L g, s) _ Q
      refine hm_st hR ⟨fun c21 => ?_, fun c21 => ?_⟩
      · rw [if_pos c21] at hq
        show R 139 32 [(3, .int v3), (2, .int v2), (0, .ref 42), (1, .int v1)] [] (N, hm_sh L g, s) _ Q
        refine hm_st hR (?_)
        exact hm_st hR ⟨fun z => absurd z (by decide), hq⟩
      · rw [if_neg c21] at hq
        show R 139 24 [(3, .int v3), (2, .int v2), (0, .ref 42), (1, .int v1)] [] (N, hm_sh L g, s) _ Q
        refine hm_st hR (hm_st hR (hm_st hR (hm_st hR (?_))))
        show R 139 4 [(3, .int (v3 + 1)), (2, .int v3), (0, .ref 42), (1, .int v1)] [] (N, hm_sh L g, s) _ Q
        exact hm_lvS hR (by intro q hq; simp only [List.mem_cons, List.not_mem_nil, or_false] at hq ⊢; rcases hq with rfl | rfl | rfl | rfl <;> simp) (ih s v1 v3 (v3 + 1) (hm_dcx c9 hm) hq)
set_option maxRecDepth 20000 in
theorem sp_139 {R : hm_R} (hR : hm_Cm R) {N L : Nat} {g : Nat → hm_Sh} {s : hm_St} {b : hm_B} {Q : hm_Q} (hN : 68 ≤ N) {p1 : Int32} (hq : Q (.inr (some (.int (T_139 s p1)))) (N, hm_sh L g, s)) : R 139 0 (lv_args 0 [.ref 42, .int p1]) [] (N, hm_sh L g, s) b Q := by
  unfold T_139 at hq
  show R 139 0 [(0, .ref 42), (1, .int p1)] [] (N, hm_sh L g, s) _ Q
  refine hm_st hR (hm_st hR (hm_st hR (hm_st hR (?_))))
  show R 139 4 [(3, .int 1), (2, .int 0), (0, .ref 42), (1, .int p1)] [] (N, hm_sh L g, s) _ Q
  exact lp_139_4 hR hN _ _ _ _ _ (Nat.lt_succ_self _) hq
def T_141_23 : Nat → hm_St → Int32 → Int32 → Int32 → Int32 → Int32
  | 0, s, _, _, _, _ => 0
  | n + 1, s, v1, v2, v3, v4 => (if v3 ≤ v4 then v2 else (if (T_178 s 44 1024 v4) = (-1) then (T_141_23 n s v1 v2 v3 (v4 + 1)) else (T_141_23 n s v1 (v2 + 1) v3 (v4 + 1))))
/-- CurvekeyHouse$Pages.entriesIn(I)I -/
def T_141 (s : hm_St) (p1 : Int32) : Int32 := (T_141_23 (hm_df (T_178 s 46 1025 (p1 + 1)) (T_178 s 46 1025 p1) + 1) s p1 0 (T_178 s 46 1025 (p1 + 1)) (T_178 s 46 1025 p1))
set_option maxRecDepth 20000 in
theorem lp_141_23 {R : hm_R} (hR : hm_Cm R) {N L : Nat} {g : Nat → hm_Sh} {b : hm_B} {Q : hm_Q} (hN : 68 ≤ N) : ∀ (n : Nat) (s : hm_St) (v1 : Int32) (v2 : Int32) (v3 : Int32) (v4 : Int32), hm_df v3 v4 < n → (hq : Q (.inr (some (.int (T_141_23 n s v1 v2 v3 v4)))) (N, hm_sh L g, s)) → R 141 23 [(4, .int v4), (3, .int v3), (2, .int v2), (0, .ref 42), (1, .int v1)] [] (N, hm_sh L g, s) b Q := by
  intro n
  induction n with
  | zero => intro s v1 v2 v3 v4 hm _; exact absurd hm (Nat.not_lt_zero _)
  | succ n ih =>
    intro s v1 v2 v3 v4 hm hq
    unfold T_141_23 at hq
    refine hm_st hR (hm_st hR (?_))
    show R 141 26 [(4, .int v4), (3, .int v3), (2, .int v2), (0, .ref 42), (1, .int v1)] [.int v3, .int v4] (N, hm_sh L g, s) _ Q
    refine hm_st hR ⟨fun c26 => ?_, fun c26 => ?_⟩
    · rw [if_pos c26] at hq
      show R 141 51 [(4, .int v4), (3, .int v3), (2, .int v2), (0, .ref 42), (1, .int v1)] [] (N, hm_sh L g, s) _ Q
      refine hm_st hR (?_)
      exact hm_st hR ⟨fun z => absurd z (by decide), hq⟩
    · rw [if_neg c26] at hq
      show R 141 29 [(4, .int v4), (3, .int v3), (2, .int v2), (0, .ref 42), (1, .int v1)] [] (N, hm_sh L g, s) _ Q
      refine hm_st hR (hm_st hR ⟨rfl, hm_le rfl, (hm_ltN hN rfl), hm_st hR (?_)⟩)
      refine hm_st hR ⟨hm_le rfl, rfl, (hm_le rfl), (hm_ltN hN rfl), hm_le rfl, hm_le rfl, (0, 0), Nat.zero_le _, Nat.zero_le _, ?_⟩
      refine sp_178 hR hN (rr := 43) (aa := 44) (nn := 1024) rfl rfl (hm_le rfl) (hm_ltN hN rfl) rfl rfl (hm_le rfl) (hm_ltN hN rfl) (by decide) ?_
      show R 141 38 [(4, .int v4), (3, .int v3), (2, .int v2), (0, .ref 42), (1, .int v1)] [.int (T_178 s 44 1024 v4)] (N, hm_sh L g, s) _ Q
      refine hm_st hR (?_)
      show R 141 39 [(4, .int v4), (3, .int v3), (2, .int v2), (0, .ref 42), (1, .int v1)] [.int (-1), .int (T_178 s 44 1024 v4)] (N, hm_sh L g, s) _ Q
      refine hm_st hR ⟨fun c39 => ?_, fun c39 => ?_⟩
      · rw [if_pos c39] at hq
        show R 141 45 [(4, .int v4), (3, .int v3), (2, .int v2), (0, .ref 42), (1, .int v1)] [] (N, hm_sh L g, s) _ Q
        refine hm_st hR (hm_st hR (?_))
        show R 141 23 [(4, .int (v4 + 1)), (3, .int v3), (2, .int v2), (0, .ref 42), (1, .int v1)] [] (N, hm_sh L g, s) _ Q
        exact hm_lvS hR (by intro q hq; simp only [List.mem_cons, List.not_mem_nil, or_false] at hq ⊢; rcases hq with rfl | rfl | rfl | rfl | rfl <;> simp) (ih s v1 v2 v3 (v4 + 1) (hm_dcx c26 hm) hq)
      · rw [if_neg c39] at hq
        show R 141 42 [(4, .int v4), (3, .int v3), (2, .int v2), (0, .ref 42), (1, .int v1)] [] (N, hm_sh L g, s) _ Q
        refine hm_st hR (hm_st hR (hm_st hR (?_)))
        show R 141 23 [(4, .int (v4 + 1)), (2, .int (v2 + 1)), (3, .int v3), (0, .ref 42), (1, .int v1)] [] (N, hm_sh L g, s) _ Q
        exact hm_lvS hR (by intro q hq; simp only [List.mem_cons, List.not_mem_nil, or_false] at hq ⊢; rcases hq with rfl | rfl | rfl | rfl | rfl <;> simp) (ih s v1 (v2 + 1) v3 (v4 + 1) (hm_dcx c26 hm) hq)
set_option maxRecDepth 20000 in
theorem sp_141 {R : hm_R} (hR : hm_Cm R) {N L : Nat} {g : Nat → hm_Sh} {s : hm_St} {b : hm_B} {Q : hm_Q} (hN : 68 ≤ N) {p1 : Int32} (hq : Q (.inr (some (.int (T_141 s p1)))) (N, hm_sh L g, s)) : R 141 0 (lv_args 0 [.ref 42, .int p1]) [] (N, hm_sh L g, s) b Q := by
  unfold T_141 at hq
  show R 141 0 [(0, .ref 42), (1, .int p1)] [] (N, hm_sh L g, s) _ Q
  refine hm_st hR (hm_st hR (hm_st hR (hm_st hR ⟨rfl, hm_le rfl, (hm_ltN hN rfl), hm_st hR (hm_st hR (hm_st hR (?_)))⟩)))
  refine hm_st hR ⟨hm_le rfl, rfl, (hm_le rfl), (hm_ltN hN rfl), hm_le rfl, hm_le rfl, (0, 0), Nat.zero_le _, Nat.zero_le _, ?_⟩
  refine sp_178 hR hN (rr := 45) (aa := 46) (nn := 1025) rfl rfl (hm_le rfl) (hm_ltN hN rfl) rfl rfl (hm_le rfl) (hm_ltN hN rfl) (by decide) ?_
  show R 141 12 [(2, .int 0), (0, .ref 42), (1, .int p1)] [.int (T_178 s 46 1025 (p1 + 1))] (N, hm_sh L g, s) _ Q
  refine hm_st hR (hm_st hR (hm_st hR ⟨rfl, hm_le rfl, (hm_ltN hN rfl), hm_st hR (?_)⟩))
  refine hm_st hR ⟨hm_le rfl, rfl, (hm_le rfl), (hm_ltN hN rfl), hm_le rfl, hm_le rfl, (0, 0), Nat.zero_le _, Nat.zero_le _, ?_⟩
  refine sp_178 hR hN (rr := 45) (aa := 46) (nn := 1025) rfl rfl (hm_le rfl) (hm_ltN hN rfl) rfl rfl (hm_le rfl) (hm_ltN hN rfl) (by decide) ?_
  show R 141 21 [(3, .int (T_178 s 46 1025 (p1 + 1))), (2, .int 0), (0, .ref 42), (1, .int p1)] [.int (T_178 s 46 1025 p1)] (N, hm_sh L g, s) _ Q
  refine hm_st hR (?_)
  show R 141 23 [(4, .int (T_178 s 46 1025 p1)), (3, .int (T_178 s 46 1025 (p1 + 1))), (2, .int 0), (0, .ref 42), (1, .int p1)] [] (N, hm_sh L g, s) _ Q
  exact lp_141_23 hR hN _ _ _ _ _ _ (Nat.lt_succ_self _) hq
def T_145_24 : Nat → hm_St → Int32 → Int32 → Int32 → Int32 → Int32 → Int32
  | 0, s, _, _, _, _, _ => 0
  | n + 1, s, v1, v2, v3, v4, v5 => (if v4 ≤ v5 then (-1) else (if (T_178 s 44 1024 v5) = (-1) then (T_145_24 n s v1 v2 v3 v4 (v5 + 1)) else (if v3 = v2 then v5 else (T_145_24 n s v1 v2 (v3 + 1) v4 (v5 + 1)))))
/-- CurvekeyHouse$Pages.entryIn(II)I -/
def T_145 (s : hm_St) (p1 : Int32) (p2 : Int32) : Int32 := (T_145_24 (hm_df (T_178 s 46 1025 (p1 + 1)) (T_178 s 46 1025 p1) + 1) s p1 p2 0 (T_178 s 46 1025 (p1 + 1)) (T_178 s 46 1025 p1))
set_option maxRecDepth 20000 in
theorem lp_145_24 {R : hm_R} (hR : hm_Cm R) {N L : Nat} {g : Nat → hm_Sh} {b : hm_B} {Q : hm_Q} (hN : 68 ≤ N) : ∀ (n : Nat) (s : hm_St) (v1 : Int32) (v2 : Int32) (v3 : Int32) (v4 : Int32) (v5 : Int32), hm_df v4 v5 < n → (hq : Q (.inr (some (.int (T_145_24 n s v1 v2 v3 v4 v5)))) (N, hm_sh L g, s)) → R 145 24 [(5, .int v5), (4, .int v4), (3, .int v3), (0, .ref 42), (1, .int v1), (2, .int v2)] [] (N, hm_sh L g, s) b Q := by
  intro n
  induction n with
  | zero => intro s v1 v2 v3 v4 v5 hm _; exact absurd hm (Nat.not_lt_zero _)
  | succ n ih =>
    intro s v1 v2 v3 v4 v5 hm hq
    unfold T_145_24 at hq
    refine hm_st hR (hm_st hR (?_))
    show R 145 28 [(5, .int v5), (4, .int v4), (3, .int v3), (0, .ref 42), (1, .int v1), (2, .int v2)] [.int v4, .int v5] (N, hm_sh L g, s) _ Q
    refine hm_st hR ⟨fun c28 => ?_, fun c28 => ?_⟩
    · rw [if_pos c28] at hq
      show R 145 61 [(5, .int v5), (4, .int v4), (3, .int v3), (0, .ref 42), (1, .int v1), (2, .int v2)] [] (N, hm_sh L g, s) _ Q
      refine hm_st hR (?_)
      exact hm_st hR ⟨fun z => absurd z (by decide), hq⟩
    · rw [if_neg c28] at hq
      show R 145 31 [(5, .int v5), (4, .int v4), (3, .int v3), (0, .ref 42), (1, .int v1), (2, .int v2)] [] (N, hm_sh L g, s) _ Q
      refine hm_st hR (hm_st hR ⟨rfl, hm_le rfl, (hm_ltN hN rfl), hm_st hR (?_)⟩)
      refine hm_st hR ⟨hm_le rfl, rfl, (hm_le rfl), (hm_ltN hN rfl), hm_le rfl, hm_le rfl, (0, 0), Nat.zero_le _, Nat.zero_le _, ?_⟩
      refine sp_178 hR hN (rr := 43) (aa := 44) (nn := 1024) rfl rfl (hm_le rfl) (hm_ltN hN rfl) rfl rfl (hm_le rfl) (hm_ltN hN rfl) (by decide) ?_
      show R 145 40 [(5, .int v5), (4, .int v4), (3, .int v3), (0, .ref 42), (1, .int v1), (2, .int v2)] [.int (T_178 s 44 1024 v5)] (N, hm_sh L g, s) _ Q
      refine hm_st hR (?_)
      show R 145 41 [(5, .int v5), (4, .int v4), (3, .int v3), (0, .ref 42), (1, .int v1), (2, .int v2)] [.int (-1), .int (T_178 s 44 1024 v5)] (N, hm_sh L g, s) _ Q
      refine hm_st hR ⟨fun c41 => ?_, fun c41 => ?_⟩
      · rw [if_pos c41] at hq
        show R 145 55 [(5, .int v5), (4, .int v4), (3, .int v3), (0, .ref 42), (1, .int v1), (2, .int v2)] [] (N, hm_sh L g, s) _ Q
        refine hm_st hR (hm_st hR (?_))
        show R 145 24 [(5, .int (v5 + 1)), (4, .int v4), (3, .int v3), (0, .ref 42), (1, .int v1), (2, .int v2)] [] (N, hm_sh L g, s) _ Q
        exact hm_lvS hR (by intro q hq; simp only [List.mem_cons, List.not_mem_nil, or_false] at hq ⊢; rcases hq with rfl | rfl | rfl | rfl | rfl | rfl <;> simp) (ih s v1 v2 v3 v4 (v5 + 1) (hm_dcx c28 hm) hq)
      · rw [if_neg c41] at hq
        show R 145 44 [(5, .int v5), (4, .int v4), (3, .int v3), (0, .ref 42), (1, .int v1), (2, .int v2)] [] (N, hm_sh L g, s) _ Q
        refine hm_st hR (hm_st hR (?_))
        show R 145 46 [(5, .int v5), (4, .int v4), (3, .int v3), (0, .ref 42), (1, .int v1), (2, .int v2)] [.int v2, .int v3] (N, hm_sh L g, s) _ Q
        refine hm_st hR ⟨fun c46 => ?_, fun c46 => ?_⟩
        · rw [if_neg c46] at hq
          show R 145 52 [(5, .int v5), (4, .int v4), (3, .int v3), (0, .ref 42), (1, .int v1), (2, .int v2)] [] (N, hm_sh L g, s) _ Q
          refine hm_st hR (hm_st hR (hm_st hR (?_)))
          show R 145 24 [(5, .int (v5 + 1)), (3, .int (v3 + 1)), (4, .int v4), (0, .ref 42), (1, .int v1), (2, .int v2)] [] (N, hm_sh L g, s) _ Q
          exact hm_lvS hR (by intro q hq; simp only [List.mem_cons, List.not_mem_nil, or_false] at hq ⊢; rcases hq with rfl | rfl | rfl | rfl | rfl | rfl <;> simp) (ih s v1 v2 (v3 + 1) v4 (v5 + 1) (hm_dcx c28 hm) hq)
        · rw [if_pos c46] at hq
          show R 145 49 [(5, .int v5), (4, .int v4), (3, .int v3), (0, .ref 42), (1, .int v1), (2, .int v2)] [] (N, hm_sh L g, s) _ Q
          refine hm_st hR (?_)
          exact hm_st hR ⟨fun z => absurd z (by decide), hq⟩
set_option maxRecDepth 20000 in
theorem sp_145 {R : hm_R} (hR : hm_Cm R) {N L : Nat} {g : Nat → hm_Sh} {s : hm_St} {b : hm_B} {Q : hm_Q} (hN : 68 ≤ N) {p1 : Int32} {p2 : Int32} (hq : Q (.inr (some (.int (T_145 s p1 p2)))) (N, hm_sh L g, s)) : R 145 0 (lv_args 0 [.ref 42, .int p1, .int p2]) [] (N, hm_sh L g, s) b Q := by
  unfold T_145 at hq
  show R 145 0 [(0, .ref 42), (1, .int p1), (2, .int p2)] [] (N, hm_sh L g, s) _ Q
  refine hm_st hR (hm_st hR (hm_st hR (hm_st hR ⟨rfl, hm_le rfl, (hm_ltN hN rfl), hm_st hR (hm_st hR (hm_st hR (?_)))⟩)))
  refine hm_st hR ⟨hm_le rfl, rfl, (hm_le rfl), (hm_ltN hN rfl), hm_le rfl, hm_le rfl, (0, 0), Nat.zero_le _, Nat.zero_le _, ?_⟩
  refine sp_178 hR hN (rr := 45) (aa := 46) (nn := 1025) rfl rfl (hm_le rfl) (hm_ltN hN rfl) rfl rfl (hm_le rfl) (hm_ltN hN rfl) (by decide) ?_
  show R 145 12 [(3, .int 0), (0, .ref 42), (1, .int p1), (2, .int p2)] [.int (T_178 s 46 1025 (p1 + 1))] (N, hm_sh L g, s) _ Q
  refine hm_st hR (hm_st hR (hm_st hR ⟨rfl, hm_le rfl, (hm_ltN hN rfl), hm_st hR (?_)⟩))
  refine hm_st hR ⟨hm_le rfl, rfl, (hm_le rfl), (hm_ltN hN rfl), hm_le rfl, hm_le rfl, (0, 0), Nat.zero_le _, Nat.zero_le _, ?_⟩
  refine sp_178 hR hN (rr := 45) (aa := 46) (nn := 1025) rfl rfl (hm_le rfl) (hm_ltN hN rfl) rfl rfl (hm_le rfl) (hm_ltN hN rfl) (by decide) ?_
  show R 145 22 [(4, .int (T_178 s 46 1025 (p1 + 1))), (3, .int 0), (0, .ref 42), (1, .int p1), (2, .int p2)] [.int (T_178 s 46 1025 p1)] (N, hm_sh L g, s) _ Q
  refine hm_st hR (?_)
  show R 145 24 [(5, .int (T_178 s 46 1025 p1)), (4, .int (T_178 s 46 1025 (p1 + 1))), (3, .int 0), (0, .ref 42), (1, .int p1), (2, .int p2)] [] (N, hm_sh L g, s) _ Q
  exact lp_145_24 hR hN _ _ _ _ _ _ _ (Nat.lt_succ_self _) hq
