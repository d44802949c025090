/-! The methods as functions; the abstract machine does them. -/
/-- CurvekeyHouse$Points.isKnown(I)Z -/
def T_159 (s : hm_St) (p1 : Int32) : Int32 := (if p1 < 0 then 0 else (if (s 14 5) ≤ p1 then (0 : Int32) else 1))
theorem B_159 (s : hm_St) (p1 : Int32) : T_159 s p1 = 0 ∨ T_159 s p1 = 1 := by
  unfold T_159
  repeat' split
  all_goals first | exact Or.inl rfl | exact Or.inr rfl
set_option maxRecDepth 20000 in
theorem sp_159 {R : hm_R} (hR : hm_Cm R) {N L : Nat} {g : Nat → hm_Sh} {s : hm_St} {b : hm_B} {Q : hm_Q} (hN : 68 ≤ N) {p1 : Int32} (hq : Q (.inr (some (.int (T_159 s p1)))) (N, hm_sh L g, s)) : R 159 0 (lv_args 0 [.ref 14, .int p1]) [] (N, hm_sh L g, s) b Q := by
  unfold T_159 at hq
  show R 159 0 [(0, .ref 14), (1, .int p1)] [] (N, hm_sh L g, s) _ Q
  refine hm_st hR (?_)
  show R 159 1 [(0, .ref 14), (1, .int p1)] [.int p1] (N, hm_sh L g, s) _ Q
  refine hm_st hR ⟨fun c1 => ?_, fun c1 => ?_⟩
  · rw [if_pos c1] at hq
    show R 159 16 [(0, .ref 14), (1, .int p1)] [] (N, hm_sh L g, s) _ Q
    refine hm_st hR (?_)
    exact hm_st hR ⟨fun _ => Or.inl rfl, hq⟩
  · rw [if_neg c1] at hq
    show R 159 4 [(0, .ref 14), (1, .int p1)] [] (N, hm_sh L g, s) _ Q
    refine hm_st hR (hm_st hR (hm_st hR ⟨rfl, hm_le rfl, (hm_ltN hN rfl), ?_⟩))
    show R 159 9 [(0, .ref 14), (1, .int p1)] [.int (s 14 5), .int p1] (N, hm_sh L g, s) _ Q
    suffices G : ∀ w : Int32, w = (if (s 14 5) ≤ p1 then (0 : Int32) else 1) → R 159 17 [(0, .ref 14), (1, .int p1)] [.int w] (N, hm_sh L g, s) b Q by
      show R 159 9 [(0, .ref 14), (1, .int p1)] [.int (s 14 5), .int p1] (N, hm_sh L g, s) _ Q
      refine hm_st hR ⟨fun c => ?_, fun c => ?_⟩
      · exact hm_st hR (G _ (if_pos c).symm)
      · exact hm_st hR (hm_st hR (G _ (if_neg c).symm))
    intro w hw
    subst hw
    show R 159 17 [(0, .ref 14), (1, .int p1)] [.int (if (s 14 5) ≤ p1 then (0 : Int32) else 1)] (N, hm_sh L g, s) _ Q
    exact hm_st hR ⟨fun _ => (by split <;> first | exact Or.inl rfl | exact Or.inr rfl), hq⟩
/-- CurvekeyHouse$Points.isAlive(I)Z -/
def T_160 (s : hm_St) (p1 : Int32) : Int32 := (if (T_159 s p1) = 0 then 0 else (if (T_178 s 20 80 p1) = 1 then (1 : Int32) else 0))
theorem B_160 (s : hm_St) (p1 : Int32) : T_160 s p1 = 0 ∨ T_160 s p1 = 1 := by
  unfold T_160
  repeat' split
  all_goals first | exact Or.inl rfl | exact Or.inr rfl | exact B_159 _ _
set_option maxRecDepth 20000 in
theorem sp_160 {R : hm_R} (hR : hm_Cm R) {N L : Nat} {g : Nat → hm_Sh} {s : hm_St} {b : hm_B} {Q : hm_Q} (hN : 68 ≤ N) {p1 : Int32} (hq : Q (.inr (some (.int (T_160 s p1)))) (N, hm_sh L g, s)) : R 160 0 (lv_args 0 [.ref 14, .int p1]) [] (N, hm_sh L g, s) b Q := by
  unfold T_160 at hq
  show R 160 0 [(0, .ref 14), (1, .int p1)] [] (N, hm_sh L g, s) _ Q
  refine hm_st hR (hm_st hR (?_))
  refine hm_st hR ⟨hm_le rfl, rfl, (hm_le rfl), (hm_ltN hN rfl), hm_le rfl, hm_le rfl, (0, 0), Nat.zero_le _, Nat.zero_le _, ?_⟩
  refine sp_159 hR hN ?_
  show R 160 5 [(0, .ref 14), (1, .int p1)] [.int (T_159 s p1)] (N, hm_sh L g, s) _ Q
  show R 160 5 [(0, .ref 14), (1, .int p1)] [.int (T_159 s p1)] (N, hm_sh L g, s) _ Q
  refine hm_st hR ⟨fun c5 => ?_, fun c5 => ?_⟩
  · rw [if_pos c5] at hq
    show R 160 24 [(0, .ref 14), (1, .int p1)] [] (N, hm_sh L g, s) _ Q
    refine hm_st hR (?_)
    exact hm_st hR ⟨fun _ => Or.inl rfl, hq⟩
  · rw [if_neg c5] at hq
    show R 160 8 [(0, .ref 14), (1, .int p1)] [] (N, hm_sh L g, s) _ Q
    refine hm_st hR (hm_st hR ⟨rfl, hm_le rfl, (hm_ltN hN rfl), hm_st hR (?_)⟩)
    refine hm_st hR ⟨hm_le rfl, rfl, (hm_le rfl), (hm_ltN hN rfl), hm_le rfl, hm_le rfl, (0, 0), Nat.zero_le _, Nat.zero_le _, ?_⟩
    refine sp_178 hR hN (rr := 19) (aa := 20) (nn := 80) rfl rfl (hm_le rfl) (hm_ltN hN rfl) rfl rfl (hm_le rfl) (hm_ltN hN rfl) (by decide) ?_
    show R 160 16 [(0, .ref 14), (1, .int p1)] [.int (T_178 s 20 80 p1)] (N, hm_sh L g, s) _ Q
    refine hm_st hR (?_)
    show R 160 17 [(0, .ref 14), (1, .int p1)] [.int 1, .int (T_178 s 20 80 p1)] (N, hm_sh L g, s) _ Q
    suffices G : ∀ w : Int32, w = (if (T_178 s 20 80 p1) = 1 then (1 : Int32) else 0) → R 160 25 [(0, .ref 14), (1, .int p1)] [.int w] (N, hm_sh L g, s) (b.1 - 0 - 0, b.2 - 0 - 0) Q by
      show R 160 17 [(0, .ref 14), (1, .int p1)] [.int 1, .int (T_178 s 20 80 p1)] (N, hm_sh L g, s) _ Q
      refine hm_st hR ⟨fun c => ?_, fun c => ?_⟩
      · exact hm_st hR (G _ (if_neg c).symm)
      · exact hm_st hR (hm_st hR (G _ (if_pos c).symm))
    intro w hw
    subst hw
    show R 160 25 [(0, .ref 14), (1, .int p1)] [.int (if (T_178 s 20 80 p1) = 1 then (1 : Int32) else 0)] (N, hm_sh L g, s) _ Q
    exact hm_st hR ⟨fun _ => (by split <;> first | exact Or.inl rfl | exact Or.inr rfl), hq⟩
/-- CurvekeyHouse$Points.x(I)I -/
def T_161 (s : hm_St) (p1 : Int32) : Int32 := (T_178 s 16 80 p1)
set_option maxRecDepth 20000 in
theorem sp_161 {R : hm_R} (hR : hm_Cm R) {N L : Nat} {g : Nat → hm_Sh} {s : hm_St} {b : hm_B} {Q : hm_Q} (hN : 68 ≤ N) {p1 : Int32} (hq : Q (.inr (some (.int (T_161 s p1)))) (N, hm_sh L g, s)) : R 161 0 (lv_args 0 [.ref 14, .int p1]) [] (N, hm_sh L g, s) b Q := by
  unfold T_161 at hq
  show R 161 0 [(0, .ref 14), (1, .int p1)] [] (N, hm_sh L g, s) _ Q
  refine hm_st hR (hm_st hR ⟨rfl, hm_le rfl, (hm_ltN hN rfl), hm_st hR (?_)⟩)
  refine hm_st hR ⟨hm_le rfl, rfl, (hm_le rfl), (hm_ltN hN rfl), hm_le rfl, hm_le rfl, (0, 0), Nat.zero_le _, Nat.zero_le _, ?_⟩
  refine sp_178 hR hN (rr := 15) (aa := 16) (nn := 80) rfl rfl (hm_le rfl) (hm_ltN hN rfl) rfl rfl (hm_le rfl) (hm_ltN hN rfl) (by decide) ?_
  show R 161 8 [(0, .ref 14), (1, .int p1)] [.int (T_178 s 16 80 p1)] (N, hm_sh L g, s) _ Q
  exact hm_st hR ⟨fun z => absurd z (by decide), hq⟩
/-- CurvekeyHouse$Points.y(I)I -/
def T_162 (s : hm_St) (p1 : Int32) : Int32 := (T_178 s 18 80 p1)
set_option maxRecDepth 20000 in
theorem sp_162 {R : hm_R} (hR : hm_Cm R) {N L : Nat} {g : Nat → hm_Sh} {s : hm_St} {b : hm_B} {Q : hm_Q} (hN : 68 ≤ N) {p1 : Int32} (hq : Q (.inr (some (.int (T_162 s p1)))) (N, hm_sh L g, s)) : R 162 0 (lv_args 0 [.ref 14, .int p1]) [] (N, hm_sh L g, s) b Q := by
  unfold T_162 at hq
  show R 162 0 [(0, .ref 14), (1, .int p1)] [] (N, hm_sh L g, s) _ Q
  refine hm_st hR (hm_st hR ⟨rfl, hm_le rfl, (hm_ltN hN rfl), hm_st hR (?_)⟩)
  refine hm_st hR ⟨hm_le rfl, rfl, (hm_le rfl), (hm_ltN hN rfl), hm_le rfl, hm_le rfl, (0, 0), Nat.zero_le _, Nat.zero_le _, ?_⟩
  refine sp_178 hR hN (rr := 17) (aa := 18) (nn := 80) rfl rfl (hm_le rfl) (hm_ltN hN rfl) rfl rfl (hm_le rfl) (hm_ltN hN rfl) (by decide) ?_
  show R 162 8 [(0, .ref 14), (1, .int p1)] [.int (T_178 s 18 80 p1)] (N, hm_sh L g, s) _ Q
  exact hm_st hR ⟨fun z => absurd z (by decide), hq⟩
/-- CurvekeyHouse$History.end(I)V -/
def T_121 (s : hm_St) (p1 : Int32) : hm_St := (T_179 s 33 2048 (T_178 s 35 80 p1) (s 25 9))
theorem N_121 {c j : Nat} (h33 : c ≠ 33) {s : hm_St} {p1 : Int32} : (T_121 s p1) c j = s c j := by
  unfold T_121
  repeat' split
  all_goals first | with_reducible rfl | simp only [hm_w1n h33, N_179 h33]
set_option maxRecDepth 20000 in
theorem sp_121 {R : hm_R} (hR : hm_Cm R) {N L : Nat} {g : Nat → hm_Sh} {s : hm_St} {b : hm_B} {Q : hm_Q} (hN : 68 ≤ N) {p1 : Int32} (hq : Q (.inr none) (N, hm_sh L g, (T_121 s p1))) : R 121 0 (lv_args 0 [.ref 25, .int p1]) [] (N, hm_sh L g, s) b Q := by
  unfold T_121 at hq
  show R 121 0 [(0, .ref 25), (1, .int p1)] [] (N, hm_sh L g, s) _ Q
  refine hm_st hR (hm_st hR ⟨rfl, hm_le rfl, (hm_ltN hN rfl), hm_st hR (hm_st hR ⟨rfl, hm_le rfl, (hm_ltN hN rfl), hm_st hR (?_)⟩)⟩)
  refine hm_st hR ⟨hm_le rfl, rfl, (hm_le rfl), (hm_ltN hN rfl), hm_le rfl, hm_le rfl, (0, 0), Nat.zero_le _, Nat.zero_le _, ?_⟩
  refine sp_178 hR hN (rr := 34) (aa := 35) (nn := 80) rfl rfl (hm_le rfl) (hm_ltN hN rfl) rfl rfl (hm_le rfl) (hm_ltN hN rfl) (by decide) ?_
  show R 121 12 [(0, .ref 25), (1, .int p1)] [.int (T_178 s 35 80 p1), .ref 32] (N, hm_sh L g, s) _ Q
  refine hm_st hR (hm_st hR ⟨rfl, hm_le rfl, (hm_ltN hN rfl), ?_⟩)
  refine hm_st hR ⟨hm_le rfl, rfl, (hm_le rfl), (hm_ltN hN rfl), hm_le rfl, hm_le rfl, (0, 0), Nat.zero_le _, Nat.zero_le _, ?_⟩
  refine sp_179 hR hN (rr := 32) (aa := 33) (nn := 2048) rfl rfl (hm_le rfl) (hm_ltN hN rfl) rfl rfl (hm_le rfl) (hm_ltN hN rfl) (by decide) ?_
  show R 121 19 [(0, .ref 25), (1, .int p1)] [] (N, hm_sh L g, (T_179 s 33 2048 (T_178 s 35 80 p1) (s 25 9))) _ Q
  exact hm_st hR (hq)
/-- CurvekeyHouse$Pages.bury(I)V -/
def T_151 (s : hm_St) (p1 : Int32) : hm_St := (hm_w1 (T_179 s 44 1024 p1 (-2)) 42 5 (((T_179 s 44 1024 p1 (-2)) 42 5) + 1))
theorem N_151 {c j : Nat} (h42 : c ≠ 42) (h44 : c ≠ 44) {s : hm_St} {p1 : Int32} : (T_151 s p1) c j = s c j := by
  unfold T_151
  repeat' split
  all_goals first | with_reducible rfl | simp only [hm_w1n h42, hm_w1n h44, N_179 h42, N_179 h44]
set_option maxRecDepth 20000 in
theorem sp_151 {R : hm_R} (hR : hm_Cm R) {N L : Nat} {g : Nat → hm_Sh} {s : hm_St} {b : hm_B} {Q : hm_Q} (hN : 68 ≤ N) {p1 : Int32} (hq : Q (.inr none) (N, hm_sh L g, (T_151 s p1))) : R 151 0 (lv_args 0 [.ref 42, .int p1]) [] (N, hm_sh L g, s) b Q := by
  unfold T_151 at hq
  show R 151 0 [(0, .ref 42), (1, .int p1)] [] (N, hm_sh L g, s) _ Q
  refine hm_st hR (hm_st hR ⟨rfl, hm_le rfl, (hm_ltN hN rfl), hm_st hR (hm_st hR (?_))⟩)
  refine hm_st hR ⟨hm_le rfl, rfl, (hm_le rfl), (hm_ltN hN rfl), hm_le rfl, hm_le rfl, (0, 0), Nat.zero_le _, Nat.zero_le _, ?_⟩
  refine sp_179 hR hN (rr := 43) (aa := 44) (nn := 1024) rfl rfl (hm_le rfl) (hm_ltN hN rfl) rfl rfl (hm_le rfl) (hm_ltN hN rfl) (by decide) ?_
  show R 151 10 [(0, .ref 42), (1, .int p1)] [] (N, hm_sh L g, (T_179 s 44 1024 p1 (-2))) _ Q
  refine hm_st hR (hm_st hR ⟨rfl, hm_st hR ⟨rfl, hm_le rfl, (hm_ltN hN rfl), hm_st hR (hm_st hR (hm_st hR ⟨rfl, rfl, hm_le rfl, (hm_ltN hN rfl), ?_⟩))⟩⟩)
  show R 151 20 [(0, .ref 42), (1, .int p1)] [] (N, hm_sh L g, (hm_w1 (T_179 s 44 1024 p1 (-2)) 42 5 (((T_179 s 44 1024 p1 (-2)) 42 5) + 1))) _ Q
  exact hm_st hR (hq)
/-- CurvekeyHouse.leave(I)V -/
def T_46 (s : hm_St) (p1 : Int32) : hm_St := (T_191 (T_76 (T_151 (T_121 s p1) (T_39 (T_121 s p1) (T_161 s p1) (T_162 s p1))) (T_161 s p1) (T_162 s p1) (-1)) (T_161 s p1) (T_162 s p1))
theorem N_46 {c j : Nat} (h33 : c ≠ 33) (h42 : c ≠ 42) (h44 : c ≠ 44) (h49 : c ≠ 49) (h58 : c ≠ 58) {s : hm_St} {p1 : Int32} : (T_46 s p1) c j = s c j := by
  unfold T_46
  repeat' split
  all_goals first | with_reducible rfl | simp only [hm_w1n h33, hm_w1n h42, hm_w1n h44, hm_w1n h49, hm_w1n h58, N_76 h49, N_121 h33, N_151 h42 h44, N_191 h58]
set_option maxRecDepth 20000 in
theorem sp_46 {R : hm_R} (hR : hm_Cm R) {N L : Nat} {g : Nat → hm_Sh} {s : hm_St} {b : hm_B} {Q : hm_Q} (hN : 68 ≤ N) {p1 : Int32} (hO : s 47 1 < 100000) (hq : Q (.inr none) (N, hm_sh L g, (T_46 s p1))) : R 46 0 (lv_args 0 [.ref 2, .int p1]) [] (N, hm_sh L g, s) b Q := by
  unfold T_46 at hq
  show R 46 0 [(0, .ref 2), (1, .int p1)] [] (N, hm_sh L g, s) _ Q
  refine hm_st hR (hm_st hR ⟨rfl, hm_le rfl, (hm_ltN hN rfl), hm_st hR (?_)⟩)
  refine hm_st hR ⟨hm_le rfl, rfl, (hm_le rfl), (hm_ltN hN rfl), hm_le rfl, hm_le rfl, (0, 0), Nat.zero_le _, Nat.zero_le _, ?_⟩
  refine sp_161 hR hN ?_
  show R 46 8 [(0, .ref 2), (1, .int p1)] [.int (T_161 s p1)] (N, hm_sh L g, s) _ Q
  refine hm_st hR (hm_st hR (hm_st hR ⟨rfl, hm_le rfl, (hm_ltN hN rfl), hm_st hR (?_)⟩))
  refine hm_st hR ⟨hm_le rfl, rfl, (hm_le rfl), (hm_ltN hN rfl), hm_le rfl, hm_le rfl, (0, 0), Nat.zero_le _, Nat.zero_le _, ?_⟩
  refine sp_162 hR hN ?_
  show R 46 17 [(2, .int (T_161 s p1)), (0, .ref 2), (1, .int p1)] [.int (T_162 s p1)] (N, hm_sh L g, s) _ Q
  refine hm_st hR (hm_st hR (hm_st hR ⟨rfl, hm_le rfl, (hm_ltN hN rfl), hm_st hR (?_)⟩))
  refine hm_st hR ⟨hm_le rfl, rfl, (hm_le rfl), (hm_ltN hN rfl), hm_le rfl, hm_le rfl, (0, 0), Nat.zero_le _, Nat.zero_le _, ?_⟩
  refine sp_121 hR hN ?_
  show R 46 26 [(3, .int (T_162 s p1)), (2, .int (T_161 s p1)), (0, .ref 2), (1, .int p1)] [] (N, hm_sh L g, (T_121 s p1)) _ Q
  refine hm_st hR (hm_st hR ⟨rfl, hm_le rfl, (hm_ltN hN rfl), hm_st hR (hm_st hR (hm_st hR (?_)))⟩)
  refine hm_st hR ⟨hm_le rfl, rfl, (hm_le rfl), (hm_ltN hN rfl), hm_le rfl, hm_le rfl, (0, 0), Nat.zero_le _, Nat.zero_le _, ?_⟩
  refine sp_39 hR hN ?_
  show R 46 36 [(3, .int (T_162 s p1)), (2, .int (T_161 s p1)), (0, .ref 2), (1, .int p1)] [.int (T_39 (T_121 s p1) (T_161 s p1) (T_162 s p1)), .ref 42] (N, hm_sh L g, (T_121 s p1)) _ Q
  refine hm_st hR ⟨hm_le rfl, rfl, (hm_le rfl), (hm_ltN hN rfl), hm_le rfl, hm_le rfl, (0, 0), Nat.zero_le _, Nat.zero_le _, ?_⟩
  refine sp_151 hR hN ?_
  show R 46 39 [(3, .int (T_162 s p1)), (2, .int (T_161 s p1)), (0, .ref 2), (1, .int p1)] [] (N, hm_sh L g, (T_151 (T_121 s p1) (T_39 (T_121 s p1) (T_161 s p1) (T_162 s p1)))) _ Q
  refine hm_st hR (hm_st hR ⟨rfl, hm_le rfl, (hm_ltN hN rfl), hm_st hR (hm_st hR (hm_st hR (?_)))⟩)
  refine hm_st hR ⟨hm_le rfl, rfl, (hm_le rfl), (hm_ltN hN rfl), hm_le rfl, hm_le rfl, (0, 0), Nat.zero_le _, Nat.zero_le _, ?_⟩
  refine sp_76 hR hN (by simp only [N_151 (show (47 : Nat) ≠ 42 by decide) (show (47 : Nat) ≠ 44 by decide), N_121 (show (47 : Nat) ≠ 33 by decide)]; exact hO) ?_
  show R 46 49 [(3, .int (T_162 s p1)), (2, .int (T_161 s p1)), (0, .ref 2), (1, .int p1)] [] (N, hm_sh L g, (T_76 (T_151 (T_121 s p1) (T_39 (T_121 s p1) (T_161 s p1) (T_162 s p1))) (T_161 s p1) (T_162 s p1) (-1))) _ Q
  refine hm_st hR (hm_st hR ⟨rfl, hm_le rfl, (hm_ltN hN rfl), hm_st hR (hm_st hR ⟨rfl, hm_le rfl, (hm_ltN hN rfl), hm_st hR (hm_st hR (?_))⟩)⟩)
  refine hm_st hR ⟨hm_le rfl, rfl, (hm_le rfl), (hm_ltN hN rfl), hm_le rfl, hm_le rfl, (0, 0), Nat.zero_le _, Nat.zero_le _, ?_⟩
  refine sp_191 hR hN ?_
  show R 46 62 [(3, .int (T_162 s p1)), (2, .int (T_161 s p1)), (0, .ref 2), (1, .int p1)] [] (N, hm_sh L g, (T_191 (T_76 (T_151 (T_121 s p1) (T_39 (T_121 s p1) (T_161 s p1) (T_162 s p1))) (T_161 s p1) (T_162 s p1) (-1)) (T_161 s p1) (T_162 s p1))) _ Q
  exact hm_st hR (hq)
/-- CurvekeyHouse.relocate(III)V -/
def T_44 (s : hm_St) (p1 : Int32) (p2 : Int32) (p3 : Int32) : hm_St := (T_45 (T_46 (T_117 s) p1) p1 p2 p3)
theorem N_44 {c j : Nat} (h16 : c ≠ 16) (h18 : c ≠ 18) (h25 : c ≠ 25) (h27 : c ≠ 27) (h29 : c ≠ 29) (h31 : c ≠ 31) (h33 : c ≠ 33) (h35 : c ≠ 35) (h37 : c ≠ 37) (h42 : c ≠ 42) (h44 : c ≠ 44) (h46 : c ≠ 46) (h49 : c ≠ 49) (h58 : c ≠ 58) {s : hm_St} {p1 : Int32} {p2 : Int32} {p3 : Int32} : (T_44 s p1 p2 p3) c j = s c j := by
  unfold T_44
  repeat' split
  all_goals first | with_reducible rfl | simp only [hm_w1n h16, hm_w1n h18, hm_w1n h25, hm_w1n h27, hm_w1n h29, hm_w1n h31, hm_w1n h33, hm_w1n h35, hm_w1n h37, hm_w1n h42, hm_w1n h44, hm_w1n h46, hm_w1n h49, hm_w1n h58, N_45 h16 h18 h25 h27 h29 h31 h33 h35 h37 h42 h44 h46 h49 h58, N_46 h33 h42 h44 h49 h58, N_117 h25]
set_option maxRecDepth 20000 in
theorem sp_44 {R : hm_R} (hR : hm_Cm R) {N L : Nat} {g : Nat → hm_Sh} {s : hm_St} {b : hm_B} {Q : hm_Q} (hN : 68 ≤ N) {p1 : Int32} {p2 : Int32} {p3 : Int32} (hO : s 47 1 < 100000) (hq : Q (.inr none) (N, hm_sh L g, (T_44 s p1 p2 p3))) : R 44 0 (lv_args 0 [.ref 2, .int p1, .int p2, .int p3]) [] (N, hm_sh L g, s) b Q := by
  unfold T_44 at hq
  show R 44 0 [(0, .ref 2), (1, .int p1), (2, .int p2), (3, .int p3)] [] (N, hm_sh L g, s) _ Q
  refine hm_st hR (hm_st hR ⟨rfl, hm_le rfl, (hm_ltN hN rfl), ?_⟩)
  refine hm_st hR ⟨hm_le rfl, rfl, (hm_le rfl), (hm_ltN hN rfl), hm_le rfl, hm_le rfl, (0, 0), Nat.zero_le _, Nat.zero_le _, ?_⟩
  refine sp_117 hR hN ?_
  show R 44 7 [(0, .ref 2), (1, .int p1), (2, .int p2), (3, .int p3)] [] (N, hm_sh L g, (T_117 s)) _ Q
  refine hm_st hR (hm_st hR (?_))
  refine hm_st hR ⟨hm_le rfl, rfl, (hm_le rfl), (hm_ltN hN rfl), hm_le rfl, hm_le rfl, (0, 0), Nat.zero_le _, Nat.zero_le _, ?_⟩
  refine sp_46 hR hN hO ?_
  show R 44 12 [(0, .ref 2), (1, .int p1), (2, .int p2), (3, .int p3)] [] (N, hm_sh L g, (T_46 (T_117 s) p1)) _ Q
  refine hm_st hR (hm_st hR (hm_st hR (hm_st hR (?_))))
  refine hm_st hR ⟨hm_le rfl, rfl, (hm_le rfl), (hm_ltN hN rfl), hm_le rfl, hm_le rfl, (0, 0), Nat.zero_le _, Nat.zero_le _, ?_⟩
  refine sp_45 hR hN (by simp only [N_46 (show (47 : Nat) ≠ 33 by decide) (show (47 : Nat) ≠ 42 by decide) (show (47 : Nat) ≠ 44 by decide) (show (47 : Nat) ≠ 49 by decide) (show (47 : Nat) ≠ 58 by decide), N_117 (show (47 : Nat) ≠ 25 by decide)]; exact hO) ?_
  show R 44 19 [(0, .ref 2), (1, .int p1), (2, .int p2), (3, .int p3)] [] (N, hm_sh L g, (T_45 (T_46 (T_117 s) p1) p1 p2 p3)) _ Q
  exact hm_st hR (hq)
/-- CurvekeyHouse.move(III)I -/
def T_7 (N : Nat) (g : Nat → hm_Sh) (s : hm_St) (p1 : Int32) (p2 : Int32) (p3 : Int32) : hm_Er Int32 := (if ((T_159 s p1) : Int32) = 0 then (3, 0, N, g, s) else (if ((T_37 s p2 p3) : Int32) = 0 then (1, 0, N, g, s) else (if (T_160 s p1) = 0 then (2, 0, N, g, s) else (if (T_41 s p2 p3) = (-1) then (if (T_41 s p2 p3) = (-1) then (0, (T_39 (T_44 s p1 p2 p3) p2 p3), N, g, (T_44 s p1 p2 p3)) else (0, (T_39 s p2 p3), N, g, s)) else (if ((if (T_41 s p2 p3) = p1 then (1 : Int32) else 0) : Int32) = 0 then (2, 0, N, g, s) else (if (T_41 s p2 p3) = (-1) then (0, (T_39 (T_44 s p1 p2 p3) p2 p3), N, g, (T_44 s p1 p2 p3)) else (0, (T_39 s p2 p3), N, g, s)))))))
theorem N_7 {c j : Nat} (h16 : c ≠ 16) (h18 : c ≠ 18) (h25 : c ≠ 25) (h27 : c ≠ 27) (h29 : c ≠ 29) (h31 : c ≠ 31) (h33 : c ≠ 33) (h35 : c ≠ 35) (h37 : c ≠ 37) (h42 : c ≠ 42) (h44 : c ≠ 44) (h46 : c ≠ 46) (h49 : c ≠ 49) (h58 : c ≠ 58) {N : Nat} {g : Nat → hm_Sh} {s : hm_St} {p1 : Int32} {p2 : Int32} {p3 : Int32} : (T_7 N g s p1 p2 p3).2.2.2.2 c j = s c j := by
  unfold T_7
  repeat' split
  all_goals first | with_reducible rfl | simp only [hm_w1n h16, hm_w1n h18, hm_w1n h25, hm_w1n h27, hm_w1n h29, hm_w1n h31, hm_w1n h33, hm_w1n h35, hm_w1n h37, hm_w1n h42, hm_w1n h44, hm_w1n h46, hm_w1n h49, hm_w1n h58, N_44 h16 h18 h25 h27 h29 h31 h33 h35 h37 h42 h44 h46 h49 h58]
set_option maxRecDepth 20000 in
theorem sp_7 {R : hm_R} (hR : hm_Cm R) {N L : Nat} {g : Nat → hm_Sh} {s : hm_St} {b : hm_B} {Q : hm_Q} (hN : 68 ≤ N) (hb1 : 1 ≤ b.1) (hb2 : 6 ≤ b.2) {p1 : Int32} {p2 : Int32} {p3 : Int32} (hO : s 47 1 < 100000) (hq : hm_qx Q L (fun v => some (.int v)) (T_7 N g s p1 p2 p3)) : R 7 0 (lv_args 0 [.ref 2, .int p1, .int p2, .int p3]) [] (N, hm_sh L g, s) b Q := by
  unfold T_7 at hq
  show R 7 0 [(0, .ref 2), (1, .int p1), (2, .int p2), (3, .int p3)] [] (N, hm_sh L g, s) _ Q
  refine hm_st hR (hm_st hR ⟨rfl, hm_le rfl, (hm_ltN hN rfl), hm_st hR (?_)⟩)
  refine hm_st hR ⟨hm_le rfl, rfl, (hm_le rfl), (hm_ltN hN rfl), hm_le rfl, hm_le rfl, (0, 0), Nat.zero_le _, Nat.zero_le _, ?_⟩
  refine sp_159 hR hN ?_
  show R 7 8 [(0, .ref 2), (1, .int p1), (2, .int p2), (3, .int p3)] [.int (T_159 s p1)] (N, hm_sh L g, s) _ Q
  show R 7 8 [(0, .ref 2), (1, .int p1), (2, .int p2), (3, .int p3)] [.int (T_159 s p1)] (N, hm_sh L g, s) _ Q
  by_cases c8 : ((T_159 s p1) : Int32) = 0
  · rw [if_pos c8] at hq
    exact hm_st hR ⟨hm_le rfl, hm_le rfl, hm_le rfl, (1, 6), (by show 1 ≤ b.1 - 0; omega), (by show 6 ≤ b.2 - 0; omega), hm_needT33 hR hN c8 (fun N2 hN2 => hm_KX (by decide) (hq N2 hN2))⟩
  · rw [if_neg c8] at hq
    refine hm_st hR ⟨hm_le rfl, hm_le rfl, hm_le rfl, (0, 0), Nat.zero_le _, Nat.zero_le _, hm_needP33 hR c8 ?_⟩
    show R 7 11 [(0, .ref 2), (1, .int p1), (2, .int p2), (3, .int p3)] [] (N, hm_sh L g, s) _ Q
    refine hm_st hR (hm_st hR (hm_st hR (?_)))
    refine hm_st hR ⟨hm_le rfl, rfl, (hm_le rfl), (hm_ltN hN rfl), hm_le rfl, hm_le rfl, (0, 0), Nat.zero_le _, Nat.zero_le _, ?_⟩
    refine sp_37 hR hN ?_
    show R 7 17 [(0, .ref 2), (1, .int p1), (2, .int p2), (3, .int p3)] [.int (T_37 s p2 p3)] (N, hm_sh L g, s) _ Q
    show R 7 17 [(0, .ref 2), (1, .int p1), (2, .int p2), (3, .int p3)] [.int (T_37 s p2 p3)] (N, hm_sh L g, s) _ Q
    by_cases c17 : ((T_37 s p2 p3) : Int32) = 0
    · rw [if_pos c17] at hq
      exact hm_st hR ⟨hm_le rfl, hm_le rfl, hm_le rfl, (1, 6), (by show 1 ≤ b.1 - 0 - 0 - 0; omega), (by show 6 ≤ b.2 - 0 - 0 - 0; omega), hm_needT31 hR hN c17 (fun N2 hN2 => hm_KX (by decide) (hq N2 hN2))⟩
    · rw [if_neg c17] at hq
      refine hm_st hR ⟨hm_le rfl, hm_le rfl, hm_le rfl, (0, 0), Nat.zero_le _, Nat.zero_le _, hm_needP31 hR c17 ?_⟩
      show R 7 20 [(0, .ref 2), (1, .int p1), (2, .int p2), (3, .int p3)] [] (N, hm_sh L g, s) _ Q
      refine hm_st hR (hm_st hR (hm_st hR (?_)))
      refine hm_st hR ⟨hm_le rfl, rfl, (hm_le rfl), (hm_ltN hN rfl), hm_le rfl, hm_le rfl, (0, 0), Nat.zero_le _, Nat.zero_le _, ?_⟩
      refine sp_41 hR hN ?_
      show R 7 26 [(0, .ref 2), (1, .int p1), (2, .int p2), (3, .int p3)] [.int (T_41 s p2 p3)] (N, hm_sh L g, s) _ Q
      refine hm_st hR (hm_st hR (hm_st hR ⟨rfl, hm_le rfl, (hm_ltN hN rfl), hm_st hR (?_)⟩))
      refine hm_st hR ⟨hm_le rfl, rfl, (hm_le rfl), (hm_ltN hN rfl), hm_le rfl, hm_le rfl, (0, 0), Nat.zero_le _, Nat.zero_le _, ?_⟩
      refine sp_160 hR hN ?_
      show R 7 36 [(4, .int (T_41 s p2 p3)), (0, .ref 2), (1, .int p1), (2, .int p2), (3, .int p3)] [.int (T_160 s p1)] (N, hm_sh L g, s) _ Q
      show R 7 36 [(4, .int (T_41 s p2 p3)), (0, .ref 2), (1, .int p1), (2, .int p2), (3, .int p3)] [.int (T_160 s p1)] (N, hm_sh L g, s) _ Q
      refine hm_st hR ⟨fun c36 => ?_, fun c36 => ?_⟩
      · rw [if_pos c36] at hq
        show R 7 55 [(4, .int (T_41 s p2 p3)), (0, .ref 2), (1, .int p1), (2, .int p2), (3, .int p3)] [] (N, hm_sh L g, s) _ Q
        refine hm_st hR (?_)
        show R 7 56 [(4, .int (T_41 s p2 p3)), (0, .ref 2), (1, .int p1), (2, .int p2), (3, .int p3)] [.int 0] (N, hm_sh L g, s) _ Q
        exact hm_st hR ⟨hm_le rfl, hm_le rfl, hm_le rfl, (1, 6), (by show 1 ≤ b.1 - 0 - 0 - 0 - 0 - 0 - 0; omega), (by show 6 ≤ b.2 - 0 - 0 - 0 - 0 - 0 - 0; omega), hm_needT32 hR hN rfl (fun N2 hN2 => hm_KX (by decide) (hq N2 hN2))⟩
      · rw [if_neg c36] at hq
        show R 7 39 [(4, .int (T_41 s p2 p3)), (0, .ref 2), (1, .int p1), (2, .int p2), (3, .int p3)] [] (N, hm_sh L g, s) _ Q
        refine hm_st hR (hm_st hR (?_))
        show R 7 42 [(4, .int (T_41 s p2 p3)), (0, .ref 2), (1, .int p1), (2, .int p2), (3, .int p3)] [.int (-1), .int (T_41 s p2 p3)] (N, hm_sh L g, s) _ Q
        refine hm_st hR ⟨fun c42 => ?_, fun c42 => ?_⟩
        · rw [if_pos c42] at hq
          show R 7 51 [(4, .int (T_41 s p2 p3)), (0, .ref 2), (1, .int p1), (2, .int p2), (3, .int p3)] [] (N, hm_sh L g, s) _ Q
          refine hm_st hR (hm_st hR (?_))
          show R 7 56 [(4, .int (T_41 s p2 p3)), (0, .ref 2), (1, .int p1), (2, .int p2), (3, .int p3)] [.int 1] (N, hm_sh L g, s) _ Q
          refine hm_st hR ⟨hm_le rfl, hm_le rfl, hm_le rfl, (0, 0), Nat.zero_le _, Nat.zero_le _, hm_needP32 hR (by decide) ?_⟩
          show R 7 59 [(4, .int (T_41 s p2 p3)), (0, .ref 2), (1, .int p1), (2, .int p2), (3, .int p3)] [] (N, hm_sh L g, s) _ Q
          refine hm_st hR (hm_st hR (?_))
          show R 7 62 [(4, .int (T_41 s p2 p3)), (0, .ref 2), (1, .int p1), (2, .int p2), (3, .int p3)] [.int (-1), .int (T_41 s p2 p3)] (N, hm_sh L g, s) _ Q
          refine hm_st hR ⟨fun c62 => ?_, fun c62 => ?_⟩
          · rw [if_neg c62] at hq
            show R 7 72 [(4, .int (T_41 s p2 p3)), (0, .ref 2), (1, .int p1), (2, .int p2), (3, .int p3)] [] (N, hm_sh L g, s) _ Q
            refine hm_st hR (hm_st hR (hm_st hR (?_)))
            refine hm_st hR ⟨hm_le rfl, rfl, (hm_le rfl), (hm_ltN hN rfl), hm_le rfl, hm_le rfl, (0, 0), Nat.zero_le _, Nat.zero_le _, ?_⟩
            refine sp_39 hR hN ?_
            show R 7 78 [(4, .int (T_41 s p2 p3)), (0, .ref 2), (1, .int p1), (2, .int p2), (3, .int p3)] [.int (T_39 s p2 p3)] (N, hm_sh L g, s) _ Q
            exact hm_st hR ⟨fun z => absurd z (by decide), hm_qx0 hq⟩
          · rw [if_pos c62] at hq
            show R 7 65 [(4, .int (T_41 s p2 p3)), (0, .ref 2), (1, .int p1), (2, .int p2), (3, .int p3)] [] (N, hm_sh L g, s) _ Q
            refine hm_st hR (hm_st hR (hm_st hR (hm_st hR (?_))))
            refine hm_st hR ⟨hm_le rfl, rfl, (hm_le rfl), (hm_ltN hN rfl), hm_le rfl, hm_le rfl, (0, 0), Nat.zero_le _, Nat.zero_le _, ?_⟩
            refine sp_44 hR hN hO ?_
            show R 7 72 [(4, .int (T_41 s p2 p3)), (0, .ref 2), (1, .int p1), (2, .int p2), (3, .int p3)] [] (N, hm_sh L g, (T_44 s p1 p2 p3)) _ Q
            refine hm_st hR (hm_st hR (hm_st hR (?_)))
            refine hm_st hR ⟨hm_le rfl, rfl, (hm_le rfl), (hm_ltN hN rfl), hm_le rfl, hm_le rfl, (0, 0), Nat.zero_le _, Nat.zero_le _, ?_⟩
            refine sp_39 hR hN ?_
            show R 7 78 [(4, .int (T_41 s p2 p3)), (0, .ref 2), (1, .int p1), (2, .int p2), (3, .int p3)] [.int (T_39 (T_44 s p1 p2 p3) p2 p3)] (N, hm_sh L g, (T_44 s p1 p2 p3)) _ Q
            exact hm_st hR ⟨fun z => absurd z (by decide), hm_qx0 hq⟩
        · rw [if_neg c42] at hq
          show R 7 45 [(4, .int (T_41 s p2 p3)), (0, .ref 2), (1, .int p1), (2, .int p2), (3, .int p3)] [] (N, hm_sh L g, s) _ Q
          refine hm_st hR (hm_st hR (?_))
          show R 7 48 [(4, .int (T_41 s p2 p3)), (0, .ref 2), (1, .int p1), (2, .int p2), (3, .int p3)] [.int p1, .int (T_41 s p2 p3)] (N, hm_sh L g, s) _ Q
          suffices G : ∀ w : Int32, w = (if (T_41 s p2 p3) = p1 then (1 : Int32) else 0) → R 7 56 [(4, .int (T_41 s p2 p3)), (0, .ref 2), (1, .int p1), (2, .int p2), (3, .int p3)] [.int w] (N, hm_sh L g, s) (b.1 - 0 - 0 - 0 - 0 - 0 - 0, b.2 - 0 - 0 - 0 - 0 - 0 - 0) Q by
            show R 7 48 [(4, .int (T_41 s p2 p3)), (0, .ref 2), (1, .int p1), (2, .int p2), (3, .int p3)] [.int p1, .int (T_41 s p2 p3)] (N, hm_sh L g, s) _ Q
            refine hm_st hR ⟨fun c => ?_, fun c => ?_⟩
            · exact hm_st hR (G _ (if_neg c).symm)
            · exact hm_st hR (hm_st hR (G _ (if_pos c).symm))
          intro w hw
          subst hw
          show R 7 56 [(4, .int (T_41 s p2 p3)), (0, .ref 2), (1, .int p1), (2, .int p2), (3, .int p3)] [.int (if (T_41 s p2 p3) = p1 then (1 : Int32) else 0)] (N, hm_sh L g, s) _ Q
          show R 7 56 [(4, .int (T_41 s p2 p3)), (0, .ref 2), (1, .int p1), (2, .int p2), (3, .int p3)] [.int (if (T_41 s p2 p3) = p1 then (1 : Int32) else 0)] (N, hm_sh L g, s) _ Q
          by_cases c56 : ((if (T_41 s p2 p3) = p1 then (1 : Int32) else 0) : Int32) = 0
          · rw [if_pos c56] at hq
            exact hm_st hR ⟨hm_le rfl, hm_le rfl, hm_le rfl, (1, 6), (by show 1 ≤ b.1 - 0 - 0 - 0 - 0 - 0 - 0; omega), (by show 6 ≤ b.2 - 0 - 0 - 0 - 0 - 0 - 0; omega), hm_needT32 hR hN c56 (fun N2 hN2 => hm_KX (by decide) (hq N2 hN2))⟩
          · rw [if_neg c56] at hq
            refine hm_st hR ⟨hm_le rfl, hm_le rfl, hm_le rfl, (0, 0), Nat.zero_le _, Nat.zero_le _, hm_needP32 hR c56 ?_⟩
            show R 7 59 [(4, .int (T_41 s p2 p3)), (0, .ref 2), (1, .int p1), (2, .int p2), (3, .int p3)] [] (N, hm_sh L g, s) _ Q
            refine hm_st hR (hm_st hR (?_))
            show R 7 62 [(4, .int (T_41 s p2 p3)), (0, .ref 2), (1, .int p1), (2, .int p2), (3, .int p3)] [.int (-1), .int (T_41 s p2 p3)] (N, hm_sh L g, s) _ Q
            refine hm_st hR ⟨fun c62 => ?_, fun c62 => ?_⟩
            · rw [if_neg c62] at hq
              show R 7 72 [(4, .int (T_41 s p2 p3)), (0, .ref 2), (1, .int p1), (2, .int p2), (3, .int p3)] [] (N, hm_sh L g, s) _ Q
              refine hm_st hR (hm_st hR (hm_st hR (?_)))
              refine hm_st hR ⟨hm_le rfl, rfl, (hm_le rfl), (hm_ltN hN rfl), hm_le rfl, hm_le rfl, (0, 0), Nat.zero_le _, Nat.zero_le _, ?_⟩
              refine sp_39 hR hN ?_
              show R 7 78 [(4, .int (T_41 s p2 p3)), (0, .ref 2), (1, .int p1), (2, .int p2), (3, .int p3)] [.int (T_39 s p2 p3)] (N, hm_sh L g, s) _ Q
              exact hm_st hR ⟨fun z => absurd z (by decide), hm_qx0 hq⟩
            · rw [if_pos c62] at hq
              show R 7 65 [(4, .int (T_41 s p2 p3)), (0, .ref 2), (1, .int p1), (2, .int p2), (3, .int p3)] [] (N, hm_sh L g, s) _ Q
              refine hm_st hR (hm_st hR (hm_st hR (hm_st hR (?_))))
              refine hm_st hR ⟨hm_le rfl, rfl, (hm_le rfl), (hm_ltN hN rfl), hm_le rfl, hm_le rfl, (0, 0), Nat.zero_le _, Nat.zero_le _, ?_⟩
              refine sp_44 hR hN hO ?_
              show R 7 72 [(4, .int (T_41 s p2 p3)), (0, .ref 2), (1, .int p1), (2, .int p2), (3, .int p3)] [] (N, hm_sh L g, (T_44 s p1 p2 p3)) _ Q
              refine hm_st hR (hm_st hR (hm_st hR (?_)))
              refine hm_st hR ⟨hm_le rfl, rfl, (hm_le rfl), (hm_ltN hN rfl), hm_le rfl, hm_le rfl, (0, 0), Nat.zero_le _, Nat.zero_le _, ?_⟩
              refine sp_39 hR hN ?_
              show R 7 78 [(4, .int (T_41 s p2 p3)), (0, .ref 2), (1, .int p1), (2, .int p2), (3, .int p3)] [.int (T_39 (T_44 s p1 p2 p3) p2 p3)] (N, hm_sh L g, (T_44 s p1 p2 p3)) _ Q
              exact hm_st hR ⟨fun z => absurd z (by decide), hm_qx0 hq⟩
/-- CurvekeyHouse$History.bid(I)V -/
def T_119 (s : hm_St) (p1 : Int32) : hm_St := (T_179 s 41 80 p1 (s 25 9))
theorem N_119 {c j : Nat} (h41 : c ≠ 41) {s : hm_St} {p1 : Int32} : (T_119 s p1) c j = s c j := by
  unfold T_119
  repeat' split
  all_goals first | with_reducible rfl | simp only [hm_w1n h41, N_179 h41]
set_option maxRecDepth 20000 in
theorem sp_119 {R : hm_R} (hR : hm_Cm R) {N L : Nat} {g : Nat → hm_Sh} {s : hm_St} {b : hm_B} {Q : hm_Q} (hN : 68 ≤ N) {p1 : Int32} (hq : Q (.inr none) (N, hm_sh L g, (T_119 s p1))) : R 119 0 (lv_args 0 [.ref 25, .int p1]) [] (N, hm_sh L g, s) b Q := by
  unfold T_119 at hq
  show R 119 0 [(0, .ref 25), (1, .int p1)] [] (N, hm_sh L g, s) _ Q
  refine hm_st hR (hm_st hR ⟨rfl, hm_le rfl, (hm_ltN hN rfl), hm_st hR (hm_st hR (hm_st hR ⟨rfl, hm_le rfl, (hm_ltN hN rfl), ?_⟩))⟩)
  refine hm_st hR ⟨hm_le rfl, rfl, (hm_le rfl), (hm_ltN hN rfl), hm_le rfl, hm_le rfl, (0, 0), Nat.zero_le _, Nat.zero_le _, ?_⟩
  refine sp_179 hR hN (rr := 40) (aa := 41) (nn := 80) rfl rfl (hm_le rfl) (hm_ltN hN rfl) rfl rfl (hm_le rfl) (hm_ltN hN rfl) (by decide) ?_
  show R 119 12 [(0, .ref 25), (1, .int p1)] [] (N, hm_sh L g, (T_179 s 41 80 p1 (s 25 9))) _ Q
  exact hm_st hR (hq)
/-- CurvekeyHouse$Points.bid(I)V -/
def T_168 (s : hm_St) (p1 : Int32) : hm_St := (hm_w1 (T_179 s 20 80 p1 0) 14 6 (((T_179 s 20 80 p1 0) 14 6) - 1))
theorem N_168 {c j : Nat} (h14 : c ≠ 14) (h20 : c ≠ 20) {s : hm_St} {p1 : Int32} : (T_168 s p1) c j = s c j := by
  unfold T_168
  repeat' split
  all_goals first | with_reducible rfl | simp only [hm_w1n h14, hm_w1n h20, N_179 h14, N_179 h20]
set_option maxRecDepth 20000 in
theorem sp_168 {R : hm_R} (hR : hm_Cm R) {N L : Nat} {g : Nat → hm_Sh} {s : hm_St} {b : hm_B} {Q : hm_Q} (hN : 68 ≤ N) {p1 : Int32} (hq : Q (.inr none) (N, hm_sh L g, (T_168 s p1))) : R 168 0 (lv_args 0 [.ref 14, .int p1]) [] (N, hm_sh L g, s) b Q := by
  unfold T_168 at hq
  show R 168 0 [(0, .ref 14), (1, .int p1)] [] (N, hm_sh L g, s) _ Q
  refine hm_st hR (hm_st hR ⟨rfl, hm_le rfl, (hm_ltN hN rfl), hm_st hR (hm_st hR (?_))⟩)
  refine hm_st hR ⟨hm_le rfl, rfl, (hm_le rfl), (hm_ltN hN rfl), hm_le rfl, hm_le rfl, (0, 0), Nat.zero_le _, Nat.zero_le _, ?_⟩
  refine sp_179 hR hN (rr := 19) (aa := 20) (nn := 80) rfl rfl (hm_le rfl) (hm_ltN hN rfl) rfl rfl (hm_le rfl) (hm_ltN hN rfl) (by decide) ?_
  show R 168 9 [(0, .ref 14), (1, .int p1)] [] (N, hm_sh L g, (T_179 s 20 80 p1 0)) _ Q
  refine hm_st hR (hm_st hR ⟨rfl, hm_st hR ⟨rfl, hm_le rfl, (hm_ltN hN rfl), hm_st hR (hm_st hR (hm_st hR ⟨rfl, rfl, hm_le rfl, (hm_ltN hN rfl), ?_⟩))⟩⟩)
  show R 168 19 [(0, .ref 14), (1, .int p1)] [] (N, hm_sh L g, (hm_w1 (T_179 s 20 80 p1 0) 14 6 (((T_179 s 20 80 p1 0) 14 6) - 1))) _ Q
  exact hm_st hR (hq)
/-- CurvekeyHouse$History.version()I -/
def T_113 (s : hm_St) : Int32 := (s 25 9)
set_option maxRecDepth 20000 in
theorem sp_113 {R : hm_R} (hR : hm_Cm R) {N L : Nat} {g : Nat → hm_Sh} {s : hm_St} {b : hm_B} {Q : hm_Q} (hN : 68 ≤ N) (hq : Q (.inr (some (.int (T_113 s)))) (N, hm_sh L g, s)) : R 113 0 (lv_args 0 [.ref 25]) [] (N, hm_sh L g, s) b Q := by
  unfold T_113 at hq
  show R 113 0 [(0, .ref 25)] [] (N, hm_sh L g, s) _ Q
  refine hm_st hR (hm_st hR ⟨rfl, hm_le rfl, (hm_ltN hN rfl), ?_⟩)
  exact hm_st hR ⟨fun z => absurd z (by decide), hq⟩
