/-! The methods as functions; the abstract machine does them. -/
/-- CurvekeyHouse.ofPoint(II)I -/
def T_10 (N : Nat) (g : Nat → hm_Sh) (s : hm_St) (p1 : Int32) (p2 : Int32) : hm_Er Int32 := (if ((T_159 s p1) : Int32) = 0 then (3, 0, N, g, s) else (if ((T_34 s p2 0 9) : Int32) = 0 then (1, 0, N, g, s) else (0, (T_53 s p1 p2), N, g, s)))
theorem N_10 {c j : Nat}  {N : Nat} {g : Nat → hm_Sh} {s : hm_St} {p1 : Int32} {p2 : Int32} : (T_10 N g s p1 p2).2.2.2.2 c j = s c j := by
  unfold T_10
  repeat' split
  all_goals first | with_reducible rfl | simp only []
set_option maxRecDepth 20000 in
theorem sp_10 {R : hm_R} (hR : hm_Cm R) {N L : Nat} {g : Nat → hm_Sh} {s : hm_St} {b : hm_B} {Q : hm_Q} (hN : 68 ≤ N) (hb1 : 1 ≤ b.1) (hb2 : 6 ≤ b.2) {p1 : Int32} {p2 : Int32} (hq : hm_qx Q L (fun v => some (.int v)) (T_10 N g s p1 p2)) : R 10 0 (lv_args 0 [.ref 2, .int p1, .int p2]) [] (N, hm_sh L g, s) b Q := by
  unfold T_10 at hq
  show R 10 0 [(0, .ref 2), (1, .int p1), (2, .int p2)] [] (N, hm_sh L g, s) _ Q
  refine hm_st hR (hm_st hR ⟨rfl, hm_le rfl, (hm_ltN hN rfl), hm_st hR (?_)⟩)
  refine hm_st hR ⟨hm_le rfl, rfl, (hm_le rfl), (hm_ltN hN rfl), hm_le rfl, hm_le rfl, (0, 0), Nat.zero_le _, Nat.zero_le _, ?_⟩
  refine sp_159 hR hN ?_
  show R 10 8 [(0, .ref 2), (1, .int p1), (2, .int p2)] [.int (T_159 s p1)] (N, hm_sh L g, s) _ Q
  show R 10 8 [(0, .ref 2), (1, .int p1), (2, .int p2)] [.int (T_159 s p1)] (N, hm_sh L g, s) _ Q
  by_cases c8 : ((T_159 s p1) : Int32) = 0
  · rw [if_pos c8] at hq
    exact hm_st hR ⟨hm_le rfl, hm_le rfl, hm_le rfl, (1, 6), (by show 1 ≤ b.1 - 0; omega), (by show 6 ≤ b.2 - 0; omega), hm_needT33 hR hN c8 (fun N2 hN2 => hm_KX (by decide) (hq N2 hN2))⟩
  · rw [if_neg c8] at hq
    refine hm_st hR ⟨hm_le rfl, hm_le rfl, hm_le rfl, (0, 0), Nat.zero_le _, Nat.zero_le _, hm_needP33 hR c8 ?_⟩
    show R 10 11 [(0, .ref 2), (1, .int p1), (2, .int p2)] [] (N, hm_sh L g, s) _ Q
    refine hm_st hR (hm_st hR (hm_st hR (?_)))
    refine hm_st hR ⟨hm_le rfl, hm_le rfl, hm_le rfl, (0, 0), Nat.zero_le _, Nat.zero_le _, ?_⟩
    refine sp_34 hR hN ?_
    show R 10 18 [(0, .ref 2), (1, .int p1), (2, .int p2)] [.int (T_34 s p2 0 9)] (N, hm_sh L g, s) _ Q
    show R 10 18 [(0, .ref 2), (1, .int p1), (2, .int p2)] [.int (T_34 s p2 0 9)] (N, hm_sh L g, s) _ Q
    by_cases c18 : ((T_34 s p2 0 9) : Int32) = 0
    · rw [if_pos c18] at hq
      exact hm_st hR ⟨hm_le rfl, hm_le rfl, hm_le rfl, (1, 6), (by show 1 ≤ b.1 - 0 - 0 - 0; omega), (by show 6 ≤ b.2 - 0 - 0 - 0; omega), hm_needT31 hR hN c18 (fun N2 hN2 => hm_KX (by decide) (hq N2 hN2))⟩
    · rw [if_neg c18] at hq
      refine hm_st hR ⟨hm_le rfl, hm_le rfl, hm_le rfl, (0, 0), Nat.zero_le _, Nat.zero_le _, hm_needP31 hR c18 ?_⟩
      show R 10 21 [(0, .ref 2), (1, .int p1), (2, .int p2)] [] (N, hm_sh L g, s) _ Q
      refine hm_st hR (hm_st hR (hm_st hR (?_)))
      refine hm_st hR ⟨hm_le rfl, rfl, (hm_le rfl), (hm_ltN hN rfl), hm_le rfl, hm_le rfl, (0, 0), Nat.zero_le _, Nat.zero_le _, ?_⟩
      refine sp_53 hR hN ?_
      show R 10 27 [(0, .ref 2), (1, .int p1), (2, .int p2)] [.int (T_53 s p1 p2)] (N, hm_sh L g, s) _ Q
      exact hm_st hR ⟨fun z => absurd z (by decide), hm_qx0 hq⟩
/-- CurvekeyHouse$Curves.order()I -/
def T_85 (s : hm_St) : Int32 := (s 3 5)
set_option maxRecDepth 20000 in
theorem sp_85 {R : hm_R} (hR : hm_Cm R) {N L : Nat} {g : Nat → hm_Sh} {s : hm_St} {b : hm_B} {Q : hm_Q} (hN : 68 ≤ N) (hq : Q (.inr (some (.int (T_85 s)))) (N, hm_sh L g, s)) : R 85 0 (lv_args 0 [.ref 3]) [] (N, hm_sh L g, s) b Q := by
  unfold T_85 at hq
  show R 85 0 [(0, .ref 3)] [] (N, hm_sh L g, s) _ Q
  refine hm_st hR (hm_st hR ⟨rfl, hm_le rfl, (hm_ltN hN rfl), ?_⟩)
  exact hm_st hR ⟨fun z => absurd z (by decide), hq⟩
/-- CurvekeyHouse$Pages.capacity()I -/
def T_134 (s : hm_St) : Int32 := (s 42 3)
set_option maxRecDepth 20000 in
theorem sp_134 {R : hm_R} (hR : hm_Cm R) {N L : Nat} {g : Nat → hm_Sh} {s : hm_St} {b : hm_B} {Q : hm_Q} (hN : 68 ≤ N) (hq : Q (.inr (some (.int (T_134 s)))) (N, hm_sh L g, s)) : R 134 0 (lv_args 0 [.ref 42]) [] (N, hm_sh L g, s) b Q := by
  unfold T_134 at hq
  show R 134 0 [(0, .ref 42)] [] (N, hm_sh L g, s) _ Q
  refine hm_st hR (hm_st hR ⟨rfl, hm_le rfl, (hm_ltN hN rfl), ?_⟩)
  exact hm_st hR ⟨fun z => absurd z (by decide), hq⟩
/-- CurvekeyHouse$Points.living()I -/
def T_158 (s : hm_St) : Int32 := (s 14 6)
set_option maxRecDepth 20000 in
theorem sp_158 {R : hm_R} (hR : hm_Cm R) {N L : Nat} {g : Nat → hm_Sh} {s : hm_St} {b : hm_B} {Q : hm_Q} (hN : 68 ≤ N) (hq : Q (.inr (some (.int (T_158 s)))) (N, hm_sh L g, s)) : R 158 0 (lv_args 0 [.ref 14]) [] (N, hm_sh L g, s) b Q := by
  unfold T_158 at hq
  show R 158 0 [(0, .ref 14)] [] (N, hm_sh L g, s) _ Q
  refine hm_st hR (hm_st hR ⟨rfl, hm_le rfl, (hm_ltN hN rfl), ?_⟩)
  exact hm_st hR ⟨fun z => absurd z (by decide), hq⟩
/-- CurvekeyHouse$Pages.size()I -/
def T_133 (s : hm_St) : Int32 := (s 42 4)
set_option maxRecDepth 20000 in
theorem sp_133 {R : hm_R} (hR : hm_Cm R) {N L : Nat} {g : Nat → hm_Sh} {s : hm_St} {b : hm_B} {Q : hm_Q} (hN : 68 ≤ N) (hq : Q (.inr (some (.int (T_133 s)))) (N, hm_sh L g, s)) : R 133 0 (lv_args 0 [.ref 42]) [] (N, hm_sh L g, s) b Q := by
  unfold T_133 at hq
  show R 133 0 [(0, .ref 42)] [] (N, hm_sh L g, s) _ Q
  refine hm_st hR (hm_st hR ⟨rfl, hm_le rfl, (hm_ltN hN rfl), ?_⟩)
  exact hm_st hR ⟨fun z => absurd z (by decide), hq⟩
/-- CurvekeyHouse$Pages.tombs()I -/
def T_135 (s : hm_St) : Int32 := (s 42 5)
set_option maxRecDepth 20000 in
theorem sp_135 {R : hm_R} (hR : hm_Cm R) {N L : Nat} {g : Nat → hm_Sh} {s : hm_St} {b : hm_B} {Q : hm_Q} (hN : 68 ≤ N) (hq : Q (.inr (some (.int (T_135 s)))) (N, hm_sh L g, s)) : R 135 0 (lv_args 0 [.ref 42]) [] (N, hm_sh L g, s) b Q := by
  unfold T_135 at hq
  show R 135 0 [(0, .ref 42)] [] (N, hm_sh L g, s) _ Q
  refine hm_st hR (hm_st hR ⟨rfl, hm_le rfl, (hm_ltN hN rfl), ?_⟩)
  exact hm_st hR ⟨fun z => absurd z (by decide), hq⟩
/-- CurvekeyHouse.storeFact(I)I -/
def T_55 (s : hm_St) (p1 : Int32) : Int32 := (if p1 = 0 then (T_85 s) else (if p1 = 1 then (s 2 8) else (if p1 = 2 then (T_134 s) else (if p1 = 3 then (T_157 s) else (if p1 = 4 then (T_158 s) else (if p1 = 5 then (T_133 s) else (if p1 = 6 then (T_135 s) else (T_113 s))))))))
set_option maxRecDepth 20000 in
theorem sp_55 {R : hm_R} (hR : hm_Cm R) {N L : Nat} {g : Nat → hm_Sh} {s : hm_St} {b : hm_B} {Q : hm_Q} (hN : 68 ≤ N) {p1 : Int32} (hq : Q (.inr (some (.int (T_55 s p1)))) (N, hm_sh L g, s)) : R 55 0 (lv_args 0 [.ref 2, .int p1]) [] (N, hm_sh L g, s) b Q := by
  unfold T_55 at hq
  show R 55 0 [(0, .ref 2), (1, .int p1)] [] (N, hm_sh L g, s) _ Q
  refine hm_st hR (?_)
  show R 55 1 [(0, .ref 2), (1, .int p1)] [.int p1] (N, hm_sh L g, s) _ Q
  by_cases w1_0 : p1 = 0
  · rw [if_pos w1_0] at hq
    refine hm_tsS hR 44 (by rfl) (by rw [w1_0]; rfl) ?_
    show R 55 44 [(0, .ref 2), (1, .int p1)] [] (N, hm_sh L g, s) _ Q
    refine hm_st hR (hm_st hR ⟨rfl, hm_le rfl, (hm_ltN hN rfl), ?_⟩)
    refine hm_st hR ⟨hm_le rfl, rfl, (hm_le rfl), (hm_ltN hN rfl), hm_le rfl, hm_le rfl, (0, 0), Nat.zero_le _, Nat.zero_le _, ?_⟩
    refine sp_85 hR hN ?_
    show R 55 51 [(0, .ref 2), (1, .int p1)] [.int (T_85 s)] (N, hm_sh L g, s) _ Q
    exact hm_st hR ⟨fun z => absurd z (by decide), hq⟩
  rw [if_neg w1_0] at hq
  by_cases w1_1 : p1 = 1
  · rw [if_pos w1_1] at hq
    refine hm_tsS hR 52 (by rfl) (by rw [w1_1]; rfl) ?_
    show R 55 52 [(0, .ref 2), (1, .int p1)] [] (N, hm_sh L g, s) _ Q
    refine hm_st hR (hm_st hR ⟨rfl, hm_le rfl, (hm_ltN hN rfl), ?_⟩)
    exact hm_st hR ⟨fun z => absurd z (by decide), hq⟩
  rw [if_neg w1_1] at hq
  by_cases w1_2 : p1 = 2
  · rw [if_pos w1_2] at hq
    refine hm_tsS hR 57 (by rfl) (by rw [w1_2]; rfl) ?_
    show R 55 57 [(0, .ref 2), (1, .int p1)] [] (N, hm_sh L g, s) _ Q
    refine hm_st hR (hm_st hR ⟨rfl, hm_le rfl, (hm_ltN hN rfl), ?_⟩)
    refine hm_st hR ⟨hm_le rfl, rfl, (hm_le rfl), (hm_ltN hN rfl), hm_le rfl, hm_le rfl, (0, 0), Nat.zero_le _, Nat.zero_le _, ?_⟩
    refine sp_134 hR hN ?_
    show R 55 64 [(0, .ref 2), (1, .int p1)] [.int (T_134 s)] (N, hm_sh L g, s) _ Q
    exact hm_st hR ⟨fun z => absurd z (by decide), hq⟩
  rw [if_neg w1_2] at hq
  by_cases w1_3 : p1 = 3
  · rw [if_pos w1_3] at hq
    refine hm_tsS hR 65 (by rfl) (by rw [w1_3]; rfl) ?_
    show R 55 65 [(0, .ref 2), (1, .int p1)] [] (N, hm_sh L g, s) _ Q
    refine hm_st hR (hm_st hR ⟨rfl, hm_le rfl, (hm_ltN hN rfl), ?_⟩)
    refine hm_st hR ⟨hm_le rfl, rfl, (hm_le rfl), (hm_ltN hN rfl), hm_le rfl, hm_le rfl, (0, 0), Nat.zero_le _, Nat.zero_le _, ?_⟩
    refine sp_157 hR hN ?_
    show R 55 72 [(0, .ref 2), (1, .int p1)] [.int (T_157 s)] (N, hm_sh L g, s) _ Q
    exact hm_st hR ⟨fun z => absurd z (by decide), hq⟩
  rw [if_neg w1_3] at hq
  by_cases w1_4 : p1 = 4
  · rw [if_pos w1_4] at hq
    refine hm_tsS hR 73 (by rfl) (by rw [w1_4]; rfl) ?_
    show R 55 73 [(0, .ref 2), (1, .int p1)] [] (N, hm_sh L g, s) _ Q
    refine hm_st hR (hm_st hR ⟨rfl, hm_le rfl, (hm_ltN hN rfl), ?_⟩)
    refine hm_st hR ⟨hm_le rfl, rfl, (hm_le rfl), (hm_ltN hN rfl), hm_le rfl, hm_le rfl, (0, 0), Nat.zero_le _, Nat.zero_le _, ?_⟩
    refine sp_158 hR hN ?_
    show R 55 80 [(0, .ref 2), (1, .int p1)] [.int (T_158 s)] (N, hm_sh L g, s) _ Q
    exact hm_st hR ⟨fun z => absurd z (by decide), hq⟩
  rw [if_neg w1_4] at hq
  by_cases w1_5 : p1 = 5
  · rw [if_pos w1_5] at hq
    refine hm_tsS hR 81 (by rfl) (by rw [w1_5]; rfl) ?_
    show R 55 81 [(0, .ref 2), (1, .int p1)] [] (N, hm_sh L g, s) _ Q
    refine hm_st hR (hm_st hR ⟨rfl, hm_le rfl, (hm_ltN hN rfl), ?_⟩)
    refine hm_st hR ⟨hm_le rfl, rfl, (hm_le rfl), (hm_ltN hN rfl), hm_le rfl, hm_le rfl, (0, 0), Nat.zero_le _, Nat.zero_le _, ?_⟩
    refine sp_133 hR hN ?_
    show R 55 88 [(0, .ref 2), (1, .int p1)] [.int (T_133 s)] (N, hm_sh L g, s) _ Q
    exact hm_st hR ⟨fun z => absurd z (by decide), hq⟩
  rw [if_neg w1_5] at hq
  by_cases w1_6 : p1 = 6
  · rw [if_pos w1_6] at hq
    refine hm_tsS hR 89 (by rfl) (by rw [w1_6]; rfl) ?_
    show R 55 89 [(0, .ref 2), (1, .int p1)] [] (N, hm_sh L g, s) _ Q
    refine hm_st hR (hm_st hR ⟨rfl, hm_le rfl, (hm_ltN hN rfl), ?_⟩)
    refine hm_st hR ⟨hm_le rfl, rfl, (hm_le rfl), (hm_ltN hN rfl), hm_le rfl, hm_le rfl, (0, 0), Nat.zero_le _, Nat.zero_le _, ?_⟩
    refine sp_135 hR hN ?_
    show R 55 96 [(0, .ref 2), (1, .int p1)] [.int (T_135 s)] (N, hm_sh L g, s) _ Q
    exact hm_st hR ⟨fun z => absurd z (by decide), hq⟩
  rw [if_neg w1_6] at hq
  refine hm_tsS hR 97 (by rfl) (by exact hm_swD7 w1_0 w1_1 w1_2 w1_3 w1_4 w1_5 w1_6) ?_
  show R 55 97 [(0, .ref 2), (1, .int p1)] [] (N, hm_sh L g, s) _ Q
  refine hm_st hR (hm_st hR ⟨rfl, hm_le rfl, (hm_ltN hN rfl), ?_⟩)
  refine hm_st hR ⟨hm_le rfl, rfl, (hm_le rfl), (hm_ltN hN rfl), hm_le rfl, hm_le rfl, (0, 0), Nat.zero_le _, Nat.zero_le _, ?_⟩
  refine sp_113 hR hN ?_
  show R 55 104 [(0, .ref 2), (1, .int p1)] [.int (T_113 s)] (N, hm_sh L g, s) _ Q
  exact hm_st hR ⟨fun z => absurd z (by decide), hq⟩
/-- CurvekeyHouse$History.size()I -/
def T_112 (s : hm_St) : Int32 := (s 25 8)
set_option maxRecDepth 20000 in
theorem sp_112 {R : hm_R} (hR : hm_Cm R) {N L : Nat} {g : Nat → hm_Sh} {s : hm_St} {b : hm_B} {Q : hm_Q} (hN : 68 ≤ N) (hq : Q (.inr (some (.int (T_112 s)))) (N, hm_sh L g, s)) : R 112 0 (lv_args 0 [.ref 25]) [] (N, hm_sh L g, s) b Q := by
  unfold T_112 at hq
  show R 112 0 [(0, .ref 25)] [] (N, hm_sh L g, s) _ Q
  refine hm_st hR (hm_st hR ⟨rfl, hm_le rfl, (hm_ltN hN rfl), ?_⟩)
  exact hm_st hR ⟨fun z => absurd z (by decide), hq⟩
/-- CurvekeyHouse$Tiles.size()I -/
def T_186 (s : hm_St) : Int32 := (s 50 4)
set_option maxRecDepth 20000 in
theorem sp_186 {R : hm_R} (hR : hm_Cm R) {N L : Nat} {g : Nat → hm_Sh} {s : hm_St} {b : hm_B} {Q : hm_Q} (hN : 68 ≤ N) (hq : Q (.inr (some (.int (T_186 s)))) (N, hm_sh L g, s)) : R 186 0 (lv_args 0 [.ref 50]) [] (N, hm_sh L g, s) b Q := by
  unfold T_186 at hq
  show R 186 0 [(0, .ref 50)] [] (N, hm_sh L g, s) _ Q
  refine hm_st hR (hm_st hR ⟨rfl, hm_le rfl, (hm_ltN hN rfl), ?_⟩)
  exact hm_st hR ⟨fun z => absurd z (by decide), hq⟩
def T_190_4 : Nat → hm_St → Int32 → Int32 → Int32
  | 0, s, _, _ => 0
  | n + 1, s, v1, v2 => (if (s 50 4) ≤ v2 then v1 else (T_190_4 n s (v1 + (T_178 s 58 20 v2)) (v2 + 1)))
/-- CurvekeyHouse$Tiles.staleOnes()I -/
def T_190 (s : hm_St) : Int32 := (T_190_4 (hm_df (s 50 4) 0 + 1) s 0 0)
set_option maxRecDepth 20000 in
theorem lp_190_4 {R : hm_R} (hR : hm_Cm R) {N L : Nat} {g : Nat → hm_Sh} {b : hm_B} {Q : hm_Q} (hN : 68 ≤ N) : ∀ (n : Nat) (s : hm_St) (v1 : Int32) (v2 : Int32), hm_df (s 50 4) v2 < n → (hq : Q (.inr (some (.int (T_190_4 n s v1 v2)))) (N, hm_sh L g, s)) → R 190 4 [(2, .int v2), (1, .int v1), (0, .ref 50)] [] (N, hm_sh L g, s) b Q := by
  intro n
  induction n with
  | zero => intro s v1 v2 hm _; exact absurd hm (Nat.not_lt_zero _)
  | succ n ih =>
    intro s v1 v2 hm hq
    unfold T_190_4 at hq
    refine hm_st hR (hm_st hR (hm_st hR ⟨rfl, hm_le rfl, (hm_ltN hN rfl), ?_⟩))
    show R 190 9 [(2, .int v2), (1, .int v1), (0, .ref 50)] [.int (s 50 4), .int v2] (N, hm_sh L g, s) _ Q
    refine hm_st hR ⟨fun c9 => ?_, fun c9 => ?_⟩
    · rw [if_pos c9] at hq
      show R 190 29 [(2, .int v2), (1, .int v1), (0, .ref 50)] [] (N, hm_sh L g, s) _ Q
      refine hm_st hR (?_)
      exact hm_st hR ⟨fun z => absurd z (by decide), hq⟩
    · rw [if_neg c9] at hq
      show R 190 12 [(2, .int v2), (1, .int v1), (0, .ref 50)] [] (N, hm_sh L g, s) _ Q
      refine hm_st hR (hm_st hR (hm_st hR ⟨rfl, hm_le rfl, (hm_ltN hN rfl), hm_st hR (?_)⟩))
      refine hm_st hR ⟨hm_le rfl, rfl, (hm_le rfl), (hm_ltN hN rfl), hm_le rfl, hm_le rfl, (0, 0), Nat.zero_le _, Nat.zero_le _, ?_⟩
      refine sp_178 hR hN (rr := 57) (aa := 58) (nn := 20) rfl rfl (hm_le rfl) (hm_ltN hN rfl) rfl rfl (hm_le rfl) (hm_ltN hN rfl) (by decide) ?_
      show R 190 21 [(2, .int v2), (1, .int v1), (0, .ref 50)] [.int (T_178 s 58 20 v2), .int v1] (N, hm_sh L g, s) _ Q
      refine hm_st hR (hm_st hR (hm_st hR (hm_st hR (?_))))
      show R 190 4 [(2, .int (v2 + 1)), (1, .int (v1 + (T_178 s 58 20 v2))), (0, .ref 50)] [] (N, hm_sh L g, s) _ Q
      exact hm_lvS hR (by intro q hq; simp only [List.mem_cons, List.not_mem_nil, or_false] at hq ⊢; rcases hq with rfl | rfl | rfl <;> simp) (ih s (v1 + (T_178 s 58 20 v2)) (v2 + 1) (hm_dcx c9 hm) hq)
set_option maxRecDepth 20000 in
theorem sp_190 {R : hm_R} (hR : hm_Cm R) {N L : Nat} {g : Nat → hm_Sh} {s : hm_St} {b : hm_B} {Q : hm_Q} (hN : 68 ≤ N) (hq : Q (.inr (some (.int (T_190 s)))) (N, hm_sh L g, s)) : R 190 0 (lv_args 0 [.ref 50]) [] (N, hm_sh L g, s) b Q := by
  unfold T_190 at hq
  show R 190 0 [(0, .ref 50)] [] (N, hm_sh L g, s) _ Q
  refine hm_st hR (hm_st hR (hm_st hR (hm_st hR (?_))))
  show R 190 4 [(2, .int 0), (1, .int 0), (0, .ref 50)] [] (N, hm_sh L g, s) _ Q
  exact lp_190_4 hR hN _ _ _ _ (Nat.lt_succ_self _) hq
/-- CurvekeyHouse$Pages.splits()I -/
def T_136 (s : hm_St) : Int32 := (s 42 6)
set_option maxRecDepth 20000 in
theorem sp_136 {R : hm_R} (hR : hm_Cm R) {N L : Nat} {g : Nat → hm_Sh} {s : hm_St} {b : hm_B} {Q : hm_Q} (hN : 68 ≤ N) (hq : Q (.inr (some (.int (T_136 s)))) (N, hm_sh L g, s)) : R 136 0 (lv_args 0 [.ref 42]) [] (N, hm_sh L g, s) b Q := by
  unfold T_136 at hq
  show R 136 0 [(0, .ref 42)] [] (N, hm_sh L g, s) _ Q
  refine hm_st hR (hm_st hR ⟨rfl, hm_le rfl, (hm_ltN hN rfl), ?_⟩)
  exact hm_st hR ⟨fun z => absurd z (by decide), hq⟩
/-- CurvekeyHouse.countFact(I)I -/
def T_56 (s : hm_St) (p1 : Int32) : Int32 := (if p1 = 8 then (T_112 s) else (if p1 = 9 then (s 2 11) else (if p1 = 10 then (s 2 10) else (if p1 = 11 then (s 2 9) else (if p1 = 12 then (T_186 s) else (if p1 = 13 then (T_190 s) else (if p1 = 14 then (s 2 12) else (T_136 s))))))))
set_option maxRecDepth 20000 in
theorem sp_56 {R : hm_R} (hR : hm_Cm R) {N L : Nat} {g : Nat → hm_Sh} {s : hm_St} {b : hm_B} {Q : hm_Q} (hN : 68 ≤ N) {p1 : Int32} (hq : Q (.inr (some (.int (T_56 s p1)))) (N, hm_sh L g, s)) : R 56 0 (lv_args 0 [.ref 2, .int p1]) [] (N, hm_sh L g, s) b Q := by
  unfold T_56 at hq
  show R 56 0 [(0, .ref 2), (1, .int p1)] [] (N, hm_sh L g, s) _ Q
  refine hm_st hR (?_)
  show R 56 1 [(0, .ref 2), (1, .int p1)] [.int p1] (N, hm_sh L g, s) _ Q
  by_cases w1_8 : p1 = 8
  · rw [if_pos w1_8] at hq
    refine hm_tsS hR 44 (by rfl) (by rw [w1_8]; rfl) ?_
    show R 56 44 [(0, .ref 2), (1, .int p1)] [] (N, hm_sh L g, s) _ Q
    refine hm_st hR (hm_st hR ⟨rfl, hm_le rfl, (hm_ltN hN rfl), ?_⟩)
    refine hm_st hR ⟨hm_le rfl, rfl, (hm_le rfl), (hm_ltN hN rfl), hm_le rfl, hm_le rfl, (0, 0), Nat.zero_le _, Nat.zero_le _, ?_⟩
    refine sp_112 hR hN ?_
    show R 56 51 [(0, .ref 2), (1, .int p1)] [.int (T_112 s)] (N, hm_sh L g, s) _ Q
    exact hm_st hR ⟨fun z => absurd z (by decide), hq⟩
  rw [if_neg w1_8] at hq
  by_cases w1_9 : p1 = 9
  · rw [if_pos w1_9] at hq
    refine hm_tsS hR 52 (by rfl) (by rw [w1_9]; rfl) ?_
    show R 56 52 [(0, .ref 2), (1, .int p1)] [] (N, hm_sh L g, s) _ Q
    refine hm_st hR (hm_st hR ⟨rfl, hm_le rfl, (hm_ltN hN rfl), ?_⟩)
    exact hm_st hR ⟨fun z => absurd z (by decide), hq⟩
  rw [if_neg w1_9] at hq
  by_cases w1_10 : p1 = 10
  · rw [if_pos w1_10] at hq
    refine hm_tsS hR 57 (by rfl) (by rw [w1_10]; rfl) ?_
    show R 56 57 [(0, .ref 2), (1, .int p1)] [] (N, hm_sh L g, s) _ Q
    refine hm_st hR (hm_st hR ⟨rfl, hm_le rfl, (hm_ltN hN rfl), ?_⟩)
    exact hm_st hR ⟨fun z => absurd z (by decide), hq⟩
  rw [if_neg w1_10] at hq
  by_cases w1_11 : p1 = 11
  · rw [if_pos w1_11] at hq
    refine hm_tsS hR 62 (by rfl) (by rw [w1_11]; rfl) ?_
    show R 56 62 [(0, .ref 2), (1, .int p1)] [] (N, hm_sh L g, s) _ Q
    refine hm_st hR (hm_st hR ⟨rfl, hm_le rfl, (hm_ltN hN rfl), ?_⟩)
    exact hm_st hR ⟨fun z => absurd z (by decide), hq⟩
  rw [if_neg w1_11] at hq
  by_cases w1_12 : p1 = 12
  · rw [if_pos w1_12] at hq
    refine hm_tsS hR 67 (by rfl) (by rw [w1_12]; rfl) ?_
    show R 56 67 [(0, .ref 2), (1, .int p1)] [] (N, hm_sh L g, s) _ Q
    refine hm_st hR (hm_st hR ⟨rfl, hm_le rfl, (hm_ltN hN rfl), ?_⟩)
    refine hm_st hR ⟨hm_le rfl, rfl, (hm_le rfl), (hm_ltN hN rfl), hm_le rfl, hm_le rfl, (0, 0), Nat.zero_le _, Nat.zero_le _, ?_⟩
    refine sp_186 hR hN ?_
    show R 56 74 [(0, .ref 2), (1, .int p1)] [.int (T_186 s)] (N, hm_sh L g, s) _ Q
    exact hm_st hR ⟨fun z => absurd z (by decide), hq⟩
  rw [if_neg w1_12] at hq
  by_cases w1_13 : p1 = 13
  · rw [if_pos w1_13] at hq
    refine hm_tsS hR 75 (by rfl) (by rw [w1_13]; rfl) ?_
    show R 56 75 [(0, .ref 2), (1, .int p1)] [] (N, hm_sh L g, s) _ Q
    refine hm_st hR (hm_st hR ⟨rfl, hm_le rfl, (hm_ltN hN rfl), ?_⟩)
    refine hm_st hR ⟨hm_le rfl, rfl, (hm_le rfl), (hm_ltN hN rfl), hm_le rfl, hm_le rfl, (0, 0), Nat.zero_le _, Nat.zero_le _, ?_⟩
    refine sp_190 hR hN ?_
    show R 56 82 [(0, .ref 2), (1, .int p1)] [.int (T_190 s)] (N, hm_sh L g, s) _ Q
    exact hm_st hR ⟨fun z => absurd z (by decide), hq⟩
  rw [if_neg w1_13] at hq
  by_cases w1_14 : p1 = 14
  · rw [if_pos w1_14] at hq
    refine hm_tsS hR 83 (by rfl) (by rw [w1_14]; rfl) ?_
    show R 56 83 [(0, .ref 2), (1, .int p1)] [] (N, hm_sh L g, s) _ Q
    refine hm_st hR (hm_st hR ⟨rfl, hm_le rfl, (hm_ltN hN rfl), ?_⟩)
    exact hm_st hR ⟨fun z => absurd z (by decide), hq⟩
  rw [if_neg w1_14] at hq
  refine hm_tsS hR 88 (by rfl) (by exact hm_swD7_8 w1_8 w1_9 w1_10 w1_11 w1_12 w1_13 w1_14) ?_
  show R 56 88 [(0, .ref 2), (1, .int p1)] [] (N, hm_sh L g, s) _ Q
  refine hm_st hR (hm_st hR ⟨rfl, hm_le rfl, (hm_ltN hN rfl), ?_⟩)
  refine hm_st hR ⟨hm_le rfl, rfl, (hm_le rfl), (hm_ltN hN rfl), hm_le rfl, hm_le rfl, (0, 0), Nat.zero_le _, Nat.zero_le _, ?_⟩
  refine sp_136 hR hN ?_
  show R 56 95 [(0, .ref 2), (1, .int p1)] [.int (T_136 s)] (N, hm_sh L g, s) _ Q
  exact hm_st hR ⟨fun z => absurd z (by decide), hq⟩
