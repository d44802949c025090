/-! The methods as functions; the abstract machine does them. -/
/-- CurvekeyHouse.isBetween(III)Z -/
def T_34 (s : hm_St) (p1 : Int32) (p2 : Int32) (p3 : Int32) : Int32 := (if p1 < p2 then 0 else (if p3 < p1 then 0 else 1))
theorem B_34 (s : hm_St) (p1 : Int32) (p2 : Int32) (p3 : Int32) : T_34 s p1 p2 p3 = 0 ∨ T_34 s p1 p2 p3 = 1 := by
  unfold T_34
  repeat' split
  all_goals first | exact Or.inl rfl | exact Or.inr rfl
set_option maxRecDepth 20000 in
theorem sp_34 {R : hm_R} (hR : hm_Cm R) {N L : Nat} {g : Nat → hm_Sh} {s : hm_St} {b : hm_B} {Q : hm_Q} (hN : 68 ≤ N) {p1 : Int32} {p2 : Int32} {p3 : Int32} (hq : Q (.inr (some (.int (T_34 s p1 p2 p3)))) (N, hm_sh L g, s)) : R 34 0 (lv_args 0 [.int p1, .int p2, .int p3]) [] (N, hm_sh L g, s) b Q := by
  unfold T_34 at hq
  show R 34 0 [(0, .int p1), (1, .int p2), (2, .int p3)] [] (N, hm_sh L g, s) _ Q
  refine hm_st hR (hm_st hR (?_))
  show R 34 2 [(0, .int p1), (1, .int p2), (2, .int p3)] [.int p2, .int p1] (N, hm_sh L g, s) _ Q
  refine hm_st hR ⟨fun c2 => ?_, fun c2 => ?_⟩
  · rw [if_pos c2] at hq
    show R 34 14 [(0, .int p1), (1, .int p2), (2, .int p3)] [] (N, hm_sh L g, s) _ Q
    refine hm_st hR (?_)
    exact hm_st hR ⟨fun _ => Or.inl rfl, hq⟩
  · rw [if_neg c2] at hq
    show R 34 5 [(0, .int p1), (1, .int p2), (2, .int p3)] [] (N, hm_sh L g, s) _ Q
    refine hm_st hR (hm_st hR (?_))
    show R 34 7 [(0, .int p1), (1, .int p2), (2, .int p3)] [.int p3, .int p1] (N, hm_sh L g, s) _ Q
    suffices G : R 34 15 [(0, .int p1), (1, .int p2), (2, .int p3)] [.int (if p3 < p1 then 0 else 1)] (N, hm_sh L g, s) b Q by
      show R 34 7 [(0, .int p1), (1, .int p2), (2, .int p3)] [.int p3, .int p1] (N, hm_sh L g, s) _ Q
      refine hm_st hR ⟨fun c => ?_, fun c => ?_⟩
      · rw [if_pos c] at G; exact hm_st hR (G)
      · rw [if_neg c] at G; exact hm_st hR (hm_st hR (G))
    exact hm_st hR ⟨fun _ => (by split <;> first | exact Or.inl rfl | exact Or.inr rfl), hq⟩
/-- CurvekeyHouse.isCurve(I)Z -/
def T_35 (s : hm_St) (p1 : Int32) : Int32 := (T_34 s p1 0 5)
theorem B_35 (s : hm_St) (p1 : Int32) : T_35 s p1 = 0 ∨ T_35 s p1 = 1 := by
  unfold T_35
  repeat' split
  all_goals first | exact Or.inl rfl | exact Or.inr rfl | exact B_34 _ _ _ _
set_option maxRecDepth 20000 in
theorem sp_35 {R : hm_R} (hR : hm_Cm R) {N L : Nat} {g : Nat → hm_Sh} {s : hm_St} {b : hm_B} {Q : hm_Q} (hN : 68 ≤ N) {p1 : Int32} (hq : Q (.inr (some (.int (T_35 s p1)))) (N, hm_sh L g, s)) : R 35 0 (lv_args 0 [.int p1]) [] (N, hm_sh L g, s) b Q := by
  unfold T_35 at hq
  show R 35 0 [(0, .int p1)] [] (N, hm_sh L g, s) _ Q
  refine hm_st hR (hm_st hR (hm_st hR (?_)))
  refine hm_st hR ⟨hm_le rfl, hm_le rfl, hm_le rfl, (0, 0), Nat.zero_le _, Nat.zero_le _, ?_⟩
  refine sp_34 hR hN ?_
  show R 35 6 [(0, .int p1)] [.int (T_34 s p1 0 5)] (N, hm_sh L g, s) _ Q
  exact hm_st hR ⟨fun _ => B_34 _ _ _ _, hq⟩
/-- CurvekeyHouse$Curves.side()I -/
def T_86 (s : hm_St) : Int32 := (s 3 6)
set_option maxRecDepth 20000 in
theorem sp_86 {R : hm_R} (hR : hm_Cm R) {N L : Nat} {g : Nat → hm_Sh} {s : hm_St} {b : hm_B} {Q : hm_Q} (hN : 68 ≤ N) (hq : Q (.inr (some (.int (T_86 s)))) (N, hm_sh L g, s)) : R 86 0 (lv_args 0 [.ref 3]) [] (N, hm_sh L g, s) b Q := by
  unfold T_86 at hq
  show R 86 0 [(0, .ref 3)] [] (N, hm_sh L g, s) _ Q
  refine hm_st hR (hm_st hR ⟨rfl, hm_le rfl, (hm_ltN hN rfl), ?_⟩)
  exact hm_st hR ⟨fun z => absurd z (by decide), hq⟩
/-- CurvekeyHouse.isPlace(II)Z -/
def T_37 (s : hm_St) (p1 : Int32) (p2 : Int32) : Int32 := (if (T_34 s p1 0 ((T_86 s) - 1)) = 0 then 0 else (if (T_34 s p2 0 ((T_86 s) - 1)) = 0 then 0 else 1))
theorem B_37 (s : hm_St) (p1 : Int32) (p2 : Int32) : T_37 s p1 p2 = 0 ∨ T_37 s p1 p2 = 1 := by
  unfold T_37
  repeat' split
  all_goals first | exact Or.inl rfl | exact Or.inr rfl | exact B_34 _ _ _ _
set_option maxRecDepth 20000 in
theorem sp_37 {R : hm_R} (hR : hm_Cm R) {N L : Nat} {g : Nat → hm_Sh} {s : hm_St} {b : hm_B} {Q : hm_Q} (hN : 68 ≤ N) {p1 : Int32} {p2 : Int32} (hq : Q (.inr (some (.int (T_37 s p1 p2)))) (N, hm_sh L g, s)) : R 37 0 (lv_args 0 [.ref 2, .int p1, .int p2]) [] (N, hm_sh L g, s) b Q := by
  unfold T_37 at hq
  show R 37 0 [(0, .ref 2), (1, .int p1), (2, .int p2)] [] (N, hm_sh L g, s) _ Q
  refine hm_st hR (hm_st hR (hm_st hR (hm_st hR ⟨rfl, hm_le rfl, (hm_ltN hN rfl), ?_⟩)))
  refine hm_st hR ⟨hm_le rfl, rfl, (hm_le rfl), (hm_ltN hN rfl), hm_le rfl, hm_le rfl, (0, 0), Nat.zero_le _, Nat.zero_le _, ?_⟩
  refine sp_86 hR hN ?_
  show R 37 9 [(0, .ref 2), (1, .int p1), (2, .int p2)] [.int (T_86 s), .int 0, .int p1] (N, hm_sh L g, s) _ Q
  refine hm_st hR (hm_st hR (?_))
  refine hm_st hR ⟨hm_le rfl, hm_le rfl, hm_le rfl, (0, 0), Nat.zero_le _, Nat.zero_le _, ?_⟩
  refine sp_34 hR hN ?_
  show R 37 14 [(0, .ref 2), (1, .int p1), (2, .int p2)] [.int (T_34 s p1 0 ((T_86 s) - 1))] (N, hm_sh L g, s) _ Q
  show R 37 14 [(0, .ref 2), (1, .int p1), (2, .int p2)] [.int (T_34 s p1 0 ((T_86 s) - 1))] (N, hm_sh L g, s) _ Q
  refine hm_st hR ⟨fun c14 => ?_, fun c14 => ?_⟩
  · rw [if_pos c14] at hq
    show R 37 38 [(0, .ref 2), (1, .int p1), (2, .int p2)] [] (N, hm_sh L g, s) _ Q
    refine hm_st hR (?_)
    exact hm_st hR ⟨fun _ => Or.inl rfl, hq⟩
  · rw [if_neg c14] at hq
    show R 37 17 [(0, .ref 2), (1, .int p1), (2, .int p2)] [] (N, hm_sh L g, s) _ Q
    refine hm_st hR (hm_st hR (hm_st hR (hm_st hR ⟨rfl, hm_le rfl, (hm_ltN hN rfl), ?_⟩)))
    refine hm_st hR ⟨hm_le rfl, rfl, (hm_le rfl), (hm_ltN hN rfl), hm_le rfl, hm_le rfl, (0, 0), Nat.zero_le _, Nat.zero_le _, ?_⟩
    refine sp_86 hR hN ?_
    show R 37 26 [(0, .ref 2), (1, .int p1), (2, .int p2)] [.int (T_86 s), .int 0, .int p2] (N, hm_sh L g, s) _ Q
    refine hm_st hR (hm_st hR (?_))
    refine hm_st hR ⟨hm_le rfl, hm_le rfl, hm_le rfl, (0, 0), Nat.zero_le _, Nat.zero_le _, ?_⟩
    refine sp_34 hR hN ?_
    show R 37 31 [(0, .ref 2), (1, .int p1), (2, .int p2)] [.int (T_34 s p2 0 ((T_86 s) - 1))] (N, hm_sh L g, s) _ Q
    show R 37 31 [(0, .ref 2), (1, .int p1), (2, .int p2)] [.int (T_34 s p2 0 ((T_86 s) - 1))] (N, hm_sh L g, s) _ Q
    suffices G : R 37 39 [(0, .ref 2), (1, .int p1), (2, .int p2)] [.int (if (T_34 s p2 0 ((T_86 s) - 1)) = 0 then 0 else 1)] (N, hm_sh L g, s) ((((b.1 - 0, b.2 - 0).1 - 0, (b.1 - 0, b.2 - 0).2 - 0).1 - 0, ((b.1 - 0, b.2 - 0).1 - 0, (b.1 - 0, b.2 - 0).2 - 0).2 - 0).1 - 0, (((b.1 - 0, b.2 - 0).1 - 0, (b.1 - 0, b.2 - 0).2 - 0).1 - 0, ((b.1 - 0, b.2 - 0).1 - 0, (b.1 - 0, b.2 - 0).2 - 0).2 - 0).2 - 0) Q by
      show R 37 31 [(0, .ref 2), (1, .int p1), (2, .int p2)] [.int (T_34 s p2 0 ((T_86 s) - 1))] (N, hm_sh L g, s) _ Q
      refine hm_st hR ⟨fun c => ?_, fun c => ?_⟩
      · rw [if_pos c] at G; exact hm_st hR (G)
      · rw [if_neg c] at G; exact hm_st hR (hm_st hR (G))
    exact hm_st hR ⟨fun _ => (by split <;> first | exact Or.inl rfl | exact Or.inr rfl), hq⟩
/-- CurvekeyHouse$Curves.keyCount()I -/
def T_87 (s : hm_St) : Int32 := ((s 3 6) * (s 3 6))
set_option maxRecDepth 20000 in
theorem sp_87 {R : hm_R} (hR : hm_Cm R) {N L : Nat} {g : Nat → hm_Sh} {s : hm_St} {b : hm_B} {Q : hm_Q} (hN : 68 ≤ N) (hq : Q (.inr (some (.int (T_87 s)))) (N, hm_sh L g, s)) : R 87 0 (lv_args 0 [.ref 3]) [] (N, hm_sh L g, s) b Q := by
  unfold T_87 at hq
  show R 87 0 [(0, .ref 3)] [] (N, hm_sh L g, s) _ Q
  refine hm_st hR (hm_st hR ⟨rfl, hm_le rfl, (hm_ltN hN rfl), hm_st hR (hm_st hR ⟨rfl, hm_le rfl, (hm_ltN hN rfl), hm_st hR (?_)⟩)⟩)
  exact hm_st hR ⟨fun z => absurd z (by decide), hq⟩
/-- CurvekeyHouse.isKey(I)Z -/
def T_36 (s : hm_St) (p1 : Int32) : Int32 := (T_34 s p1 0 ((T_87 s) - 1))
theorem B_36 (s : hm_St) (p1 : Int32) : T_36 s p1 = 0 ∨ T_36 s p1 = 1 := by
  unfold T_36
  repeat' split
  all_goals first | exact Or.inl rfl | exact Or.inr rfl | exact B_34 _ _ _ _
set_option maxRecDepth 20000 in
theorem sp_36 {R : hm_R} (hR : hm_Cm R) {N L : Nat} {g : Nat → hm_Sh} {s : hm_St} {b : hm_B} {Q : hm_Q} (hN : 68 ≤ N) {p1 : Int32} (hq : Q (.inr (some (.int (T_36 s p1)))) (N, hm_sh L g, s)) : R 36 0 (lv_args 0 [.ref 2, .int p1]) [] (N, hm_sh L g, s) b Q := by
  unfold T_36 at hq
  show R 36 0 [(0, .ref 2), (1, .int p1)] [] (N, hm_sh L g, s) _ Q
  refine hm_st hR (hm_st hR (hm_st hR (hm_st hR ⟨rfl, hm_le rfl, (hm_ltN hN rfl), ?_⟩)))
  refine hm_st hR ⟨hm_le rfl, rfl, (hm_le rfl), (hm_ltN hN rfl), hm_le rfl, hm_le rfl, (0, 0), Nat.zero_le _, Nat.zero_le _, ?_⟩
  refine sp_87 hR hN ?_
  show R 36 9 [(0, .ref 2), (1, .int p1)] [.int (T_87 s), .int 0, .int p1] (N, hm_sh L g, s) _ Q
  refine hm_st hR (hm_st hR (?_))
  refine hm_st hR ⟨hm_le rfl, hm_le rfl, hm_le rfl, (0, 0), Nat.zero_le _, Nat.zero_le _, ?_⟩
  refine sp_34 hR hN ?_
  show R 36 14 [(0, .ref 2), (1, .int p1)] [.int (T_34 s p1 0 ((T_87 s) - 1))] (N, hm_sh L g, s) _ Q
  exact hm_st hR ⟨fun _ => B_34 _ _ _ _, hq⟩
/-- CurvekeyHouse.isBox(IIII)Z -/
def T_38 (s : hm_St) (p1 : Int32) (p2 : Int32) (p3 : Int32) (p4 : Int32) : Int32 := (if (T_37 s p1 p2) = 0 then 0 else (if (T_34 s p3 1 ((T_86 s) - p1)) = 0 then 0 else (if (T_34 s p4 1 ((T_86 s) - p2)) = 0 then 0 else 1)))
theorem B_38 (s : hm_St) (p1 : Int32) (p2 : Int32) (p3 : Int32) (p4 : Int32) : T_38 s p1 p2 p3 p4 = 0 ∨ T_38 s p1 p2 p3 p4 = 1 := by
  unfold T_38
  repeat' split
  all_goals first | exact Or.inl rfl | exact Or.inr rfl | exact B_34 _ _ _ _ | exact B_37 _ _ _
set_option maxRecDepth 20000 in
theorem sp_38 {R : hm_R} (hR : hm_Cm R) {N L : Nat} {g : Nat → hm_Sh} {s : hm_St} {b : hm_B} {Q : hm_Q} (hN : 68 ≤ N) {p1 : Int32} {p2 : Int32} {p3 : Int32} {p4 : Int32} (hq : Q (.inr (some (.int (T_38 s p1 p2 p3 p4)))) (N, hm_sh L g, s)) : R 38 0 (lv_args 0 [.ref 2, .int p1, .int p2, .int p3, .int p4]) [] (N, hm_sh L g, s) b Q := by
  unfold T_38 at hq
  show R 38 0 [(0, .ref 2), (1, .int p1), (2, .int p2), (3, .int p3), (4, .int p4)] [] (N, hm_sh L g, s) _ Q
  refine hm_st hR (hm_st hR (hm_st hR (?_)))
  refine hm_st hR ⟨hm_le rfl, rfl, (hm_le rfl), (hm_ltN hN rfl), hm_le rfl, hm_le rfl, (0, 0), Nat.zero_le _, Nat.zero_le _, ?_⟩
  refine sp_37 hR hN ?_
  show R 38 6 [(0, .ref 2), (1, .int p1), (2, .int p2), (3, .int p3), (4, .int p4)] [.int (T_37 s p1 p2)] (N, hm_sh L g, s) _ Q
  show R 38 6 [(0, .ref 2), (1, .int p1), (2, .int p2), (3, .int p3), (4, .int p4)] [.int (T_37 s p1 p2)] (N, hm_sh L g, s) _ Q
  refine hm_st hR ⟨fun c6 => ?_, fun c6 => ?_⟩
  · rw [if_pos c6] at hq
    show R 38 48 [(0, .ref 2), (1, .int p1), (2, .int p2), (3, .int p3), (4, .int p4)] [] (N, hm_sh L g, s) _ Q
    refine hm_st hR (?_)
    exact hm_st hR ⟨fun _ => Or.inl rfl, hq⟩
  · rw [if_neg c6] at hq
    show R 38 9 [(0, .ref 2), (1, .int p1), (2, .int p2), (3, .int p3), (4, .int p4)] [] (N, hm_sh L g, s) _ Q
    refine hm_st hR (hm_st hR (hm_st hR (hm_st hR ⟨rfl, hm_le rfl, (hm_ltN hN rfl), ?_⟩)))
    refine hm_st hR ⟨hm_le rfl, rfl, (hm_le rfl), (hm_ltN hN rfl), hm_le rfl, hm_le rfl, (0, 0), Nat.zero_le _, Nat.zero_le _, ?_⟩
    refine sp_86 hR hN ?_
    show R 38 18 [(0, .ref 2), (1, .int p1), (2, .int p2), (3, .int p3), (4, .int p4)] [.int (T_86 s), .int 1, .int p3] (N, hm_sh L g, s) _ Q
    refine hm_st hR (hm_st hR (?_))
    refine hm_st hR ⟨hm_le rfl, hm_le rfl, hm_le rfl, (0, 0), Nat.zero_le _, Nat.zero_le _, ?_⟩
    refine sp_34 hR hN ?_
    show R 38 23 [(0, .ref 2), (1, .int p1), (2, .int p2), (3, .int p3), (4, .int p4)] [.int (T_34 s p3 1 ((T_86 s) - p1))] (N, hm_sh L g, s) _ Q
    show R 38 23 [(0, .ref 2), (1, .int p1), (2, .int p2), (3, .int p3), (4, .int p4)] [.int (T_34 s p3 1 ((T_86 s) - p1))] (N, hm_sh L g, s) _ Q
    refine hm_st hR ⟨fun c23 => ?_, fun c23 => ?_⟩
    · rw [if_pos c23] at hq
      show R 38 48 [(0, .ref 2), (1, .int p1), (2, .int p2), (3, .int p3), (4, .int p4)] [] (N, hm_sh L g, s) _ Q
      refine hm_st hR (?_)
      exact hm_st hR ⟨fun _ => Or.inl rfl, hq⟩
    · rw [if_neg c23] at hq
      show R 38 26 [(0, .ref 2), (1, .int p1), (2, .int p2), (3, .int p3), (4, .int p4)] [] (N, hm_sh L g, s) _ Q
      refine hm_st hR (hm_st hR (hm_st hR (hm_st hR ⟨rfl, hm_le rfl, (hm_ltN hN rfl), ?_⟩)))
      refine hm_st hR ⟨hm_le rfl, rfl, (hm_le rfl), (hm_ltN hN rfl), hm_le rfl, hm_le rfl, (0, 0), Nat.zero_le _, Nat.zero_le _, ?_⟩
      refine sp_86 hR hN ?_
      show R 38 36 [(0, .ref 2), (1, .int p1), (2, .int p2), (3, .int p3), (4, .int p4)] [.int (T_86 s), .int 1, .int p4] (N, hm_sh L g, s) _ Q
      refine hm_st hR (hm_st hR (?_))
      refine hm_st hR ⟨hm_le rfl, hm_le rfl, hm_le rfl, (0, 0), Nat.zero_le _, Nat.zero_le _, ?_⟩
      refine sp_34 hR hN ?_
      show R 38 41 [(0, .ref 2), (1, .int p1), (2, .int p2), (3, .int p3), (4, .int p4)] [.int (T_34 s p4 1 ((T_86 s) - p2))] (N, hm_sh L g, s) _ Q
      show R 38 41 [(0, .ref 2), (1, .int p1), (2, .int p2), (3, .int p3), (4, .int p4)] [.int (T_34 s p4 1 ((T_86 s) - p2))] (N, hm_sh L g, s) _ Q
      suffices G : R 38 49 [(0, .ref 2), (1, .int p1), (2, .int p2), (3, .int p3), (4, .int p4)] [.int (if (T_34 s p4 1 ((T_86 s) - p2)) = 0 then 0 else 1)] (N, hm_sh L g, s) (((((b.1 - 0, b.2 - 0).1 - 0, (b.1 - 0, b.2 - 0).2 - 0).1 - 0, ((b.1 - 0, b.2 - 0).1 - 0, (b.1 - 0, b.2 - 0).2 - 0).2 - 0).1 - 0, (((b.1 - 0, b.2 - 0).1 - 0, (b.1 - 0, b.2 - 0).2 - 0).1 - 0, ((b.1 - 0, b.2 - 0).1 - 0, (b.1 - 0, b.2 - 0).2 - 0).2 - 0).2 - 0).1 - 0, ((((b.1 - 0, b.2 - 0).1 - 0, (b.1 - 0, b.2 - 0).2 - 0).1 - 0, ((b.1 - 0, b.2 - 0).1 - 0, (b.1 - 0, b.2 - 0).2 - 0).2 - 0).1 - 0, (((b.1 - 0, b.2 - 0).1 - 0, (b.1 - 0, b.2 - 0).2 - 0).1 - 0, ((b.1 - 0, b.2 - 0).1 - 0, (b.1 - 0, b.2 - 0).2 - 0).2 - 0).2 - 0).2 - 0) Q by
        show R 38 41 [(0, .ref 2), (1, .int p1), (2, .int p2), (3, .int p3), (4, .int p4)] [.int (T_34 s p4 1 ((T_86 s) - p2))] (N, hm_sh L g, s) _ Q
        refine hm_st hR ⟨fun c => ?_, fun c => ?_⟩
        · rw [if_pos c] at G; exact hm_st hR (G)
        · rw [if_neg c] at G; exact hm_st hR (hm_st hR (G))
      exact hm_st hR ⟨fun _ => (by split <;> first | exact Or.inl rfl | exact Or.inr rfl), hq⟩
/-- CurvekeyHouse$Points.isKnown(I)Z -/
def T_159 (s : hm_St) (p1 : Int32) : Int32 := (if p1 < 0 then 0 else (if (s 14 5) ≤ p1 then 0 else 1))
theorem B_159 (s : hm_St) (p1 : Int32) : T_159 s p1 = 0 ∨ T_159 s p1 = 1 := by
  unfold T_159
  repeat' split
  all_goals first | exact Or.inl rfl | exact Or.inr rfl
set_option maxRecDepth 20000 in
theorem sp_159 {R : hm_R} (hR : hm_Cm R) {N L : Nat} {g : Nat → hm_Sh} {s : hm_St} {b : hm_B} {Q : hm_Q} (hN : 68 ≤ N) {p1 : Int32} (hq : Q (.inr (some (.int (T_159 s p1)))) (N, hm_sh L g, s)) : R 159 0 (lv_args 0 [.ref 14, .int p1]) [] (N, hm_sh L g, s) b Q := by
  unfold T_159 at hq
  show R 159 0 [(0, .ref 14), (1, .int p1)] [] (N, hm_sh L g, s) _ Q
  refine hm_st hR (?_)
  show R 159 1 [(0, .ref 14), (1, .int p1)] [.int p1] (N, hm_sh L g, s) _ Q
  refine hm_st hR ⟨fun c1 => ?_, fun c1 => ?_⟩
  · rw [if_pos c1] at hq
    show R 159 16 [(0, .ref 14), (1, .int p1)] [] (N, hm_sh L g, s) _ Q
    refine hm_st hR (?_)
    exact hm_st hR ⟨fun _ => Or.inl rfl, hq⟩
  · rw [if_neg c1] at hq
    show R 159 4 [(0, .ref 14), (1, .int p1)] [] (N, hm_sh L g, s) _ Q
    refine hm_st hR (hm_st hR (hm_st hR ⟨rfl, hm_le rfl, (hm_ltN hN rfl), ?_⟩))
    show R 159 9 [(0, .ref 14), (1, .int p1)] [.int (s 14 5), .int p1] (N, hm_sh L g, s) _ Q
    suffices G : R 159 17 [(0, .ref 14), (1, .int p1)] [.int (if (s 14 5) ≤ p1 then 0 else 1)] (N, hm_sh L g, s) b Q by
      show R 159 9 [(0, .ref 14), (1, .int p1)] [.int (s 14 5), .int p1] (N, hm_sh L g, s) _ Q
      refine hm_st hR ⟨fun c => ?_, fun c => ?_⟩
      · rw [if_pos c] at G; exact hm_st hR (G)
      · rw [if_neg c] at G; exact hm_st hR (hm_st hR (G))
    exact hm_st hR ⟨fun _ => (by split <;> first | exact Or.inl rfl | exact Or.inr rfl), hq⟩
/-- CurvekeyHouse$Row.at(I)I -/
def T_178 (s : hm_St) (aa : Nat) (nn : Nat) (p1 : Int32) : Int32 := (if p1 < 0 then (-1) else (if (Int32.ofNat nn) ≤ p1 then (-1) else (s aa (p1).toNatClampNeg)))
set_option maxRecDepth 20000 in
theorem sp_178 {R : hm_R} (hR : hm_Cm R) {N L : Nat} {g : Nat → hm_Sh} {s : hm_St} {b : hm_B} {Q : hm_Q} (hN : 68 ≤ N) {rr aa nn : Nat} (hrk : (hm_sh L g rr).1 = 8) (hra : (hm_sh L g rr).2.2 0 = some aa) (hr2 : 2 ≤ rr) (hrl : rr < N) (hak : (hm_sh L g aa).1 = 1000) (han : (hm_sh L g aa).2.1 = nn) (ha2 : 2 ≤ aa) (hal : aa < N) (hnn : nn < 2 ^ 31) {p1 : Int32} (hq : Q (.inr (some (.int (T_178 s aa nn p1)))) (N, hm_sh L g, s)) : R 178 0 (lv_args 0 [.ref rr, .int p1]) [] (N, hm_sh L g, s) b Q := by
  unfold T_178 at hq
  show R 178 0 [(0, .ref rr), (1, .int p1)] [] (N, hm_sh L g, s) _ Q
  refine hm_st hR (?_)
  show R 178 1 [(0, .ref rr), (1, .int p1)] [.int p1] (N, hm_sh L g, s) _ Q
  refine hm_st hR ⟨fun c1 => ?_, fun c1 => ?_⟩
  · rw [if_pos c1] at hq
    show R 178 22 [(0, .ref rr), (1, .int p1)] [] (N, hm_sh L g, s) _ Q
    refine hm_st hR (?_)
    exact hm_st hR ⟨fun z => absurd z (by decide), hq⟩
  · rw [if_neg c1] at hq
    show R 178 4 [(0, .ref rr), (1, .int p1)] [] (N, hm_sh L g, s) _ Q
    refine hm_st hR (hm_st hR (?_))
    show R 178 6 [(0, .ref rr), (1, .int p1)] [.ref rr, .int p1] (N, hm_sh L g, s) _ Q
    refine hm_rwf hR hrk hra hr2 hrl (by rfl) ?_
    show R 178 9 [(0, .ref rr), (1, .int p1)] [.ref aa, .int p1] (N, hm_sh L g, s) _ Q
    show R 178 9 [(0, .ref rr), (1, .int p1)] [.ref aa, .int p1] (N, hm_sh L g, s) _ Q
    refine hm_aln hR hak han hal (by rfl) ?_
    show R 178 10 [(0, .ref rr), (1, .int p1)] [.int (Int32.ofNat nn), .int p1] (N, hm_sh L g, s) _ Q
    show R 178 10 [(0, .ref rr), (1, .int p1)] [.int (Int32.ofNat nn), .int p1] (N, hm_sh L g, s) _ Q
    refine hm_st hR ⟨fun c10 => ?_, fun c10 => ?_⟩
    · rw [if_pos c10] at hq
      show R 178 22 [(0, .ref rr), (1, .int p1)] [] (N, hm_sh L g, s) _ Q
      refine hm_st hR (?_)
      exact hm_st hR ⟨fun z => absurd z (by decide), hq⟩
    · rw [if_neg c10] at hq
      show R 178 13 [(0, .ref rr), (1, .int p1)] [] (N, hm_sh L g, s) _ Q
      refine hm_st hR (?_)
      show R 178 14 [(0, .ref rr), (1, .int p1)] [.ref rr] (N, hm_sh L g, s) _ Q
      refine hm_rwf hR hrk hra hr2 hrl (by rfl) ?_
      show R 178 17 [(0, .ref rr), (1, .int p1)] [.ref aa] (N, hm_sh L g, s) _ Q
      refine hm_st hR (?_)
      show R 178 18 [(0, .ref rr), (1, .int p1)] [.int p1, .ref aa] (N, hm_sh L g, s) _ Q
      refine hm_ald hR hak han hal (by rfl) (hm_vin c1 c10 hnn) ?_
      show R 178 19 [(0, .ref rr), (1, .int p1)] [.int (s aa (p1).toNatClampNeg)] (N, hm_sh L g, s) _ Q
      refine hm_st hR (?_)
      exact hm_st hR ⟨fun z => absurd z (by decide), hq⟩
/-- CurvekeyHouse$Row.set(II)V -/
def T_179 (s : hm_St) (aa : Nat) (nn : Nat) (p1 : Int32) (p2 : Int32) : hm_St := (if p1 < 0 then s else (if (Int32.ofNat nn) ≤ p1 then s else (hm_w1 s aa (p1).toNatClampNeg p2)))
theorem N_179 {c j : Nat} {aa nn : Nat} (haa : c ≠ aa) {s : hm_St} {p1 : Int32} {p2 : Int32} : (T_179 s aa nn p1 p2) c j = s c j := by
  unfold T_179
  repeat' split
  all_goals first | rfl | simp only [hm_w1n haa]
set_option maxRecDepth 20000 in
theorem sp_179 {R : hm_R} (hR : hm_Cm R) {N L : Nat} {g : Nat → hm_Sh} {s : hm_St} {b : hm_B} {Q : hm_Q} (hN : 68 ≤ N) {rr aa nn : Nat} (hrk : (hm_sh L g rr).1 = 8) (hra : (hm_sh L g rr).2.2 0 = some aa) (hr2 : 2 ≤ rr) (hrl : rr < N) (hak : (hm_sh L g aa).1 = 1000) (han : (hm_sh L g aa).2.1 = nn) (ha2 : 2 ≤ aa) (hal : aa < N) (hnn : nn < 2 ^ 31) {p1 : Int32} {p2 : Int32} (hq : Q (.inr none) (N, hm_sh L g, (T_179 s aa nn p1 p2))) : R 179 0 (lv_args 0 [.ref rr, .int p1, .int p2]) [] (N, hm_sh L g, s) b Q := by
  unfold T_179 at hq
  show R 179 0 [(0, .ref rr), (1, .int p1), (2, .int p2)] [] (N, hm_sh L g, s) _ Q
  refine hm_st hR (?_)
  show R 179 1 [(0, .ref rr), (1, .int p1), (2, .int p2)] [.int p1] (N, hm_sh L g, s) _ Q
  refine hm_st hR ⟨fun c1 => ?_, fun c1 => ?_⟩
  · rw [if_pos c1] at hq
    show R 179 20 [(0, .ref rr), (1, .int p1), (2, .int p2)] [] (N, hm_sh L g, s) _ Q
    exact hm_st hR hq
  · rw [if_neg c1] at hq
    show R 179 4 [(0, .ref rr), (1, .int p1), (2, .int p2)] [] (N, hm_sh L g, s) _ Q
    refine hm_st hR (hm_st hR (?_))
    show R 179 6 [(0, .ref rr), (1, .int p1), (2, .int p2)] [.ref rr, .int p1] (N, hm_sh L g, s) _ Q
    refine hm_rwf hR hrk hra hr2 hrl (by rfl) ?_
    show R 179 9 [(0, .ref rr), (1, .int p1), (2, .int p2)] [.ref aa, .int p1] (N, hm_sh L g, s) _ Q
    show R 179 9 [(0, .ref rr), (1, .int p1), (2, .int p2)] [.ref aa, .int p1] (N, hm_sh L g, s) _ Q
    refine hm_aln hR hak han hal (by rfl) ?_
    show R 179 10 [(0, .ref rr), (1, .int p1), (2, .int p2)] [.int (Int32.ofNat nn), .int p1] (N, hm_sh L g, s) _ Q
    show R 179 10 [(0, .ref rr), (1, .int p1), (2, .int p2)] [.int (Int32.ofNat nn), .int p1] (N, hm_sh L g, s) _ Q
    refine hm_st hR ⟨fun c10 => ?_, fun c10 => ?_⟩
    · rw [if_pos c10] at hq
      show R 179 20 [(0, .ref rr), (1, .int p1), (2, .int p2)] [] (N, hm_sh L g, s) _ Q
      exact hm_st hR hq
    · rw [if_neg c10] at hq
      show R 179 13 [(0, .ref rr), (1, .int p1), (2, .int p2)] [] (N, hm_sh L g, s) _ Q
      refine hm_st hR (?_)
      show R 179 14 [(0, .ref rr), (1, .int p1), (2, .int p2)] [.ref rr] (N, hm_sh L g, s) _ Q
      refine hm_rwf hR hrk hra hr2 hrl (by rfl) ?_
      show R 179 17 [(0, .ref rr), (1, .int p1), (2, .int p2)] [.ref aa] (N, hm_sh L g, s) _ Q
      refine hm_st hR (hm_st hR (?_))
      show R 179 19 [(0, .ref rr), (1, .int p1), (2, .int p2)] [.int p2, .int p1, .ref aa] (N, hm_sh L g, s) _ Q
      refine hm_ast hR hak han ha2 hal (by rfl) (hm_vin c1 c10 hnn) ?_
      show R 179 20 [(0, .ref rr), (1, .int p1), (2, .int p2)] [] (N, hm_sh L g, (hm_w1 s aa (p1).toNatClampNeg p2)) _ Q
      exact hm_st hR hq
def T_141_23 : Nat → hm_St → Int32 → Int32 → Int32 → Int32 → Int32
  | 0, s, _, _, _, _ => 0
  | n + 1, s, v1, v2, v3, v4 => (if v3 ≤ v4 then v2 else (if (T_178 s 44 1024 v4) = (-1) then (T_141_23 n s v1 v2 v3 (v4 + 1)) else (T_141_23 n s v1 (v2 + 1) v3 (v4 + 1))))
/-- CurvekeyHouse$Pages.entriesIn(I)I -/
def T_141 (s : hm_St) (p1 : Int32) : Int32 := (T_141_23 (hm_df (T_178 s 46 1025 (p1 + 1)) (T_178 s 46 1025 p1) + 1) s p1 0 (T_178 s 46 1025 (p1 + 1)) (T_178 s 46 1025 p1))
set_option maxRecDepth 20000 in
theorem lp_141_23 {R : hm_R} (hR : hm_Cm R) {N L : Nat} {g : Nat → hm_Sh} {b : hm_B} {Q : hm_Q} (hN : 68 ≤ N) : ∀ (n : Nat) (s : hm_St) (v1 : Int32) (v2 : Int32) (v3 : Int32) (v4 : Int32), hm_df v3 v4 < n → (hq : Q (.inr (some (.int (T_141_23 n s v1 v2 v3 v4)))) (N, hm_sh L g, s)) → R 141 23 [(4, .int v4), (3, .int v3), (2, .int v2), (0, .ref 42), (1, .int v1)] [] (N, hm_sh L g, s) b Q := by
  intro n
  induction n with
  | zero => intro s v1 v2 v3 v4 hm _; exact absurd hm (Nat.not_lt_zero _)
  | succ n ih =>
    intro s v1 v2 v3 v4 hm hq
    unfold T_141_23 at hq
    refine hm_st hR (hm_st hR (?_))
    show R 141 26 [(4, .int v4), (3, .int v3), (2, .int v2), (0, .ref 42), (1, .int v1)] [.int v3, .int v4] (N, hm_sh L g, s) _ Q
    refine hm_st hR ⟨fun c26 => ?_, fun c26 => ?_⟩
    · rw [if_pos c26] at hq
      show R 141 51 [(4, .int v4), (3, .int v3), (2, .int v2), (0, .ref 42), (1, .int v1)] [] (N, hm_sh L g, s) _ Q
      refine hm_st hR (?_)
      exact hm_st hR ⟨fun z => absurd z (by decide), hq⟩
    · rw [if_neg c26] at hq
      show R 141 29 [(4, .int v4), (3, .int v3), (2, .int v2), (0, .ref 42), (1, .int v1)] [] (N, hm_sh L g, s) _ Q
      refine hm_st hR (hm_st hR ⟨rfl, hm_le rfl, (hm_ltN hN rfl), hm_st hR (?_)⟩)
      refine hm_st hR ⟨hm_le rfl, rfl, (hm_le rfl), (hm_ltN hN rfl), hm_le rfl, hm_le rfl, (0, 0), Nat.zero_le _, Nat.zero_le _, ?_⟩
      refine sp_178 hR hN (rr := 43) (aa := 44) (nn := 1024) rfl rfl (hm_le rfl) (hm_ltN hN rfl) rfl rfl (hm_le rfl) (hm_ltN hN rfl) (by decide) ?_
      show R 141 38 [(4, .int v4), (3, .int v3), (2, .int v2), (0, .ref 42), (1, .int v1)] [.int (T_178 s 44 1024 v4)] (N, hm_sh L g, s) _ Q
      refine hm_st hR (?_)
      show R 141 39 [(4, .int v4), (3, .int v3), (2, .int v2), (0, .ref 42), (1, .int v1)] [.int (-1), .int (T_178 s 44 1024 v4)] (N, hm_sh L g, s) _ Q
      refine hm_st hR ⟨fun c39 => ?_, fun c39 => ?_⟩
      · rw [if_pos c39] at hq
        show R 141 45 [(4, .int v4), (3, .int v3), (2, .int v2), (0, .ref 42), (1, .int v1)] [] (N, hm_sh L g, s) _ Q
        refine hm_st hR (hm_st hR (?_))
        show R 141 23 [(4, .int (v4 + 1)), (3, .int v3), (2, .int v2), (0, .ref 42), (1, .int v1)] [] (N, hm_sh L g, s) _ Q
        exact hm_lvS hR (by intro q hq; simp only [List.mem_cons, List.not_mem_nil, or_false] at hq ⊢; rcases hq with rfl | rfl | rfl | rfl | rfl <;> simp) (ih s v1 v2 v3 (v4 + 1) (hm_dcx c26 hm) hq)
      · rw [if_neg c39] at hq
        show R 141 42 [(4, .int v4), (3, .int v3), (2, .int v2), (0, .ref 42), (1, .int v1)] [] (N, hm_sh L g, s) _ Q
        refine hm_st hR (hm_st hR (hm_st hR (?_)))
        show R 141 23 [(4, .int (v4 + 1)), (2, .int (v2 + 1)), (3, .int v3), (0, .ref 42), (1, .int v1)] [] (N, hm_sh L g, s) _ Q
        exact hm_lvS hR (by intro q hq; simp only [List.mem_cons, List.not_mem_nil, or_false] at hq ⊢; rcases hq with rfl | rfl | rfl | rfl | rfl <;> simp) (ih s v1 (v2 + 1) v3 (v4 + 1) (hm_dcx c26 hm) hq)
set_option maxRecDepth 20000 in
theorem sp_141 {R : hm_R} (hR : hm_Cm R) {N L : Nat} {g : Nat → hm_Sh} {s : hm_St} {b : hm_B} {Q : hm_Q} (hN : 68 ≤ N) {p1 : Int32} (hq : Q (.inr (some (.int (T_141 s p1)))) (N, hm_sh L g, s)) : R 141 0 (lv_args 0 [.ref 42, .int p1]) [] (N, hm_sh L g, s) b Q := by
  unfold T_141 at hq
  show R 141 0 [(0, .ref 42), (1, .int p1)] [] (N, hm_sh L g, s) _ Q
  refine hm_st hR (hm_st hR (hm_st hR (hm_st hR ⟨rfl, hm_le rfl, (hm_ltN hN rfl), hm_st hR (hm_st hR (hm_st hR (?_)))⟩)))
  refine hm_st hR ⟨hm_le rfl, rfl, (hm_le rfl), (hm_ltN hN rfl), hm_le rfl, hm_le rfl, (0, 0), Nat.zero_le _, Nat.zero_le _, ?_⟩
  refine sp_178 hR hN (rr := 45) (aa := 46) (nn := 1025) rfl rfl (hm_le rfl) (hm_ltN hN rfl) rfl rfl (hm_le rfl) (hm_ltN hN rfl) (by decide) ?_
  show R 141 12 [(2, .int 0), (0, .ref 42), (1, .int p1)] [.int (T_178 s 46 1025 (p1 + 1))] (N, hm_sh L g, s) _ Q
  refine hm_st hR (hm_st hR (hm_st hR ⟨rfl, hm_le rfl, (hm_ltN hN rfl), hm_st hR (?_)⟩))
  refine hm_st hR ⟨hm_le rfl, rfl, (hm_le rfl), (hm_ltN hN rfl), hm_le rfl, hm_le rfl, (0, 0), Nat.zero_le _, Nat.zero_le _, ?_⟩
  refine sp_178 hR hN (rr := 45) (aa := 46) (nn := 1025) rfl rfl (hm_le rfl) (hm_ltN hN rfl) rfl rfl (hm_le rfl) (hm_ltN hN rfl) (by decide) ?_
  show R 141 21 [(3, .int (T_178 s 46 1025 (p1 + 1))), (2, .int 0), (0, .ref 42), (1, .int p1)] [.int (T_178 s 46 1025 p1)] (N, hm_sh L g, s) _ Q
  refine hm_st hR (?_)
  show R 141 23 [(4, .int (T_178 s 46 1025 p1)), (3, .int (T_178 s 46 1025 (p1 + 1))), (2, .int 0), (0, .ref 42), (1, .int p1)] [] (N, hm_sh L g, s) _ Q
  exact lp_141_23 hR hN _ _ _ _ _ _ (Nat.lt_succ_self _) hq
def T_183_2 (aa : Nat) (nn : Nat) : Nat → hm_St → Int32 → Int32 → Int32 → hm_St
  | 0, s, _, _, _ => s
  | n + 1, s, v1, v2, v3 => (if v2 ≤ (v3 + 1) then s else (T_183_2 aa nn n (T_179 s aa nn v3 (T_178 s aa nn (v3 + 1))) v1 v2 (v3 + 1)))
/-- CurvekeyHouse$Row.drop(II)V -/
def T_183 (s : hm_St) (aa : Nat) (nn : Nat) (p1 : Int32) (p2 : Int32) : hm_St := (T_183_2 aa nn (hm_df p2 (p1 + 1) + 1) s p1 p2 p1)
theorem N_183_2 (aa : Nat) (nn : Nat) {c j : Nat} (haa : c ≠ aa) : ∀ (n : Nat) (s : hm_St) (v0 v1 v2 : Int32), (T_183_2 aa nn n s v0 v1 v2) c j = s c j := by
  intro n
  induction n with
  | zero => intros; rfl
  | succ n ih =>
    intros
    unfold T_183_2
    repeat' split
    all_goals first | rfl | simp only [ih, hm_w1n haa, N_179 haa]
theorem N_183 {c j : Nat} {aa nn : Nat} (haa : c ≠ aa) {s : hm_St} {p1 : Int32} {p2 : Int32} : (T_183 s aa nn p1 p2) c j = s c j := by
  unfold T_183
  repeat' split
  all_goals first | rfl | simp only [hm_w1n haa, N_179 haa, N_183_2 _ _ haa]
set_option maxRecDepth 20000 in
theorem lp_183_2 {R : hm_R} (hR : hm_Cm R) {N L : Nat} {g : Nat → hm_Sh} {b : hm_B} {Q : hm_Q} (hN : 68 ≤ N) {rr aa nn : Nat} (hrk : (hm_sh L g rr).1 = 8) (hra : (hm_sh L g rr).2.2 0 = some aa) (hr2 : 2 ≤ rr) (hrl : rr < N) (hak : (hm_sh L g aa).1 = 1000) (han : (hm_sh L g aa).2.1 = nn) (ha2 : 2 ≤ aa) (hal : aa < N) (hnn : nn < 2 ^ 31) : ∀ (n : Nat) (s : hm_St) (v1 : Int32) (v2 : Int32) (v3 : Int32), hm_df v2 (v3 + 1) < n → (hq : Q (.inr none) (N, hm_sh L g, (T_183_2 aa nn n s v1 v2 v3))) → R 183 2 [(3, .int v3), (0, .ref rr), (1, .int v1), (2, .int v2)] [] (N, hm_sh L g, s) b Q := by
  intro n
  induction n with
  | zero => intro s v1 v2 v3 hm _; exact absurd hm (Nat.not_lt_zero _)
  | succ n ih =>
    intro s v1 v2 v3 hm hq
    unfold T_183_2 at hq
    refine hm_st hR (hm_st hR (hm_st hR (hm_st hR (?_))))
    show R 183 6 [(3, .int v3), (0, .ref rr), (1, .int v1), (2, .int v2)] [.int v2, .int (v3 + 1)] (N, hm_sh L g, s) _ Q
    refine hm_st hR ⟨fun c6 => ?_, fun c6 => ?_⟩
    · rw [if_pos c6] at hq
      show R 183 27 [(3, .int v3), (0, .ref rr), (1, .int v1), (2, .int v2)] [] (N, hm_sh L g, s) _ Q
      exact hm_st hR hq
    · rw [if_neg c6] at hq
      show R 183 9 [(3, .int v3), (0, .ref rr), (1, .int v1), (2, .int v2)] [] (N, hm_sh L g, s) _ Q
      refine hm_st hR (hm_st hR (hm_st hR (hm_st hR (hm_st hR (hm_st hR (?_))))))
      refine hm_st hR ⟨hm_le rfl, hrk, hr2, hrl, hm_le rfl, hm_le rfl, (0, 0), Nat.zero_le _, Nat.zero_le _, ?_⟩
      refine sp_178 hR hN (rr := rr) (aa := aa) (nn := nn) hrk hra hr2 hrl hak han ha2 hal hnn ?_
      show R 183 18 [(3, .int v3), (0, .ref rr), (1, .int v1), (2, .int v2)] [.int (T_178 s aa nn (v3 + 1)), .int v3, .ref rr] (N, hm_sh L g, s) _ Q
      refine hm_st hR ⟨hm_le rfl, hrk, hr2, hrl, hm_le rfl, hm_le rfl, (0, 0), Nat.zero_le _, Nat.zero_le _, ?_⟩
      refine sp_179 hR hN (rr := rr) (aa := aa) (nn := nn) hrk hra hr2 hrl hak han ha2 hal hnn ?_
      show R 183 21 [(3, .int v3), (0, .ref rr), (1, .int v1), (2, .int v2)] [] (N, hm_sh L g, (T_179 s aa nn v3 (T_178 s aa nn (v3 + 1)))) _ Q
      refine hm_st hR (hm_st hR (?_))
      show R 183 2 [(3, .int (v3 + 1)), (0, .ref rr), (1, .int v1), (2, .int v2)] [] (N, hm_sh L g, (T_179 s aa nn v3 (T_178 s aa nn (v3 + 1)))) _ Q
      exact hm_lvS hR (by intro q hq; simp only [List.mem_cons, List.not_mem_nil, or_false] at hq ⊢; rcases hq with rfl | rfl | rfl | rfl <;> simp) (ih (T_179 s aa nn v3 (T_178 s aa nn (v3 + 1))) v1 v2 (v3 + 1) (hm_dcx c6 hm) hq)
set_option maxRecDepth 20000 in
theorem sp_183 {R : hm_R} (hR : hm_Cm R) {N L : Nat} {g : Nat → hm_Sh} {s : hm_St} {b : hm_B} {Q : hm_Q} (hN : 68 ≤ N) {rr aa nn : Nat} (hrk : (hm_sh L g rr).1 = 8) (hra : (hm_sh L g rr).2.2 0 = some aa) (hr2 : 2 ≤ rr) (hrl : rr < N) (hak : (hm_sh L g aa).1 = 1000) (han : (hm_sh L g aa).2.1 = nn) (ha2 : 2 ≤ aa) (hal : aa < N) (hnn : nn < 2 ^ 31) {p1 : Int32} {p2 : Int32} (hq : Q (.inr none) (N, hm_sh L g, (T_183 s aa nn p1 p2))) : R 183 0 (lv_args 0 [.ref rr, .int p1, .int p2]) [] (N, hm_sh L g, s) b Q := by
  unfold T_183 at hq
  show R 183 0 [(0, .ref rr), (1, .int p1), (2, .int p2)] [] (N, hm_sh L g, s) _ Q
  refine hm_st hR (hm_st hR (?_))
  show R 183 2 [(3, .int p1), (0, .ref rr), (1, .int p1), (2, .int p2)] [] (N, hm_sh L g, s) _ Q
  exact lp_183_2 hR hN hrk hra hr2 hrl hak han ha2 hal hnn _ _ _ _ _ (Nat.lt_succ_self _) hq
def T_153_7 : Nat → hm_St → Int32 → Int32 → hm_St
  | 0, s, _, _ => s
  | n + 1, s, v1, v2 => (if v2 ≤ 1 then s else (if ((s 42 3) / 2) < ((T_141 s v1) + (T_141 s (v1 + 1))) then (T_153_7 n s (v1 + 1) (v2 + (-1))) else (T_153_7 n (hm_w1 (T_183 s 46 1025 (v1 + 1) ((s 42 4) + 1)) 42 4 (((T_183 s 46 1025 (v1 + 1) ((s 42 4) + 1)) 42 4) - 1)) v1 (v2 + (-1)))))
/-- CurvekeyHouse$Pages.joinSmall()V -/
def T_153 (s : hm_St) : hm_St := (T_153_7 (hm_df (s 42 4) 1 + 1) s 0 (s 42 4))
theorem N_153_7 {c j : Nat} (h42 : c ≠ 42) (h46 : c ≠ 46) : ∀ (n : Nat) (s : hm_St) (v0 v1 : Int32), (T_153_7  n s v0 v1) c j = s c j := by
  intro n
  induction n with
  | zero => intros; rfl
  | succ n ih =>
    intros
    unfold T_153_7
    repeat' split
    all_goals first | rfl | simp only [ih, hm_w1n h42, hm_w1n h46, N_183 h42, N_183 h46]
theorem N_153 {c j : Nat} (h42 : c ≠ 42) (h46 : c ≠ 46) {s : hm_St} : (T_153 s) c j = s c j := by
  unfold T_153
  repeat' split
  all_goals first | rfl | simp only [hm_w1n h42, hm_w1n h46, N_183 h42, N_183 h46, N_153_7 h42 h46]
set_option maxRecDepth 20000 in
theorem lp_153_7 {R : hm_R} (hR : hm_Cm R) {N L : Nat} {g : Nat → hm_Sh} {b : hm_B} {Q : hm_Q} (hN : 68 ≤ N) : ∀ (n : Nat) (s : hm_St) (v1 : Int32) (v2 : Int32), hm_df v2 1 < n → (hq : Q (.inr none) (N, hm_sh L g, (T_153_7 n s v1 v2))) → R 153 7 [(2, .int v2), (1, .int v1), (0, .ref 42)] [] (N, hm_sh L g, s) b Q := by
  intro n
  induction n with
  | zero => intro s v1 v2 hm _; exact absurd hm (Nat.not_lt_zero _)
  | succ n ih =>
    intro s v1 v2 hm hq
    unfold T_153_7 at hq
    refine hm_st hR (hm_st hR (?_))
    show R 153 9 [(2, .int v2), (1, .int v1), (0, .ref 42)] [.int 1, .int v2] (N, hm_sh L g, s) _ Q
    refine hm_st hR ⟨fun c9 => ?_, fun c9 => ?_⟩
    · rw [if_pos c9] at hq
      show R 153 72 [(2, .int v2), (1, .int v1), (0, .ref 42)] [] (N, hm_sh L g, s) _ Q
      exact hm_st hR hq
    · rw [if_neg c9] at hq
      show R 153 12 [(2, .int v2), (1, .int v1), (0, .ref 42)] [] (N, hm_sh L g, s) _ Q
      refine hm_st hR (hm_st hR (?_))
      refine hm_st hR ⟨hm_le rfl, rfl, (hm_le rfl), (hm_ltN hN rfl), hm_le rfl, hm_le rfl, (0, 0), Nat.zero_le _, Nat.zero_le _, ?_⟩
      refine sp_141 hR hN ?_
      show R 153 17 [(2, .int v2), (1, .int v1), (0, .ref 42)] [.int (T_141 s v1)] (N, hm_sh L g, s) _ Q
      refine hm_st hR (hm_st hR (hm_st hR (hm_st hR (?_))))
      refine hm_st hR ⟨hm_le rfl, rfl, (hm_le rfl), (hm_ltN hN rfl), hm_le rfl, hm_le rfl, (0, 0), Nat.zero_le _, Nat.zero_le _, ?_⟩
      refine sp_141 hR hN ?_
      show R 153 24 [(2, .int v2), (1, .int v1), (0, .ref 42)] [.int (T_141 s (v1 + 1)), .int (T_141 s v1)] (N, hm_sh L g, s) _ Q
      refine hm_st hR (hm_st hR (hm_st hR ⟨rfl, hm_le rfl, (hm_ltN hN rfl), hm_st hR (hm_st hR ⟨(by decide), ?_⟩)⟩))
      show R 153 31 [(2, .int v2), (1, .int v1), (0, .ref 42)] [.int ((s 42 3) / 2), .int ((T_141 s v1) + (T_141 s (v1 + 1)))] (N, hm_sh L g, s) _ Q
      refine hm_st hR ⟨fun c31 => ?_, fun c31 => ?_⟩
      · rw [if_pos c31] at hq
        show R 153 63 [(2, .int v2), (1, .int v1), (0, .ref 42)] [] (N, hm_sh L g, s) _ Q
        refine hm_st hR (hm_st hR (hm_st hR (?_)))
        show R 153 7 [(2, .int (v2 + (-1))), (1, .int (v1 + 1)), (0, .ref 42)] [] (N, hm_sh L g, s) _ Q
        exact hm_lvS hR (by intro q hq; simp only [List.mem_cons, List.not_mem_nil, or_false] at hq ⊢; rcases hq with rfl | rfl | rfl <;> simp) (ih s (v1 + 1) (v2 + (-1)) (hm_dcm c9 hm) hq)
      · rw [if_neg c31] at hq
        show R 153 34 [(2, .int v2), (1, .int v1), (0, .ref 42)] [] (N, hm_sh L g, s) _ Q
        refine hm_st hR (hm_st hR ⟨rfl, hm_le rfl, (hm_ltN hN rfl), hm_st hR (hm_st hR (hm_st hR (hm_st hR (hm_st hR ⟨rfl, hm_le rfl, (hm_ltN hN rfl), hm_st hR (hm_st hR (?_))⟩))))⟩)
        refine hm_st hR ⟨hm_le rfl, rfl, (hm_le rfl), (hm_ltN hN rfl), hm_le rfl, hm_le rfl, (0, 0), Nat.zero_le _, Nat.zero_le _, ?_⟩
        refine sp_183 hR hN (rr := 45) (aa := 46) (nn := 1025) rfl rfl (hm_le rfl) (hm_ltN hN rfl) rfl rfl (hm_le rfl) (hm_ltN hN rfl) (by decide) ?_
        show R 153 50 [(2, .int v2), (1, .int v1), (0, .ref 42)] [] (N, hm_sh L g, (T_183 s 46 1025 (v1 + 1) ((s 42 4) + 1))) _ Q
        refine hm_st hR (hm_st hR ⟨rfl, hm_st hR ⟨rfl, hm_le rfl, (hm_ltN hN rfl), hm_st hR (hm_st hR (hm_st hR ⟨rfl, rfl, hm_le rfl, (hm_ltN hN rfl), ?_⟩))⟩⟩)
        show R 153 60 [(2, .int v2), (1, .int v1), (0, .ref 42)] [] (N, hm_sh L g, (hm_w1 (T_183 s 46 1025 (v1 + 1) ((s 42 4) + 1)) 42 4 (((T_183 s 46 1025 (v1 + 1) ((s 42 4) + 1)) 42 4) - 1))) _ Q
        refine hm_st hR (hm_st hR (hm_st hR (?_)))
        show R 153 7 [(2, .int (v2 + (-1))), (1, .int v1), (0, .ref 42)] [] (N, hm_sh L g, (hm_w1 (T_183 s 46 1025 (v1 + 1) ((s 42 4) + 1)) 42 4 (((T_183 s 46 1025 (v1 + 1) ((s 42 4) + 1)) 42 4) - 1))) _ Q
        exact hm_lvS hR (by intro q hq; simp only [List.mem_cons, List.not_mem_nil, or_false] at hq ⊢; rcases hq with rfl | rfl | rfl <;> simp) (ih (hm_w1 (T_183 s 46 1025 (v1 + 1) ((s 42 4) + 1)) 42 4 (((T_183 s 46 1025 (v1 + 1) ((s 42 4) + 1)) 42 4) - 1)) v1 (v2 + (-1)) (hm_dcm c9 hm) hq)
set_option maxRecDepth 20000 in
theorem sp_153 {R : hm_R} (hR : hm_Cm R) {N L : Nat} {g : Nat → hm_Sh} {s : hm_St} {b : hm_B} {Q : hm_Q} (hN : 68 ≤ N) (hq : Q (.inr none) (N, hm_sh L g, (T_153 s))) : R 153 0 (lv_args 0 [.ref 42]) [] (N, hm_sh L g, s) b Q := by
  unfold T_153 at hq
  show R 153 0 [(0, .ref 42)] [] (N, hm_sh L g, s) _ Q
  refine hm_st hR (hm_st hR (hm_st hR (hm_st hR ⟨rfl, hm_le rfl, (hm_ltN hN rfl), hm_st hR (?_)⟩)))
  show R 153 7 [(2, .int (s 42 4)), (1, .int 0), (0, .ref 42)] [] (N, hm_sh L g, s) _ Q
  exact lp_153_7 hR hN _ _ _ _ (Nat.lt_succ_self _) hq
def T_152_7 : Nat → hm_St → Int32 → Int32 → (Int32 × hm_St)
  | 0, s, _, _ => (0, s)
  | n + 1, s, v1, v2 => (if (s 42 2) ≤ v2 then (v1, (T_153 (hm_w1 s 42 5 0))) else (if (T_178 s 44 1024 v2) = (-2) then (T_152_7 n (T_179 s 44 1024 v2 (-1)) v1 (v2 + 1)) else (T_152_7 n s v1 (v2 + 1))))
/-- CurvekeyHouse$Pages.clean()I -/
def T_152 (s : hm_St) : (Int32 × hm_St) := (T_152_7 (hm_df (s 42 2) 0 + 1) s (s 42 5) 0)
theorem N_152_7 {c j : Nat} (h42 : c ≠ 42) (h44 : c ≠ 44) (h46 : c ≠ 46) : ∀ (n : Nat) (s : hm_St) (v0 v1 : Int32), (T_152_7  n s v0 v1).2 c j = s c j := by
  intro n
  induction n with
  | zero => intros; rfl
  | succ n ih =>
    intros
    unfold T_152_7
    repeat' split
    all_goals first | rfl | simp only [ih, hm_w1n h42, hm_w1n h44, hm_w1n h46, N_153 h42 h46, N_179 h42, N_179 h44, N_179 h46]
theorem N_152 {c j : Nat} (h42 : c ≠ 42) (h44 : c ≠ 44) (h46 : c ≠ 46) {s : hm_St} : (T_152 s).2 c j = s c j := by
  unfold T_152
  repeat' split
  all_goals first | rfl | simp only [hm_w1n h42, hm_w1n h44, hm_w1n h46, N_153 h42 h46, N_179 h42, N_179 h44, N_179 h46, N_152_7 h42 h44 h46]
set_option maxRecDepth 20000 in
theorem lp_152_7 {R : hm_R} (hR : hm_Cm R) {N L : Nat} {g : Nat → hm_Sh} {b : hm_B} {Q : hm_Q} (hN : 68 ≤ N) : ∀ (n : Nat) (s : hm_St) (v1 : Int32) (v2 : Int32), hm_df (s 42 2) v2 < n → (hq : Q (.inr (some (.int (T_152_7 n s v1 v2).1))) (N, hm_sh L g, (T_152_7 n s v1 v2).2)) → R 152 7 [(2, .int v2), (1, .int v1), (0, .ref 42)] [] (N, hm_sh L g, s) b Q := by
  intro n
  induction n with
  | zero => intro s v1 v2 hm _; exact absurd hm (Nat.not_lt_zero _)
  | succ n ih =>
    intro s v1 v2 hm hq
    unfold T_152_7 at hq
    refine hm_st hR (hm_st hR (hm_st hR ⟨rfl, hm_le rfl, (hm_ltN hN rfl), ?_⟩))
    show R 152 12 [(2, .int v2), (1, .int v1), (0, .ref 42)] [.int (s 42 2), .int v2] (N, hm_sh L g, s) _ Q
    refine hm_st hR ⟨fun c12 => ?_, fun c12 => ?_⟩
    · rw [if_pos c12] at hq
      show R 152 43 [(2, .int v2), (1, .int v1), (0, .ref 42)] [] (N, hm_sh L g, s) _ Q
      refine hm_st hR (hm_st hR (hm_st hR ⟨rfl, rfl, hm_le rfl, (hm_ltN hN rfl), ?_⟩))
      show R 152 48 [(2, .int v2), (1, .int v1), (0, .ref 42)] [] (N, hm_sh L g, (hm_w1 s 42 5 0)) _ Q
      refine hm_st hR (?_)
      refine hm_st hR ⟨hm_le rfl, rfl, (hm_le rfl), (hm_ltN hN rfl), hm_le rfl, hm_le rfl, (0, 0), Nat.zero_le _, Nat.zero_le _, ?_⟩
      refine sp_153 hR hN ?_
      show R 152 52 [(2, .int v2), (1, .int v1), (0, .ref 42)] [] (N, hm_sh L g, (T_153 (hm_w1 s 42 5 0))) _ Q
      refine hm_st hR (?_)
      exact hm_st hR ⟨fun z => absurd z (by decide), hq⟩
    · rw [if_neg c12] at hq
      show R 152 15 [(2, .int v2), (1, .int v1), (0, .ref 42)] [] (N, hm_sh L g, s) _ Q
      refine hm_st hR (hm_st hR ⟨rfl, hm_le rfl, (hm_ltN hN rfl), hm_st hR (?_)⟩)
      refine hm_st hR ⟨hm_le rfl, rfl, (hm_le rfl), (hm_ltN hN rfl), hm_le rfl, hm_le rfl, (0, 0), Nat.zero_le _, Nat.zero_le _, ?_⟩
      refine sp_178 hR hN (rr := 43) (aa := 44) (nn := 1024) rfl rfl (hm_le rfl) (hm_ltN hN rfl) rfl rfl (hm_le rfl) (hm_ltN hN rfl) (by decide) ?_
      show R 152 23 [(2, .int v2), (1, .int v1), (0, .ref 42)] [.int (T_178 s 44 1024 v2)] (N, hm_sh L g, s) _ Q
      refine hm_st hR (?_)
      show R 152 25 [(2, .int v2), (1, .int v1), (0, .ref 42)] [.int (-2), .int (T_178 s 44 1024 v2)] (N, hm_sh L g, s) _ Q
      refine hm_st hR ⟨fun c25 => ?_, fun c25 => ?_⟩
      · rw [if_neg c25] at hq
        show R 152 37 [(2, .int v2), (1, .int v1), (0, .ref 42)] [] (N, hm_sh L g, s) _ Q
        refine hm_st hR (hm_st hR (?_))
        show R 152 7 [(2, .int (v2 + 1)), (1, .int v1), (0, .ref 42)] [] (N, hm_sh L g, s) _ Q
        exact hm_lvS hR (by intro q hq; simp only [List.mem_cons, List.not_mem_nil, or_false] at hq ⊢; rcases hq with rfl | rfl | rfl <;> simp) (ih s v1 (v2 + 1) (by first | exact hm_dcx c12 hm | exact hm_dcE (N_179 (c := 42) (aa := 44) (by decide)) (hm_dcx c12 hm)) hq)
      · rw [if_pos c25] at hq
        show R 152 28 [(2, .int v2), (1, .int v1), (0, .ref 42)] [] (N, hm_sh L g, s) _ Q
        refine hm_st hR (hm_st hR ⟨rfl, hm_le rfl, (hm_ltN hN rfl), hm_st hR (hm_st hR (?_))⟩)
        refine hm_st hR ⟨hm_le rfl, rfl, (hm_le rfl), (hm_ltN hN rfl), hm_le rfl, hm_le rfl, (0, 0), Nat.zero_le _, Nat.zero_le _, ?_⟩
        refine sp_179 hR hN (rr := 43) (aa := 44) (nn := 1024) rfl rfl (hm_le rfl) (hm_ltN hN rfl) rfl rfl (hm_le rfl) (hm_ltN hN rfl) (by decide) ?_
        show R 152 37 [(2, .int v2), (1, .int v1), (0, .ref 42)] [] (N, hm_sh L g, (T_179 s 44 1024 v2 (-1))) _ Q
        refine hm_st hR (hm_st hR (?_))
        show R 152 7 [(2, .int (v2 + 1)), (1, .int v1), (0, .ref 42)] [] (N, hm_sh L g, (T_179 s 44 1024 v2 (-1))) _ Q
        exact hm_lvS hR (by intro q hq; simp only [List.mem_cons, List.not_mem_nil, or_false] at hq ⊢; rcases hq with rfl | rfl | rfl <;> simp) (ih (T_179 s 44 1024 v2 (-1)) v1 (v2 + 1) (by first | exact hm_dcx c12 hm | exact hm_dcE (N_179 (c := 42) (aa := 44) (by decide)) (hm_dcx c12 hm)) hq)
set_option maxRecDepth 20000 in
theorem sp_152 {R : hm_R} (hR : hm_Cm R) {N L : Nat} {g : Nat → hm_Sh} {s : hm_St} {b : hm_B} {Q : hm_Q} (hN : 68 ≤ N) (hq : Q (.inr (some (.int (T_152 s).1))) (N, hm_sh L g, (T_152 s).2)) : R 152 0 (lv_args 0 [.ref 42]) [] (N, hm_sh L g, s) b Q := by
  unfold T_152 at hq
  show R 152 0 [(0, .ref 42)] [] (N, hm_sh L g, s) _ Q
  refine hm_st hR (hm_st hR ⟨rfl, hm_le rfl, (hm_ltN hN rfl), hm_st hR (hm_st hR (hm_st hR (?_)))⟩)
  show R 152 7 [(2, .int 0), (1, .int (s 42 5)), (0, .ref 42)] [] (N, hm_sh L g, s) _ Q
  exact lp_152_7 hR hN _ _ _ _ (Nat.lt_succ_self _) hq
/-- CurvekeyHouse.sweep()I -/
def T_9 (s : hm_St) : (Int32 × hm_St) := ((T_152 s).1, (T_152 s).2)
theorem N_9 {c j : Nat} (h42 : c ≠ 42) (h44 : c ≠ 44) (h46 : c ≠ 46) {s : hm_St} : (T_9 s).2 c j = s c j := by
  unfold T_9
  repeat' split
  all_goals first | rfl | simp only [hm_w1n h42, hm_w1n h44, hm_w1n h46, N_152 h42 h44 h46]
set_option maxRecDepth 20000 in
theorem sp_9 {R : hm_R} (hR : hm_Cm R) {N L : Nat} {g : Nat → hm_Sh} {s : hm_St} {b : hm_B} {Q : hm_Q} (hN : 68 ≤ N) (hq : Q (.inr (some (.int (T_9 s).1))) (N, hm_sh L g, (T_9 s).2)) : R 9 0 (lv_args 0 [.ref 2]) [] (N, hm_sh L g, s) b Q := by
  unfold T_9 at hq
  show R 9 0 [(0, .ref 2)] [] (N, hm_sh L g, s) _ Q
  refine hm_st hR (hm_st hR ⟨rfl, hm_le rfl, (hm_ltN hN rfl), ?_⟩)
  refine hm_st hR ⟨hm_le rfl, rfl, (hm_le rfl), (hm_ltN hN rfl), hm_le rfl, hm_le rfl, (0, 0), Nat.zero_le _, Nat.zero_le _, ?_⟩
  refine sp_152 hR hN ?_
  show R 9 7 [(0, .ref 2)] [.int (T_152 s).1] (N, hm_sh L g, (T_152 s).2) _ Q
  exact hm_st hR ⟨fun z => absurd z (by decide), hq⟩
/-- CurvekeyHouse$History.version()I -/
def T_113 (s : hm_St) : Int32 := (s 25 9)
set_option maxRecDepth 20000 in
theorem sp_113 {R : hm_R} (hR : hm_Cm R) {N L : Nat} {g : Nat → hm_Sh} {s : hm_St} {b : hm_B} {Q : hm_Q} (hN : 68 ≤ N) (hq : Q (.inr (some (.int (T_113 s)))) (N, hm_sh L g, s)) : R 113 0 (lv_args 0 [.ref 25]) [] (N, hm_sh L g, s) b Q := by
  unfold T_113 at hq
  show R 113 0 [(0, .ref 25)] [] (N, hm_sh L g, s) _ Q
  refine hm_st hR (hm_st hR ⟨rfl, hm_le rfl, (hm_ltN hN rfl), ?_⟩)
  exact hm_st hR ⟨fun z => absurd z (by decide), hq⟩
/-- CurvekeyHouse$Pages.machineOf(II)I -/
def T_146 (s : hm_St) (p1 : Int32) (p2 : Int32) : Int32 := (if 1 ≤ (s 42 4) then ((p1 * p2) / (s 42 4)) else 0)
set_option maxRecDepth 20000 in
theorem sp_146 {R : hm_R} (hR : hm_Cm R) {N L : Nat} {g : Nat → hm_Sh} {s : hm_St} {b : hm_B} {Q : hm_Q} (hN : 68 ≤ N) {p1 : Int32} {p2 : Int32} (hq : Q (.inr (some (.int (T_146 s p1 p2)))) (N, hm_sh L g, s)) : R 146 0 (lv_args 0 [.ref 42, .int p1, .int p2]) [] (N, hm_sh L g, s) b Q := by
  unfold T_146 at hq
  show R 146 0 [(0, .ref 42), (1, .int p1), (2, .int p2)] [] (N, hm_sh L g, s) _ Q
  refine hm_st hR (hm_st hR ⟨rfl, hm_le rfl, (hm_ltN hN rfl), hm_st hR (?_)⟩)
  show R 146 5 [(0, .ref 42), (1, .int p1), (2, .int p2)] [.int 1, .int (s 42 4)] (N, hm_sh L g, s) _ Q
  refine hm_st hR ⟨fun c5 => ?_, fun c5 => ?_⟩
  · rw [if_pos c5] at hq
    show R 146 12 [(0, .ref 42), (1, .int p1), (2, .int p2)] [] (N, hm_sh L g, s) _ Q
    refine hm_st hR (hm_st hR (hm_st hR (hm_st hR (hm_st hR ⟨rfl, hm_le rfl, (hm_ltN hN rfl), hm_st hR ⟨(hm_nz1 c5), ?_⟩⟩))))
    exact hm_st hR ⟨fun z => absurd z (by decide), hq⟩
  · rw [if_neg c5] at hq
    show R 146 8 [(0, .ref 42), (1, .int p1), (2, .int p2)] [] (N, hm_sh L g, s) _ Q
    refine hm_st hR (hm_st hR (?_))
    exact hm_st hR ⟨fun z => absurd z (by decide), hq⟩
def T_142_23 : Nat → hm_St → Int32 → Int32 → Int32 → Int32 → Int32
  | 0, s, _, _, _, _ => 0
  | n + 1, s, v1, v2, v3, v4 => (if v3 ≤ v4 then v2 else (if (T_178 s 44 1024 v4) = (-2) then (T_142_23 n s v1 (v2 + 1) v3 (v4 + 1)) else (T_142_23 n s v1 v2 v3 (v4 + 1))))
/-- CurvekeyHouse$Pages.tombsIn(I)I -/
def T_142 (s : hm_St) (p1 : Int32) : Int32 := (T_142_23 (hm_df (T_178 s 46 1025 (p1 + 1)) (T_178 s 46 1025 p1) + 1) s p1 0 (T_178 s 46 1025 (p1 + 1)) (T_178 s 46 1025 p1))
set_option maxRecDepth 20000 in
theorem lp_142_23 {R : hm_R} (hR : hm_Cm R) {N L : Nat} {g : Nat → hm_Sh} {b : hm_B} {Q : hm_Q} (hN : 68 ≤ N) : ∀ (n : Nat) (s : hm_St) (v1 : Int32) (v2 : Int32) (v3 : Int32) (v4 : Int32), hm_df v3 v4 < n → (hq : Q (.inr (some (.int (T_142_23 n s v1 v2 v3 v4)))) (N, hm_sh L g, s)) → R 142 23 [(4, .int v4), (3, .int v3), (2, .int v2), (0, .ref 42), (1, .int v1)] [] (N, hm_sh L g, s) b Q := by
  intro n
  induction n with
  | zero => intro s v1 v2 v3 v4 hm _; exact absurd hm (Nat.not_lt_zero _)
  | succ n ih =>
    intro s v1 v2 v3 v4 hm hq
    unfold T_142_23 at hq
    refine hm_st hR (hm_st hR (?_))
    show R 142 26 [(4, .int v4), (3, .int v3), (2, .int v2), (0, .ref 42), (1, .int v1)] [.int v3, .int v4] (N, hm_sh L g, s) _ Q
    refine hm_st hR ⟨fun c26 => ?_, fun c26 => ?_⟩
    · rw [if_pos c26] at hq
      show R 142 52 [(4, .int v4), (3, .int v3), (2, .int v2), (0, .ref 42), (1, .int v1)] [] (N, hm_sh L g, s) _ Q
      refine hm_st hR (?_)
      exact hm_st hR ⟨fun z => absurd z (by decide), hq⟩
    · rw [if_neg c26] at hq
      show R 142 29 [(4, .int v4), (3, .int v3), (2, .int v2), (0, .ref 42), (1, .int v1)] [] (N, hm_sh L g, s) _ Q
      refine hm_st hR (hm_st hR ⟨rfl, hm_le rfl, (hm_ltN hN rfl), hm_st hR (?_)⟩)
      refine hm_st hR ⟨hm_le rfl, rfl, (hm_le rfl), (hm_ltN hN rfl), hm_le rfl, hm_le rfl, (0, 0), Nat.zero_le _, Nat.zero_le _, ?_⟩
      refine sp_178 hR hN (rr := 43) (aa := 44) (nn := 1024) rfl rfl (hm_le rfl) (hm_ltN hN rfl) rfl rfl (hm_le rfl) (hm_ltN hN rfl) (by decide) ?_
      show R 142 38 [(4, .int v4), (3, .int v3), (2, .int v2), (0, .ref 42), (1, .int v1)] [.int (T_178 s 44 1024 v4)] (N, hm_sh L g, s) _ Q
      refine hm_st hR (?_)
      show R 142 40 [(4, .int v4), (3, .int v3), (2, .int v2), (0, .ref 42), (1, .int v1)] [.int (-2), .int (T_178 s 44 1024 v4)] (N, hm_sh L g, s) _ Q
      refine hm_st hR ⟨fun c40 => ?_, fun c40 => ?_⟩
      · rw [if_neg c40] at hq
        show R 142 46 [(4, .int v4), (3, .int v3), (2, .int v2), (0, .ref 42), (1, .int v1)] [] (N, hm_sh L g, s) _ Q
        refine hm_st hR (hm_st hR (?_))
        show R 142 23 [(4, .int (v4 + 1)), (3, .int v3), (2, .int v2), (0, .ref 42), (1, .int v1)] [] (N, hm_sh L g, s) _ Q
        exact hm_lvS hR (by intro q hq; simp only [List.mem_cons, List.not_mem_nil, or_false] at hq ⊢; rcases hq with rfl | rfl | rfl | rfl | rfl <;> simp) (ih s v1 v2 v3 (v4 + 1) (hm_dcx c26 hm) hq)
      · rw [if_pos c40] at hq
        show R 142 43 [(4, .int v4), (3, .int v3), (2, .int v2), (0, .ref 42), (1, .int v1)] [] (N, hm_sh L g, s) _ Q
        refine hm_st hR (hm_st hR (hm_st hR (?_)))
        show R 142 23 [(4, .int (v4 + 1)), (2, .int (v2 + 1)), (3, .int v3), (0, .ref 42), (1, .int v1)] [] (N, hm_sh L g, s) _ Q
        exact hm_lvS hR (by intro q hq; simp only [List.mem_cons, List.not_mem_nil, or_false] at hq ⊢; rcases hq with rfl | rfl | rfl | rfl | rfl <;> simp) (ih s v1 (v2 + 1) v3 (v4 + 1) (hm_dcx c26 hm) hq)
set_option maxRecDepth 20000 in
theorem sp_142 {R : hm_R} (hR : hm_Cm R) {N L : Nat} {g : Nat → hm_Sh} {s : hm_St} {b : hm_B} {Q : hm_Q} (hN : 68 ≤ N) {p1 : Int32} (hq : Q (.inr (some (.int (T_142 s p1)))) (N, hm_sh L g, s)) : R 142 0 (lv_args 0 [.ref 42, .int p1]) [] (N, hm_sh L g, s) b Q := by
  unfold T_142 at hq
  show R 142 0 [(0, .ref 42), (1, .int p1)] [] (N, hm_sh L g, s) _ Q
  refine hm_st hR (hm_st hR (hm_st hR (hm_st hR ⟨rfl, hm_le rfl, (hm_ltN hN rfl), hm_st hR (hm_st hR (hm_st hR (?_)))⟩)))
  refine hm_st hR ⟨hm_le rfl, rfl, (hm_le rfl), (hm_ltN hN rfl), hm_le rfl, hm_le rfl, (0, 0), Nat.zero_le _, Nat.zero_le _, ?_⟩
  refine sp_178 hR hN (rr := 45) (aa := 46) (nn := 1025) rfl rfl (hm_le rfl) (hm_ltN hN rfl) rfl rfl (hm_le rfl) (hm_ltN hN rfl) (by decide) ?_
  show R 142 12 [(2, .int 0), (0, .ref 42), (1, .int p1)] [.int (T_178 s 46 1025 (p1 + 1))] (N, hm_sh L g, s) _ Q
  refine hm_st hR (hm_st hR (hm_st hR ⟨rfl, hm_le rfl, (hm_ltN hN rfl), hm_st hR (?_)⟩))
  refine hm_st hR ⟨hm_le rfl, rfl, (hm_le rfl), (hm_ltN hN rfl), hm_le rfl, hm_le rfl, (0, 0), Nat.zero_le _, Nat.zero_le _, ?_⟩
  refine sp_178 hR hN (rr := 45) (aa := 46) (nn := 1025) rfl rfl (hm_le rfl) (hm_ltN hN rfl) rfl rfl (hm_le rfl) (hm_ltN hN rfl) (by decide) ?_
  show R 142 21 [(3, .int (T_178 s 46 1025 (p1 + 1))), (2, .int 0), (0, .ref 42), (1, .int p1)] [.int (T_178 s 46 1025 p1)] (N, hm_sh L g, s) _ Q
  refine hm_st hR (?_)
  show R 142 23 [(4, .int (T_178 s 46 1025 p1)), (3, .int (T_178 s 46 1025 (p1 + 1))), (2, .int 0), (0, .ref 42), (1, .int p1)] [] (N, hm_sh L g, s) _ Q
  exact lp_142_23 hR hN _ _ _ _ _ _ (Nat.lt_succ_self _) hq
def T_147_5 : Nat → hm_St → Int32 → Int32 → Int32 → Int32 → Int32
  | 0, s, _, _, _, _ => 0
  | n + 1, s, v1, v2, v3, v4 => (if (s 42 4) ≤ v4 then v3 else (if (T_146 s v4 v2) = v1 then (T_147_5 n s v1 v2 (v3 + ((T_141 s v4) - (T_142 s v4))) (v4 + 1)) else (T_147_5 n s v1 v2 v3 (v4 + 1))))
/-- CurvekeyHouse$Pages.loadOf(II)I -/
def T_147 (s : hm_St) (p1 : Int32) (p2 : Int32) : Int32 := (T_147_5 (hm_df (s 42 4) 0 + 1) s p1 p2 0 0)
set_option maxRecDepth 20000 in
theorem lp_147_5 {R : hm_R} (hR : hm_Cm R) {N L : Nat} {g : Nat → hm_Sh} {b : hm_B} {Q : hm_Q} (hN : 68 ≤ N) : ∀ (n : Nat) (s : hm_St) (v1 : Int32) (v2 : Int32) (v3 : Int32) (v4 : Int32), hm_df (s 42 4) v4 < n → (hq : Q (.inr (some (.int (T_147_5 n s v1 v2 v3 v4)))) (N, hm_sh L g, s)) → R 147 5 [(4, .int v4), (3, .int v3), (0, .ref 42), (1, .int v1), (2, .int v2)] [] (N, hm_sh L g, s) b Q := by
  intro n
  induction n with
  | zero => intro s v1 v2 v3 v4 hm _; exact absurd hm (Nat.not_lt_zero _)
  | succ n ih =>
    intro s v1 v2 v3 v4 hm hq
    unfold T_147_5 at hq
    refine hm_st hR (hm_st hR (hm_st hR ⟨rfl, hm_le rfl, (hm_ltN hN rfl), ?_⟩))
    show R 147 11 [(4, .int v4), (3, .int v3), (0, .ref 42), (1, .int v1), (2, .int v2)] [.int (s 42 4), .int v4] (N, hm_sh L g, s) _ Q
    refine hm_st hR ⟨fun c11 => ?_, fun c11 => ?_⟩
    · rw [if_pos c11] at hq
      show R 147 47 [(4, .int v4), (3, .int v3), (0, .ref 42), (1, .int v1), (2, .int v2)] [] (N, hm_sh L g, s) _ Q
      refine hm_st hR (?_)
      exact hm_st hR ⟨fun z => absurd z (by decide), hq⟩
    · rw [if_neg c11] at hq
      show R 147 14 [(4, .int v4), (3, .int v3), (0, .ref 42), (1, .int v1), (2, .int v2)] [] (N, hm_sh L g, s) _ Q
      refine hm_st hR (hm_st hR (hm_st hR (?_)))
      refine hm_st hR ⟨hm_le rfl, rfl, (hm_le rfl), (hm_ltN hN rfl), hm_le rfl, hm_le rfl, (0, 0), Nat.zero_le _, Nat.zero_le _, ?_⟩
      refine sp_146 hR hN ?_
      show R 147 21 [(4, .int v4), (3, .int v3), (0, .ref 42), (1, .int v1), (2, .int v2)] [.int (T_146 s v4 v2)] (N, hm_sh L g, s) _ Q
      refine hm_st hR (?_)
      show R 147 22 [(4, .int v4), (3, .int v3), (0, .ref 42), (1, .int v1), (2, .int v2)] [.int v1, .int (T_146 s v4 v2)] (N, hm_sh L g, s) _ Q
      refine hm_st hR ⟨fun c22 => ?_, fun c22 => ?_⟩
      · rw [if_neg c22] at hq
        show R 147 41 [(4, .int v4), (3, .int v3), (0, .ref 42), (1, .int v1), (2, .int v2)] [] (N, hm_sh L g, s) _ Q
        refine hm_st hR (hm_st hR (?_))
        show R 147 5 [(4, .int (v4 + 1)), (3, .int v3), (0, .ref 42), (1, .int v1), (2, .int v2)] [] (N, hm_sh L g, s) _ Q
        exact hm_lvS hR (by intro q hq; simp only [List.mem_cons, List.not_mem_nil, or_false] at hq ⊢; rcases hq with rfl | rfl | rfl | rfl | rfl <;> simp) (ih s v1 v2 v3 (v4 + 1) (hm_dcx c11 hm) hq)
      · rw [if_pos c22] at hq
        show R 147 25 [(4, .int v4), (3, .int v3), (0, .ref 42), (1, .int v1), (2, .int v2)] [] (N, hm_sh L g, s) _ Q
        refine hm_st hR (hm_st hR (hm_st hR (?_)))
        refine hm_st hR ⟨hm_le rfl, rfl, (hm_le rfl), (hm_ltN hN rfl), hm_le rfl, hm_le rfl, (0, 0), Nat.zero_le _, Nat.zero_le _, ?_⟩
        refine sp_141 hR hN ?_
        show R 147 32 [(4, .int v4), (3, .int v3), (0, .ref 42), (1, .int v1), (2, .int v2)] [.int (T_141 s v4), .int v3] (N, hm_sh L g, s) _ Q
        refine hm_st hR (hm_st hR (?_))
        refine hm_st hR ⟨hm_le rfl, rfl, (hm_le rfl), (hm_ltN hN rfl), hm_le rfl, hm_le rfl, (0, 0), Nat.zero_le _, Nat.zero_le _, ?_⟩
        refine sp_142 hR hN ?_
        show R 147 38 [(4, .int v4), (3, .int v3), (0, .ref 42), (1, .int v1), (2, .int v2)] [.int (T_142 s v4), .int (T_141 s v4), .int v3] (N, hm_sh L g, s) _ Q
        refine hm_st hR (hm_st hR (hm_st hR (hm_st hR (hm_st hR (?_)))))
        show R 147 5 [(4, .int (v4 + 1)), (3, .int (v3 + ((T_141 s v4) - (T_142 s v4)))), (0, .ref 42), (1, .int v1), (2, .int v2)] [] (N, hm_sh L g, s) _ Q
        exact hm_lvS hR (by intro q hq; simp only [List.mem_cons, List.not_mem_nil, or_false] at hq ⊢; rcases hq with rfl | rfl | rfl | rfl | rfl <;> simp) (ih s v1 v2 (v3 + ((T_141 s v4) - (T_142 s v4))) (v4 + 1) (hm_dcx c11 hm) hq)
set_option maxRecDepth 20000 in
theorem sp_147 {R : hm_R} (hR : hm_Cm R) {N L : Nat} {g : Nat → hm_Sh} {s : hm_St} {b : hm_B} {Q : hm_Q} (hN : 68 ≤ N) {p1 : Int32} {p2 : Int32} (hq : Q (.inr (some (.int (T_147 s p1 p2)))) (N, hm_sh L g, s)) : R 147 0 (lv_args 0 [.ref 42, .int p1, .int p2]) [] (N, hm_sh L g, s) b Q := by
  unfold T_147 at hq
  show R 147 0 [(0, .ref 42), (1, .int p1), (2, .int p2)] [] (N, hm_sh L g, s) _ Q
  refine hm_st hR (hm_st hR (hm_st hR (hm_st hR (?_))))
  show R 147 5 [(4, .int 0), (3, .int 0), (0, .ref 42), (1, .int p1), (2, .int p2)] [] (N, hm_sh L g, s) _ Q
  exact lp_147_5 hR hN _ _ _ _ _ _ (Nat.lt_succ_self _) hq
def T_23_17 : Nat → hm_St → Int32 → Int32 → Int32 → Int32
  | 0, s, _, _, _ => 0
  | n + 1, s, v1, v2, v3 => (if (s 2 9) ≤ v3 then (v1 - v2) else (T_23_17 n s (hm_max v1 (T_147 s v3 (s 2 9))) (hm_min v2 (T_147 s v3 (s 2 9))) (v3 + 1)))
/-- CurvekeyHouse.skew()I -/
def T_23 (s : hm_St) : Int32 := (T_23_17 (hm_df (s 2 9) 1 + 1) s (T_147 s 0 (s 2 9)) (T_147 s 0 (s 2 9)) 1)
set_option maxRecDepth 20000 in
theorem lp_23_17 {R : hm_R} (hR : hm_Cm R) {N L : Nat} {g : Nat → hm_Sh} {b : hm_B} {Q : hm_Q} (hN : 68 ≤ N) : ∀ (n : Nat) (s : hm_St) (v1 : Int32) (v2 : Int32) (v3 : Int32), hm_df (s 2 9) v3 < n → (hq : Q (.inr (some (.int (T_23_17 n s v1 v2 v3)))) (N, hm_sh L g, s)) → R 23 17 [(3, .int v3), (2, .int v2), (1, .int v1), (0, .ref 2)] [] (N, hm_sh L g, s) b Q := by
  intro n
  induction n with
  | zero => intro s v1 v2 v3 hm _; exact absurd hm (Nat.not_lt_zero _)
  | succ n ih =>
    intro s v1 v2 v3 hm hq
    unfold T_23_17 at hq
    refine hm_st hR (hm_st hR (hm_st hR ⟨rfl, hm_le rfl, (hm_ltN hN rfl), ?_⟩))
    show R 23 22 [(3, .int v3), (2, .int v2), (1, .int v1), (0, .ref 2)] [.int (s 2 9), .int v3] (N, hm_sh L g, s) _ Q
    refine hm_st hR ⟨fun c22 => ?_, fun c22 => ?_⟩
    · rw [if_pos c22] at hq
      show R 23 59 [(3, .int v3), (2, .int v2), (1, .int v1), (0, .ref 2)] [] (N, hm_sh L g, s) _ Q
      refine hm_st hR (hm_st hR (hm_st hR (?_)))
      exact hm_st hR ⟨fun z => absurd z (by decide), hq⟩
    · rw [if_neg c22] at hq
      show R 23 25 [(3, .int v3), (2, .int v2), (1, .int v1), (0, .ref 2)] [] (N, hm_sh L g, s) _ Q
      refine hm_st hR (hm_st hR ⟨rfl, hm_le rfl, (hm_ltN hN rfl), hm_st hR (hm_st hR (hm_st hR ⟨rfl, hm_le rfl, (hm_ltN hN rfl), ?_⟩))⟩)
      refine hm_st hR ⟨hm_le rfl, rfl, (hm_le rfl), (hm_ltN hN rfl), hm_le rfl, hm_le rfl, (0, 0), Nat.zero_le _, Nat.zero_le _, ?_⟩
      refine sp_147 hR hN ?_
      show R 23 37 [(3, .int v3), (2, .int v2), (1, .int v1), (0, .ref 2)] [.int (T_147 s v3 (s 2 9))] (N, hm_sh L g, s) _ Q
      refine hm_st hR (hm_st hR (hm_st hR (hm_st hR ⟨hm_le rfl, ?_⟩)))
      show R 23 45 [(4, .int (T_147 s v3 (s 2 9))), (3, .int v3), (2, .int v2), (1, .int v1), (0, .ref 2)] [.int (hm_max v1 (T_147 s v3 (s 2 9)))] (N, hm_sh L g, s) _ Q
      refine hm_st hR (hm_st hR (hm_st hR (hm_st hR ⟨hm_le rfl, ?_⟩)))
      show R 23 52 [(1, .int (hm_max v1 (T_147 s v3 (s 2 9)))), (4, .int (T_147 s v3 (s 2 9))), (3, .int v3), (2, .int v2), (0, .ref 2)] [.int (hm_min v2 (T_147 s v3 (s 2 9)))] (N, hm_sh L g, s) _ Q
      refine hm_st hR (hm_st hR (hm_st hR (?_)))
      show R 23 17 [(3, .int (v3 + 1)), (2, .int (hm_min v2 (T_147 s v3 (s 2 9)))), (1, .int (hm_max v1 (T_147 s v3 (s 2 9)))), (4, .int (T_147 s v3 (s 2 9))), (0, .ref 2)] [] (N, hm_sh L g, s) _ Q
      exact hm_lvS hR (by intro q hq; simp only [List.mem_cons, List.not_mem_nil, or_false] at hq ⊢; rcases hq with rfl | rfl | rfl | rfl <;> simp) (ih s (hm_max v1 (T_147 s v3 (s 2 9))) (hm_min v2 (T_147 s v3 (s 2 9))) (v3 + 1) (hm_dcx c22 hm) hq)
set_option maxRecDepth 20000 in
theorem sp_23 {R : hm_R} (hR : hm_Cm R) {N L : Nat} {g : Nat → hm_Sh} {s : hm_St} {b : hm_B} {Q : hm_Q} (hN : 68 ≤ N) (hq : Q (.inr (some (.int (T_23 s)))) (N, hm_sh L g, s)) : R 23 0 (lv_args 0 [.ref 2]) [] (N, hm_sh L g, s) b Q := by
  unfold T_23 at hq
  show R 23 0 [(0, .ref 2)] [] (N, hm_sh L g, s) _ Q
  refine hm_st hR (hm_st hR ⟨rfl, hm_le rfl, (hm_ltN hN rfl), hm_st hR (hm_st hR (hm_st hR ⟨rfl, hm_le rfl, (hm_ltN hN rfl), ?_⟩))⟩)
  refine hm_st hR ⟨hm_le rfl, rfl, (hm_le rfl), (hm_ltN hN rfl), hm_le rfl, hm_le rfl, (0, 0), Nat.zero_le _, Nat.zero_le _, ?_⟩
  refine sp_147 hR hN ?_
  show R 23 12 [(0, .ref 2)] [.int (T_147 s 0 (s 2 9))] (N, hm_sh L g, s) _ Q
  refine hm_st hR (hm_st hR (hm_st hR (hm_st hR (hm_st hR (?_)))))
  show R 23 17 [(3, .int 1), (2, .int (T_147 s 0 (s 2 9))), (1, .int (T_147 s 0 (s 2 9))), (0, .ref 2)] [] (N, hm_sh L g, s) _ Q
  exact lp_23_17 hR hN _ _ _ _ _ (Nat.lt_succ_self _) hq
/-- CurvekeyHouse$Cells.isLevel(I)Z -/
def T_70 (s : hm_St) (p1 : Int32) : Int32 := (if p1 < 0 then 0 else (if (s 47 1) < p1 then 0 else 1))
theorem B_70 (s : hm_St) (p1 : Int32) : T_70 s p1 = 0 ∨ T_70 s p1 = 1 := by
  unfold T_70
  repeat' split
  all_goals first | exact Or.inl rfl | exact Or.inr rfl
set_option maxRecDepth 20000 in
theorem sp_70 {R : hm_R} (hR : hm_Cm R) {N L : Nat} {g : Nat → hm_Sh} {s : hm_St} {b : hm_B} {Q : hm_Q} (hN : 68 ≤ N) {p1 : Int32} (hq : Q (.inr (some (.int (T_70 s p1)))) (N, hm_sh L g, s)) : R 70 0 (lv_args 0 [.ref 47, .int p1]) [] (N, hm_sh L g, s) b Q := by
  unfold T_70 at hq
  show R 70 0 [(0, .ref 47), (1, .int p1)] [] (N, hm_sh L g, s) _ Q
  refine hm_st hR (?_)
  show R 70 1 [(0, .ref 47), (1, .int p1)] [.int p1] (N, hm_sh L g, s) _ Q
  refine hm_st hR ⟨fun c1 => ?_, fun c1 => ?_⟩
  · rw [if_pos c1] at hq
    show R 70 16 [(0, .ref 47), (1, .int p1)] [] (N, hm_sh L g, s) _ Q
    refine hm_st hR (?_)
    exact hm_st hR ⟨fun _ => Or.inl rfl, hq⟩
  · rw [if_neg c1] at hq
    show R 70 4 [(0, .ref 47), (1, .int p1)] [] (N, hm_sh L g, s) _ Q
    refine hm_st hR (hm_st hR (hm_st hR ⟨rfl, hm_le rfl, (hm_ltN hN rfl), ?_⟩))
    show R 70 9 [(0, .ref 47), (1, .int p1)] [.int (s 47 1), .int p1] (N, hm_sh L g, s) _ Q
    suffices G : R 70 17 [(0, .ref 47), (1, .int p1)] [.int (if (s 47 1) < p1 then 0 else 1)] (N, hm_sh L g, s) b Q by
      show R 70 9 [(0, .ref 47), (1, .int p1)] [.int (s 47 1), .int p1] (N, hm_sh L g, s) _ Q
      refine hm_st hR ⟨fun c => ?_, fun c => ?_⟩
      · rw [if_pos c] at G; exact hm_st hR (G)
      · rw [if_neg c] at G; exact hm_st hR (hm_st hR (G))
    exact hm_st hR ⟨fun _ => (by split <;> first | exact Or.inl rfl | exact Or.inr rfl), hq⟩
/-- CurvekeyHouse$Cells.cellsOf(I)I -/
def T_72 (s : hm_St) (p1 : Int32) : Int32 := (1 <<< ((2 * p1) &&& 31))
set_option maxRecDepth 20000 in
theorem sp_72 {R : hm_R} (hR : hm_Cm R) {N L : Nat} {g : Nat → hm_Sh} {s : hm_St} {b : hm_B} {Q : hm_Q} (hN : 68 ≤ N) {p1 : Int32} (hq : Q (.inr (some (.int (T_72 s p1)))) (N, hm_sh L g, s)) : R 72 0 (lv_args 0 [.int p1]) [] (N, hm_sh L g, s) b Q := by
  unfold T_72 at hq
  show R 72 0 [(0, .int p1)] [] (N, hm_sh L g, s) _ Q
  refine hm_st hR (hm_st hR (hm_st hR (hm_st hR (hm_st hR (?_)))))
  exact hm_st hR ⟨fun z => absurd z (by decide), hq⟩
/-- CurvekeyHouse$Cells.isCell(II)Z -/
def T_71 (s : hm_St) (p1 : Int32) (p2 : Int32) : Int32 := (if (T_70 s p1) = 0 then 0 else (if p2 < 0 then 0 else (if (T_72 s p1) ≤ p2 then 0 else 1)))
theorem B_71 (s : hm_St) (p1 : Int32) (p2 : Int32) : T_71 s p1 p2 = 0 ∨ T_71 s p1 p2 = 1 := by
  unfold T_71
  repeat' split
  all_goals first | exact Or.inl rfl | exact Or.inr rfl | exact B_70 _ _
set_option maxRecDepth 20000 in
theorem sp_71 {R : hm_R} (hR : hm_Cm R) {N L : Nat} {g : Nat → hm_Sh} {s : hm_St} {b : hm_B} {Q : hm_Q} (hN : 68 ≤ N) {p1 : Int32} {p2 : Int32} (hq : Q (.inr (some (.int (T_71 s p1 p2)))) (N, hm_sh L g, s)) : R 71 0 (lv_args 0 [.ref 47, .int p1, .int p2]) [] (N, hm_sh L g, s) b Q := by
  unfold T_71 at hq
  show R 71 0 [(0, .ref 47), (1, .int p1), (2, .int p2)] [] (N, hm_sh L g, s) _ Q
  refine hm_st hR (hm_st hR (?_))
  refine hm_st hR ⟨hm_le rfl, rfl, (hm_le rfl), (hm_ltN hN rfl), hm_le rfl, hm_le rfl, (0, 0), Nat.zero_le _, Nat.zero_le _, ?_⟩
  refine sp_70 hR hN ?_
  show R 71 5 [(0, .ref 47), (1, .int p1), (2, .int p2)] [.int (T_70 s p1)] (N, hm_sh L g, s) _ Q
  show R 71 5 [(0, .ref 47), (1, .int p1), (2, .int p2)] [.int (T_70 s p1)] (N, hm_sh L g, s) _ Q
  refine hm_st hR ⟨fun c5 => ?_, fun c5 => ?_⟩
  · rw [if_pos c5] at hq
    show R 71 24 [(0, .ref 47), (1, .int p1), (2, .int p2)] [] (N, hm_sh L g, s) _ Q
    refine hm_st hR (?_)
    exact hm_st hR ⟨fun _ => Or.inl rfl, hq⟩
  · rw [if_neg c5] at hq
    show R 71 8 [(0, .ref 47), (1, .int p1), (2, .int p2)] [] (N, hm_sh L g, s) _ Q
    refine hm_st hR (?_)
    show R 71 9 [(0, .ref 47), (1, .int p1), (2, .int p2)] [.int p2] (N, hm_sh L g, s) _ Q
    refine hm_st hR ⟨fun c9 => ?_, fun c9 => ?_⟩
    · rw [if_pos c9] at hq
      show R 71 24 [(0, .ref 47), (1, .int p1), (2, .int p2)] [] (N, hm_sh L g, s) _ Q
      refine hm_st hR (?_)
      exact hm_st hR ⟨fun _ => Or.inl rfl, hq⟩
    · rw [if_neg c9] at hq
      show R 71 12 [(0, .ref 47), (1, .int p1), (2, .int p2)] [] (N, hm_sh L g, s) _ Q
      refine hm_st hR (hm_st hR (?_))
      refine hm_st hR ⟨hm_le rfl, hm_le rfl, hm_le rfl, (0, 0), Nat.zero_le _, Nat.zero_le _, ?_⟩
      refine sp_72 hR hN ?_
      show R 71 17 [(0, .ref 47), (1, .int p1), (2, .int p2)] [.int (T_72 s p1), .int p2] (N, hm_sh L g, s) _ Q
      show R 71 17 [(0, .ref 47), (1, .int p1), (2, .int p2)] [.int (T_72 s p1), .int p2] (N, hm_sh L g, s) _ Q
      suffices G : R 71 25 [(0, .ref 47), (1, .int p1), (2, .int p2)] [.int (if (T_72 s p1) ≤ p2 then 0 else 1)] (N, hm_sh L g, s) ((b.1 - 0, b.2 - 0).1 - 0, (b.1 - 0, b.2 - 0).2 - 0) Q by
        show R 71 17 [(0, .ref 47), (1, .int p1), (2, .int p2)] [.int (T_72 s p1), .int p2] (N, hm_sh L g, s) _ Q
        refine hm_st hR ⟨fun c => ?_, fun c => ?_⟩
        · rw [if_pos c] at G; exact hm_st hR (G)
        · rw [if_neg c] at G; exact hm_st hR (hm_st hR (G))
      exact hm_st hR ⟨fun _ => (by split <;> first | exact Or.inl rfl | exact Or.inr rfl), hq⟩
def T_154_15 : Nat → hm_St → Int32 → Int32
  | 0, s, _ => 0
  | n + 1, s, v1 => (if (s 42 4) ≤ v1 then 1 else (if (s 42 3) < (T_141 s v1) then 0 else (if (T_178 s 46 1025 v1) < (T_178 s 46 1025 (v1 + 1)) then (T_154_15 n s (v1 + 1)) else 0)))
/-- CurvekeyHouse$Pages.isOrdered()Z -/
def T_154 (s : hm_St) : Int32 := (if (T_178 s 46 1025 0) = 0 then (T_154_15 (hm_df (s 42 4) 0 + 1) s 0) else 0)
theorem B_154_15 : ∀ (n : Nat) (s : hm_St) v0, T_154_15  n s v0 = 0 ∨ T_154_15  n s v0 = 1 := by
  intro n
  induction n with
  | zero => intros; exact Or.inl rfl
  | succ n ih =>
    intros
    unfold T_154_15
    repeat' split
    all_goals first | exact Or.inl rfl | exact Or.inr rfl | exact ih _ _
theorem B_154 (s : hm_St) : T_154 s = 0 ∨ T_154 s = 1 := by
  unfold T_154
  repeat' split
  all_goals first | exact Or.inl rfl | exact Or.inr rfl | exact B_154_15 _ _ _
set_option maxRecDepth 20000 in
theorem lp_154_15 {R : hm_R} (hR : hm_Cm R) {N L : Nat} {g : Nat → hm_Sh} {b : hm_B} {Q : hm_Q} (hN : 68 ≤ N) : ∀ (n : Nat) (s : hm_St) (v1 : Int32), hm_df (s 42 4) v1 < n → (hq : Q (.inr (some (.int (T_154_15 n s v1)))) (N, hm_sh L g, s)) → R 154 15 [(1, .int v1), (0, .ref 42)] [] (N, hm_sh L g, s) b Q := by
  intro n
  induction n with
  | zero => intro s v1 hm _; exact absurd hm (Nat.not_lt_zero _)
  | succ n ih =>
    intro s v1 hm hq
    unfold T_154_15 at hq
    refine hm_st hR (hm_st hR (hm_st hR ⟨rfl, hm_le rfl, (hm_ltN hN rfl), ?_⟩))
    show R 154 20 [(1, .int v1), (0, .ref 42)] [.int (s 42 4), .int v1] (N, hm_sh L g, s) _ Q
    refine hm_st hR ⟨fun c20 => ?_, fun c20 => ?_⟩
    · rw [if_pos c20] at hq
      show R 154 64 [(1, .int v1), (0, .ref 42)] [] (N, hm_sh L g, s) _ Q
      refine hm_st hR (?_)
      exact hm_st hR ⟨fun _ => Or.inr rfl, hq⟩
    · rw [if_neg c20] at hq
      show R 154 23 [(1, .int v1), (0, .ref 42)] [] (N, hm_sh L g, s) _ Q
      refine hm_st hR (hm_st hR (?_))
      refine hm_st hR ⟨hm_le rfl, rfl, (hm_le rfl), (hm_ltN hN rfl), hm_le rfl, hm_le rfl, (0, 0), Nat.zero_le _, Nat.zero_le _, ?_⟩
      refine sp_141 hR hN ?_
      show R 154 28 [(1, .int v1), (0, .ref 42)] [.int (T_141 s v1)] (N, hm_sh L g, s) _ Q
      refine hm_st hR (hm_st hR ⟨rfl, hm_le rfl, (hm_ltN hN rfl), ?_⟩)
      show R 154 32 [(1, .int v1), (0, .ref 42)] [.int (s 42 3), .int (T_141 s v1)] (N, hm_sh L g, s) _ Q
      refine hm_st hR ⟨fun c32 => ?_, fun c32 => ?_⟩
      · rw [if_pos c32] at hq
        show R 154 56 [(1, .int v1), (0, .ref 42)] [] (N, hm_sh L g, s) _ Q
        refine hm_st hR (?_)
        exact hm_st hR ⟨fun _ => Or.inl rfl, hq⟩
      · rw [if_neg c32] at hq
        show R 154 35 [(1, .int v1), (0, .ref 42)] [] (N, hm_sh L g, s) _ Q
        refine hm_st hR (hm_st hR ⟨rfl, hm_le rfl, (hm_ltN hN rfl), hm_st hR (hm_st hR (hm_st hR (?_)))⟩)
        refine hm_st hR ⟨hm_le rfl, rfl, (hm_le rfl), (hm_ltN hN rfl), hm_le rfl, hm_le rfl, (0, 0), Nat.zero_le _, Nat.zero_le _, ?_⟩
        refine sp_178 hR hN (rr := 45) (aa := 46) (nn := 1025) rfl rfl (hm_le rfl) (hm_ltN hN rfl) rfl rfl (hm_le rfl) (hm_ltN hN rfl) (by decide) ?_
        show R 154 45 [(1, .int v1), (0, .ref 42)] [.int (T_178 s 46 1025 (v1 + 1))] (N, hm_sh L g, s) _ Q
        refine hm_st hR (hm_st hR ⟨rfl, hm_le rfl, (hm_ltN hN rfl), hm_st hR (?_)⟩)
        refine hm_st hR ⟨hm_le rfl, rfl, (hm_le rfl), (hm_ltN hN rfl), hm_le rfl, hm_le rfl, (0, 0), Nat.zero_le _, Nat.zero_le _, ?_⟩
        refine sp_178 hR hN (rr := 45) (aa := 46) (nn := 1025) rfl rfl (hm_le rfl) (hm_ltN hN rfl) rfl rfl (hm_le rfl) (hm_ltN hN rfl) (by decide) ?_
        show R 154 53 [(1, .int v1), (0, .ref 42)] [.int (T_178 s 46 1025 v1), .int (T_178 s 46 1025 (v1 + 1))] (N, hm_sh L g, s) _ Q
        show R 154 53 [(1, .int v1), (0, .ref 42)] [.int (T_178 s 46 1025 v1), .int (T_178 s 46 1025 (v1 + 1))] (N, hm_sh L g, s) _ Q
        refine hm_st hR ⟨fun c53 => ?_, fun c53 => ?_⟩
        · rw [if_pos c53] at hq
          show R 154 58 [(1, .int v1), (0, .ref 42)] [] (N, hm_sh L g, s) _ Q
          refine hm_st hR (hm_st hR (?_))
          show R 154 15 [(1, .int (v1 + 1)), (0, .ref 42)] [] (N, hm_sh L g, s) _ Q
          exact hm_lvS hR (by intro q hq; simp only [List.mem_cons, List.not_mem_nil, or_false] at hq ⊢; rcases hq with rfl | rfl <;> simp) (ih s (v1 + 1) (hm_dcx c20 hm) hq)
        · rw [if_neg c53] at hq
          show R 154 56 [(1, .int v1), (0, .ref 42)] [] (N, hm_sh L g, s) _ Q
          refine hm_st hR (?_)
          exact hm_st hR ⟨fun _ => Or.inl rfl, hq⟩
set_option maxRecDepth 20000 in
theorem sp_154 {R : hm_R} (hR : hm_Cm R) {N L : Nat} {g : Nat → hm_Sh} {s : hm_St} {b : hm_B} {Q : hm_Q} (hN : 68 ≤ N) (hq : Q (.inr (some (.int (T_154 s)))) (N, hm_sh L g, s)) : R 154 0 (lv_args 0 [.ref 42]) [] (N, hm_sh L g, s) b Q := by
  unfold T_154 at hq
  show R 154 0 [(0, .ref 42)] [] (N, hm_sh L g, s) _ Q
  refine hm_st hR (hm_st hR ⟨rfl, hm_le rfl, (hm_ltN hN rfl), hm_st hR (?_)⟩)
  refine hm_st hR ⟨hm_le rfl, rfl, (hm_le rfl), (hm_ltN hN rfl), hm_le rfl, hm_le rfl, (0, 0), Nat.zero_le _, Nat.zero_le _, ?_⟩
  refine sp_178 hR hN (rr := 45) (aa := 46) (nn := 1025) rfl rfl (hm_le rfl) (hm_ltN hN rfl) rfl rfl (hm_le rfl) (hm_ltN hN rfl) (by decide) ?_
  show R 154 8 [(0, .ref 42)] [.int (T_178 s 46 1025 0)] (N, hm_sh L g, s) _ Q
  show R 154 8 [(0, .ref 42)] [.int (T_178 s 46 1025 0)] (N, hm_sh L g, s) _ Q
  refine hm_st hR ⟨fun c8 => ?_, fun c8 => ?_⟩
  · rw [if_pos c8] at hq
    show R 154 13 [(0, .ref 42)] [] (N, hm_sh L g, s) _ Q
    refine hm_st hR (hm_st hR (?_))
    show R 154 15 [(1, .int 0), (0, .ref 42)] [] (N, hm_sh L g, s) _ Q
    exact lp_154_15 hR hN _ _ _ (Nat.lt_succ_self _) hq
  · rw [if_neg c8] at hq
    show R 154 11 [(0, .ref 42)] [] (N, hm_sh L g, s) _ Q
    refine hm_st hR (?_)
    exact hm_st hR ⟨fun _ => Or.inl rfl, hq⟩
/-- CurvekeyHouse$Pages.holder(I)I -/
def T_140 (s : hm_St) (p1 : Int32) : Int32 := (hm_max (-1) (T_178 s 44 1024 p1))
set_option maxRecDepth 20000 in
theorem sp_140 {R : hm_R} (hR : hm_Cm R) {N L : Nat} {g : Nat → hm_Sh} {s : hm_St} {b : hm_B} {Q : hm_Q} (hN : 68 ≤ N) {p1 : Int32} (hq : Q (.inr (some (.int (T_140 s p1)))) (N, hm_sh L g, s)) : R 140 0 (lv_args 0 [.ref 42, .int p1]) [] (N, hm_sh L g, s) b Q := by
  unfold T_140 at hq
  show R 140 0 [(0, .ref 42), (1, .int p1)] [] (N, hm_sh L g, s) _ Q
  refine hm_st hR (hm_st hR (hm_st hR ⟨rfl, hm_le rfl, (hm_ltN hN rfl), hm_st hR (?_)⟩))
  refine hm_st hR ⟨hm_le rfl, rfl, (hm_le rfl), (hm_ltN hN rfl), hm_le rfl, hm_le rfl, (0, 0), Nat.zero_le _, Nat.zero_le _, ?_⟩
  refine sp_178 hR hN (rr := 43) (aa := 44) (nn := 1024) rfl rfl (hm_le rfl) (hm_ltN hN rfl) rfl rfl (hm_le rfl) (hm_ltN hN rfl) (by decide) ?_
  show R 140 9 [(0, .ref 42), (1, .int p1)] [.int (T_178 s 44 1024 p1), .int (-1)] (N, hm_sh L g, s) _ Q
  refine hm_st hR ⟨hm_le rfl, ?_⟩
  show R 140 12 [(0, .ref 42), (1, .int p1)] [.int (hm_max (-1) (T_178 s 44 1024 p1))] (N, hm_sh L g, s) _ Q
  exact hm_st hR ⟨fun z => absurd z (by decide), hq⟩
