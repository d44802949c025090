/-! The methods as functions; the abstract machine does them. -/
/-- CurvekeyHouse$Points.isAlive(I)Z -/
def T_160 (s : hm_St) (p1 : Int32) : Int32 := (if (T_159 s p1) = 0 then 0 else (if (T_178 s 20 80 p1) = 1 then 1 else 0))
theorem B_160 (s : hm_St) (p1 : Int32) : T_160 s p1 = 0 ∨ T_160 s p1 = 1 := by
  unfold T_160
  repeat' split
  all_goals first | exact Or.inl rfl | exact Or.inr rfl | exact B_159 _ _
set_option maxRecDepth 20000 in
theorem sp_160 {R : hm_R} (hR : hm_Cm R) {N L : Nat} {g : Nat → hm_Sh} {s : hm_St} {b : hm_B} {Q : hm_Q} (hN : 68 ≤ N) {p1 : Int32} (hq : Q (.inr (some (.int (T_160 s p1)))) (N, hm_sh L g, s)) : R 160 0 (lv_args 0 [.ref 14, .int p1]) [] (N, hm_sh L g, s) b Q := by
  unfold T_160 at hq
  show R 160 0 [(0, .ref 14), (1, .int p1)] [] (N, hm_sh L g, s) _ Q
  refine hm_st hR (hm_st hR (?_))
  refine hm_st hR ⟨hm_le rfl, rfl, (hm_le rfl), (hm_ltN hN rfl), hm_le rfl, hm_le rfl, (0, 0), Nat.zero_le _, Nat.zero_le _, ?_⟩
  refine sp_159 hR hN ?_
  show R 160 5 [(0, .ref 14), (1, .int p1)] [.int (T_159 s p1)] (N, hm_sh L g, s) _ Q
  show R 160 5 [(0, .ref 14), (1, .int p1)] [.int (T_159 s p1)] (N, hm_sh L g, s) _ Q
  refine hm_st hR ⟨fun c5 => ?_, fun c5 => ?_⟩
  · rw [if_pos c5] at hq
    show R 160 24 [(0, .ref 14), (1, .int p1)] [] (N, hm_sh L g, s) _ Q
    refine hm_st hR (?_)
    exact hm_st hR ⟨fun _ => Or.inl rfl, hq⟩
  · rw [if_neg c5] at hq
    show R 160 8 [(0, .ref 14), (1, .int p1)] [] (N, hm_sh L g, s) _ Q
    refine hm_st hR (hm_st hR ⟨rfl, hm_le rfl, (hm_ltN hN rfl), hm_st hR (?_)⟩)
    refine hm_st hR ⟨hm_le rfl, rfl, (hm_le rfl), (hm_ltN hN rfl), hm_le rfl, hm_le rfl, (0, 0), Nat.zero_le _, Nat.zero_le _, ?_⟩
    refine sp_178 hR hN (rr := 19) (aa := 20) (nn := 80) rfl rfl (hm_le rfl) (hm_ltN hN rfl) rfl rfl (hm_le rfl) (hm_ltN hN rfl) (by decide) ?_
    show R 160 16 [(0, .ref 14), (1, .int p1)] [.int (T_178 s 20 80 p1)] (N, hm_sh L g, s) _ Q
    refine hm_st hR (?_)
    show R 160 17 [(0, .ref 14), (1, .int p1)] [.int 1, .int (T_178 s 20 80 p1)] (N, hm_sh L g, s) _ Q
    suffices G : R 160 25 [(0, .ref 14), (1, .int p1)] [.int (if (T_178 s 20 80 p1) = 1 then 1 else 0)] (N, hm_sh L g, s) ((b.1 - 0, b.2 - 0).1 - 0, (b.1 - 0, b.2 - 0).2 - 0) Q by
      show R 160 17 [(0, .ref 14), (1, .int p1)] [.int 1, .int (T_178 s 20 80 p1)] (N, hm_sh L g, s) _ Q
      refine hm_st hR ⟨fun c => ?_, fun c => ?_⟩
      · rw [if_neg c] at G; exact hm_st hR (G)
      · rw [if_pos c] at G; exact hm_st hR (hm_st hR (G))
    exact hm_st hR ⟨fun _ => (by split <;> first | exact Or.inl rfl | exact Or.inr rfl), hq⟩
/-- CurvekeyHouse$Points.x(I)I -/
def T_161 (s : hm_St) (p1 : Int32) : Int32 := (T_178 s 16 80 p1)
set_option maxRecDepth 20000 in
theorem sp_161 {R : hm_R} (hR : hm_Cm R) {N L : Nat} {g : Nat → hm_Sh} {s : hm_St} {b : hm_B} {Q : hm_Q} (hN : 68 ≤ N) {p1 : Int32} (hq : Q (.inr (some (.int (T_161 s p1)))) (N, hm_sh L g, s)) : R 161 0 (lv_args 0 [.ref 14, .int p1]) [] (N, hm_sh L g, s) b Q := by
  unfold T_161 at hq
  show R 161 0 [(0, .ref 14), (1, .int p1)] [] (N, hm_sh L g, s) _ Q
  refine hm_st hR (hm_st hR ⟨rfl, hm_le rfl, (hm_ltN hN rfl), hm_st hR (?_)⟩)
  refine hm_st hR ⟨hm_le rfl, rfl, (hm_le rfl), (hm_ltN hN rfl), hm_le rfl, hm_le rfl, (0, 0), Nat.zero_le _, Nat.zero_le _, ?_⟩
  refine sp_178 hR hN (rr := 15) (aa := 16) (nn := 80) rfl rfl (hm_le rfl) (hm_ltN hN rfl) rfl rfl (hm_le rfl) (hm_ltN hN rfl) (by decide) ?_
  show R 161 8 [(0, .ref 14), (1, .int p1)] [.int (T_178 s 16 80 p1)] (N, hm_sh L g, s) _ Q
  exact hm_st hR ⟨fun z => absurd z (by decide), hq⟩
/-- CurvekeyHouse$Points.y(I)I -/
def T_162 (s : hm_St) (p1 : Int32) : Int32 := (T_178 s 18 80 p1)
set_option maxRecDepth 20000 in
theorem sp_162 {R : hm_R} (hR : hm_Cm R) {N L : Nat} {g : Nat → hm_Sh} {s : hm_St} {b : hm_B} {Q : hm_Q} (hN : 68 ≤ N) {p1 : Int32} (hq : Q (.inr (some (.int (T_162 s p1)))) (N, hm_sh L g, s)) : R 162 0 (lv_args 0 [.ref 14, .int p1]) [] (N, hm_sh L g, s) b Q := by
  unfold T_162 at hq
  show R 162 0 [(0, .ref 14), (1, .int p1)] [] (N, hm_sh L g, s) _ Q
  refine hm_st hR (hm_st hR ⟨rfl, hm_le rfl, (hm_ltN hN rfl), hm_st hR (?_)⟩)
  refine hm_st hR ⟨hm_le rfl, rfl, (hm_le rfl), (hm_ltN hN rfl), hm_le rfl, hm_le rfl, (0, 0), Nat.zero_le _, Nat.zero_le _, ?_⟩
  refine sp_178 hR hN (rr := 17) (aa := 18) (nn := 80) rfl rfl (hm_le rfl) (hm_ltN hN rfl) rfl rfl (hm_le rfl) (hm_ltN hN rfl) (by decide) ?_
  show R 162 8 [(0, .ref 14), (1, .int p1)] [.int (T_178 s 18 80 p1)] (N, hm_sh L g, s) _ Q
  exact hm_st hR ⟨fun z => absurd z (by decide), hq⟩
/-- CurvekeyHouse$Curves.keyOf(III)I -/
def T_88 (s : hm_St) (p1 : Int32) (p2 : Int32) (p3 : Int32) : Int32 := (T_178 s 9 6144 (((p1 * 1024) + (p3 * (s 3 6))) + p2))
set_option maxRecDepth 20000 in
theorem sp_88 {R : hm_R} (hR : hm_Cm R) {N L : Nat} {g : Nat → hm_Sh} {s : hm_St} {b : hm_B} {Q : hm_Q} (hN : 68 ≤ N) {p1 : Int32} {p2 : Int32} {p3 : Int32} (hq : Q (.inr (some (.int (T_88 s p1 p2 p3)))) (N, hm_sh L g, s)) : R 88 0 (lv_args 0 [.ref 3, .int p1, .int p2, .int p3]) [] (N, hm_sh L g, s) b Q := by
  unfold T_88 at hq
  show R 88 0 [(0, .ref 3), (1, .int p1), (2, .int p2), (3, .int p3)] [] (N, hm_sh L g, s) _ Q
  refine hm_st hR (hm_st hR ⟨rfl, hm_le rfl, (hm_ltN hN rfl), hm_st hR (hm_st hR (hm_st hR (hm_st hR (hm_st hR (hm_st hR ⟨rfl, hm_le rfl, (hm_ltN hN rfl), hm_st hR (hm_st hR (hm_st hR (hm_st hR (?_))))⟩)))))⟩)
  refine hm_st hR ⟨hm_le rfl, rfl, (hm_le rfl), (hm_ltN hN rfl), hm_le rfl, hm_le rfl, (0, 0), Nat.zero_le _, Nat.zero_le _, ?_⟩
  refine sp_178 hR hN (rr := 8) (aa := 9) (nn := 6144) rfl rfl (hm_le rfl) (hm_ltN hN rfl) rfl rfl (hm_le rfl) (hm_ltN hN rfl) (by decide) ?_
  show R 88 21 [(0, .ref 3), (1, .int p1), (2, .int p2), (3, .int p3)] [.int (T_178 s 9 6144 (((p1 * 1024) + (p3 * (s 3 6))) + p2))] (N, hm_sh L g, s) _ Q
  exact hm_st hR ⟨fun z => absurd z (by decide), hq⟩
/-- CurvekeyHouse.keyAt(II)I -/
def T_39 (s : hm_St) (p1 : Int32) (p2 : Int32) : Int32 := (T_88 s (s 2 8) p1 p2)
set_option maxRecDepth 20000 in
theorem sp_39 {R : hm_R} (hR : hm_Cm R) {N L : Nat} {g : Nat → hm_Sh} {s : hm_St} {b : hm_B} {Q : hm_Q} (hN : 68 ≤ N) {p1 : Int32} {p2 : Int32} (hq : Q (.inr (some (.int (T_39 s p1 p2)))) (N, hm_sh L g, s)) : R 39 0 (lv_args 0 [.ref 2, .int p1, .int p2]) [] (N, hm_sh L g, s) b Q := by
  unfold T_39 at hq
  show R 39 0 [(0, .ref 2), (1, .int p1), (2, .int p2)] [] (N, hm_sh L g, s) _ Q
  refine hm_st hR (hm_st hR ⟨rfl, hm_le rfl, (hm_ltN hN rfl), hm_st hR (hm_st hR ⟨rfl, hm_le rfl, (hm_ltN hN rfl), hm_st hR (hm_st hR (?_))⟩)⟩)
  refine hm_st hR ⟨hm_le rfl, rfl, (hm_le rfl), (hm_ltN hN rfl), hm_le rfl, hm_le rfl, (0, 0), Nat.zero_le _, Nat.zero_le _, ?_⟩
  refine sp_88 hR hN ?_
  show R 39 13 [(0, .ref 2), (1, .int p1), (2, .int p2)] [.int (T_88 s (s 2 8) p1 p2)] (N, hm_sh L g, s) _ Q
  exact hm_st hR ⟨fun z => absurd z (by decide), hq⟩
/-- CurvekeyHouse.keyOfPoint(I)I -/
def T_40 (s : hm_St) (p1 : Int32) : Int32 := (T_39 s (T_161 s p1) (T_162 s p1))
set_option maxRecDepth 20000 in
theorem sp_40 {R : hm_R} (hR : hm_Cm R) {N L : Nat} {g : Nat → hm_Sh} {s : hm_St} {b : hm_B} {Q : hm_Q} (hN : 68 ≤ N) {p1 : Int32} (hq : Q (.inr (some (.int (T_40 s p1)))) (N, hm_sh L g, s)) : R 40 0 (lv_args 0 [.ref 2, .int p1]) [] (N, hm_sh L g, s) b Q := by
  unfold T_40 at hq
  show R 40 0 [(0, .ref 2), (1, .int p1)] [] (N, hm_sh L g, s) _ Q
  refine hm_st hR (hm_st hR (hm_st hR ⟨rfl, hm_le rfl, (hm_ltN hN rfl), hm_st hR (?_)⟩))
  refine hm_st hR ⟨hm_le rfl, rfl, (hm_le rfl), (hm_ltN hN rfl), hm_le rfl, hm_le rfl, (0, 0), Nat.zero_le _, Nat.zero_le _, ?_⟩
  refine sp_161 hR hN ?_
  show R 40 9 [(0, .ref 2), (1, .int p1)] [.int (T_161 s p1), .ref 2] (N, hm_sh L g, s) _ Q
  refine hm_st hR (hm_st hR ⟨rfl, hm_le rfl, (hm_ltN hN rfl), hm_st hR (?_)⟩)
  refine hm_st hR ⟨hm_le rfl, rfl, (hm_le rfl), (hm_ltN hN rfl), hm_le rfl, hm_le rfl, (0, 0), Nat.zero_le _, Nat.zero_le _, ?_⟩
  refine sp_162 hR hN ?_
  show R 40 17 [(0, .ref 2), (1, .int p1)] [.int (T_162 s p1), .int (T_161 s p1), .ref 2] (N, hm_sh L g, s) _ Q
  refine hm_st hR ⟨hm_le rfl, rfl, (hm_le rfl), (hm_ltN hN rfl), hm_le rfl, hm_le rfl, (0, 0), Nat.zero_le _, Nat.zero_le _, ?_⟩
  refine sp_39 hR hN ?_
  show R 40 20 [(0, .ref 2), (1, .int p1)] [.int (T_39 s (T_161 s p1) (T_162 s p1))] (N, hm_sh L g, s) _ Q
  exact hm_st hR ⟨fun z => absurd z (by decide), hq⟩
/-- CurvekeyHouse$Points.living()I -/
def T_158 (s : hm_St) : Int32 := (s 14 6)
set_option maxRecDepth 20000 in
theorem sp_158 {R : hm_R} (hR : hm_Cm R) {N L : Nat} {g : Nat → hm_Sh} {s : hm_St} {b : hm_B} {Q : hm_Q} (hN : 68 ≤ N) (hq : Q (.inr (some (.int (T_158 s)))) (N, hm_sh L g, s)) : R 158 0 (lv_args 0 [.ref 14]) [] (N, hm_sh L g, s) b Q := by
  unfold T_158 at hq
  show R 158 0 [(0, .ref 14)] [] (N, hm_sh L g, s) _ Q
  refine hm_st hR (hm_st hR ⟨rfl, hm_le rfl, (hm_ltN hN rfl), ?_⟩)
  exact hm_st hR ⟨fun z => absurd z (by decide), hq⟩
def T_59_4 : Nat → hm_St → Int32 → Int32 → Int32
  | 0, s, _, _ => 0
  | n + 1, s, v1, v2 => (if (T_87 s) ≤ v2 then (if v1 = (T_158 s) then 1 else 0) else (if (T_140 s v2) = (-1) then (T_59_4 n s (v1 + (if (T_140 s v2) = (-1) then 0 else 1)) (v2 + 1)) else (if (T_160 s (T_140 s v2)) = 0 then 0 else (if (T_40 s (T_140 s v2)) = v2 then (T_59_4 n s (v1 + (if (T_140 s v2) = (-1) then 0 else 1)) (v2 + 1)) else 0))))
/-- CurvekeyHouse.arePointsEntered()Z -/
def T_59 (s : hm_St) : Int32 := (T_59_4 (hm_df (T_87 s) 0 + 1) s 0 0)
theorem B_59_4 : ∀ (n : Nat) (s : hm_St) v0 v1, T_59_4  n s v0 v1 = 0 ∨ T_59_4  n s v0 v1 = 1 := by
  intro n
  induction n with
  | zero => intros; exact Or.inl rfl
  | succ n ih =>
    intros
    unfold T_59_4
    repeat' split
    all_goals first | exact Or.inl rfl | exact Or.inr rfl | exact ih _ _ _
theorem B_59 (s : hm_St) : T_59 s = 0 ∨ T_59 s = 1 := by
  unfold T_59
  repeat' split
  all_goals first | exact Or.inl rfl | exact Or.inr rfl | exact B_160 _ _ | exact B_59_4 _ _ _ _
set_option maxRecDepth 20000 in
theorem lp_59_4 {R : hm_R} (hR : hm_Cm R) {N L : Nat} {g : Nat → hm_Sh} {b : hm_B} {Q : hm_Q} (hN : 68 ≤ N) : ∀ (n : Nat) (s : hm_St) (v1 : Int32) (v2 : Int32), hm_df (T_87 s) v2 < n → (hq : Q (.inr (some (.int (T_59_4 n s v1 v2)))) (N, hm_sh L g, s)) → R 59 4 [(2, .int v2), (1, .int v1), (0, .ref 2)] [] (N, hm_sh L g, s) b Q := by
  intro n
  induction n with
  | zero => intro s v1 v2 hm _; exact absurd hm (Nat.not_lt_zero _)
  | succ n ih =>
    intro s v1 v2 hm hq
    unfold T_59_4 at hq
    refine hm_st hR (hm_st hR (hm_st hR ⟨rfl, hm_le rfl, (hm_ltN hN rfl), ?_⟩))
    refine hm_st hR ⟨hm_le rfl, rfl, (hm_le rfl), (hm_ltN hN rfl), hm_le rfl, hm_le rfl, (0, 0), Nat.zero_le _, Nat.zero_le _, ?_⟩
    refine sp_87 hR hN ?_
    show R 59 12 [(2, .int v2), (1, .int v1), (0, .ref 2)] [.int (T_87 s), .int v2] (N, hm_sh L g, s) _ Q
    show R 59 12 [(2, .int v2), (1, .int v1), (0, .ref 2)] [.int (T_87 s), .int v2] (N, hm_sh L g, s) _ Q
    refine hm_st hR ⟨fun c12 => ?_, fun c12 => ?_⟩
    · rw [if_pos c12] at hq
      show R 59 70 [(2, .int v2), (1, .int v1), (0, .ref 2)] [] (N, hm_sh L g, s) _ Q
      refine hm_st hR (hm_st hR (hm_st hR ⟨rfl, hm_le rfl, (hm_ltN hN rfl), ?_⟩))
      refine hm_st hR ⟨hm_le rfl, rfl, (hm_le rfl), (hm_ltN hN rfl), hm_le rfl, hm_le rfl, (0, 0), Nat.zero_le _, Nat.zero_le _, ?_⟩
      refine sp_158 hR hN ?_
      show R 59 78 [(2, .int v2), (1, .int v1), (0, .ref 2)] [.int (T_158 s), .int v1] (N, hm_sh L g, s) _ Q
      show R 59 78 [(2, .int v2), (1, .int v1), (0, .ref 2)] [.int (T_158 s), .int v1] (N, hm_sh L g, s) _ Q
      suffices G : R 59 86 [(2, .int v2), (1, .int v1), (0, .ref 2)] [.int (if v1 = (T_158 s) then 1 else 0)] (N, hm_sh L g, s) ((b.1 - 0, b.2 - 0).1 - 0, (b.1 - 0, b.2 - 0).2 - 0) Q by
        show R 59 78 [(2, .int v2), (1, .int v1), (0, .ref 2)] [.int (T_158 s), .int v1] (N, hm_sh L g, s) _ Q
        refine hm_st hR ⟨fun c => ?_, fun c => ?_⟩
        · rw [if_neg c] at G; exact hm_st hR (G)
        · rw [if_pos c] at G; exact hm_st hR (hm_st hR (G))
      exact hm_st hR ⟨fun _ => (by split <;> first | exact Or.inl rfl | exact Or.inr rfl), hq⟩
    · rw [if_neg c12] at hq
      show R 59 15 [(2, .int v2), (1, .int v1), (0, .ref 2)] [] (N, hm_sh L g, s) _ Q
      refine hm_st hR (hm_st hR ⟨rfl, hm_le rfl, (hm_ltN hN rfl), hm_st hR (?_)⟩)
      refine hm_st hR ⟨hm_le rfl, rfl, (hm_le rfl), (hm_ltN hN rfl), hm_le rfl, hm_le rfl, (0, 0), Nat.zero_le _, Nat.zero_le _, ?_⟩
      refine sp_140 hR hN ?_
      show R 59 23 [(2, .int v2), (1, .int v1), (0, .ref 2)] [.int (T_140 s v2)] (N, hm_sh L g, s) _ Q
      refine hm_st hR (hm_st hR (hm_st hR (?_)))
      show R 59 26 [(3, .int (T_140 s v2)), (2, .int v2), (1, .int v1), (0, .ref 2)] [.int (-1), .int (T_140 s v2)] (N, hm_sh L g, s) _ Q
      refine hm_st hR ⟨fun c26 => ?_, fun c26 => ?_⟩
      · rw [if_pos c26] at hq
        show R 59 51 [(3, .int (T_140 s v2)), (2, .int v2), (1, .int v1), (0, .ref 2)] [] (N, hm_sh L g, s) _ Q
        refine hm_st hR (hm_st hR (hm_st hR (?_)))
        show R 59 54 [(3, .int (T_140 s v2)), (2, .int v2), (1, .int v1), (0, .ref 2)] [.int (-1), .int (T_140 s v2), .int v1] (N, hm_sh L g, s) _ Q
        suffices G : R 59 62 [(3, .int (T_140 s v2)), (2, .int v2), (1, .int v1), (0, .ref 2)] [.int (if (T_140 s v2) = (-1) then 0 else 1), .int v1] (N, hm_sh L g, s) ((b.1 - 0, b.2 - 0).1 - 0, (b.1 - 0, b.2 - 0).2 - 0) Q by
          show R 59 54 [(3, .int (T_140 s v2)), (2, .int v2), (1, .int v1), (0, .ref 2)] [.int (-1), .int (T_140 s v2), .int v1] (N, hm_sh L g, s) _ Q
          refine hm_st hR ⟨fun c => ?_, fun c => ?_⟩
          · rw [if_neg c] at G; exact hm_st hR (G)
          · rw [if_pos c] at G; exact hm_st hR (hm_st hR (G))
        refine hm_st hR (hm_st hR (hm_st hR (hm_st hR (?_))))
        show R 59 4 [(2, .int (v2 + 1)), (1, .int (v1 + (if (T_140 s v2) = (-1) then 0 else 1))), (3, .int (T_140 s v2)), (0, .ref 2)] [] (N, hm_sh L g, s) _ Q
        exact hm_lvS hR (by intro q hq; simp only [List.mem_cons, List.not_mem_nil, or_false] at hq ⊢; rcases hq with rfl | rfl | rfl <;> simp) (ih s (v1 + (if (T_140 s v2) = (-1) then 0 else 1)) (v2 + 1) (hm_dcx c12 hm) hq)
      · rw [if_neg c26] at hq
        show R 59 29 [(3, .int (T_140 s v2)), (2, .int v2), (1, .int v1), (0, .ref 2)] [] (N, hm_sh L g, s) _ Q
        refine hm_st hR (hm_st hR ⟨rfl, hm_le rfl, (hm_ltN hN rfl), hm_st hR (?_)⟩)
        refine hm_st hR ⟨hm_le rfl, rfl, (hm_le rfl), (hm_ltN hN rfl), hm_le rfl, hm_le rfl, (0, 0), Nat.zero_le _, Nat.zero_le _, ?_⟩
        refine sp_160 hR hN ?_
        show R 59 37 [(3, .int (T_140 s v2)), (2, .int v2), (1, .int v1), (0, .ref 2)] [.int (T_160 s (T_140 s v2))] (N, hm_sh L g, s) _ Q
        show R 59 37 [(3, .int (T_140 s v2)), (2, .int v2), (1, .int v1), (0, .ref 2)] [.int (T_160 s (T_140 s v2))] (N, hm_sh L g, s) _ Q
        refine hm_st hR ⟨fun c37 => ?_, fun c37 => ?_⟩
        · rw [if_pos c37] at hq
          show R 59 49 [(3, .int (T_140 s v2)), (2, .int v2), (1, .int v1), (0, .ref 2)] [] (N, hm_sh L g, s) _ Q
          refine hm_st hR (?_)
          exact hm_st hR ⟨fun _ => Or.inl rfl, hq⟩
        · rw [if_neg c37] at hq
          show R 59 40 [(3, .int (T_140 s v2)), (2, .int v2), (1, .int v1), (0, .ref 2)] [] (N, hm_sh L g, s) _ Q
          refine hm_st hR (hm_st hR (?_))
          refine hm_st hR ⟨hm_le rfl, rfl, (hm_le rfl), (hm_ltN hN rfl), hm_le rfl, hm_le rfl, (0, 0), Nat.zero_le _, Nat.zero_le _, ?_⟩
          refine sp_40 hR hN ?_
          show R 59 45 [(3, .int (T_140 s v2)), (2, .int v2), (1, .int v1), (0, .ref 2)] [.int (T_40 s (T_140 s v2))] (N, hm_sh L g, s) _ Q
          refine hm_st hR (?_)
          show R 59 46 [(3, .int (T_140 s v2)), (2, .int v2), (1, .int v1), (0, .ref 2)] [.int v2, .int (T_40 s (T_140 s v2))] (N, hm_sh L g, s) _ Q
          refine hm_st hR ⟨fun c46 => ?_, fun c46 => ?_⟩
          · rw [if_pos c46] at hq
            show R 59 51 [(3, .int (T_140 s v2)), (2, .int v2), (1, .int v1), (0, .ref 2)] [] (N, hm_sh L g, s) _ Q
            refine hm_st hR (hm_st hR (hm_st hR (?_)))
            show R 59 54 [(3, .int (T_140 s v2)), (2, .int v2), (1, .int v1), (0, .ref 2)] [.int (-1), .int (T_140 s v2), .int v1] (N, hm_sh L g, s) _ Q
            suffices G : R 59 62 [(3, .int (T_140 s v2)), (2, .int v2), (1, .int v1), (0, .ref 2)] [.int (if (T_140 s v2) = (-1) then 0 else 1), .int v1] (N, hm_sh L g, s) ((((b.1 - 0, b.2 - 0).1 - 0, (b.1 - 0, b.2 - 0).2 - 0).1 - 0, ((b.1 - 0, b.2 - 0).1 - 0, (b.1 - 0, b.2 - 0).2 - 0).2 - 0).1 - 0, (((b.1 - 0, b.2 - 0).1 - 0, (b.1 - 0, b.2 - 0).2 - 0).1 - 0, ((b.1 - 0, b.2 - 0).1 - 0, (b.1 - 0, b.2 - 0).2 - 0).2 - 0).2 - 0) Q by
              show R 59 54 [(3, .int (T_140 s v2)), (2, .int v2), (1, .int v1), (0, .ref 2)] [.int (-1), .int (T_140 s v2), .int v1] (N, hm_sh L g, s) _ Q
              refine hm_st hR ⟨fun c => ?_, fun c => ?_⟩
              · rw [if_neg c] at G; exact hm_st hR (G)
              · rw [if_pos c] at G; exact hm_st hR (hm_st hR (G))
            refine hm_st hR (hm_st hR (hm_st hR (hm_st hR (?_))))
            show R 59 4 [(2, .int (v2 + 1)), (1, .int (v1 + (if (T_140 s v2) = (-1) then 0 else 1))), (3, .int (T_140 s v2)), (0, .ref 2)] [] (N, hm_sh L g, s) _ Q
            exact hm_lvS hR (by intro q hq; simp only [List.mem_cons, List.not_mem_nil, or_false] at hq ⊢; rcases hq with rfl | rfl | rfl <;> simp) (ih s (v1 + (if (T_140 s v2) = (-1) then 0 else 1)) (v2 + 1) (hm_dcx c12 hm) hq)
          · rw [if_neg c46] at hq
            show R 59 49 [(3, .int (T_140 s v2)), (2, .int v2), (1, .int v1), (0, .ref 2)] [] (N, hm_sh L g, s) _ Q
            refine hm_st hR (?_)
            exact hm_st hR ⟨fun _ => Or.inl rfl, hq⟩
set_option maxRecDepth 20000 in
theorem sp_59 {R : hm_R} (hR : hm_Cm R) {N L : Nat} {g : Nat → hm_Sh} {s : hm_St} {b : hm_B} {Q : hm_Q} (hN : 68 ≤ N) (hq : Q (.inr (some (.int (T_59 s)))) (N, hm_sh L g, s)) : R 59 0 (lv_args 0 [.ref 2]) [] (N, hm_sh L g, s) b Q := by
  unfold T_59 at hq
  show R 59 0 [(0, .ref 2)] [] (N, hm_sh L g, s) _ Q
  refine hm_st hR (hm_st hR (hm_st hR (hm_st hR (?_))))
  show R 59 4 [(2, .int 0), (1, .int 0), (0, .ref 2)] [] (N, hm_sh L g, s) _ Q
  exact lp_59_4 hR hN _ _ _ _ (Nat.lt_succ_self _) hq
/-- CurvekeyHouse$Curves.order()I -/
def T_85 (s : hm_St) : Int32 := (s 3 5)
set_option maxRecDepth 20000 in
theorem sp_85 {R : hm_R} (hR : hm_Cm R) {N L : Nat} {g : Nat → hm_Sh} {s : hm_St} {b : hm_B} {Q : hm_Q} (hN : 68 ≤ N) (hq : Q (.inr (some (.int (T_85 s)))) (N, hm_sh L g, s)) : R 85 0 (lv_args 0 [.ref 3]) [] (N, hm_sh L g, s) b Q := by
  unfold T_85 at hq
  show R 85 0 [(0, .ref 3)] [] (N, hm_sh L g, s) _ Q
  refine hm_st hR (hm_st hR ⟨rfl, hm_le rfl, (hm_ltN hN rfl), ?_⟩)
  exact hm_st hR ⟨fun z => absurd z (by decide), hq⟩
/-- CurvekeyHouse$Pages.capacity()I -/
def T_134 (s : hm_St) : Int32 := (s 42 3)
set_option maxRecDepth 20000 in
theorem sp_134 {R : hm_R} (hR : hm_Cm R) {N L : Nat} {g : Nat → hm_Sh} {s : hm_St} {b : hm_B} {Q : hm_Q} (hN : 68 ≤ N) (hq : Q (.inr (some (.int (T_134 s)))) (N, hm_sh L g, s)) : R 134 0 (lv_args 0 [.ref 42]) [] (N, hm_sh L g, s) b Q := by
  unfold T_134 at hq
  show R 134 0 [(0, .ref 42)] [] (N, hm_sh L g, s) _ Q
  refine hm_st hR (hm_st hR ⟨rfl, hm_le rfl, (hm_ltN hN rfl), ?_⟩)
  exact hm_st hR ⟨fun z => absurd z (by decide), hq⟩
/-- CurvekeyHouse$Points.size()I -/
def T_157 (s : hm_St) : Int32 := (s 14 5)
set_option maxRecDepth 20000 in
theorem sp_157 {R : hm_R} (hR : hm_Cm R) {N L : Nat} {g : Nat → hm_Sh} {s : hm_St} {b : hm_B} {Q : hm_Q} (hN : 68 ≤ N) (hq : Q (.inr (some (.int (T_157 s)))) (N, hm_sh L g, s)) : R 157 0 (lv_args 0 [.ref 14]) [] (N, hm_sh L g, s) b Q := by
  unfold T_157 at hq
  show R 157 0 [(0, .ref 14)] [] (N, hm_sh L g, s) _ Q
  refine hm_st hR (hm_st hR ⟨rfl, hm_le rfl, (hm_ltN hN rfl), ?_⟩)
  exact hm_st hR ⟨fun z => absurd z (by decide), hq⟩
/-- CurvekeyHouse$Pages.size()I -/
def T_133 (s : hm_St) : Int32 := (s 42 4)
set_option maxRecDepth 20000 in
theorem sp_133 {R : hm_R} (hR : hm_Cm R) {N L : Nat} {g : Nat → hm_Sh} {s : hm_St} {b : hm_B} {Q : hm_Q} (hN : 68 ≤ N) (hq : Q (.inr (some (.int (T_133 s)))) (N, hm_sh L g, s)) : R 133 0 (lv_args 0 [.ref 42]) [] (N, hm_sh L g, s) b Q := by
  unfold T_133 at hq
  show R 133 0 [(0, .ref 42)] [] (N, hm_sh L g, s) _ Q
  refine hm_st hR (hm_st hR ⟨rfl, hm_le rfl, (hm_ltN hN rfl), ?_⟩)
  exact hm_st hR ⟨fun z => absurd z (by decide), hq⟩
/-- CurvekeyHouse$Pages.tombs()I -/
def T_135 (s : hm_St) : Int32 := (s 42 5)
set_option maxRecDepth 20000 in
theorem sp_135 {R : hm_R} (hR : hm_Cm R) {N L : Nat} {g : Nat → hm_Sh} {s : hm_St} {b : hm_B} {Q : hm_Q} (hN : 68 ≤ N) (hq : Q (.inr (some (.int (T_135 s)))) (N, hm_sh L g, s)) : R 135 0 (lv_args 0 [.ref 42]) [] (N, hm_sh L g, s) b Q := by
  unfold T_135 at hq
  show R 135 0 [(0, .ref 42)] [] (N, hm_sh L g, s) _ Q
  refine hm_st hR (hm_st hR ⟨rfl, hm_le rfl, (hm_ltN hN rfl), ?_⟩)
  exact hm_st hR ⟨fun z => absurd z (by decide), hq⟩
/-- CurvekeyHouse.storeFact(I)I -/
def T_55 (s : hm_St) (p1 : Int32) : Int32 := (if p1 = 0 then (T_85 s) else (if p1 = 1 then (s 2 8) else (if p1 = 2 then (T_134 s) else (if p1 = 3 then (T_157 s) else (if p1 = 4 then (T_158 s) else (if p1 = 5 then (T_133 s) else (if p1 = 6 then (T_135 s) else (T_113 s))))))))
set_option maxRecDepth 20000 in
theorem sp_55 {R : hm_R} (hR : hm_Cm R) {N L : Nat} {g : Nat → hm_Sh} {s : hm_St} {b : hm_B} {Q : hm_Q} (hN : 68 ≤ N) {p1 : Int32} (hq : Q (.inr (some (.int (T_55 s p1)))) (N, hm_sh L g, s)) : R 55 0 (lv_args 0 [.ref 2, .int p1]) [] (N, hm_sh L g, s) b Q := by
  unfold T_55 at hq
  show R 55 0 [(0, .ref 2), (1, .int p1)] [] (N, hm_sh L g, s) _ Q
  refine hm_st hR (?_)
  show R 55 1 [(0, .ref 2), (1, .int p1)] [.int p1] (N, hm_sh L g, s) _ Q
  by_cases w1_0 : p1 = 0
  · rw [if_pos w1_0] at hq
    refine hm_tsS hR 44 (by rfl) (by rw [w1_0]; rfl) ?_
    show R 55 44 [(0, .ref 2), (1, .int p1)] [] (N, hm_sh L g, s) _ Q
    refine hm_st hR (hm_st hR ⟨rfl, hm_le rfl, (hm_ltN hN rfl), ?_⟩)
    refine hm_st hR ⟨hm_le rfl, rfl, (hm_le rfl), (hm_ltN hN rfl), hm_le rfl, hm_le rfl, (0, 0), Nat.zero_le _, Nat.zero_le _, ?_⟩
    refine sp_85 hR hN ?_
    show R 55 51 [(0, .ref 2), (1, .int p1)] [.int (T_85 s)] (N, hm_sh L g, s) _ Q
    exact hm_st hR ⟨fun z => absurd z (by decide), hq⟩
  rw [if_neg w1_0] at hq
  by_cases w1_1 : p1 = 1
  · rw [if_pos w1_1] at hq
    refine hm_tsS hR 52 (by rfl) (by rw [w1_1]; rfl) ?_
    show R 55 52 [(0, .ref 2), (1, .int p1)] [] (N, hm_sh L g, s) _ Q
    refine hm_st hR (hm_st hR ⟨rfl, hm_le rfl, (hm_ltN hN rfl), ?_⟩)
    exact hm_st hR ⟨fun z => absurd z (by decide), hq⟩
  rw [if_neg w1_1] at hq
  by_cases w1_2 : p1 = 2
  · rw [if_pos w1_2] at hq
    refine hm_tsS hR 57 (by rfl) (by rw [w1_2]; rfl) ?_
    show R 55 57 [(0, .ref 2), (1, .int p1)] [] (N, hm_sh L g, s) _ Q
    refine hm_st hR (hm_st hR ⟨rfl, hm_le rfl, (hm_ltN hN rfl), ?_⟩)
    refine hm_st hR ⟨hm_le rfl, rfl, (hm_le rfl), (hm_ltN hN rfl), hm_le rfl, hm_le rfl, (0, 0), Nat.zero_le _, Nat.zero_le _, ?_⟩
    refine sp_134 hR hN ?_
    show R 55 64 [(0, .ref 2), (1, .int p1)] [.int (T_134 s)] (N, hm_sh L g, s) _ Q
    exact hm_st hR ⟨fun z => absurd z (by decide), hq⟩
  rw [if_neg w1_2] at hq
  by_cases w1_3 : p1 = 3
  · rw [if_pos w1_3] at hq
    refine hm_tsS hR 65 (by rfl) (by rw [w1_3]; rfl) ?_
    show R 55 65 [(0, .ref 2), (1, .int p1)] [] (N, hm_sh L g, s) _ Q
    refine hm_st hR (hm_st hR ⟨rfl, hm_le rfl, (hm_ltN hN rfl), ?_⟩)
    refine hm_st hR ⟨hm_le rfl, rfl, (hm_le rfl), (hm_ltN hN rfl), hm_le rfl, hm_le rfl, (0, 0), Nat.zero_le _, Nat.zero_le _, ?_⟩
    refine sp_157 hR hN ?_
    show R 55 72 [(0, .ref 2), (1, .int p1)] [.int (T_157 s)] (N, hm_sh L g, s) _ Q
    exact hm_st hR ⟨fun z => absurd z (by decide), hq⟩
  rw [if_neg w1_3] at hq
  by_cases w1_4 : p1 = 4
  · rw [if_pos w1_4] at hq
    refine hm_tsS hR 73 (by rfl) (by rw [w1_4]; rfl) ?_
    show R 55 73 [(0, .ref 2), (1, .int p1)] [] (N, hm_sh L g, s) _ Q
    refine hm_st hR (hm_st hR ⟨rfl, hm_le rfl, (hm_ltN hN rfl), ?_⟩)
    refine hm_st hR ⟨hm_le rfl, rfl, (hm_le rfl), (hm_ltN hN rfl), hm_le rfl, hm_le rfl, (0, 0), Nat.zero_le _, Nat.zero_le _, ?_⟩
    refine sp_158 hR hN ?_
    show R 55 80 [(0, .ref 2), (1, .int p1)] [.int (T_158 s)] (N, hm_sh L g, s) _ Q
    exact hm_st hR ⟨fun z => absurd z (by decide), hq⟩
  rw [if_neg w1_4] at hq
  by_cases w1_5 : p1 = 5
  · rw [if_pos w1_5] at hq
    refine hm_tsS hR 81 (by rfl) (by rw [w1_5]; rfl) ?_
    show R 55 81 [(0, .ref 2), (1, .int p1)] [] (N, hm_sh L g, s) _ Q
    refine hm_st hR (hm_st hR ⟨rfl, hm_le rfl, (hm_ltN hN rfl), ?_⟩)
    refine hm_st hR ⟨hm_le rfl, rfl, (hm_le rfl), (hm_ltN hN rfl), hm_le rfl, hm_le rfl, (0, 0), Nat.zero_le _, Nat.zero_le _, ?_⟩
    refine sp_133 hR hN ?_
    show R 55 88 [(0, .ref 2), (1, .int p1)] [.int (T_133 s)] (N, hm_sh L g, s) _ Q
    exact hm_st hR ⟨fun z => absurd z (by decide), hq⟩
  rw [if_neg w1_5] at hq
  by_cases w1_6 : p1 = 6
  · rw [if_pos w1_6] at hq
    refine hm_tsS hR 89 (by rfl) (by rw [w1_6]; rfl) ?_
    show R 55 89 [(0, .ref 2), (1, .int p1)] [] (N, hm_sh L g, s) _ Q
    refine hm_st hR (hm_st hR ⟨rfl, hm_le rfl, (hm_ltN hN rfl), ?_⟩)
    refine hm_st hR ⟨hm_le rfl, rfl, (hm_le rfl), (hm_ltN hN rfl), hm_le rfl, hm_le rfl, (0, 0), Nat.zero_le _, Nat.zero_le _, ?_⟩
    refine sp_135 hR hN ?_
    show R 55 96 [(0, .ref 2), (1, .int p1)] [.int (T_135 s)] (N, hm_sh L g, s) _ Q
    exact hm_st hR ⟨fun z => absurd z (by decide), hq⟩
  rw [if_neg w1_6] at hq
  refine hm_tsS hR 97 (by rfl) (by exact hm_swD7 w1_0 w1_1 w1_2 w1_3 w1_4 w1_5 w1_6) ?_
  show R 55 97 [(0, .ref 2), (1, .int p1)] [] (N, hm_sh L g, s) _ Q
  refine hm_st hR (hm_st hR ⟨rfl, hm_le rfl, (hm_ltN hN rfl), ?_⟩)
  refine hm_st hR ⟨hm_le rfl, rfl, (hm_le rfl), (hm_ltN hN rfl), hm_le rfl, hm_le rfl, (0, 0), Nat.zero_le _, Nat.zero_le _, ?_⟩
  refine sp_113 hR hN ?_
  show R 55 104 [(0, .ref 2), (1, .int p1)] [.int (T_113 s)] (N, hm_sh L g, s) _ Q
  exact hm_st hR ⟨fun z => absurd z (by decide), hq⟩
/-- CurvekeyHouse$History.size()I -/
def T_112 (s : hm_St) : Int32 := (s 25 8)
set_option maxRecDepth 20000 in
theorem sp_112 {R : hm_R} (hR : hm_Cm R) {N L : Nat} {g : Nat → hm_Sh} {s : hm_St} {b : hm_B} {Q : hm_Q} (hN : 68 ≤ N) (hq : Q (.inr (some (.int (T_112 s)))) (N, hm_sh L g, s)) : R 112 0 (lv_args 0 [.ref 25]) [] (N, hm_sh L g, s) b Q := by
  unfold T_112 at hq
  show R 112 0 [(0, .ref 25)] [] (N, hm_sh L g, s) _ Q
  refine hm_st hR (hm_st hR ⟨rfl, hm_le rfl, (hm_ltN hN rfl), ?_⟩)
  exact hm_st hR ⟨fun z => absurd z (by decide), hq⟩
/-- CurvekeyHouse$Tiles.size()I -/
def T_186 (s : hm_St) : Int32 := (s 50 4)
set_option maxRecDepth 20000 in
theorem sp_186 {R : hm_R} (hR : hm_Cm R) {N L : Nat} {g : Nat → hm_Sh} {s : hm_St} {b : hm_B} {Q : hm_Q} (hN : 68 ≤ N) (hq : Q (.inr (some (.int (T_186 s)))) (N, hm_sh L g, s)) : R 186 0 (lv_args 0 [.ref 50]) [] (N, hm_sh L g, s) b Q := by
  unfold T_186 at hq
  show R 186 0 [(0, .ref 50)] [] (N, hm_sh L g, s) _ Q
  refine hm_st hR (hm_st hR ⟨rfl, hm_le rfl, (hm_ltN hN rfl), ?_⟩)
  exact hm_st hR ⟨fun z => absurd z (by decide), hq⟩
def T_190_4 : Nat → hm_St → Int32 → Int32 → Int32
  | 0, s, _, _ => 0
  | n + 1, s, v1, v2 => (if (s 50 4) ≤ v2 then v1 else (T_190_4 n s (v1 + (T_178 s 58 20 v2)) (v2 + 1)))
/-- CurvekeyHouse$Tiles.staleOnes()I -/
def T_190 (s : hm_St) : Int32 := (T_190_4 (hm_df (s 50 4) 0 + 1) s 0 0)
set_option maxRecDepth 20000 in
theorem lp_190_4 {R : hm_R} (hR : hm_Cm R) {N L : Nat} {g : Nat → hm_Sh} {b : hm_B} {Q : hm_Q} (hN : 68 ≤ N) : ∀ (n : Nat) (s : hm_St) (v1 : Int32) (v2 : Int32), hm_df (s 50 4) v2 < n → (hq : Q (.inr (some (.int (T_190_4 n s v1 v2)))) (N, hm_sh L g, s)) → R 190 4 [(2, .int v2), (1, .int v1), (0, .ref 50)] [] (N, hm_sh L g, s) b Q := by
  intro n
  induction n with
  | zero => intro s v1 v2 hm _; exact absurd hm (Nat.not_lt_zero _)
  | succ n ih =>
    intro s v1 v2 hm hq
    unfold T_190_4 at hq
    refine hm_st hR (hm_st hR (hm_st hR ⟨rfl, hm_le rfl, (hm_ltN hN rfl), ?_⟩))
    show R 190 9 [(2, .int v2), (1, .int v1), (0, .ref 50)] [.int (s 50 4), .int v2] (N, hm_sh L g, s) _ Q
    refine hm_st hR ⟨fun c9 => ?_, fun c9 => ?_⟩
    · rw [if_pos c9] at hq
      show R 190 29 [(2, .int v2), (1, .int v1), (0, .ref 50)] [] (N, hm_sh L g, s) _ Q
      refine hm_st hR (?_)
      exact hm_st hR ⟨fun z => absurd z (by decide), hq⟩
    · rw [if_neg c9] at hq
      show R 190 12 [(2, .int v2), (1, .int v1), (0, .ref 50)] [] (N, hm_sh L g, s) _ Q
      refine hm_st hR (hm_st hR (hm_st hR ⟨rfl, hm_le rfl, (hm_ltN hN rfl), hm_st hR (?_)⟩))
      refine hm_st hR ⟨hm_le rfl, rfl, (hm_le rfl), (hm_ltN hN rfl), hm_le rfl, hm_le rfl, (0, 0), Nat.zero_le _, Nat.zero_le _, ?_⟩
      refine sp_178 hR hN (rr := 57) (aa := 58) (nn := 20) rfl rfl (hm_le rfl) (hm_ltN hN rfl) rfl rfl (hm_le rfl) (hm_ltN hN rfl) (by decide) ?_
      show R 190 21 [(2, .int v2), (1, .int v1), (0, .ref 50)] [.int (T_178 s 58 20 v2), .int v1] (N, hm_sh L g, s) _ Q
      refine hm_st hR (hm_st hR (hm_st hR (hm_st hR (?_))))
      show R 190 4 [(2, .int (v2 + 1)), (1, .int (v1 + (T_178 s 58 20 v2))), (0, .ref 50)] [] (N, hm_sh L g, s) _ Q
      exact hm_lvS hR (by intro q hq; simp only [List.mem_cons, List.not_mem_nil, or_false] at hq ⊢; rcases hq with rfl | rfl | rfl <;> simp) (ih s (v1 + (T_178 s 58 20 v2)) (v2 + 1) (hm_dcx c9 hm) hq)
set_option maxRecDepth 20000 in
theorem sp_190 {R : hm_R} (hR : hm_Cm R) {N L : Nat} {g : Nat → hm_Sh} {s : hm_St} {b : hm_B} {Q : hm_Q} (hN : 68 ≤ N) (hq : Q (.inr (some (.int (T_190 s)))) (N, hm_sh L g, s)) : R 190 0 (lv_args 0 [.ref 50]) [] (N, hm_sh L g, s) b Q := by
  unfold T_190 at hq
  show R 190 0 [(0, .ref 50)] [] (N, hm_sh L g, s) _ Q
  refine hm_st hR (hm_st hR (hm_st hR (hm_st hR (?_))))
  show R 190 4 [(2, .int 0), (1, .int 0), (0, .ref 50)] [] (N, hm_sh L g, s) _ Q
  exact lp_190_4 hR hN _ _ _ _ (Nat.lt_succ_self _) hq
/-- CurvekeyHouse$Pages.splits()I -/
def T_136 (s : hm_St) : Int32 := (s 42 6)
set_option maxRecDepth 20000 in
theorem sp_136 {R : hm_R} (hR : hm_Cm R) {N L : Nat} {g : Nat → hm_Sh} {s : hm_St} {b : hm_B} {Q : hm_Q} (hN : 68 ≤ N) (hq : Q (.inr (some (.int (T_136 s)))) (N, hm_sh L g, s)) : R 136 0 (lv_args 0 [.ref 42]) [] (N, hm_sh L g, s) b Q := by
  unfold T_136 at hq
  show R 136 0 [(0, .ref 42)] [] (N, hm_sh L g, s) _ Q
  refine hm_st hR (hm_st hR ⟨rfl, hm_le rfl, (hm_ltN hN rfl), ?_⟩)
  exact hm_st hR ⟨fun z => absurd z (by decide), hq⟩
/-- CurvekeyHouse.countFact(I)I -/
def T_56 (s : hm_St) (p1 : Int32) : Int32 := (if p1 = 8 then (T_112 s) else (if p1 = 9 then (s 2 11) else (if p1 = 10 then (s 2 10) else (if p1 = 11 then (s 2 9) else (if p1 = 12 then (T_186 s) else (if p1 = 13 then (T_190 s) else (if p1 = 14 then (s 2 12) else (T_136 s))))))))
set_option maxRecDepth 20000 in
theorem sp_56 {R : hm_R} (hR : hm_Cm R) {N L : Nat} {g : Nat → hm_Sh} {s : hm_St} {b : hm_B} {Q : hm_Q} (hN : 68 ≤ N) {p1 : Int32} (hq : Q (.inr (some (.int (T_56 s p1)))) (N, hm_sh L g, s)) : R 56 0 (lv_args 0 [.ref 2, .int p1]) [] (N, hm_sh L g, s) b Q := by
  unfold T_56 at hq
  show R 56 0 [(0, .ref 2), (1, .int p1)] [] (N, hm_sh L g, s) _ Q
  refine hm_st hR (?_)
  show R 56 1 [(0, .ref 2), (1, .int p1)] [.int p1] (N, hm_sh L g, s) _ Q
  by_cases w1_8 : p1 = 8
  · rw [if_pos w1_8] at hq
    refine hm_tsS hR 44 (by rfl) (by rw [w1_8]; rfl) ?_
    show R 56 44 [(0, .ref 2), (1, .int p1)] [] (N, hm_sh L g, s) _ Q
    refine hm_st hR (hm_st hR ⟨rfl, hm_le rfl, (hm_ltN hN rfl), ?_⟩)
    refine hm_st hR ⟨hm_le rfl, rfl, (hm_le rfl), (hm_ltN hN rfl), hm_le rfl, hm_le rfl, (0, 0), Nat.zero_le _, Nat.zero_le _, ?_⟩
    refine sp_112 hR hN ?_
    show R 56 51 [(0, .ref 2), (1, .int p1)] [.int (T_112 s)] (N, hm_sh L g, s) _ Q
    exact hm_st hR ⟨fun z => absurd z (by decide), hq⟩
  rw [if_neg w1_8] at hq
  by_cases w1_9 : p1 = 9
  · rw [if_pos w1_9] at hq
    refine hm_tsS hR 52 (by rfl) (by rw [w1_9]; rfl) ?_
    show R 56 52 [(0, .ref 2), (1, .int p1)] [] (N, hm_sh L g, s) _ Q
    refine hm_st hR (hm_st hR ⟨rfl, hm_le rfl, (hm_ltN hN rfl), ?_⟩)
    exact hm_st hR ⟨fun z => absurd z (by decide), hq⟩
  rw [if_neg w1_9] at hq
  by_cases w1_10 : p1 = 10
  · rw [if_pos w1_10] at hq
    refine hm_tsS hR 57 (by rfl) (by rw [w1_10]; rfl) ?_
    show R 56 57 [(0, .ref 2), (1, .int p1)] [] (N, hm_sh L g, s) _ Q
    refine hm_st hR (hm_st hR ⟨rfl, hm_le rfl, (hm_ltN hN rfl), ?_⟩)
    exact hm_st hR ⟨fun z => absurd z (by decide), hq⟩
  rw [if_neg w1_10] at hq
  by_cases w1_11 : p1 = 11
  · rw [if_pos w1_11] at hq
    refine hm_tsS hR 62 (by rfl) (by rw [w1_11]; rfl) ?_
    show R 56 62 [(0, .ref 2), (1, .int p1)] [] (N, hm_sh L g, s) _ Q
    refine hm_st hR (hm_st hR ⟨rfl, hm_le rfl, (hm_ltN hN rfl), ?_⟩)
    exact hm_st hR ⟨fun z => absurd z (by decide), hq⟩
  rw [if_neg w1_11] at hq
  by_cases w1_12 : p1 = 12
  · rw [if_pos w1_12] at hq
    refine hm_tsS hR 67 (by rfl) (by rw [w1_12]; rfl) ?_
    show R 56 67 [(0, .ref 2), (1, .int p1)] [] (N, hm_sh L g, s) _ Q
    refine hm_st hR (hm_st hR ⟨rfl, hm_le rfl, (hm_ltN hN rfl), ?_⟩)
    refine hm_st hR ⟨hm_le rfl, rfl, (hm_le rfl), (hm_ltN hN rfl), hm_le rfl, hm_le rfl, (0, 0), Nat.zero_le _, Nat.zero_le _, ?_⟩
    refine sp_186 hR hN ?_
    show R 56 74 [(0, .ref 2), (1, .int p1)] [.int (T_186 s)] (N, hm_sh L g, s) _ Q
    exact hm_st hR ⟨fun z => absurd z (by decide), hq⟩
  rw [if_neg w1_12] at hq
  by_cases w1_13 : p1 = 13
  · rw [if_pos w1_13] at hq
    refine hm_tsS hR 75 (by rfl) (by rw [w1_13]; rfl) ?_
    show R 56 75 [(0, .ref 2), (1, .int p1)] [] (N, hm_sh L g, s) _ Q
    refine hm_st hR (hm_st hR ⟨rfl, hm_le rfl, (hm_ltN hN rfl), ?_⟩)
    refine hm_st hR ⟨hm_le rfl, rfl, (hm_le rfl), (hm_ltN hN rfl), hm_le rfl, hm_le rfl, (0, 0), Nat.zero_le _, Nat.zero_le _, ?_⟩
    refine sp_190 hR hN ?_
    show R 56 82 [(0, .ref 2), (1, .int p1)] [.int (T_190 s)] (N, hm_sh L g, s) _ Q
    exact hm_st hR ⟨fun z => absurd z (by decide), hq⟩
  rw [if_neg w1_13] at hq
  by_cases w1_14 : p1 = 14
  · rw [if_pos w1_14] at hq
    refine hm_tsS hR 83 (by rfl) (by rw [w1_14]; rfl) ?_
    show R 56 83 [(0, .ref 2), (1, .int p1)] [] (N, hm_sh L g, s) _ Q
    refine hm_st hR (hm_st hR ⟨rfl, hm_le rfl, (hm_ltN hN rfl), ?_⟩)
    exact hm_st hR ⟨fun z => absurd z (by decide), hq⟩
  rw [if_neg w1_14] at hq
  refine hm_tsS hR 88 (by rfl) (by exact hm_swD7_8 w1_8 w1_9 w1_10 w1_11 w1_12 w1_13 w1_14) ?_
  show R 56 88 [(0, .ref 2), (1, .int p1)] [] (N, hm_sh L g, s) _ Q
  refine hm_st hR (hm_st hR ⟨rfl, hm_le rfl, (hm_ltN hN rfl), ?_⟩)
  refine hm_st hR ⟨hm_le rfl, rfl, (hm_le rfl), (hm_ltN hN rfl), hm_le rfl, hm_le rfl, (0, 0), Nat.zero_le _, Nat.zero_le _, ?_⟩
  refine sp_136 hR hN ?_
  show R 56 95 [(0, .ref 2), (1, .int p1)] [.int (T_136 s)] (N, hm_sh L g, s) _ Q
  exact hm_st hR ⟨fun z => absurd z (by decide), hq⟩
/-- CurvekeyHouse.mix(JJ)J -/
def T_60 (s : hm_St) (p1 : Int64) (p2 : Int64) : Int64 := ((p1 * 31) + p2)
set_option maxRecDepth 20000 in
theorem sp_60 {R : hm_R} (hR : hm_Cm R) {N L : Nat} {g : Nat → hm_Sh} {s : hm_St} {b : hm_B} {Q : hm_Q} (hN : 68 ≤ N) {p1 : Int64} {p2 : Int64} (hq : Q (.inr (some (.long (T_60 s p1 p2)))) (N, hm_sh L g, s)) : R 60 0 (lv_args 0 [.long p1, .long p2]) [] (N, hm_sh L g, s) b Q := by
  unfold T_60 at hq
  show R 60 0 [(0, .long p1), (2, .long p2)] [] (N, hm_sh L g, s) _ Q
  refine hm_st hR (hm_st hR (hm_st hR (hm_st hR (hm_st hR (?_)))))
  exact hm_st hR hq
/-- CurvekeyHouse$Curves.factOf(II)I -/
def T_91 (s : hm_St) (p1 : Int32) (p2 : Int32) : Int32 := (T_178 s 13 24 ((p1 * 4) + p2))
set_option maxRecDepth 20000 in
theorem sp_91 {R : hm_R} (hR : hm_Cm R) {N L : Nat} {g : Nat → hm_Sh} {s : hm_St} {b : hm_B} {Q : hm_Q} (hN : 68 ≤ N) {p1 : Int32} {p2 : Int32} (hq : Q (.inr (some (.int (T_91 s p1 p2)))) (N, hm_sh L g, s)) : R 91 0 (lv_args 0 [.ref 3, .int p1, .int p2]) [] (N, hm_sh L g, s) b Q := by
  unfold T_91 at hq
  show R 91 0 [(0, .ref 3), (1, .int p1), (2, .int p2)] [] (N, hm_sh L g, s) _ Q
  refine hm_st hR (hm_st hR ⟨rfl, hm_le rfl, (hm_ltN hN rfl), hm_st hR (hm_st hR (hm_st hR (hm_st hR (hm_st hR (?_)))))⟩)
  refine hm_st hR ⟨hm_le rfl, rfl, (hm_le rfl), (hm_ltN hN rfl), hm_le rfl, hm_le rfl, (0, 0), Nat.zero_le _, Nat.zero_le _, ?_⟩
  refine sp_178 hR hN (rr := 12) (aa := 13) (nn := 24) rfl rfl (hm_le rfl) (hm_ltN hN rfl) rfl rfl (hm_le rfl) (hm_ltN hN rfl) (by decide) ?_
  show R 91 12 [(0, .ref 3), (1, .int p1), (2, .int p2)] [.int (T_178 s 13 24 ((p1 * 4) + p2))] (N, hm_sh L g, s) _ Q
  exact hm_st hR ⟨fun z => absurd z (by decide), hq⟩
def T_61_60 (O : hm_St → Int64 → Int64 → Int32 → Int64) : Nat → hm_St → Int64 → Int64 → Int32 → Int32 → Int64
  | 0, s, _, _, _, _ => 0
  | n + 1, s, v1, v3, v5, v6 => (if 4 ≤ v6 then (O s v1 v3 (v5 + 1)) else (T_61_60 O n s v1 (T_60 s v3 (((T_91 s v5 v6)).toInt64)) v5 (v6 + 1)))
def T_61_50 : Nat → hm_St → Int64 → Int64 → Int32 → Int64
  | 0, s, _, _, _ => 0
  | n + 1, s, v1, v3, v5 => (if 6 ≤ v5 then v3 else (T_61_60 (fun s v1 v3 v5 => T_61_50 n s v1 v3 v5) (hm_df 4 0 + 1) s v1 v3 v5 0))
def T_61_5 : Nat → hm_St → Int64 → Int64 → Int32 → Int64
  | 0, s, _, _, _ => 0
  | n + 1, s, v1, v3, v5 => (if 16 ≤ v5 then (T_61_50 (hm_df 6 0 + 1) s v1 v3 0) else (if 8 ≤ v5 then (T_61_5 n s v1 (T_60 s v3 (((T_56 s v5)).toInt64)) (v5 + 1)) else (T_61_5 n s v1 (T_60 s v3 (((T_55 s v5)).toInt64)) (v5 + 1))))
/-- CurvekeyHouse.mixStore(J)J -/
def T_61 (s : hm_St) (p1 : Int64) : Int64 := (T_61_5 (hm_df 16 0 + 1) s p1 p1 0)
set_option maxRecDepth 20000 in
theorem lp_61_60 {R : hm_R} (hR : hm_Cm R) {N L : Nat} {g : Nat → hm_Sh} {b : hm_B} {Q : hm_Q} (hN : 68 ≤ N) {O : hm_St → Int64 → Int64 → Int32 → Int64} {nO : Nat} (hO : ∀ (s : hm_St) (v1 : Int64) (v3 : Int64) (v5 : Int32), hm_df 6 v5 < nO → (Q (.inr (some (.long (O s v1 v3 v5)))) (N, hm_sh L g, s)) → R 61 50 [(5, .int v5), (3, .long v3), (0, .ref 2), (1, .long v1)] [] (N, hm_sh L g, s) b Q) : ∀ (n : Nat) (s : hm_St) (v1 : Int64) (v3 : Int64) (v5 : Int32) (v6 : Int32), hm_df 4 v6 < n → (hPO : hm_df 6 (v5 + 1) < nO) → (hq : Q (.inr (some (.long (T_61_60 O n s v1 v3 v5 v6)))) (N, hm_sh L g, s)) → R 61 60 [(6, .int v6), (5, .int v5), (3, .long v3), (0, .ref 2), (1, .long v1)] [] (N, hm_sh L g, s) b Q := by
  intro n
  induction n with
  | zero => intro s v1 v3 v5 v6 hm hPO _; exact absurd hm (Nat.not_lt_zero _)
  | succ n ih =>
    intro s v1 v3 v5 v6 hm hPO hq
    unfold T_61_60 at hq
    refine hm_st hR (hm_st hR (?_))
    show R 61 63 [(6, .int v6), (5, .int v5), (3, .long v3), (0, .ref 2), (1, .long v1)] [.int 4, .int v6] (N, hm_sh L g, s) _ Q
    refine hm_st hR ⟨fun c63 => ?_, fun c63 => ?_⟩
    · rw [if_pos c63] at hq
      show R 61 89 [(6, .int v6), (5, .int v5), (3, .long v3), (0, .ref 2), (1, .long v1)] [] (N, hm_sh L g, s) _ Q
      refine hm_st hR (hm_st hR (?_))
      show R 61 50 [(5, .int (v5 + 1)), (6, .int v6), (3, .long v3), (0, .ref 2), (1, .long v1)] [] (N, hm_sh L g, s) _ Q
      exact hm_lvS hR (by intro q hq; simp only [List.mem_cons, List.not_mem_nil, or_false] at hq ⊢; rcases hq with rfl | rfl | rfl | rfl <;> simp) (hO s v1 v3 (v5 + 1) hPO hq)
    · rw [if_neg c63] at hq
      show R 61 66 [(6, .int v6), (5, .int v5), (3, .long v3), (0, .ref 2), (1, .long v1)] [] (N, hm_sh L g, s) _ Q
      refine hm_st hR (hm_st hR (hm_st hR ⟨rfl, hm_le rfl, (hm_ltN hN rfl), hm_st hR (hm_st hR (?_))⟩))
      refine hm_st hR ⟨hm_le rfl, rfl, (hm_le rfl), (hm_ltN hN rfl), hm_le rfl, hm_le rfl, (0, 0), Nat.zero_le _, Nat.zero_le _, ?_⟩
      refine sp_91 hR hN ?_
      show R 61 78 [(6, .int v6), (5, .int v5), (3, .long v3), (0, .ref 2), (1, .long v1)] [.int (T_91 s v5 v6), .long v3] (N, hm_sh L g, s) _ Q
      refine hm_st hR (?_)
      refine hm_st hR ⟨hm_le rfl, hm_le rfl, hm_le rfl, (0, 0), Nat.zero_le _, Nat.zero_le _, ?_⟩
      refine sp_60 hR hN ?_
      show R 61 82 [(6, .int v6), (5, .int v5), (3, .long v3), (0, .ref 2), (1, .long v1)] [.long (T_60 s v3 (((T_91 s v5 v6)).toInt64))] (N, hm_sh L g, s) _ Q
      refine hm_st hR (hm_st hR (hm_st hR (?_)))
      show R 61 60 [(6, .int (v6 + 1)), (3, .long (T_60 s v3 (((T_91 s v5 v6)).toInt64))), (5, .int v5), (0, .ref 2), (1, .long v1)] [] (N, hm_sh L g, s) _ Q
      exact hm_lvS hR (by intro q hq; simp only [List.mem_cons, List.not_mem_nil, or_false] at hq ⊢; rcases hq with rfl | rfl | rfl | rfl | rfl <;> simp) (ih s v1 (T_60 s v3 (((T_91 s v5 v6)).toInt64)) v5 (v6 + 1) (hm_dcx c63 hm) hPO hq)
set_option maxRecDepth 20000 in
theorem lp_61_50 {R : hm_R} (hR : hm_Cm R) {N L : Nat} {g : Nat → hm_Sh} {b : hm_B} {Q : hm_Q} (hN : 68 ≤ N) : ∀ (n : Nat) (s : hm_St) (v1 : Int64) (v3 : Int64) (v5 : Int32), hm_df 6 v5 < n → (hq : Q (.inr (some (.long (T_61_50 n s v1 v3 v5)))) (N, hm_sh L g, s)) → R 61 50 [(5, .int v5), (3, .long v3), (0, .ref 2), (1, .long v1)] [] (N, hm_sh L g, s) b Q := by
  intro n
  induction n with
  | zero => intro s v1 v3 v5 hm _; exact absurd hm (Nat.not_lt_zero _)
  | succ n ih =>
    intro s v1 v3 v5 hm hq
    unfold T_61_50 at hq
    refine hm_st hR (hm_st hR (?_))
    show R 61 54 [(5, .int v5), (3, .long v3), (0, .ref 2), (1, .long v1)] [.int 6, .int v5] (N, hm_sh L g, s) _ Q
    refine hm_st hR ⟨fun c54 => ?_, fun c54 => ?_⟩
    · rw [if_pos c54] at hq
      show R 61 95 [(5, .int v5), (3, .long v3), (0, .ref 2), (1, .long v1)] [] (N, hm_sh L g, s) _ Q
      refine hm_st hR (?_)
      exact hm_st hR hq
    · rw [if_neg c54] at hq
      show R 61 57 [(5, .int v5), (3, .long v3), (0, .ref 2), (1, .long v1)] [] (N, hm_sh L g, s) _ Q
      refine hm_st hR (hm_st hR (?_))
      show R 61 60 [(6, .int 0), (5, .int v5), (3, .long v3), (0, .ref 2), (1, .long v1)] [] (N, hm_sh L g, s) _ Q
      exact lp_61_60 hR hN (O := (fun s v1 v3 v5 => T_61_50 n s v1 v3 v5)) (nO := n) (fun s v1 v3 v5 hm hq => ih s v1 v3 v5 hm hq) _ _ _ _ _ _ (Nat.lt_succ_self _) (hm_dcx c54 hm) hq
set_option maxRecDepth 20000 in
theorem lp_61_5 {R : hm_R} (hR : hm_Cm R) {N L : Nat} {g : Nat → hm_Sh} {b : hm_B} {Q : hm_Q} (hN : 68 ≤ N) : ∀ (n : Nat) (s : hm_St) (v1 : Int64) (v3 : Int64) (v5 : Int32), hm_df 16 v5 < n → (hq : Q (.inr (some (.long (T_61_5 n s v1 v3 v5)))) (N, hm_sh L g, s)) → R 61 5 [(5, .int v5), (3, .long v3), (0, .ref 2), (1, .long v1)] [] (N, hm_sh L g, s) b Q := by
  intro n
  induction n with
  | zero => intro s v1 v3 v5 hm _; exact absurd hm (Nat.not_lt_zero _)
  | succ n ih =>
    intro s v1 v3 v5 hm hq
    unfold T_61_5 at hq
    refine hm_st hR (hm_st hR (?_))
    show R 61 9 [(5, .int v5), (3, .long v3), (0, .ref 2), (1, .long v1)] [.int 16, .int v5] (N, hm_sh L g, s) _ Q
    refine hm_st hR ⟨fun c9 => ?_, fun c9 => ?_⟩
    · rw [if_pos c9] at hq
      show R 61 47 [(5, .int v5), (3, .long v3), (0, .ref 2), (1, .long v1)] [] (N, hm_sh L g, s) _ Q
      refine hm_st hR (hm_st hR (?_))
      show R 61 50 [(5, .int 0), (3, .long v3), (0, .ref 2), (1, .long v1)] [] (N, hm_sh L g, s) _ Q
      exact lp_61_50 hR hN _ _ _ _ _ (Nat.lt_succ_self _) hq
    · rw [if_neg c9] at hq
      show R 61 12 [(5, .int v5), (3, .long v3), (0, .ref 2), (1, .long v1)] [] (N, hm_sh L g, s) _ Q
      refine hm_st hR (hm_st hR (hm_st hR (?_)))
      show R 61 17 [(5, .int v5), (3, .long v3), (0, .ref 2), (1, .long v1)] [.int 8, .int v5, .long v3] (N, hm_sh L g, s) _ Q
      refine hm_st hR ⟨fun c17 => ?_, fun c17 => ?_⟩
      · rw [if_pos c17] at hq
        show R 61 30 [(5, .int v5), (3, .long v3), (0, .ref 2), (1, .long v1)] [.long v3] (N, hm_sh L g, s) _ Q
        refine hm_st hR (hm_st hR (?_))
        refine hm_st hR ⟨hm_le rfl, rfl, (hm_le rfl), (hm_ltN hN rfl), hm_le rfl, hm_le rfl, (0, 0), Nat.zero_le _, Nat.zero_le _, ?_⟩
        refine sp_56 hR hN ?_
        show R 61 36 [(5, .int v5), (3, .long v3), (0, .ref 2), (1, .long v1)] [.int (T_56 s v5), .long v3] (N, hm_sh L g, s) _ Q
        refine hm_st hR (?_)
        refine hm_st hR ⟨hm_le rfl, hm_le rfl, hm_le rfl, (0, 0), Nat.zero_le _, Nat.zero_le _, ?_⟩
        refine sp_60 hR hN ?_
        show R 61 40 [(5, .int v5), (3, .long v3), (0, .ref 2), (1, .long v1)] [.long (T_60 s v3 (((T_56 s v5)).toInt64))] (N, hm_sh L g, s) _ Q
        refine hm_st hR (hm_st hR (hm_st hR (?_)))
        show R 61 5 [(5, .int (v5 + 1)), (3, .long (T_60 s v3 (((T_56 s v5)).toInt64))), (0, .ref 2), (1, .long v1)] [] (N, hm_sh L g, s) _ Q
        exact hm_lvS hR (by intro q hq; simp only [List.mem_cons, List.not_mem_nil, or_false] at hq ⊢; rcases hq with rfl | rfl | rfl | rfl <;> simp) (ih s v1 (T_60 s v3 (((T_56 s v5)).toInt64)) (v5 + 1) (hm_dcx c9 hm) hq)
      · rw [if_neg c17] at hq
        show R 61 20 [(5, .int v5), (3, .long v3), (0, .ref 2), (1, .long v1)] [.long v3] (N, hm_sh L g, s) _ Q
        refine hm_st hR (hm_st hR (?_))
        refine hm_st hR ⟨hm_le rfl, rfl, (hm_le rfl), (hm_ltN hN rfl), hm_le rfl, hm_le rfl, (0, 0), Nat.zero_le _, Nat.zero_le _, ?_⟩
        refine sp_55 hR hN ?_
        show R 61 26 [(5, .int v5), (3, .long v3), (0, .ref 2), (1, .long v1)] [.int (T_55 s v5), .long v3] (N, hm_sh L g, s) _ Q
        refine hm_st hR (hm_st hR (?_))
        refine hm_st hR ⟨hm_le rfl, hm_le rfl, hm_le rfl, (0, 0), Nat.zero_le _, Nat.zero_le _, ?_⟩
        refine sp_60 hR hN ?_
        show R 61 40 [(5, .int v5), (3, .long v3), (0, .ref 2), (1, .long v1)] [.long (T_60 s v3 (((T_55 s v5)).toInt64))] (N, hm_sh L g, s) _ Q
        refine hm_st hR (hm_st hR (hm_st hR (?_)))
        show R 61 5 [(5, .int (v5 + 1)), (3, .long (T_60 s v3 (((T_55 s v5)).toInt64))), (0, .ref 2), (1, .long v1)] [] (N, hm_sh L g, s) _ Q
        exact hm_lvS hR (by intro q hq; simp only [List.mem_cons, List.not_mem_nil, or_false] at hq ⊢; rcases hq with rfl | rfl | rfl | rfl <;> simp) (ih s v1 (T_60 s v3 (((T_55 s v5)).toInt64)) (v5 + 1) (hm_dcx c9 hm) hq)
set_option maxRecDepth 20000 in
theorem sp_61 {R : hm_R} (hR : hm_Cm R) {N L : Nat} {g : Nat → hm_Sh} {s : hm_St} {b : hm_B} {Q : hm_Q} (hN : 68 ≤ N) {p1 : Int64} (hq : Q (.inr (some (.long (T_61 s p1)))) (N, hm_sh L g, s)) : R 61 0 (lv_args 0 [.ref 2, .long p1]) [] (N, hm_sh L g, s) b Q := by
  unfold T_61 at hq
  show R 61 0 [(0, .ref 2), (1, .long p1)] [] (N, hm_sh L g, s) _ Q
  refine hm_st hR (hm_st hR (hm_st hR (hm_st hR (?_))))
  show R 61 5 [(5, .int 0), (3, .long p1), (0, .ref 2), (1, .long p1)] [] (N, hm_sh L g, s) _ Q
  exact lp_61_5 hR hN _ _ _ _ _ (Nat.lt_succ_self _) hq
/-- CurvekeyHouse$History.spellsOf(I)I -/
def T_114 (s : hm_St) (p1 : Int32) : Int32 := (T_178 s 37 80 p1)
set_option maxRecDepth 20000 in
theorem sp_114 {R : hm_R} (hR : hm_Cm R) {N L : Nat} {g : Nat → hm_Sh} {s : hm_St} {b : hm_B} {Q : hm_Q} (hN : 68 ≤ N) {p1 : Int32} (hq : Q (.inr (some (.int (T_114 s p1)))) (N, hm_sh L g, s)) : R 114 0 (lv_args 0 [.ref 25, .int p1]) [] (N, hm_sh L g, s) b Q := by
  unfold T_114 at hq
  show R 114 0 [(0, .ref 25), (1, .int p1)] [] (N, hm_sh L g, s) _ Q
  refine hm_st hR (hm_st hR ⟨rfl, hm_le rfl, (hm_ltN hN rfl), hm_st hR (?_)⟩)
  refine hm_st hR ⟨hm_le rfl, rfl, (hm_le rfl), (hm_ltN hN rfl), hm_le rfl, hm_le rfl, (0, 0), Nat.zero_le _, Nat.zero_le _, ?_⟩
  refine sp_178 hR hN (rr := 36) (aa := 37) (nn := 80) rfl rfl (hm_le rfl) (hm_ltN hN rfl) rfl rfl (hm_le rfl) (hm_ltN hN rfl) (by decide) ?_
  show R 114 8 [(0, .ref 25), (1, .int p1)] [.int (T_178 s 37 80 p1)] (N, hm_sh L g, s) _ Q
  exact hm_st hR ⟨fun z => absurd z (by decide), hq⟩
/-- CurvekeyHouse$History.birthOf(I)I -/
def T_115 (s : hm_St) (p1 : Int32) : Int32 := (T_178 s 39 80 p1)
set_option maxRecDepth 20000 in
theorem sp_115 {R : hm_R} (hR : hm_Cm R) {N L : Nat} {g : Nat → hm_Sh} {s : hm_St} {b : hm_B} {Q : hm_Q} (hN : 68 ≤ N) {p1 : Int32} (hq : Q (.inr (some (.int (T_115 s p1)))) (N, hm_sh L g, s)) : R 115 0 (lv_args 0 [.ref 25, .int p1]) [] (N, hm_sh L g, s) b Q := by
  unfold T_115 at hq
  show R 115 0 [(0, .ref 25), (1, .int p1)] [] (N, hm_sh L g, s) _ Q
  refine hm_st hR (hm_st hR ⟨rfl, hm_le rfl, (hm_ltN hN rfl), hm_st hR (?_)⟩)
  refine hm_st hR ⟨hm_le rfl, rfl, (hm_le rfl), (hm_ltN hN rfl), hm_le rfl, hm_le rfl, (0, 0), Nat.zero_le _, Nat.zero_le _, ?_⟩
  refine sp_178 hR hN (rr := 38) (aa := 39) (nn := 80) rfl rfl (hm_le rfl) (hm_ltN hN rfl) rfl rfl (hm_le rfl) (hm_ltN hN rfl) (by decide) ?_
  show R 115 8 [(0, .ref 25), (1, .int p1)] [.int (T_178 s 39 80 p1)] (N, hm_sh L g, s) _ Q
  exact hm_st hR ⟨fun z => absurd z (by decide), hq⟩
/-- CurvekeyHouse$History.endOf(I)I -/
def T_116 (s : hm_St) (p1 : Int32) : Int32 := (T_178 s 41 80 p1)
set_option maxRecDepth 20000 in
theorem sp_116 {R : hm_R} (hR : hm_Cm R) {N L : Nat} {g : Nat → hm_Sh} {s : hm_St} {b : hm_B} {Q : hm_Q} (hN : 68 ≤ N) {p1 : Int32} (hq : Q (.inr (some (.int (T_116 s p1)))) (N, hm_sh L g, s)) : R 116 0 (lv_args 0 [.ref 25, .int p1]) [] (N, hm_sh L g, s) b Q := by
  unfold T_116 at hq
  show R 116 0 [(0, .ref 25), (1, .int p1)] [] (N, hm_sh L g, s) _ Q
  refine hm_st hR (hm_st hR ⟨rfl, hm_le rfl, (hm_ltN hN rfl), hm_st hR (?_)⟩)
  refine hm_st hR ⟨hm_le rfl, rfl, (hm_le rfl), (hm_ltN hN rfl), hm_le rfl, hm_le rfl, (0, 0), Nat.zero_le _, Nat.zero_le _, ?_⟩
  refine sp_178 hR hN (rr := 40) (aa := 41) (nn := 80) rfl rfl (hm_le rfl) (hm_ltN hN rfl) rfl rfl (hm_le rfl) (hm_ltN hN rfl) (by decide) ?_
  show R 116 8 [(0, .ref 25), (1, .int p1)] [.int (T_178 s 41 80 p1)] (N, hm_sh L g, s) _ Q
  exact hm_st hR ⟨fun z => absurd z (by decide), hq⟩
