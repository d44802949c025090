/-! The methods as functions; the abstract machine does them. -/
/-- CurvekeyHouse.isBetween(III)Z -/
def T_34 (s : hm_St) (p1 : Int32) (p2 : Int32) (p3 : Int32) : Int32 := (if p1 < p2 then 0 else (if p3 < p1 then (0 : Int32) else 1))
theorem B_34 (s : hm_St) (p1 : Int32) (p2 : Int32) (p3 : Int32) : T_34 s p1 p2 p3 = 0 ∨ T_34 s p1 p2 p3 = 1 := by
  unfold T_34
  repeat' split
  all_goals first | exact Or.inl rfl | exact Or.inr rfl
set_option maxRecDepth 20000 in
theorem sp_34 {R : hm_R} (hR : hm_Cm R) {N L : Nat} {g : Nat → hm_Sh} {s : hm_St} {b : hm_B} {Q : hm_Q} (hN : 68 ≤ N) {p1 : Int32} {p2 : Int32} {p3 : Int32} (hq : Q (.inr (some (.int (T_34 s p1 p2 p3)))) (N, hm_sh L g, s)) : R 34 0 (lv_args 0 [.int p1, .int p2, .int p3]) [] (N, hm_sh L g, s) b Q := by
  unfold T_34 at hq
  show R 34 0 [(0, .int p1), (1, .int p2), (2, .int p3)] [] (N, hm_sh L g, s) _ Q
  refine hm_st hR (hm_st hR (?_))
  show R 34 2 [(0, .int p1), (1, .int p2), (2, .int p3)] [.int p2, .int p1] (N, hm_sh L g, s) _ Q
  refine hm_st hR ⟨fun c2 => ?_, fun c2 => ?_⟩
  · rw [if_pos c2] at hq
    show R 34 14 [(0, .int p1), (1, .int p2), (2, .int p3)] [] (N, hm_sh L g, s) _ Q
    refine hm_st hR (?_)
    exact hm_st hR ⟨fun _ => Or.inl rfl, hq⟩
  · rw [if_neg c2] at hq
    show R 34 5 [(0, .int p1), (1, .int p2), (2, .int p3)] [] (N, hm_sh L g, s) _ Q
    refine hm_st hR (hm_st hR (?_))
    show R 34 7 [(0, .int p1), (1, .int p2), (2, .int p3)] [.int p3, .int p1] (N, hm_sh L g, s) _ Q
    suffices G : ∀ w : Int32, w = (if p3 < p1 then (0 : Int32) else 1) → R 34 15 [(0, .int p1), (1, .int p2), (2, .int p3)] [.int w] (N, hm_sh L g, s) b Q by
      show R 34 7 [(0, .int p1), (1, .int p2), (2, .int p3)] [.int p3, .int p1] (N, hm_sh L g, s) _ Q
      refine hm_st hR ⟨fun c => ?_, fun c => ?_⟩
      · exact hm_st hR (G _ (if_pos c).symm)
      · exact hm_st hR (hm_st hR (G _ (if_neg c).symm))
    intro w hw
    subst hw
    show R 34 15 [(0, .int p1), (1, .int p2), (2, .int p3)] [.int (if p3 < p1 then (0 : Int32) else 1)] (N, hm_sh L g, s) _ Q
    exact hm_st hR ⟨fun _ => (by split <;> first | exact Or.inl rfl | exact Or.inr rfl), hq⟩
/-- CurvekeyHouse.isCurve(I)Z -/
def T_35 (s : hm_St) (p1 : Int32) : Int32 := (T_34 s p1 0 5)
theorem B_35 (s : hm_St) (p1 : Int32) : T_35 s p1 = 0 ∨ T_35 s p1 = 1 := by
  unfold T_35
  repeat' split
  all_goals first | exact Or.inl rfl | exact Or.inr rfl | exact B_34 _ _ _ _
set_option maxRecDepth 20000 in
theorem sp_35 {R : hm_R} (hR : hm_Cm R) {N L : Nat} {g : Nat → hm_Sh} {s : hm_St} {b : hm_B} {Q : hm_Q} (hN : 68 ≤ N) {p1 : Int32} (hq : Q (.inr (some (.int (T_35 s p1)))) (N, hm_sh L g, s)) : R 35 0 (lv_args 0 [.int p1]) [] (N, hm_sh L g, s) b Q := by
  unfold T_35 at hq
  show R 35 0 [(0, .int p1)] [] (N, hm_sh L g, s) _ Q
  refine hm_st hR (hm_st hR (hm_st hR (?_)))
  refine hm_st hR ⟨hm_le rfl, hm_le rfl, hm_le rfl, (0, 0), Nat.zero_le _, Nat.zero_le _, ?_⟩
  refine sp_34 hR hN ?_
  show R 35 6 [(0, .int p1)] [.int (T_34 s p1 0 5)] (N, hm_sh L g, s) _ Q
  exact hm_st hR ⟨fun _ => B_34 _ _ _ _, hq⟩
/-- CurvekeyHouse$Curves.side()I -/
def T_86 (s : hm_St) : Int32 := (s 3 6)
set_option maxRecDepth 20000 in
theorem sp_86 {R : hm_R} (hR : hm_Cm R) {N L : Nat} {g : Nat → hm_Sh} {s : hm_St} {b : hm_B} {Q : hm_Q} (hN : 68 ≤ N) (hq : Q (.inr (some (.int (T_86 s)))) (N, hm_sh L g, s)) : R 86 0 (lv_args 0 [.ref 3]) [] (N, hm_sh L g, s) b Q := by
  unfold T_86 at hq
  show R 86 0 [(0, .ref 3)] [] (N, hm_sh L g, s) _ Q
  refine hm_st hR (hm_st hR ⟨rfl, hm_le rfl, (hm_ltN hN rfl), ?_⟩)
  exact hm_st hR ⟨fun z => absurd z (by decide), hq⟩
/-- CurvekeyHouse.isPlace(II)Z -/
def T_37 (s : hm_St) (p1 : Int32) (p2 : Int32) : Int32 := (if (T_34 s p1 0 ((T_86 s) - 1)) = 0 then 0 else (if (T_34 s p2 0 ((T_86 s) - 1)) = 0 then (0 : Int32) else 1))
theorem B_37 (s : hm_St) (p1 : Int32) (p2 : Int32) : T_37 s p1 p2 = 0 ∨ T_37 s p1 p2 = 1 := by
  unfold T_37
  repeat' split
  all_goals first | exact Or.inl rfl | exact Or.inr rfl | exact B_34 _ _ _ _
set_option maxRecDepth 20000 in
theorem sp_37 {R : hm_R} (hR : hm_Cm R) {N L : Nat} {g : Nat → hm_Sh} {s : hm_St} {b : hm_B} {Q : hm_Q} (hN : 68 ≤ N) {p1 : Int32} {p2 : Int32} (hq : Q (.inr (some (.int (T_37 s p1 p2)))) (N, hm_sh L g, s)) : R 37 0 (lv_args 0 [.ref 2, .int p1, .int p2]) [] (N, hm_sh L g, s) b Q := by
  unfold T_37 at hq
  show R 37 0 [(0, .ref 2), (1, .int p1), (2, .int p2)] [] (N, hm_sh L g, s) _ Q
  refine hm_st hR (hm_st hR (hm_st hR (hm_st hR ⟨rfl, hm_le rfl, (hm_ltN hN rfl), ?_⟩)))
  refine hm_st hR ⟨hm_le rfl, rfl, (hm_le rfl), (hm_ltN hN rfl), hm_le rfl, hm_le rfl, (0, 0), Nat.zero_le _, Nat.zero_le _, ?_⟩
  refine sp_86 hR hN ?_
  show R 37 9 [(0, .ref 2), (1, .int p1), (2, .int p2)] [.int (T_86 s), .int 0, .int p1] (N, hm_sh L g, s) _ Q
  refine hm_st hR (hm_st hR (?_))
  refine hm_st hR ⟨hm_le rfl, hm_le rfl, hm_le rfl, (0, 0), Nat.zero_le _, Nat.zero_le _, ?_⟩
  refine sp_34 hR hN ?_
  show R 37 14 [(0, .ref 2), (1, .int p1), (2, .int p2)] [.int (T_34 s p1 0 ((T_86 s) - 1))] (N, hm_sh L g, s) _ Q
  show R 37 14 [(0, .ref 2), (1, .int p1), (2, .int p2)] [.int (T_34 s p1 0 ((T_86 s) - 1))] (N, hm_sh L g, s) _ Q
  refine hm_st hR ⟨fun c14 => ?_, fun c14 => ?_⟩
  · rw [if_pos c14] at hq
    show R 37 38 [(0, .ref 2), (1, .int p1), (2, .int p2)] [] (N, hm_sh L g, s) _ Q
    refine hm_st hR (?_)
    exact hm_st hR ⟨fun _ => Or.inl rfl, hq⟩
  · rw [if_neg c14] at hq
    show R 37 17 [(0, .ref 2), (1, .int p1), (2, .int p2)] [] (N, hm_sh L g, s) _ Q
    refine hm_st hR (hm_st hR (hm_st hR (hm_st hR ⟨rfl, hm_le rfl, (hm_ltN hN rfl), ?_⟩)))
    refine hm_st hR ⟨hm_le rfl, rfl, (hm_le rfl), (hm_ltN hN rfl), hm_le rfl, hm_le rfl, (0, 0), Nat.zero_le _, Nat.zero_le _, ?_⟩
    refine sp_86 hR hN ?_
    show R 37 26 [(0, .ref 2), (1, .int p1), (2, .int p2)] [.int (T_86 s), .int 0, .int p2] (N, hm_sh L g, s) _ Q
    refine hm_st hR (hm_st hR (?_))
    refine hm_st hR ⟨hm_le rfl, hm_le rfl, hm_le rfl, (0, 0), Nat.zero_le _, Nat.zero_le _, ?_⟩
    refine sp_34 hR hN ?_
    show R 37 31 [(0, .ref 2), (1, .int p1), (2, .int p2)] [.int (T_34 s p2 0 ((T_86 s) - 1))] (N, hm_sh L g, s) _ Q
    show R 37 31 [(0, .ref 2), (1, .int p1), (2, .int p2)] [.int (T_34 s p2 0 ((T_86 s) - 1))] (N, hm_sh L g, s) _ Q
    suffices G : ∀ w : Int32, w = (if (T_34 s p2 0 ((T_86 s) - 1)) = 0 then (0 : Int32) else 1) → R 37 39 [(0, .ref 2), (1, .int p1), (2, .int p2)] [.int w] (N, hm_sh L g, s) (b.1 - 0 - 0 - 0 - 0, b.2 - 0 - 0 - 0 - 0) Q by
      show R 37 31 [(0, .ref 2), (1, .int p1), (2, .int p2)] [.int (T_34 s p2 0 ((T_86 s) - 1))] (N, hm_sh L g, s) _ Q
      refine hm_st hR ⟨fun c => ?_, fun c => ?_⟩
      · exact hm_st hR (G _ (if_pos c).symm)
      · exact hm_st hR (hm_st hR (G _ (if_neg c).symm))
    intro w hw
    subst hw
    show R 37 39 [(0, .ref 2), (1, .int p1), (2, .int p2)] [.int (if (T_34 s p2 0 ((T_86 s) - 1)) = 0 then (0 : Int32) else 1)] (N, hm_sh L g, s) _ Q
    exact hm_st hR ⟨fun _ => (by split <;> first | exact Or.inl rfl | exact Or.inr rfl), hq⟩
/-- CurvekeyHouse$Row.at(I)I -/
def T_178 (s : hm_St) (aa : Nat) (nn : Nat) (p1 : Int32) : Int32 := (if p1 < 0 then (-1) else (if (Int32.ofNat nn) ≤ p1 then (-1) else (s aa (p1).toNatClampNeg)))
set_option maxRecDepth 20000 in
theorem sp_178 {R : hm_R} (hR : hm_Cm R) {N L : Nat} {g : Nat → hm_Sh} {s : hm_St} {b : hm_B} {Q : hm_Q} (hN : 68 ≤ N) {rr aa nn : Nat} (hrk : (hm_sh L g rr).1 = 8) (hra : (hm_sh L g rr).2.2 0 = some aa) (hr2 : 2 ≤ rr) (hrl : rr < N) (hak : (hm_sh L g aa).1 = 1000) (han : (hm_sh L g aa).2.1 = nn) (ha2 : 2 ≤ aa) (hal : aa < N) (hnn : nn < 2 ^ 31) {p1 : Int32} (hq : Q (.inr (some (.int (T_178 s aa nn p1)))) (N, hm_sh L g, s)) : R 178 0 (lv_args 0 [.ref rr, .int p1]) [] (N, hm_sh L g, s) b Q := by
  unfold T_178 at hq
  show R 178 0 [(0, .ref rr), (1, .int p1)] [] (N, hm_sh L g, s) _ Q
  refine hm_st hR (?_)
  show R 178 1 [(0, .ref rr), (1, .int p1)] [.int p1] (N, hm_sh L g, s) _ Q
  refine hm_st hR ⟨fun c1 => ?_, fun c1 => ?_⟩
  · rw [if_pos c1] at hq
    show R 178 22 [(0, .ref rr), (1, .int p1)] [] (N, hm_sh L g, s) _ Q
    refine hm_st hR (?_)
    exact hm_st hR ⟨fun z => absurd z (by decide), hq⟩
  · rw [if_neg c1] at hq
    show R 178 4 [(0, .ref rr), (1, .int p1)] [] (N, hm_sh L g, s) _ Q
    refine hm_st hR (hm_st hR (?_))
    show R 178 6 [(0, .ref rr), (1, .int p1)] [.ref rr, .int p1] (N, hm_sh L g, s) _ Q
    refine hm_rwf hR hrk hra hr2 hrl (by rfl) ?_
    show R 178 9 [(0, .ref rr), (1, .int p1)] [.ref aa, .int p1] (N, hm_sh L g, s) _ Q
    show R 178 9 [(0, .ref rr), (1, .int p1)] [.ref aa, .int p1] (N, hm_sh L g, s) _ Q
    refine hm_aln hR hak han hal (by rfl) ?_
    show R 178 10 [(0, .ref rr), (1, .int p1)] [.int (Int32.ofNat nn), .int p1] (N, hm_sh L g, s) _ Q
    show R 178 10 [(0, .ref rr), (1, .int p1)] [.int (Int32.ofNat nn), .int p1] (N, hm_sh L g, s) _ Q
    refine hm_st hR ⟨fun c10 => ?_, fun c10 => ?_⟩
    · rw [if_pos c10] at hq
      show R 178 22 [(0, .ref rr), (1, .int p1)] [] (N, hm_sh L g, s) _ Q
      refine hm_st hR (?_)
      exact hm_st hR ⟨fun z => absurd z (by decide), hq⟩
    · rw [if_neg c10] at hq
      show R 178 13 [(0, .ref rr), (1, .int p1)] [] (N, hm_sh L g, s) _ Q
      refine hm_st hR (?_)
      show R 178 14 [(0, .ref rr), (1, .int p1)] [.ref rr] (N, hm_sh L g, s) _ Q
      refine hm_rwf hR hrk hra hr2 hrl (by rfl) ?_
      show R 178 17 [(0, .ref rr), (1, .int p1)] [.ref aa] (N, hm_sh L g, s) _ Q
      refine hm_st hR (?_)
      show R 178 18 [(0, .ref rr), (1, .int p1)] [.int p1, .ref aa] (N, hm_sh L g, s) _ Q
      refine hm_ald hR hak han hal (by rfl) (hm_vin c1 c10 hnn) ?_
      show R 178 19 [(0, .ref rr), (1, .int p1)] [.int (s aa (p1).toNatClampNeg)] (N, hm_sh L g, s) _ Q
      refine hm_st hR (?_)
      exact hm_st hR ⟨fun z => absurd z (by decide), hq⟩
/-- CurvekeyHouse$Curves.keyOf(III)I -/
def T_88 (s : hm_St) (p1 : Int32) (p2 : Int32) (p3 : Int32) : Int32 := (T_178 s 9 6144 (((p1 * 1024) + (p3 * (s 3 6))) + p2))
set_option maxRecDepth 20000 in
theorem sp_88 {R : hm_R} (hR : hm_Cm R) {N L : Nat} {g : Nat → hm_Sh} {s : hm_St} {b : hm_B} {Q : hm_Q} (hN : 68 ≤ N) {p1 : Int32} {p2 : Int32} {p3 : Int32} (hq : Q (.inr (some (.int (T_88 s p1 p2 p3)))) (N, hm_sh L g, s)) : R 88 0 (lv_args 0 [.ref 3, .int p1, .int p2, .int p3]) [] (N, hm_sh L g, s) b Q := by
  unfold T_88 at hq
  show R 88 0 [(0, .ref 3), (1, .int p1), (2, .int p2), (3, .int p3)] [] (N, hm_sh L g, s) _ Q
  refine hm_st hR (hm_st hR ⟨rfl, hm_le rfl, (hm_ltN hN rfl), hm_st hR (hm_st hR (hm_st hR (hm_st hR (hm_st hR (hm_st hR ⟨rfl, hm_le rfl, (hm_ltN hN rfl), hm_st hR (hm_st hR (hm_st hR (hm_st hR (?_))))⟩)))))⟩)
  refine hm_st hR ⟨hm_le rfl, rfl, (hm_le rfl), (hm_ltN hN rfl), hm_le rfl, hm_le rfl, (0, 0), Nat.zero_le _, Nat.zero_le _, ?_⟩
  refine sp_178 hR hN (rr := 8) (aa := 9) (nn := 6144) rfl rfl (hm_le rfl) (hm_ltN hN rfl) rfl rfl (hm_le rfl) (hm_ltN hN rfl) (by decide) ?_
  show R 88 21 [(0, .ref 3), (1, .int p1), (2, .int p2), (3, .int p3)] [.int (T_178 s 9 6144 (((p1 * 1024) + (p3 * (s 3 6))) + p2))] (N, hm_sh L g, s) _ Q
  exact hm_st hR ⟨fun z => absurd z (by decide), hq⟩
/-- CurvekeyHouse.key(III)I -/
def T_1 (N : Nat) (g : Nat → hm_Sh) (s : hm_St) (p1 : Int32) (p2 : Int32) (p3 : Int32) : hm_Er Int32 := (if (T_35 s p1) = 0 then (1, 0, N, g, s) else (if ((if (T_37 s p2 p3) = 0 then (0 : Int32) else 1) : Int32) = 0 then (1, 0, N, g, s) else (0, (T_88 s p1 p2 p3), N, g, s)))
theorem N_1 {c j : Nat}  {N : Nat} {g : Nat → hm_Sh} {s : hm_St} {p1 : Int32} {p2 : Int32} {p3 : Int32} : (T_1 N g s p1 p2 p3).2.2.2.2 c j = s c j := by
  unfold T_1
  repeat' split
  all_goals first | with_reducible rfl | simp only []
set_option maxRecDepth 20000 in
theorem sp_1 {R : hm_R} (hR : hm_Cm R) {N L : Nat} {g : Nat → hm_Sh} {s : hm_St} {b : hm_B} {Q : hm_Q} (hN : 68 ≤ N) (hb1 : 1 ≤ b.1) (hb2 : 6 ≤ b.2) {p1 : Int32} {p2 : Int32} {p3 : Int32} (hq : hm_qx Q L (fun v => some (.int v)) (T_1 N g s p1 p2 p3)) : R 1 0 (lv_args 0 [.ref 2, .int p1, .int p2, .int p3]) [] (N, hm_sh L g, s) b Q := by
  unfold T_1 at hq
  show R 1 0 [(0, .ref 2), (1, .int p1), (2, .int p2), (3, .int p3)] [] (N, hm_sh L g, s) _ Q
  refine hm_st hR (?_)
  refine hm_st hR ⟨hm_le rfl, hm_le rfl, hm_le rfl, (0, 0), Nat.zero_le _, Nat.zero_le _, ?_⟩
  refine sp_35 hR hN ?_
  show R 1 4 [(0, .ref 2), (1, .int p1), (2, .int p2), (3, .int p3)] [.int (T_35 s p1)] (N, hm_sh L g, s) _ Q
  show R 1 4 [(0, .ref 2), (1, .int p1), (2, .int p2), (3, .int p3)] [.int (T_35 s p1)] (N, hm_sh L g, s) _ Q
  refine hm_st hR ⟨fun c4 => ?_, fun c4 => ?_⟩
  · rw [if_pos c4] at hq
    show R 1 20 [(0, .ref 2), (1, .int p1), (2, .int p2), (3, .int p3)] [] (N, hm_sh L g, s) _ Q
    refine hm_st hR (?_)
    show R 1 21 [(0, .ref 2), (1, .int p1), (2, .int p2), (3, .int p3)] [.int 0] (N, hm_sh L g, s) _ Q
    exact hm_st hR ⟨hm_le rfl, hm_le rfl, hm_le rfl, (1, 6), (by show 1 ≤ b.1 - 0; omega), (by show 6 ≤ b.2 - 0; omega), hm_needT31 hR hN rfl (fun N2 hN2 => hm_KX (by decide) (hq N2 hN2))⟩
  · rw [if_neg c4] at hq
    show R 1 7 [(0, .ref 2), (1, .int p1), (2, .int p2), (3, .int p3)] [] (N, hm_sh L g, s) _ Q
    refine hm_st hR (hm_st hR (hm_st hR (?_)))
    refine hm_st hR ⟨hm_le rfl, rfl, (hm_le rfl), (hm_ltN hN rfl), hm_le rfl, hm_le rfl, (0, 0), Nat.zero_le _, Nat.zero_le _, ?_⟩
    refine sp_37 hR hN ?_
    show R 1 13 [(0, .ref 2), (1, .int p1), (2, .int p2), (3, .int p3)] [.int (T_37 s p2 p3)] (N, hm_sh L g, s) _ Q
    show R 1 13 [(0, .ref 2), (1, .int p1), (2, .int p2), (3, .int p3)] [.int (T_37 s p2 p3)] (N, hm_sh L g, s) _ Q
    suffices G : ∀ w : Int32, w = (if (T_37 s p2 p3) = 0 then (0 : Int32) else 1) → R 1 21 [(0, .ref 2), (1, .int p1), (2, .int p2), (3, .int p3)] [.int w] (N, hm_sh L g, s) (b.1 - 0 - 0, b.2 - 0 - 0) Q by
      show R 1 13 [(0, .ref 2), (1, .int p1), (2, .int p2), (3, .int p3)] [.int (T_37 s p2 p3)] (N, hm_sh L g, s) _ Q
      refine hm_st hR ⟨fun c => ?_, fun c => ?_⟩
      · exact hm_st hR (G _ (if_pos c).symm)
      · exact hm_st hR (hm_st hR (G _ (if_neg c).symm))
    intro w hw
    subst hw
    show R 1 21 [(0, .ref 2), (1, .int p1), (2, .int p2), (3, .int p3)] [.int (if (T_37 s p2 p3) = 0 then (0 : Int32) else 1)] (N, hm_sh L g, s) _ Q
    show R 1 21 [(0, .ref 2), (1, .int p1), (2, .int p2), (3, .int p3)] [.int (if (T_37 s p2 p3) = 0 then (0 : Int32) else 1)] (N, hm_sh L g, s) _ Q
    by_cases c21 : ((if (T_37 s p2 p3) = 0 then (0 : Int32) else 1) : Int32) = 0
    · rw [if_pos c21] at hq
      exact hm_st hR ⟨hm_le rfl, hm_le rfl, hm_le rfl, (1, 6), (by show 1 ≤ b.1 - 0 - 0; omega), (by show 6 ≤ b.2 - 0 - 0; omega), hm_needT31 hR hN c21 (fun N2 hN2 => hm_KX (by decide) (hq N2 hN2))⟩
    · rw [if_neg c21] at hq
      refine hm_st hR ⟨hm_le rfl, hm_le rfl, hm_le rfl, (0, 0), Nat.zero_le _, Nat.zero_le _, hm_needP31 hR c21 ?_⟩
      show R 1 24 [(0, .ref 2), (1, .int p1), (2, .int p2), (3, .int p3)] [] (N, hm_sh L g, s) _ Q
      refine hm_st hR (hm_st hR ⟨rfl, hm_le rfl, (hm_ltN hN rfl), hm_st hR (hm_st hR (hm_st hR (?_)))⟩)
      refine hm_st hR ⟨hm_le rfl, rfl, (hm_le rfl), (hm_ltN hN rfl), hm_le rfl, hm_le rfl, (0, 0), Nat.zero_le _, Nat.zero_le _, ?_⟩
      refine sp_88 hR hN ?_
      show R 1 34 [(0, .ref 2), (1, .int p1), (2, .int p2), (3, .int p3)] [.int (T_88 s p1 p2 p3)] (N, hm_sh L g, s) _ Q
      exact hm_st hR ⟨fun z => absurd z (by decide), hm_qx0 hq⟩
/-- CurvekeyHouse$Curves.keyCount()I -/
def T_87 (s : hm_St) : Int32 := ((s 3 6) * (s 3 6))
set_option maxRecDepth 20000 in
theorem sp_87 {R : hm_R} (hR : hm_Cm R) {N L : Nat} {g : Nat → hm_Sh} {s : hm_St} {b : hm_B} {Q : hm_Q} (hN : 68 ≤ N) (hq : Q (.inr (some (.int (T_87 s)))) (N, hm_sh L g, s)) : R 87 0 (lv_args 0 [.ref 3]) [] (N, hm_sh L g, s) b Q := by
  unfold T_87 at hq
  show R 87 0 [(0, .ref 3)] [] (N, hm_sh L g, s) _ Q
  refine hm_st hR (hm_st hR ⟨rfl, hm_le rfl, (hm_ltN hN rfl), hm_st hR (hm_st hR ⟨rfl, hm_le rfl, (hm_ltN hN rfl), hm_st hR (?_)⟩)⟩)
  exact hm_st hR ⟨fun z => absurd z (by decide), hq⟩
/-- CurvekeyHouse.isKey(I)Z -/
def T_36 (s : hm_St) (p1 : Int32) : Int32 := (T_34 s p1 0 ((T_87 s) - 1))
theorem B_36 (s : hm_St) (p1 : Int32) : T_36 s p1 = 0 ∨ T_36 s p1 = 1 := by
  unfold T_36
  repeat' split
  all_goals first | exact Or.inl rfl | exact Or.inr rfl | exact B_34 _ _ _ _
set_option maxRecDepth 20000 in
theorem sp_36 {R : hm_R} (hR : hm_Cm R) {N L : Nat} {g : Nat → hm_Sh} {s : hm_St} {b : hm_B} {Q : hm_Q} (hN : 68 ≤ N) {p1 : Int32} (hq : Q (.inr (some (.int (T_36 s p1)))) (N, hm_sh L g, s)) : R 36 0 (lv_args 0 [.ref 2, .int p1]) [] (N, hm_sh L g, s) b Q := by
  unfold T_36 at hq
  show R 36 0 [(0, .ref 2), (1, .int p1)] [] (N, hm_sh L g, s) _ Q
  refine hm_st hR (hm_st hR (hm_st hR (hm_st hR ⟨rfl, hm_le rfl, (hm_ltN hN rfl), ?_⟩)))
  refine hm_st hR ⟨hm_le rfl, rfl, (hm_le rfl), (hm_ltN hN rfl), hm_le rfl, hm_le rfl, (0, 0), Nat.zero_le _, Nat.zero_le _, ?_⟩
  refine sp_87 hR hN ?_
  show R 36 9 [(0, .ref 2), (1, .int p1)] [.int (T_87 s), .int 0, .int p1] (N, hm_sh L g, s) _ Q
  refine hm_st hR (hm_st hR (?_))
  refine hm_st hR ⟨hm_le rfl, hm_le rfl, hm_le rfl, (0, 0), Nat.zero_le _, Nat.zero_le _, ?_⟩
  refine sp_34 hR hN ?_
  show R 36 14 [(0, .ref 2), (1, .int p1)] [.int (T_34 s p1 0 ((T_87 s) - 1))] (N, hm_sh L g, s) _ Q
  exact hm_st hR ⟨fun _ => B_34 _ _ _ _, hq⟩
/-- CurvekeyHouse$Curves.yOf(II)I -/
def T_90 (s : hm_St) (p1 : Int32) (p2 : Int32) : Int32 := ((T_178 s 11 6144 ((p1 * 1024) + p2)) >>> (((s 3 5) : Int32) &&& 31))
set_option maxRecDepth 20000 in
theorem sp_90 {R : hm_R} (hR : hm_Cm R) {N L : Nat} {g : Nat → hm_Sh} {s : hm_St} {b : hm_B} {Q : hm_Q} (hN : 68 ≤ N) {p1 : Int32} {p2 : Int32} (hq : Q (.inr (some (.int (T_90 s p1 p2)))) (N, hm_sh L g, s)) : R 90 0 (lv_args 0 [.ref 3, .int p1, .int p2]) [] (N, hm_sh L g, s) b Q := by
  unfold T_90 at hq
  show R 90 0 [(0, .ref 3), (1, .int p1), (2, .int p2)] [] (N, hm_sh L g, s) _ Q
  refine hm_st hR (hm_st hR ⟨rfl, hm_le rfl, (hm_ltN hN rfl), hm_st hR (hm_st hR (hm_st hR (hm_st hR (hm_st hR (?_)))))⟩)
  refine hm_st hR ⟨hm_le rfl, rfl, (hm_le rfl), (hm_ltN hN rfl), hm_le rfl, hm_le rfl, (0, 0), Nat.zero_le _, Nat.zero_le _, ?_⟩
  refine sp_178 hR hN (rr := 10) (aa := 11) (nn := 6144) rfl rfl (hm_le rfl) (hm_ltN hN rfl) rfl rfl (hm_le rfl) (hm_ltN hN rfl) (by decide) ?_
  show R 90 14 [(0, .ref 3), (1, .int p1), (2, .int p2)] [.int (T_178 s 11 6144 ((p1 * 1024) + p2))] (N, hm_sh L g, s) _ Q
  refine hm_st hR (hm_st hR ⟨rfl, hm_le rfl, (hm_ltN hN rfl), hm_st hR (?_)⟩)
  exact hm_st hR ⟨fun z => absurd z (by decide), hq⟩
/-- CurvekeyHouse$Curves.xOf(II)I -/
def T_89 (s : hm_St) (p1 : Int32) (p2 : Int32) : Int32 := ((T_178 s 11 6144 ((p1 * 1024) + p2)) &&& ((s 3 6) - 1))
set_option maxRecDepth 20000 in
theorem sp_89 {R : hm_R} (hR : hm_Cm R) {N L : Nat} {g : Nat → hm_Sh} {s : hm_St} {b : hm_B} {Q : hm_Q} (hN : 68 ≤ N) {p1 : Int32} {p2 : Int32} (hq : Q (.inr (some (.int (T_89 s p1 p2)))) (N, hm_sh L g, s)) : R 89 0 (lv_args 0 [.ref 3, .int p1, .int p2]) [] (N, hm_sh L g, s) b Q := by
  unfold T_89 at hq
  show R 89 0 [(0, .ref 3), (1, .int p1), (2, .int p2)] [] (N, hm_sh L g, s) _ Q
  refine hm_st hR (hm_st hR ⟨rfl, hm_le rfl, (hm_ltN hN rfl), hm_st hR (hm_st hR (hm_st hR (hm_st hR (hm_st hR (?_)))))⟩)
  refine hm_st hR ⟨hm_le rfl, rfl, (hm_le rfl), (hm_ltN hN rfl), hm_le rfl, hm_le rfl, (0, 0), Nat.zero_le _, Nat.zero_le _, ?_⟩
  refine sp_178 hR hN (rr := 10) (aa := 11) (nn := 6144) rfl rfl (hm_le rfl) (hm_ltN hN rfl) rfl rfl (hm_le rfl) (hm_ltN hN rfl) (by decide) ?_
  show R 89 14 [(0, .ref 3), (1, .int p1), (2, .int p2)] [.int (T_178 s 11 6144 ((p1 * 1024) + p2))] (N, hm_sh L g, s) _ Q
  refine hm_st hR (hm_st hR ⟨rfl, hm_le rfl, (hm_ltN hN rfl), hm_st hR (hm_st hR (hm_st hR (?_)))⟩)
  exact hm_st hR ⟨fun z => absurd z (by decide), hq⟩
/-- CurvekeyHouse.place(IIZ)I -/
def T_2 (N : Nat) (g : Nat → hm_Sh) (s : hm_St) (p1 : Int32) (p2 : Int32) (p3 : Int32) : hm_Er Int32 := (if (T_35 s p1) = 0 then (1, 0, N, g, s) else (if ((if (T_36 s p2) = 0 then (0 : Int32) else 1) : Int32) = 0 then (1, 0, N, g, s) else (if p3 = 0 then (0, (T_89 s p1 p2), N, g, s) else (0, (T_90 s p1 p2), N, g, s))))
theorem N_2 {c j : Nat}  {N : Nat} {g : Nat → hm_Sh} {s : hm_St} {p1 : Int32} {p2 : Int32} {p3 : Int32} : (T_2 N g s p1 p2 p3).2.2.2.2 c j = s c j := by
  unfold T_2
  repeat' split
  all_goals first | with_reducible rfl | simp only []
set_option maxRecDepth 20000 in
theorem sp_2 {R : hm_R} (hR : hm_Cm R) {N L : Nat} {g : Nat → hm_Sh} {s : hm_St} {b : hm_B} {Q : hm_Q} (hN : 68 ≤ N) (hb1 : 1 ≤ b.1) (hb2 : 6 ≤ b.2) {p1 : Int32} {p2 : Int32} {p3 : Int32} (hq : hm_qx Q L (fun v => some (.int v)) (T_2 N g s p1 p2 p3)) : R 2 0 (lv_args 0 [.ref 2, .int p1, .int p2, .int p3]) [] (N, hm_sh L g, s) b Q := by
  unfold T_2 at hq
  show R 2 0 [(0, .ref 2), (1, .int p1), (2, .int p2), (3, .int p3)] [] (N, hm_sh L g, s) _ Q
  refine hm_st hR (?_)
  refine hm_st hR ⟨hm_le rfl, hm_le rfl, hm_le rfl, (0, 0), Nat.zero_le _, Nat.zero_le _, ?_⟩
  refine sp_35 hR hN ?_
  show R 2 4 [(0, .ref 2), (1, .int p1), (2, .int p2), (3, .int p3)] [.int (T_35 s p1)] (N, hm_sh L g, s) _ Q
  show R 2 4 [(0, .ref 2), (1, .int p1), (2, .int p2), (3, .int p3)] [.int (T_35 s p1)] (N, hm_sh L g, s) _ Q
  refine hm_st hR ⟨fun c4 => ?_, fun c4 => ?_⟩
  · rw [if_pos c4] at hq
    show R 2 19 [(0, .ref 2), (1, .int p1), (2, .int p2), (3, .int p3)] [] (N, hm_sh L g, s) _ Q
    refine hm_st hR (?_)
    show R 2 20 [(0, .ref 2), (1, .int p1), (2, .int p2), (3, .int p3)] [.int 0] (N, hm_sh L g, s) _ Q
    exact hm_st hR ⟨hm_le rfl, hm_le rfl, hm_le rfl, (1, 6), (by show 1 ≤ b.1 - 0; omega), (by show 6 ≤ b.2 - 0; omega), hm_needT31 hR hN rfl (fun N2 hN2 => hm_KX (by decide) (hq N2 hN2))⟩
  · rw [if_neg c4] at hq
    show R 2 7 [(0, .ref 2), (1, .int p1), (2, .int p2), (3, .int p3)] [] (N, hm_sh L g, s) _ Q
    refine hm_st hR (hm_st hR (?_))
    refine hm_st hR ⟨hm_le rfl, rfl, (hm_le rfl), (hm_ltN hN rfl), hm_le rfl, hm_le rfl, (0, 0), Nat.zero_le _, Nat.zero_le _, ?_⟩
    refine sp_36 hR hN ?_
    show R 2 12 [(0, .ref 2), (1, .int p1), (2, .int p2), (3, .int p3)] [.int (T_36 s p2)] (N, hm_sh L g, s) _ Q
    show R 2 12 [(0, .ref 2), (1, .int p1), (2, .int p2), (3, .int p3)] [.int (T_36 s p2)] (N, hm_sh L g, s) _ Q
    suffices G : ∀ w : Int32, w = (if (T_36 s p2) = 0 then (0 : Int32) else 1) → R 2 20 [(0, .ref 2), (1, .int p1), (2, .int p2), (3, .int p3)] [.int w] (N, hm_sh L g, s) (b.1 - 0 - 0, b.2 - 0 - 0) Q by
      show R 2 12 [(0, .ref 2), (1, .int p1), (2, .int p2), (3, .int p3)] [.int (T_36 s p2)] (N, hm_sh L g, s) _ Q
      refine hm_st hR ⟨fun c => ?_, fun c => ?_⟩
      · exact hm_st hR (G _ (if_pos c).symm)
      · exact hm_st hR (hm_st hR (G _ (if_neg c).symm))
    intro w hw
    subst hw
    show R 2 20 [(0, .ref 2), (1, .int p1), (2, .int p2), (3, .int p3)] [.int (if (T_36 s p2) = 0 then (0 : Int32) else 1)] (N, hm_sh L g, s) _ Q
    show R 2 20 [(0, .ref 2), (1, .int p1), (2, .int p2), (3, .int p3)] [.int (if (T_36 s p2) = 0 then (0 : Int32) else 1)] (N, hm_sh L g, s) _ Q
    by_cases c20 : ((if (T_36 s p2) = 0 then (0 : Int32) else 1) : Int32) = 0
    · rw [if_pos c20] at hq
      exact hm_st hR ⟨hm_le rfl, hm_le rfl, hm_le rfl, (1, 6), (by show 1 ≤ b.1 - 0 - 0; omega), (by show 6 ≤ b.2 - 0 - 0; omega), hm_needT31 hR hN c20 (fun N2 hN2 => hm_KX (by decide) (hq N2 hN2))⟩
    · rw [if_neg c20] at hq
      refine hm_st hR ⟨hm_le rfl, hm_le rfl, hm_le rfl, (0, 0), Nat.zero_le _, Nat.zero_le _, hm_needP31 hR c20 ?_⟩
      show R 2 23 [(0, .ref 2), (1, .int p1), (2, .int p2), (3, .int p3)] [] (N, hm_sh L g, s) _ Q
      refine hm_st hR (?_)
      show R 2 24 [(0, .ref 2), (1, .int p1), (2, .int p2), (3, .int p3)] [.int p3] (N, hm_sh L g, s) _ Q
      refine hm_st hR ⟨fun c24 => ?_, fun c24 => ?_⟩
      · rw [if_pos c24] at hq
        show R 2 39 [(0, .ref 2), (1, .int p1), (2, .int p2), (3, .int p3)] [] (N, hm_sh L g, s) _ Q
        refine hm_st hR (hm_st hR ⟨rfl, hm_le rfl, (hm_ltN hN rfl), hm_st hR (hm_st hR (?_))⟩)
        refine hm_st hR ⟨hm_le rfl, rfl, (hm_le rfl), (hm_ltN hN rfl), hm_le rfl, hm_le rfl, (0, 0), Nat.zero_le _, Nat.zero_le _, ?_⟩
        refine sp_89 hR hN ?_
        show R 2 48 [(0, .ref 2), (1, .int p1), (2, .int p2), (3, .int p3)] [.int (T_89 s p1 p2)] (N, hm_sh L g, s) _ Q
        exact hm_st hR ⟨fun z => absurd z (by decide), hm_qx0 hq⟩
      · rw [if_neg c24] at hq
        show R 2 27 [(0, .ref 2), (1, .int p1), (2, .int p2), (3, .int p3)] [] (N, hm_sh L g, s) _ Q
        refine hm_st hR (hm_st hR ⟨rfl, hm_le rfl, (hm_ltN hN rfl), hm_st hR (hm_st hR (?_))⟩)
        refine hm_st hR ⟨hm_le rfl, rfl, (hm_le rfl), (hm_ltN hN rfl), hm_le rfl, hm_le rfl, (0, 0), Nat.zero_le _, Nat.zero_le _, ?_⟩
        refine sp_90 hR hN ?_
        show R 2 36 [(0, .ref 2), (1, .int p1), (2, .int p2), (3, .int p3)] [.int (T_90 s p1 p2)] (N, hm_sh L g, s) _ Q
        refine hm_st hR (?_)
        exact hm_st hR ⟨fun z => absurd z (by decide), hm_qx0 hq⟩
