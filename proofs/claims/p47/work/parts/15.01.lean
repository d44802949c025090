/-! The methods as functions; the abstract machine does them. -/
/-- CurvekeyHouse.isBox(IIII)Z -/
def T_38 (s : hm_St) (p1 : Int32) (p2 : Int32) (p3 : Int32) (p4 : Int32) : Int32 := (if (T_37 s p1 p2) = 0 then 0 else (if (T_34 s p3 1 ((T_86 s) - p1)) = 0 then 0 else (if (T_34 s p4 1 ((T_86 s) - p2)) = 0 then (0 : Int32) else 1)))
theorem B_38 (s : hm_St) (p1 : Int32) (p2 : Int32) (p3 : Int32) (p4 : Int32) : T_38 s p1 p2 p3 p4 = 0 ∨ T_38 s p1 p2 p3 p4 = 1 := by
  unfold T_38
  repeat' split
  all_goals first | exact Or.inl rfl | exact Or.inr rfl | exact B_34 _ _ _ _ | exact B_37 _ _ _
set_option maxRecDepth 20000 in
theorem sp_38 {R : hm_R} (hR : hm_Cm R) {N L : Nat} {g : Nat → hm_Sh} {s : hm_St} {b : hm_B} {Q : hm_Q} (hN : 68 ≤ N) {p1 : Int32} {p2 : Int32} {p3 : Int32} {p4 : Int32} (hq : Q (.inr (some (.int (T_38 s p1 p2 p3 p4)))) (N, hm_sh L g, s)) : R 38 0 (lv_args 0 [.ref 2, .int p1, .int p2, .int p3, .int p4]) [] (N, hm_sh L g, s) b Q := by
  unfold T_38 at hq
  show R 38 0 [(0, .ref 2), (1, .int p1), (2, .int p2), (3, .int p3), (4, .int p4)] [] (N, hm_sh L g, s) _ Q
  refine hm_st hR (hm_st hR (hm_st hR (?_)))
  refine hm_st hR ⟨hm_le rfl, rfl, (hm_le rfl), (hm_ltN hN rfl), hm_le rfl, hm_le rfl, (0, 0), Nat.zero_le _, Nat.zero_le _, ?_⟩
  refine sp_37 hR hN ?_
  show R 38 6 [(0, .ref 2), (1, .int p1), (2, .int p2), (3, .int p3), (4, .int p4)] [.int (T_37 s p1 p2)] (N, hm_sh L g, s) _ Q
  show R 38 6 [(0, .ref 2), (1, .int p1), (2, .int p2), (3, .int p3), (4, .int p4)] [.int (T_37 s p1 p2)] (N, hm_sh L g, s) _ Q
  refine hm_st hR ⟨fun c6 => ?_, fun c6 => ?_⟩
  · rw [if_pos c6] at hq
    show R 38 48 [(0, .ref 2), (1, .int p1), (2, .int p2), (3, .int p3), (4, .int p4)] [] (N, hm_sh L g, s) _ Q
    refine hm_st hR (?_)
    exact hm_st hR ⟨fun _ => Or.inl rfl, hq⟩
  · rw [if_neg c6] at hq
    show R 38 9 [(0, .ref 2), (1, .int p1), (2, .int p2), (3, .int p3), (4, .int p4)] [] (N, hm_sh L g, s) _ Q
    refine hm_st hR (hm_st hR (hm_st hR (hm_st hR ⟨rfl, hm_le rfl, (hm_ltN hN rfl), ?_⟩)))
    refine hm_st hR ⟨hm_le rfl, rfl, (hm_le rfl), (hm_ltN hN rfl), hm_le rfl, hm_le rfl, (0, 0), Nat.zero_le _, Nat.zero_le _, ?_⟩
    refine sp_86 hR hN ?_
    show R 38 18 [(0, .ref 2), (1, .int p1), (2, .int p2), (3, .int p3), (4, .int p4)] [.int (T_86 s), .int 1, .int p3] (N, hm_sh L g, s) _ Q
    refine hm_st hR (hm_st hR (?_))
    refine hm_st hR ⟨hm_le rfl, hm_le rfl, hm_le rfl, (0, 0), Nat.zero_le _, Nat.zero_le _, ?_⟩
    refine sp_34 hR hN ?_
    show R 38 23 [(0, .ref 2), (1, .int p1), (2, .int p2), (3, .int p3), (4, .int p4)] [.int (T_34 s p3 1 ((T_86 s) - p1))] (N, hm_sh L g, s) _ Q
    show R 38 23 [(0, .ref 2), (1, .int p1), (2, .int p2), (3, .int p3), (4, .int p4)] [.int (T_34 s p3 1 ((T_86 s) - p1))] (N, hm_sh L g, s) _ Q
    refine hm_st hR ⟨fun c23 => ?_, fun c23 => ?_⟩
    · rw [if_pos c23] at hq
      show R 38 48 [(0, .ref 2), (1, .int p1), (2, .int p2), (3, .int p3), (4, .int p4)] [] (N, hm_sh L g, s) _ Q
      refine hm_st hR (?_)
      exact hm_st hR ⟨fun _ => Or.inl rfl, hq⟩
    · rw [if_neg c23] at hq
      show R 38 26 [(0, .ref 2), (1, .int p1), (2, .int p2), (3, .int p3), (4, .int p4)] [] (N, hm_sh L g, s) _ Q
      refine hm_st hR (hm_st hR (hm_st hR (hm_st hR ⟨rfl, hm_le rfl, (hm_ltN hN rfl), ?_⟩)))
      refine hm_st hR ⟨hm_le rfl, rfl, (hm_le rfl), (hm_ltN hN rfl), hm_le rfl, hm_le rfl, (0, 0), Nat.zero_le _, Nat.zero_le _, ?_⟩
      refine sp_86 hR hN ?_
      show R 38 36 [(0, .ref 2), (1, .int p1), (2, .int p2), (3, .int p3), (4, .int p4)] [.int (T_86 s), .int 1, .int p4] (N, hm_sh L g, s) _ Q
      refine hm_st hR (hm_st hR (?_))
      refine hm_st hR ⟨hm_le rfl, hm_le rfl, hm_le rfl, (0, 0), Nat.zero_le _, Nat.zero_le _, ?_⟩
      refine sp_34 hR hN ?_
      show R 38 41 [(0, .ref 2), (1, .int p1), (2, .int p2), (3, .int p3), (4, .int p4)] [.int (T_34 s p4 1 ((T_86 s) - p2))] (N, hm_sh L g, s) _ Q
      show R 38 41 [(0, .ref 2), (1, .int p1), (2, .int p2), (3, .int p3), (4, .int p4)] [.int (T_34 s p4 1 ((T_86 s) - p2))] (N, hm_sh L g, s) _ Q
      suffices G : ∀ w : Int32, w = (if (T_34 s p4 1 ((T_86 s) - p2)) = 0 then (0 : Int32) else 1) → R 38 49 [(0, .ref 2), (1, .int p1), (2, .int p2), (3, .int p3), (4, .int p4)] [.int w] (N, hm_sh L g, s) (b.1 - 0 - 0 - 0 - 0 - 0, b.2 - 0 - 0 - 0 - 0 - 0) Q by
        show R 38 41 [(0, .ref 2), (1, .int p1), (2, .int p2), (3, .int p3), (4, .int p4)] [.int (T_34 s p4 1 ((T_86 s) - p2))] (N, hm_sh L g, s) _ Q
        refine hm_st hR ⟨fun c => ?_, fun c => ?_⟩
        · exact hm_st hR (G _ (if_pos c).symm)
        · exact hm_st hR (hm_st hR (G _ (if_neg c).symm))
      intro w hw
      subst hw
      show R 38 49 [(0, .ref 2), (1, .int p1), (2, .int p2), (3, .int p3), (4, .int p4)] [.int (if (T_34 s p4 1 ((T_86 s) - p2)) = 0 then (0 : Int32) else 1)] (N, hm_sh L g, s) _ Q
      exact hm_st hR ⟨fun _ => (by split <;> first | exact Or.inl rfl | exact Or.inr rfl), hq⟩
/-- CurvekeyHouse$Box.<init>(IIII)V -/
def T_65 (s : hm_St) (bx : Nat) (p1 : Int32) (p2 : Int32) (p3 : Int32) (p4 : Int32) : hm_St := (hm_w1 (hm_w1 (hm_w1 (hm_w1 s bx 0 p1) bx 1 p2) bx 2 p3) bx 3 p4)
theorem N_65 {c j : Nat} {bx : Nat} (hbx : c ≠ bx) {s : hm_St} {p1 : Int32} {p2 : Int32} {p3 : Int32} {p4 : Int32} : (T_65 s bx p1 p2 p3 p4) c j = s c j := by
  unfold T_65
  repeat' split
  all_goals first | with_reducible rfl | simp only [hm_w1n hbx]
set_option maxRecDepth 20000 in
theorem sp_65 {R : hm_R} (hR : hm_Cm R) {N L : Nat} {g : Nat → hm_Sh} {s : hm_St} {b : hm_B} {Q : hm_Q} (hN : 68 ≤ N) {bx : Nat} (hbk : (hm_sh L g bx).1 = 0) (hb2 : 2 ≤ bx) (hbl : bx < N) {p1 : Int32} {p2 : Int32} {p3 : Int32} {p4 : Int32} (hq : Q (.inr none) (N, hm_sh L g, (T_65 s bx p1 p2 p3 p4))) : R 65 0 (lv_args 0 [.ref bx, .int p1, .int p2, .int p3, .int p4]) [] (N, hm_sh L g, s) b Q := by
  unfold T_65 at hq
  show R 65 0 [(0, .ref bx), (1, .int p1), (2, .int p2), (3, .int p3), (4, .int p4)] [] (N, hm_sh L g, s) _ Q
  refine hm_st hR (hm_st hR ⟨hm_le rfl, hm_st hR (hm_st hR (?_))⟩)
  show R 65 6 [(0, .ref bx), (1, .int p1), (2, .int p2), (3, .int p3), (4, .int p4)] [.int p1, .ref bx] (N, hm_sh L g, s) _ Q
  refine hm_bxp hR hbk hb2 hbl (by rfl) ?_
  show R 65 9 [(0, .ref bx), (1, .int p1), (2, .int p2), (3, .int p3), (4, .int p4)] [] (N, hm_sh L g, (hm_w1 s bx 0 p1)) _ Q
  refine hm_st hR (hm_st hR (?_))
  show R 65 11 [(0, .ref bx), (1, .int p1), (2, .int p2), (3, .int p3), (4, .int p4)] [.int p2, .ref bx] (N, hm_sh L g, (hm_w1 s bx 0 p1)) _ Q
  refine hm_bxp hR hbk hb2 hbl (by rfl) ?_
  show R 65 14 [(0, .ref bx), (1, .int p1), (2, .int p2), (3, .int p3), (4, .int p4)] [] (N, hm_sh L g, (hm_w1 (hm_w1 s bx 0 p1) bx 1 p2)) _ Q
  refine hm_st hR (hm_st hR (?_))
  show R 65 16 [(0, .ref bx), (1, .int p1), (2, .int p2), (3, .int p3), (4, .int p4)] [.int p3, .ref bx] (N, hm_sh L g, (hm_w1 (hm_w1 s bx 0 p1) bx 1 p2)) _ Q
  refine hm_bxp hR hbk hb2 hbl (by rfl) ?_
  show R 65 19 [(0, .ref bx), (1, .int p1), (2, .int p2), (3, .int p3), (4, .int p4)] [] (N, hm_sh L g, (hm_w1 (hm_w1 (hm_w1 s bx 0 p1) bx 1 p2) bx 2 p3)) _ Q
  refine hm_st hR (hm_st hR (?_))
  show R 65 22 [(0, .ref bx), (1, .int p1), (2, .int p2), (3, .int p3), (4, .int p4)] [.int p4, .ref bx] (N, hm_sh L g, (hm_w1 (hm_w1 (hm_w1 s bx 0 p1) bx 1 p2) bx 2 p3)) _ Q
  refine hm_bxp hR hbk hb2 hbl (by rfl) ?_
  show R 65 25 [(0, .ref bx), (1, .int p1), (2, .int p2), (3, .int p3), (4, .int p4)] [] (N, hm_sh L g, (hm_w1 (hm_w1 (hm_w1 (hm_w1 s bx 0 p1) bx 1 p2) bx 2 p3) bx 3 p4)) _ Q
  exact hm_st hR (hq)
/-- CurvekeyHouse$Box.has(II)Z -/
def T_66 (s : hm_St) (bx : Nat) (p1 : Int32) (p2 : Int32) : Int32 := (if p1 < (s bx 0) then 0 else (if ((s bx 0) + (s bx 2)) ≤ p1 then 0 else (if p2 < (s bx 1) then 0 else (if ((s bx 1) + (s bx 3)) ≤ p2 then (0 : Int32) else 1))))
theorem B_66 (s : hm_St) (bx : Nat) (p1 : Int32) (p2 : Int32) : T_66 s bx p1 p2 = 0 ∨ T_66 s bx p1 p2 = 1 := by
  unfold T_66
  repeat' split
  all_goals first | exact Or.inl rfl | exact Or.inr rfl
set_option maxRecDepth 20000 in
theorem sp_66 {R : hm_R} (hR : hm_Cm R) {N L : Nat} {g : Nat → hm_Sh} {s : hm_St} {b : hm_B} {Q : hm_Q} (hN : 68 ≤ N) {bx : Nat} (hbk : (hm_sh L g bx).1 = 0) (hb2 : 2 ≤ bx) (hbl : bx < N) {p1 : Int32} {p2 : Int32} (hq : Q (.inr (some (.int (T_66 s bx p1 p2)))) (N, hm_sh L g, s)) : R 66 0 (lv_args 0 [.ref bx, .int p1, .int p2]) [] (N, hm_sh L g, s) b Q := by
  unfold T_66 at hq
  show R 66 0 [(0, .ref bx), (1, .int p1), (2, .int p2)] [] (N, hm_sh L g, s) _ Q
  refine hm_st hR (hm_st hR (?_))
  show R 66 2 [(0, .ref bx), (1, .int p1), (2, .int p2)] [.ref bx, .int p1] (N, hm_sh L g, s) _ Q
  refine hm_bxf hR hbk hb2 hbl (by rfl) ?_
  show R 66 5 [(0, .ref bx), (1, .int p1), (2, .int p2)] [.int (s bx 0), .int p1] (N, hm_sh L g, s) _ Q
  show R 66 5 [(0, .ref bx), (1, .int p1), (2, .int p2)] [.int (s bx 0), .int p1] (N, hm_sh L g, s) _ Q
  refine hm_st hR ⟨fun c5 => ?_, fun c5 => ?_⟩
  · rw [if_pos c5] at hq
    show R 66 46 [(0, .ref bx), (1, .int p1), (2, .int p2)] [] (N, hm_sh L g, s) _ Q
    refine hm_st hR (?_)
    exact hm_st hR ⟨fun _ => Or.inl rfl, hq⟩
  · rw [if_neg c5] at hq
    show R 66 8 [(0, .ref bx), (1, .int p1), (2, .int p2)] [] (N, hm_sh L g, s) _ Q
    refine hm_st hR (hm_st hR (?_))
    show R 66 10 [(0, .ref bx), (1, .int p1), (2, .int p2)] [.ref bx, .int p1] (N, hm_sh L g, s) _ Q
    refine hm_bxf hR hbk hb2 hbl (by rfl) ?_
    show R 66 13 [(0, .ref bx), (1, .int p1), (2, .int p2)] [.int (s bx 0), .int p1] (N, hm_sh L g, s) _ Q
    refine hm_st hR (?_)
    show R 66 14 [(0, .ref bx), (1, .int p1), (2, .int p2)] [.ref bx, .int (s bx 0), .int p1] (N, hm_sh L g, s) _ Q
    refine hm_bxf hR hbk hb2 hbl (by rfl) ?_
    show R 66 17 [(0, .ref bx), (1, .int p1), (2, .int p2)] [.int (s bx 2), .int (s bx 0), .int p1] (N, hm_sh L g, s) _ Q
    refine hm_st hR (?_)
    show R 66 18 [(0, .ref bx), (1, .int p1), (2, .int p2)] [.int ((s bx 0) + (s bx 2)), .int p1] (N, hm_sh L g, s) _ Q
    refine hm_st hR ⟨fun c18 => ?_, fun c18 => ?_⟩
    · rw [if_pos c18] at hq
      show R 66 46 [(0, .ref bx), (1, .int p1), (2, .int p2)] [] (N, hm_sh L g, s) _ Q
      refine hm_st hR (?_)
      exact hm_st hR ⟨fun _ => Or.inl rfl, hq⟩
    · rw [if_neg c18] at hq
      show R 66 21 [(0, .ref bx), (1, .int p1), (2, .int p2)] [] (N, hm_sh L g, s) _ Q
      refine hm_st hR (hm_st hR (?_))
      show R 66 23 [(0, .ref bx), (1, .int p1), (2, .int p2)] [.ref bx, .int p2] (N, hm_sh L g, s) _ Q
      refine hm_bxf hR hbk hb2 hbl (by rfl) ?_
      show R 66 26 [(0, .ref bx), (1, .int p1), (2, .int p2)] [.int (s bx 1), .int p2] (N, hm_sh L g, s) _ Q
      show R 66 26 [(0, .ref bx), (1, .int p1), (2, .int p2)] [.int (s bx 1), .int p2] (N, hm_sh L g, s) _ Q
      refine hm_st hR ⟨fun c26 => ?_, fun c26 => ?_⟩
      · rw [if_pos c26] at hq
        show R 66 46 [(0, .ref bx), (1, .int p1), (2, .int p2)] [] (N, hm_sh L g, s) _ Q
        refine hm_st hR (?_)
        exact hm_st hR ⟨fun _ => Or.inl rfl, hq⟩
      · rw [if_neg c26] at hq
        show R 66 29 [(0, .ref bx), (1, .int p1), (2, .int p2)] [] (N, hm_sh L g, s) _ Q
        refine hm_st hR (hm_st hR (?_))
        show R 66 31 [(0, .ref bx), (1, .int p1), (2, .int p2)] [.ref bx, .int p2] (N, hm_sh L g, s) _ Q
        refine hm_bxf hR hbk hb2 hbl (by rfl) ?_
        show R 66 34 [(0, .ref bx), (1, .int p1), (2, .int p2)] [.int (s bx 1), .int p2] (N, hm_sh L g, s) _ Q
        refine hm_st hR (?_)
        show R 66 35 [(0, .ref bx), (1, .int p1), (2, .int p2)] [.ref bx, .int (s bx 1), .int p2] (N, hm_sh L g, s) _ Q
        refine hm_bxf hR hbk hb2 hbl (by rfl) ?_
        show R 66 38 [(0, .ref bx), (1, .int p1), (2, .int p2)] [.int (s bx 3), .int (s bx 1), .int p2] (N, hm_sh L g, s) _ Q
        refine hm_st hR (?_)
        show R 66 39 [(0, .ref bx), (1, .int p1), (2, .int p2)] [.int ((s bx 1) + (s bx 3)), .int p2] (N, hm_sh L g, s) _ Q
        suffices G : ∀ w : Int32, w = (if ((s bx 1) + (s bx 3)) ≤ p2 then (0 : Int32) else 1) → R 66 47 [(0, .ref bx), (1, .int p1), (2, .int p2)] [.int w] (N, hm_sh L g, s) b Q by
          show R 66 39 [(0, .ref bx), (1, .int p1), (2, .int p2)] [.int ((s bx 1) + (s bx 3)), .int p2] (N, hm_sh L g, s) _ Q
          refine hm_st hR ⟨fun c => ?_, fun c => ?_⟩
          · exact hm_st hR (G _ (if_pos c).symm)
          · exact hm_st hR (hm_st hR (G _ (if_neg c).symm))
        intro w hw
        subst hw
        show R 66 47 [(0, .ref bx), (1, .int p1), (2, .int p2)] [.int (if ((s bx 1) + (s bx 3)) ≤ p2 then (0 : Int32) else 1)] (N, hm_sh L g, s) _ Q
        exact hm_st hR ⟨fun _ => (by split <;> first | exact Or.inl rfl | exact Or.inr rfl), hq⟩
/-- CurvekeyHouse$Row.set(II)V -/
def T_179 (s : hm_St) (aa : Nat) (nn : Nat) (p1 : Int32) (p2 : Int32) : hm_St := (if p1 < 0 then s else (if (Int32.ofNat nn) ≤ p1 then s else (hm_w1 s aa (p1).toNatClampNeg p2)))
theorem N_179 {c j : Nat} {aa nn : Nat} (haa : c ≠ aa) {s : hm_St} {p1 : Int32} {p2 : Int32} : (T_179 s aa nn p1 p2) c j = s c j := by
  unfold T_179
  repeat' split
  all_goals first | with_reducible rfl | simp only [hm_w1n haa]
set_option maxRecDepth 20000 in
theorem sp_179 {R : hm_R} (hR : hm_Cm R) {N L : Nat} {g : Nat → hm_Sh} {s : hm_St} {b : hm_B} {Q : hm_Q} (hN : 68 ≤ N) {rr aa nn : Nat} (hrk : (hm_sh L g rr).1 = 8) (hra : (hm_sh L g rr).2.2 0 = some aa) (hr2 : 2 ≤ rr) (hrl : rr < N) (hak : (hm_sh L g aa).1 = 1000) (han : (hm_sh L g aa).2.1 = nn) (ha2 : 2 ≤ aa) (hal : aa < N) (hnn : nn < 2 ^ 31) {p1 : Int32} {p2 : Int32} (hq : Q (.inr none) (N, hm_sh L g, (T_179 s aa nn p1 p2))) : R 179 0 (lv_args 0 [.ref rr, .int p1, .int p2]) [] (N, hm_sh L g, s) b Q := by
  unfold T_179 at hq
  show R 179 0 [(0, .ref rr), (1, .int p1), (2, .int p2)] [] (N, hm_sh L g, s) _ Q
  refine hm_st hR (?_)
  show R 179 1 [(0, .ref rr), (1, .int p1), (2, .int p2)] [.int p1] (N, hm_sh L g, s) _ Q
  refine hm_st hR ⟨fun c1 => ?_, fun c1 => ?_⟩
  · rw [if_pos c1] at hq
    show R 179 20 [(0, .ref rr), (1, .int p1), (2, .int p2)] [] (N, hm_sh L g, s) _ Q
    exact hm_st hR (hq)
  · rw [if_neg c1] at hq
    show R 179 4 [(0, .ref rr), (1, .int p1), (2, .int p2)] [] (N, hm_sh L g, s) _ Q
    refine hm_st hR (hm_st hR (?_))
    show R 179 6 [(0, .ref rr), (1, .int p1), (2, .int p2)] [.ref rr, .int p1] (N, hm_sh L g, s) _ Q
    refine hm_rwf hR hrk hra hr2 hrl (by rfl) ?_
    show R 179 9 [(0, .ref rr), (1, .int p1), (2, .int p2)] [.ref aa, .int p1] (N, hm_sh L g, s) _ Q
    show R 179 9 [(0, .ref rr), (1, .int p1), (2, .int p2)] [.ref aa, .int p1] (N, hm_sh L g, s) _ Q
    refine hm_aln hR hak han hal (by rfl) ?_
    show R 179 10 [(0, .ref rr), (1, .int p1), (2, .int p2)] [.int (Int32.ofNat nn), .int p1] (N, hm_sh L g, s) _ Q
    show R 179 10 [(0, .ref rr), (1, .int p1), (2, .int p2)] [.int (Int32.ofNat nn), .int p1] (N, hm_sh L g, s) _ Q
    refine hm_st hR ⟨fun c10 => ?_, fun c10 => ?_⟩
    · rw [if_pos c10] at hq
      show R 179 20 [(0, .ref rr), (1, .int p1), (2, .int p2)] [] (N, hm_sh L g, s) _ Q
      exact hm_st hR (hq)
    · rw [if_neg c10] at hq
      show R 179 13 [(0, .ref rr), (1, .int p1), (2, .int p2)] [] (N, hm_sh L g, s) _ Q
      refine hm_st hR (?_)
      show R 179 14 [(0, .ref rr), (1, .int p1), (2, .int p2)] [.ref rr] (N, hm_sh L g, s) _ Q
      refine hm_rwf hR hrk hra hr2 hrl (by rfl) ?_
      show R 179 17 [(0, .ref rr), (1, .int p1), (2, .int p2)] [.ref aa] (N, hm_sh L g, s) _ Q
      refine hm_st hR (hm_st hR (?_))
      show R 179 19 [(0, .ref rr), (1, .int p1), (2, .int p2)] [.int p2, .int p1, .ref aa] (N, hm_sh L g, s) _ Q
      refine hm_ast hR hak han ha2 hal (by rfl) (hm_vin c1 c10 hnn) ?_
      show R 179 20 [(0, .ref rr), (1, .int p1), (2, .int p2)] [] (N, hm_sh L g, (hm_w1 s aa (p1).toNatClampNeg p2)) _ Q
      exact hm_st hR (hq)
def T_104_16 (bx : Nat) : Nat → hm_St → Int32 → Int32 → Int32 → hm_St
  | 0, s, _, _, _ => s
  | n + 1, s, v2, v4, v5 => (if (T_87 s) ≤ v5 then s else (if (T_66 s bx (T_89 s v2 v5) (T_90 s v2 v5)) = 0 then (if (T_66 s bx (T_89 s v2 v5) (T_90 s v2 v5)) = 0 then (T_104_16 bx n s v2 (T_66 s bx (T_89 s v2 v5) (T_90 s v2 v5)) (v5 + 1)) else (T_104_16 bx n (T_179 s 63 1024 ((s 59 2) - 1) v5) v2 (T_66 s bx (T_89 s v2 v5) (T_90 s v2 v5)) (v5 + 1))) else (if v4 = 0 then (if (T_66 s bx (T_89 s v2 v5) (T_90 s v2 v5)) = 0 then (T_104_16 bx n (hm_w1 (T_179 s 61 1024 (s 59 2) v5) 59 2 (((T_179 s 61 1024 (s 59 2) v5) 59 2) + 1)) v2 (T_66 s bx (T_89 s v2 v5) (T_90 s v2 v5)) (v5 + 1)) else (T_104_16 bx n (T_179 (hm_w1 (T_179 s 61 1024 (s 59 2) v5) 59 2 (((T_179 s 61 1024 (s 59 2) v5) 59 2) + 1)) 63 1024 (((hm_w1 (T_179 s 61 1024 (s 59 2) v5) 59 2 (((T_179 s 61 1024 (s 59 2) v5) 59 2) + 1)) 59 2) - 1) v5) v2 (T_66 s bx (T_89 s v2 v5) (T_90 s v2 v5)) (v5 + 1))) else (if (T_66 s bx (T_89 s v2 v5) (T_90 s v2 v5)) = 0 then (T_104_16 bx n s v2 (T_66 s bx (T_89 s v2 v5) (T_90 s v2 v5)) (v5 + 1)) else (T_104_16 bx n (T_179 s 63 1024 ((s 59 2) - 1) v5) v2 (T_66 s bx (T_89 s v2 v5) (T_90 s v2 v5)) (v5 + 1))))))
/-- CurvekeyHouse$Cut.lay(LCurvekeyHouse$Curves;ILCurvekeyHouse$Box;)V -/
def T_104 (s : hm_St) (p2 : Int32) (bx : Nat) : hm_St := (T_104_16 bx (hm_df (T_87 (hm_w1 (hm_w1 s 59 2 0) 59 3 0)) 0 + 1) (hm_w1 (hm_w1 s 59 2 0) 59 3 0) p2 0 0)
theorem N_104_16 (bx : Nat) {c j : Nat} (h59 : c ≠ 59) (h61 : c ≠ 61) (h63 : c ≠ 63) : ∀ (n : Nat) (s : hm_St) (v0 v1 v2 : Int32), (T_104_16 bx n s v0 v1 v2) c j = s c j := by
  intro n
  induction n with
  | zero => intros; rfl
  | succ n ih =>
    intros
    unfold T_104_16
    repeat' split
    all_goals first | with_reducible rfl | simp only [ih, hm_w1n h59, hm_w1n h61, hm_w1n h63, N_179 h59, N_179 h61, N_179 h63]
theorem N_104 {c j : Nat} (h59 : c ≠ 59) (h61 : c ≠ 61) (h63 : c ≠ 63) {s : hm_St} {p2 : Int32} {bx : Nat} : (T_104 s p2 bx) c j = s c j := by
  unfold T_104
  repeat' split
  all_goals first | with_reducible rfl | simp only [hm_w1n h59, hm_w1n h61, hm_w1n h63, N_179 h59, N_179 h61, N_179 h63, N_104_16 _ h59 h61 h63]
set_option maxRecDepth 20000 in
theorem lp_104_16 {R : hm_R} (hR : hm_Cm R) {N L : Nat} {g : Nat → hm_Sh} {b : hm_B} {Q : hm_Q} (hN : 68 ≤ N) {bx : Nat} (hbk : (hm_sh L g bx).1 = 0) (hb2 : 2 ≤ bx) (hbl : bx < N) : ∀ (n : Nat) (s : hm_St) (v2 : Int32) (v4 : Int32) (v5 : Int32), hm_df (T_87 s) v5 < n → (hq : Q (.inr none) (N, hm_sh L g, (T_104_16 bx n s v2 v4 v5))) → R 104 16 [(5, .int v5), (4, .int v4), (0, .ref 59), (1, .ref 3), (2, .int v2), (3, .ref bx)] [] (N, hm_sh L g, s) b Q := by
  intro n
  induction n with
  | zero => intro s v2 v4 v5 hm _; exact absurd hm (Nat.not_lt_zero _)
  | succ n ih =>
    intro s v2 v4 v5 hm hq
    unfold T_104_16 at hq
    refine hm_st hR (hm_st hR (?_))
    refine hm_st hR ⟨hm_le rfl, rfl, (hm_le rfl), (hm_ltN hN rfl), hm_le rfl, hm_le rfl, (0, 0), Nat.zero_le _, Nat.zero_le _, ?_⟩
    refine sp_87 hR hN ?_
    show R 104 22 [(5, .int v5), (4, .int v4), (0, .ref 59), (1, .ref 3), (2, .int v2), (3, .ref bx)] [.int (T_87 s), .int v5] (N, hm_sh L g, s) _ Q
    show R 104 22 [(5, .int v5), (4, .int v4), (0, .ref 59), (1, .ref 3), (2, .int v2), (3, .ref bx)] [.int (T_87 s), .int v5] (N, hm_sh L g, s) _ Q
    refine hm_st hR ⟨fun c22 => ?_, fun c22 => ?_⟩
    · rw [if_pos c22] at hq
      show R 104 108 [(5, .int v5), (4, .int v4), (0, .ref 59), (1, .ref 3), (2, .int v2), (3, .ref bx)] [] (N, hm_sh L g, s) _ Q
      exact hm_st hR (hq)
    · rw [if_neg c22] at hq
      show R 104 25 [(5, .int v5), (4, .int v4), (0, .ref 59), (1, .ref 3), (2, .int v2), (3, .ref bx)] [] (N, hm_sh L g, s) _ Q
      refine hm_st hR (hm_st hR (hm_st hR (hm_st hR (?_))))
      refine hm_st hR ⟨hm_le rfl, rfl, (hm_le rfl), (hm_ltN hN rfl), hm_le rfl, hm_le rfl, (0, 0), Nat.zero_le _, Nat.zero_le _, ?_⟩
      refine sp_89 hR hN ?_
      show R 104 33 [(5, .int v5), (4, .int v4), (0, .ref 59), (1, .ref 3), (2, .int v2), (3, .ref bx)] [.int (T_89 s v2 v5), .ref bx] (N, hm_sh L g, s) _ Q
      refine hm_st hR (hm_st hR (hm_st hR (?_)))
      refine hm_st hR ⟨hm_le rfl, rfl, (hm_le rfl), (hm_ltN hN rfl), hm_le rfl, hm_le rfl, (0, 0), Nat.zero_le _, Nat.zero_le _, ?_⟩
      refine sp_90 hR hN ?_
      show R 104 40 [(5, .int v5), (4, .int v4), (0, .ref 59), (1, .ref 3), (2, .int v2), (3, .ref bx)] [.int (T_90 s v2 v5), .int (T_89 s v2 v5), .ref bx] (N, hm_sh L g, s) _ Q
      refine hm_st hR ⟨hm_le rfl, hbk, hb2, hbl, hm_le rfl, hm_le rfl, (0, 0), Nat.zero_le _, Nat.zero_le _, ?_⟩
      refine sp_66 hR hN (bx := bx) hbk hb2 hbl ?_
      show R 104 43 [(5, .int v5), (4, .int v4), (0, .ref 59), (1, .ref 3), (2, .int v2), (3, .ref bx)] [.int (T_66 s bx (T_89 s v2 v5) (T_90 s v2 v5))] (N, hm_sh L g, s) _ Q
      refine hm_st hR (hm_st hR (?_))
      show R 104 47 [(6, .int (T_66 s bx (T_89 s v2 v5) (T_90 s v2 v5))), (5, .int v5), (4, .int v4), (0, .ref 59), (1, .ref 3), (2, .int v2), (3, .ref bx)] [.int (T_66 s bx (T_89 s v2 v5) (T_90 s v2 v5))] (N, hm_sh L g, s) _ Q
      refine hm_st hR ⟨fun c47 => ?_, fun c47 => ?_⟩
      · rw [if_pos c47] at hq
        show R 104 78 [(6, .int (T_66 s bx (T_89 s v2 v5) (T_90 s v2 v5))), (5, .int v5), (4, .int v4), (0, .ref 59), (1, .ref 3), (2, .int v2), (3, .ref bx)] [] (N, hm_sh L g, s) _ Q
        refine hm_st hR (?_)
        show R 104 80 [(6, .int (T_66 s bx (T_89 s v2 v5) (T_90 s v2 v5))), (5, .int v5), (4, .int v4), (0, .ref 59), (1, .ref 3), (2, .int v2), (3, .ref bx)] [.int (T_66 s bx (T_89 s v2 v5) (T_90 s v2 v5))] (N, hm_sh L g, s) _ Q
        refine hm_st hR ⟨fun c80 => ?_, fun c80 => ?_⟩
        · rw [if_pos c80] at hq
          show R 104 98 [(6, .int (T_66 s bx (T_89 s v2 v5) (T_90 s v2 v5))), (5, .int v5), (4, .int v4), (0, .ref 59), (1, .ref 3), (2, .int v2), (3, .ref bx)] [] (N, hm_sh L g, s) _ Q
          refine hm_st hR (hm_st hR (hm_st hR (hm_st hR (?_))))
          show R 104 16 [(5, .int (v5 + 1)), (4, .int (T_66 s bx (T_89 s v2 v5) (T_90 s v2 v5))), (6, .int (T_66 s bx (T_89 s v2 v5) (T_90 s v2 v5))), (0, .ref 59), (1, .ref 3), (2, .int v2), (3, .ref bx)] [] (N, hm_sh L g, s) _ Q
          exact hm_lvS hR (by intro q hq; simp only [List.mem_cons, List.not_mem_nil, or_false] at hq ⊢; rcases hq with rfl | rfl | rfl | rfl | rfl | rfl <;> simp) (ih s v2 (T_66 s bx (T_89 s v2 v5) (T_90 s v2 v5)) (v5 + 1) (by first | with_reducible exact hm_dcx c22 hm | exact hm_dcE (by simp only [T_87, hm_w1n (show (3 : Nat) ≠ 59 by decide), N_179 (show (3 : Nat) ≠ 59 by decide), hm_w1n (show (3 : Nat) ≠ 61 by decide), N_179 (show (3 : Nat) ≠ 61 by decide), hm_w1n (show (3 : Nat) ≠ 63 by decide), N_179 (show (3 : Nat) ≠ 63 by decide)]) (hm_dcx c22 hm)) hq)
        · rw [if_neg c80] at hq
          show R 104 83 [(6, .int (T_66 s bx (T_89 s v2 v5) (T_90 s v2 v5))), (5, .int v5), (4, .int v4), (0, .ref 59), (1, .ref 3), (2, .int v2), (3, .ref bx)] [] (N, hm_sh L g, s) _ Q
          refine hm_st hR (hm_st hR ⟨rfl, hm_le rfl, (hm_ltN hN rfl), hm_st hR (hm_st hR ⟨rfl, hm_le rfl, (hm_ltN hN rfl), hm_st hR (hm_st hR (hm_st hR (?_)))⟩)⟩)
          refine hm_st hR ⟨hm_le rfl, rfl, (hm_le rfl), (hm_ltN hN rfl), hm_le rfl, hm_le rfl, (0, 0), Nat.zero_le _, Nat.zero_le _, ?_⟩
          refine sp_179 hR hN (rr := 62) (aa := 63) (nn := 1024) rfl rfl (hm_le rfl) (hm_ltN hN rfl) rfl rfl (hm_le rfl) (hm_ltN hN rfl) (by decide) ?_
          show R 104 98 [(6, .int (T_66 s bx (T_89 s v2 v5) (T_90 s v2 v5))), (5, .int v5), (4, .int v4), (0, .ref 59), (1, .ref 3), (2, .int v2), (3, .ref bx)] [] (N, hm_sh L g, (T_179 s 63 1024 ((s 59 2) - 1) v5)) _ Q
          refine hm_st hR (hm_st hR (hm_st hR (hm_st hR (?_))))
          show R 104 16 [(5, .int (v5 + 1)), (4, .int (T_66 s bx (T_89 s v2 v5) (T_90 s v2 v5))), (6, .int (T_66 s bx (T_89 s v2 v5) (T_90 s v2 v5))), (0, .ref 59), (1, .ref 3), (2, .int v2), (3, .ref bx)] [] (N, hm_sh L g, (T_179 s 63 1024 ((s 59 2) - 1) v5)) _ Q
          exact hm_lvS hR (by intro q hq; simp only [List.mem_cons, List.not_mem_nil, or_false] at hq ⊢; rcases hq with rfl | rfl | rfl | rfl | rfl | rfl <;> simp) (ih (T_179 s 63 1024 ((s 59 2) - 1) v5) v2 (T_66 s bx (T_89 s v2 v5) (T_90 s v2 v5)) (v5 + 1) (by first | with_reducible exact hm_dcx c22 hm | exact hm_dcE (by simp only [T_87, hm_w1n (show (3 : Nat) ≠ 59 by decide), N_179 (show (3 : Nat) ≠ 59 by decide), hm_w1n (show (3 : Nat) ≠ 61 by decide), N_179 (show (3 : Nat) ≠ 61 by decide), hm_w1n (show (3 : Nat) ≠ 63 by decide), N_179 (show (3 : Nat) ≠ 63 by decide)]) (hm_dcx c22 hm)) hq)
      · rw [if_neg c47] at hq
        show R 104 50 [(6, .int (T_66 s bx (T_89 s v2 v5) (T_90 s v2 v5))), (5, .int v5), (4, .int v4), (0, .ref 59), (1, .ref 3), (2, .int v2), (3, .ref bx)] [] (N, hm_sh L g, s) _ Q
        refine hm_st hR (?_)
        show R 104 52 [(6, .int (T_66 s bx (T_89 s v2 v5) (T_90 s v2 v5))), (5, .int v5), (4, .int v4), (0, .ref 59), (1, .ref 3), (2, .int v2), (3, .ref bx)] [.int v4] (N, hm_sh L g, s) _ Q
        refine hm_st hR ⟨fun c52 => ?_, fun c52 => ?_⟩
        · rw [if_neg c52] at hq
          show R 104 78 [(6, .int (T_66 s bx (T_89 s v2 v5) (T_90 s v2 v5))), (5, .int v5), (4, .int v4), (0, .ref 59), (1, .ref 3), (2, .int v2), (3, .ref bx)] [] (N, hm_sh L g, s) _ Q
          refine hm_st hR (?_)
          show R 104 80 [(6, .int (T_66 s bx (T_89 s v2 v5) (T_90 s v2 v5))), (5, .int v5), (4, .int v4), (0, .ref 59), (1, .ref 3), (2, .int v2), (3, .ref bx)] [.int (T_66 s bx (T_89 s v2 v5) (T_90 s v2 v5))] (N, hm_sh L g, s) _ Q
          refine hm_st hR ⟨fun c80 => ?_, fun c80 => ?_⟩
          · rw [if_pos c80] at hq
            show R 104 98 [(6, .int (T_66 s bx (T_89 s v2 v5) (T_90 s v2 v5))), (5, .int v5), (4, .int v4), (0, .ref 59), (1, .ref 3), (2, .int v2), (3, .ref bx)] [] (N, hm_sh L g, s) _ Q
            refine hm_st hR (hm_st hR (hm_st hR (hm_st hR (?_))))
            show R 104 16 [(5, .int (v5 + 1)), (4, .int (T_66 s bx (T_89 s v2 v5) (T_90 s v2 v5))), (6, .int (T_66 s bx (T_89 s v2 v5) (T_90 s v2 v5))), (0, .ref 59), (1, .ref 3), (2, .int v2), (3, .ref bx)] [] (N, hm_sh L g, s) _ Q
            exact hm_lvS hR (by intro q hq; simp only [List.mem_cons, List.not_mem_nil, or_false] at hq ⊢; rcases hq with rfl | rfl | rfl | rfl | rfl | rfl <;> simp) (ih s v2 (T_66 s bx (T_89 s v2 v5) (T_90 s v2 v5)) (v5 + 1) (by first | with_reducible exact hm_dcx c22 hm | exact hm_dcE (by simp only [T_87, hm_w1n (show (3 : Nat) ≠ 59 by decide), N_179 (show (3 : Nat) ≠ 59 by decide), hm_w1n (show (3 : Nat) ≠ 61 by decide), N_179 (show (3 : Nat) ≠ 61 by decide), hm_w1n (show (3 : Nat) ≠ 63 by decide), N_179 (show (3 : Nat) ≠ 63 by decide)]) (hm_dcx c22 hm)) hq)
          · rw [if_neg c80] at hq
            show R 104 83 [(6, .int (T_66 s bx (T_89 s v2 v5) (T_90 s v2 v5))), (5, .int v5), (4, .int v4), (0, .ref 59), (1, .ref 3), (2, .int v2), (3, .ref bx)] [] (N, hm_sh L g, s) _ Q
            refine hm_st hR (hm_st hR ⟨rfl, hm_le rfl, (hm_ltN hN rfl), hm_st hR (hm_st hR ⟨rfl, hm_le rfl, (hm_ltN hN rfl), hm_st hR (hm_st hR (hm_st hR (?_)))⟩)⟩)
            refine hm_st hR ⟨hm_le rfl, rfl, (hm_le rfl), (hm_ltN hN rfl), hm_le rfl, hm_le rfl, (0, 0), Nat.zero_le _, Nat.zero_le _, ?_⟩
            refine sp_179 hR hN (rr := 62) (aa := 63) (nn := 1024) rfl rfl (hm_le rfl) (hm_ltN hN rfl) rfl rfl (hm_le rfl) (hm_ltN hN rfl) (by decide) ?_
            show R 104 98 [(6, .int (T_66 s bx (T_89 s v2 v5) (T_90 s v2 v5))), (5, .int v5), (4, .int v4), (0, .ref 59), (1, .ref 3), (2, .int v2), (3, .ref bx)] [] (N, hm_sh L g, (T_179 s 63 1024 ((s 59 2) - 1) v5)) _ Q
            refine hm_st hR (hm_st hR (hm_st hR (hm_st hR (?_))))
            show R 104 16 [(5, .int (v5 + 1)), (4, .int (T_66 s bx (T_89 s v2 v5) (T_90 s v2 v5))), (6, .int (T_66 s bx (T_89 s v2 v5) (T_90 s v2 v5))), (0, .ref 59), (1, .ref 3), (2, .int v2), (3, .ref bx)] [] (N, hm_sh L g, (T_179 s 63 1024 ((s 59 2) - 1) v5)) _ Q
            exact hm_lvS hR (by intro q hq; simp only [List.mem_cons, List.not_mem_nil, or_false] at hq ⊢; rcases hq with rfl | rfl | rfl | rfl | rfl | rfl <;> simp) (ih (T_179 s 63 1024 ((s 59 2) - 1) v5) v2 (T_66 s bx (T_89 s v2 v5) (T_90 s v2 v5)) (v5 + 1) (by first | with_reducible exact hm_dcx c22 hm | exact hm_dcE (by simp only [T_87, hm_w1n (show (3 : Nat) ≠ 59 by decide), N_179 (show (3 : Nat) ≠ 59 by decide), hm_w1n (show (3 : Nat) ≠ 61 by decide), N_179 (show (3 : Nat) ≠ 61 by decide), hm_w1n (show (3 : Nat) ≠ 63 by decide), N_179 (show (3 : Nat) ≠ 63 by decide)]) (hm_dcx c22 hm)) hq)
        · rw [if_pos c52] at hq
          show R 104 55 [(6, .int (T_66 s bx (T_89 s v2 v5) (T_90 s v2 v5))), (5, .int v5), (4, .int v4), (0, .ref 59), (1, .ref 3), (2, .int v2), (3, .ref bx)] [] (N, hm_sh L g, s) _ Q
          refine hm_st hR (hm_st hR ⟨rfl, hm_le rfl, (hm_ltN hN rfl), hm_st hR (hm_st hR ⟨rfl, hm_le rfl, (hm_ltN hN rfl), hm_st hR (?_)⟩)⟩)
          refine hm_st hR ⟨hm_le rfl, rfl, (hm_le rfl), (hm_ltN hN rfl), hm_le rfl, hm_le rfl, (0, 0), Nat.zero_le _, Nat.zero_le _, ?_⟩
          refine sp_179 hR hN (rr := 60) (aa := 61) (nn := 1024) rfl rfl (hm_le rfl) (hm_ltN hN rfl) rfl rfl (hm_le rfl) (hm_ltN hN rfl) (by decide) ?_
          show R 104 68 [(6, .int (T_66 s bx (T_89 s v2 v5) (T_90 s v2 v5))), (5, .int v5), (4, .int v4), (0, .ref 59), (1, .ref 3), (2, .int v2), (3, .ref bx)] [] (N, hm_sh L g, (T_179 s 61 1024 (s 59 2) v5)) _ Q
          refine hm_st hR (hm_st hR ⟨rfl, hm_st hR ⟨rfl, hm_le rfl, (hm_ltN hN rfl), hm_st hR (hm_st hR (hm_st hR ⟨rfl, rfl, hm_le rfl, (hm_ltN hN rfl), ?_⟩))⟩⟩)
          show R 104 78 [(6, .int (T_66 s bx (T_89 s v2 v5) (T_90 s v2 v5))), (5, .int v5), (4, .int v4), (0, .ref 59), (1, .ref 3), (2, .int v2), (3, .ref bx)] [] (N, hm_sh L g, (hm_w1 (T_179 s 61 1024 (s 59 2) v5) 59 2 (((T_179 s 61 1024 (s 59 2) v5) 59 2) + 1))) _ Q
          refine hm_st hR (?_)
          show R 104 80 [(6, .int (T_66 s bx (T_89 s v2 v5) (T_90 s v2 v5))), (5, .int v5), (4, .int v4), (0, .ref 59), (1, .ref 3), (2, .int v2), (3, .ref bx)] [.int (T_66 s bx (T_89 s v2 v5) (T_90 s v2 v5))] (N, hm_sh L g, (hm_w1 (T_179 s 61 1024 (s 59 2) v5) 59 2 (((T_179 s 61 1024 (s 59 2) v5) 59 2) + 1))) _ Q
          refine hm_st hR ⟨fun c80 => ?_, fun c80 => ?_⟩
          · rw [if_pos c80] at hq
            show R 104 98 [(6, .int (T_66 s bx (T_89 s v2 v5) (T_90 s v2 v5))), (5, .int v5), (4, .int v4), (0, .ref 59), (1, .ref 3), (2, .int v2), (3, .ref bx)] [] (N, hm_sh L g, (hm_w1 (T_179 s 61 1024 (s 59 2) v5) 59 2 (((T_179 s 61 1024 (s 59 2) v5) 59 2) + 1))) _ Q
            refine hm_st hR (hm_st hR (hm_st hR (hm_st hR (?_))))
            show R 104 16 [(5, .int (v5 + 1)), (4, .int (T_66 s bx (T_89 s v2 v5) (T_90 s v2 v5))), (6, .int (T_66 s bx (T_89 s v2 v5) (T_90 s v2 v5))), (0, .ref 59), (1, .ref 3), (2, .int v2), (3, .ref bx)] [] (N, hm_sh L g, (hm_w1 (T_179 s 61 1024 (s 59 2) v5) 59 2 (((T_179 s 61 1024 (s 59 2) v5) 59 2) + 1))) _ Q
            exact hm_lvS hR (by intro q hq; simp only [List.mem_cons, List.not_mem_nil, or_false] at hq ⊢; rcases hq with rfl | rfl | rfl | rfl | rfl | rfl <;> simp) (ih (hm_w1 (T_179 s 61 1024 (s 59 2) v5) 59 2 (((T_179 s 61 1024 (s 59 2) v5) 59 2) + 1)) v2 (T_66 s bx (T_89 s v2 v5) (T_90 s v2 v5)) (v5 + 1) (by first | with_reducible exact hm_dcx c22 hm | exact hm_dcE (by simp only [T_87, hm_w1n (show (3 : Nat) ≠ 59 by decide), N_179 (show (3 : Nat) ≠ 59 by decide), hm_w1n (show (3 : Nat) ≠ 61 by decide), N_179 (show (3 : Nat) ≠ 61 by decide), hm_w1n (show (3 : Nat) ≠ 63 by decide), N_179 (show (3 : Nat) ≠ 63 by decide)]) (hm_dcx c22 hm)) hq)
          · rw [if_neg c80] at hq
            show R 104 83 [(6, .int (T_66 s bx (T_89 s v2 v5) (T_90 s v2 v5))), (5, .int v5), (4, .int v4), (0, .ref 59), (1, .ref 3), (2, .int v2), (3, .ref bx)] [] (N, hm_sh L g, (hm_w1 (T_179 s 61 1024 (s 59 2) v5) 59 2 (((T_179 s 61 1024 (s 59 2) v5) 59 2) + 1))) _ Q
            refine hm_st hR (hm_st hR ⟨rfl, hm_le rfl, (hm_ltN hN rfl), hm_st hR (hm_st hR ⟨rfl, hm_le rfl, (hm_ltN hN rfl), hm_st hR (hm_st hR (hm_st hR (?_)))⟩)⟩)
            refine hm_st hR ⟨hm_le rfl, rfl, (hm_le rfl), (hm_ltN hN rfl), hm_le rfl, hm_le rfl, (0, 0), Nat.zero_le _, Nat.zero_le _, ?_⟩
            refine sp_179 hR hN (rr := 62) (aa := 63) (nn := 1024) rfl rfl (hm_le rfl) (hm_ltN hN rfl) rfl rfl (hm_le rfl) (hm_ltN hN rfl) (by decide) ?_
            show R 104 98 [(6, .int (T_66 s bx (T_89 s v2 v5) (T_90 s v2 v5))), (5, .int v5), (4, .int v4), (0, .ref 59), (1, .ref 3), (2, .int v2), (3, .ref bx)] [] (N, hm_sh L g, (T_179 (hm_w1 (T_179 s 61 1024 (s 59 2) v5) 59 2 (((T_179 s 61 1024 (s 59 2) v5) 59 2) + 1)) 63 1024 (((hm_w1 (T_179 s 61 1024 (s 59 2) v5) 59 2 (((T_179 s 61 1024 (s 59 2) v5) 59 2) + 1)) 59 2) - 1) v5)) _ Q
            refine hm_st hR (hm_st hR (hm_st hR (hm_st hR (?_))))
            show R 104 16 [(5, .int (v5 + 1)), (4, .int (T_66 s bx (T_89 s v2 v5) (T_90 s v2 v5))), (6, .int (T_66 s bx (T_89 s v2 v5) (T_90 s v2 v5))), (0, .ref 59), (1, .ref 3), (2, .int v2), (3, .ref bx)] [] (N, hm_sh L g, (T_179 (hm_w1 (T_179 s 61 1024 (s 59 2) v5) 59 2 (((T_179 s 61 1024 (s 59 2) v5) 59 2) + 1)) 63 1024 (((hm_w1 (T_179 s 61 1024 (s 59 2) v5) 59 2 (((T_179 s 61 1024 (s 59 2) v5) 59 2) + 1)) 59 2) - 1) v5)) _ Q
            exact hm_lvS hR (by intro q hq; simp only [List.mem_cons, List.not_mem_nil, or_false] at hq ⊢; rcases hq with rfl | rfl | rfl | rfl | rfl | rfl <;> simp) (ih (T_179 (hm_w1 (T_179 s 61 1024 (s 59 2) v5) 59 2 (((T_179 s 61 1024 (s 59 2) v5) 59 2) + 1)) 63 1024 (((hm_w1 (T_179 s 61 1024 (s 59 2) v5) 59 2 (((T_179 s 61 1024 (s 59 2) v5) 59 2) + 1)) 59 2) - 1) v5) v2 (T_66 s bx (T_89 s v2 v5) (T_90 s v2 v5)) (v5 + 1) (by first | with_reducible exact hm_dcx c22 hm | exact hm_dcE (by simp only [T_87, hm_w1n (show (3 : Nat) ≠ 59 by decide), N_179 (show (3 : Nat) ≠ 59 by decide), hm_w1n (show (3 : Nat) ≠ 61 by decide), N_179 (show (3 : Nat) ≠ 61 by decide), hm_w1n (show (3 : Nat) ≠ 63 by decide), N_179 (show (3 : Nat) ≠ 63 by decide)]) (hm_dcx c22 hm)) hq)
set_option maxRecDepth 20000 in
theorem sp_104 {R : hm_R} (hR : hm_Cm R) {N L : Nat} {g : Nat → hm_Sh} {s : hm_St} {b : hm_B} {Q : hm_Q} (hN : 68 ≤ N) {bx : Nat} (hbk : (hm_sh L g bx).1 = 0) (hb2 : 2 ≤ bx) (hbl : bx < N) {p2 : Int32} (hq : Q (.inr none) (N, hm_sh L g, (T_104 s p2 bx))) : R 104 0 (lv_args 0 [.ref 59, .ref 3, .int p2, .ref bx]) [] (N, hm_sh L g, s) b Q := by
  unfold T_104 at hq
  show R 104 0 [(0, .ref 59), (1, .ref 3), (2, .int p2), (3, .ref bx)] [] (N, hm_sh L g, s) _ Q
  refine hm_st hR (hm_st hR (hm_st hR ⟨rfl, rfl, hm_le rfl, (hm_ltN hN rfl), ?_⟩))
  show R 104 5 [(0, .ref 59), (1, .ref 3), (2, .int p2), (3, .ref bx)] [] (N, hm_sh L g, (hm_w1 s 59 2 0)) _ Q
  refine hm_st hR (hm_st hR (hm_st hR ⟨rfl, rfl, hm_le rfl, (hm_ltN hN rfl), ?_⟩))
  show R 104 10 [(0, .ref 59), (1, .ref 3), (2, .int p2), (3, .ref bx)] [] (N, hm_sh L g, (hm_w1 (hm_w1 s 59 2 0) 59 3 0)) _ Q
  refine hm_st hR (hm_st hR (hm_st hR (hm_st hR (?_))))
  show R 104 16 [(5, .int 0), (4, .int 0), (0, .ref 59), (1, .ref 3), (2, .int p2), (3, .ref bx)] [] (N, hm_sh L g, (hm_w1 (hm_w1 s 59 2 0) 59 3 0)) _ Q
  exact lp_104_16 hR hN hbk hb2 hbl _ _ _ _ _ (Nat.lt_succ_self _) hq
/-- CurvekeyHouse$Cut.size()I -/
def T_101 (s : hm_St) : Int32 := (s 59 2)
set_option maxRecDepth 20000 in
theorem sp_101 {R : hm_R} (hR : hm_Cm R) {N L : Nat} {g : Nat → hm_Sh} {s : hm_St} {b : hm_B} {Q : hm_Q} (hN : 68 ≤ N) (hq : Q (.inr (some (.int (T_101 s)))) (N, hm_sh L g, s)) : R 101 0 (lv_args 0 [.ref 59]) [] (N, hm_sh L g, s) b Q := by
  unfold T_101 at hq
  show R 101 0 [(0, .ref 59)] [] (N, hm_sh L g, s) _ Q
  refine hm_st hR (hm_st hR ⟨rfl, hm_le rfl, (hm_ltN hN rfl), ?_⟩)
  exact hm_st hR ⟨fun z => absurd z (by decide), hq⟩
/-- CurvekeyHouse.runsOf(ILCurvekeyHouse$Box;)I -/
def T_48 (s : hm_St) (p1 : Int32) (bx : Nat) : (Int32 × hm_St) := ((T_101 (T_104 s p1 bx)), (T_104 s p1 bx))
theorem N_48 {c j : Nat} (h59 : c ≠ 59) (h61 : c ≠ 61) (h63 : c ≠ 63) {s : hm_St} {p1 : Int32} {bx : Nat} : (T_48 s p1 bx).2 c j = s c j := by
  unfold T_48
  repeat' split
  all_goals first | with_reducible rfl | simp only [hm_w1n h59, hm_w1n h61, hm_w1n h63, N_104 h59 h61 h63]
set_option maxRecDepth 20000 in
theorem sp_48 {R : hm_R} (hR : hm_Cm R) {N L : Nat} {g : Nat → hm_Sh} {s : hm_St} {b : hm_B} {Q : hm_Q} (hN : 68 ≤ N) {bx : Nat} (hbk : (hm_sh L g bx).1 = 0) (hb2 : 2 ≤ bx) (hbl : bx < N) {p1 : Int32} (hq : Q (.inr (some (.int (T_48 s p1 bx).1))) (N, hm_sh L g, (T_48 s p1 bx).2)) : R 48 0 (lv_args 0 [.ref 2, .int p1, .ref bx]) [] (N, hm_sh L g, s) b Q := by
  unfold T_48 at hq
  show R 48 0 [(0, .ref 2), (1, .int p1), (2, .ref bx)] [] (N, hm_sh L g, s) _ Q
  refine hm_st hR (hm_st hR ⟨rfl, hm_le rfl, (hm_ltN hN rfl), hm_st hR (hm_st hR ⟨rfl, hm_le rfl, (hm_ltN hN rfl), hm_st hR (hm_st hR (?_))⟩)⟩)
  refine hm_st hR ⟨hm_le rfl, rfl, (hm_le rfl), (hm_ltN hN rfl), hm_le rfl, hm_le rfl, (0, 0), Nat.zero_le _, Nat.zero_le _, ?_⟩
  refine sp_104 hR hN (bx := bx) hbk hb2 hbl ?_
  show R 48 13 [(0, .ref 2), (1, .int p1), (2, .ref bx)] [] (N, hm_sh L g, (T_104 s p1 bx)) _ Q
  refine hm_st hR (hm_st hR ⟨rfl, hm_le rfl, (hm_ltN hN rfl), ?_⟩)
  refine hm_st hR ⟨hm_le rfl, rfl, (hm_le rfl), (hm_ltN hN rfl), hm_le rfl, hm_le rfl, (0, 0), Nat.zero_le _, Nat.zero_le _, ?_⟩
  refine sp_101 hR hN ?_
  show R 48 20 [(0, .ref 2), (1, .int p1), (2, .ref bx)] [.int (T_101 (T_104 s p1 bx))] (N, hm_sh L g, (T_104 s p1 bx)) _ Q
  exact hm_st hR ⟨fun z => absurd z (by decide), hm_pqi hq⟩
/-- CurvekeyHouse.runs(IIIII)I -/
def T_3 (N : Nat) (g : Nat → hm_Sh) (s : hm_St) (p1 : Int32) (p2 : Int32) (p3 : Int32) (p4 : Int32) (p5 : Int32) : hm_Er Int32 := (if (T_35 s p1) = 0 then (1, 0, N, g, s) else (if ((if (T_38 s p2 p3 p4 p5) = 0 then (0 : Int32) else 1) : Int32) = 0 then (1, 0, N, g, s) else (0, (T_48 (T_65 (hm_sn s N) N p2 p3 p4 p5) p1 N).1, (N + 1), (hm_gb g N), (T_48 (T_65 (hm_sn s N) N p2 p3 p4 p5) p1 N).2)))
set_option maxRecDepth 20000 in
theorem sp_3 {R : hm_R} (hR : hm_Cm R) {N L : Nat} {g : Nat → hm_Sh} {s : hm_St} {b : hm_B} {Q : hm_Q} (hN : 68 ≤ N) (hb1 : 2 ≤ b.1) (hb2 : 10 ≤ b.2) {p1 : Int32} {p2 : Int32} {p3 : Int32} {p4 : Int32} {p5 : Int32} (hq : hm_qx Q L (fun v => some (.int v)) (T_3 N g s p1 p2 p3 p4 p5)) : R 3 0 (lv_args 0 [.ref 2, .int p1, .int p2, .int p3, .int p4, .int p5]) [] (N, hm_sh L g, s) b Q := by
  unfold T_3 at hq
  show R 3 0 [(0, .ref 2), (1, .int p1), (2, .int p2), (3, .int p3), (4, .int p4), (5, .int p5)] [] (N, hm_sh L g, s) _ Q
  refine hm_st hR (?_)
  refine hm_st hR ⟨hm_le rfl, hm_le rfl, hm_le rfl, (0, 0), Nat.zero_le _, Nat.zero_le _, ?_⟩
  refine sp_35 hR hN ?_
  show R 3 4 [(0, .ref 2), (1, .int p1), (2, .int p2), (3, .int p3), (4, .int p4), (5, .int p5)] [.int (T_35 s p1)] (N, hm_sh L g, s) _ Q
  show R 3 4 [(0, .ref 2), (1, .int p1), (2, .int p2), (3, .int p3), (4, .int p4), (5, .int p5)] [.int (T_35 s p1)] (N, hm_sh L g, s) _ Q
  refine hm_st hR ⟨fun c4 => ?_, fun c4 => ?_⟩
  · rw [if_pos c4] at hq
    show R 3 24 [(0, .ref 2), (1, .int p1), (2, .int p2), (3, .int p3), (4, .int p4), (5, .int p5)] [] (N, hm_sh L g, s) _ Q
    refine hm_st hR (?_)
    show R 3 25 [(0, .ref 2), (1, .int p1), (2, .int p2), (3, .int p3), (4, .int p4), (5, .int p5)] [.int 0] (N, hm_sh L g, s) _ Q
    exact hm_st hR ⟨hm_le rfl, hm_le rfl, hm_le rfl, (1, 6), (by show 1 ≤ b.1 - 0; omega), (by show 6 ≤ b.2 - 0; omega), hm_needT31 hR hN rfl (fun N2 hN2 => hm_KX (by decide) (hq N2 hN2))⟩
  · rw [if_neg c4] at hq
    show R 3 7 [(0, .ref 2), (1, .int p1), (2, .int p2), (3, .int p3), (4, .int p4), (5, .int p5)] [] (N, hm_sh L g, s) _ Q
    refine hm_st hR (hm_st hR (hm_st hR (hm_st hR (hm_st hR (?_)))))
    refine hm_st hR ⟨hm_le rfl, rfl, (hm_le rfl), (hm_ltN hN rfl), hm_le rfl, hm_le rfl, (0, 0), Nat.zero_le _, Nat.zero_le _, ?_⟩
    refine sp_38 hR hN ?_
    show R 3 17 [(0, .ref 2), (1, .int p1), (2, .int p2), (3, .int p3), (4, .int p4), (5, .int p5)] [.int (T_38 s p2 p3 p4 p5)] (N, hm_sh L g, s) _ Q
    show R 3 17 [(0, .ref 2), (1, .int p1), (2, .int p2), (3, .int p3), (4, .int p4), (5, .int p5)] [.int (T_38 s p2 p3 p4 p5)] (N, hm_sh L g, s) _ Q
    suffices G : ∀ w : Int32, w = (if (T_38 s p2 p3 p4 p5) = 0 then (0 : Int32) else 1) → R 3 25 [(0, .ref 2), (1, .int p1), (2, .int p2), (3, .int p3), (4, .int p4), (5, .int p5)] [.int w] (N, hm_sh L g, s) (b.1 - 0 - 0, b.2 - 0 - 0) Q by
      show R 3 17 [(0, .ref 2), (1, .int p1), (2, .int p2), (3, .int p3), (4, .int p4), (5, .int p5)] [.int (T_38 s p2 p3 p4 p5)] (N, hm_sh L g, s) _ Q
      refine hm_st hR ⟨fun c => ?_, fun c => ?_⟩
      · exact hm_st hR (G _ (if_pos c).symm)
      · exact hm_st hR (hm_st hR (G _ (if_neg c).symm))
    intro w hw
    subst hw
    show R 3 25 [(0, .ref 2), (1, .int p1), (2, .int p2), (3, .int p3), (4, .int p4), (5, .int p5)] [.int (if (T_38 s p2 p3 p4 p5) = 0 then (0 : Int32) else 1)] (N, hm_sh L g, s) _ Q
    show R 3 25 [(0, .ref 2), (1, .int p1), (2, .int p2), (3, .int p3), (4, .int p4), (5, .int p5)] [.int (if (T_38 s p2 p3 p4 p5) = 0 then (0 : Int32) else 1)] (N, hm_sh L g, s) _ Q
    by_cases c25 : ((if (T_38 s p2 p3 p4 p5) = 0 then (0 : Int32) else 1) : Int32) = 0
    · rw [if_pos c25] at hq
      exact hm_st hR ⟨hm_le rfl, hm_le rfl, hm_le rfl, (1, 6), (by show 1 ≤ b.1 - 0 - 0; omega), (by show 6 ≤ b.2 - 0 - 0; omega), hm_needT31 hR hN c25 (fun N2 hN2 => hm_KX (by decide) (hq N2 hN2))⟩
    · rw [if_neg c25] at hq
      refine hm_st hR ⟨hm_le rfl, hm_le rfl, hm_le rfl, (0, 0), Nat.zero_le _, Nat.zero_le _, hm_needP31 hR c25 ?_⟩
      show R 3 28 [(0, .ref 2), (1, .int p1), (2, .int p2), (3, .int p3), (4, .int p4), (5, .int p5)] [] (N, hm_sh L g, s) _ Q
      refine hm_st hR (hm_st hR (?_))
      show R 3 30 [(0, .ref 2), (1, .int p1), (2, .int p2), (3, .int p3), (4, .int p4), (5, .int p5)] [.int p1, .ref 2] (N, hm_sh L g, s) _ Q
      refine hm_nwb hR hN (by show 1 ≤ b.1 - 0 - 0 - 0; omega) (by show 4 ≤ b.2 - 0 - 0 - 0; omega) (by rfl) ?_
      have hbk1 : (hm_sh L (hm_gb g N) N).1 = 0 := hm_gbk hN
      have hbt1 : 2 ≤ N := hm_two hN
      have hbl1 : N < N + 1 := Nat.lt_succ_self _
      show R 3 33 [(0, .ref 2), (1, .int p1), (2, .int p2), (3, .int p3), (4, .int p4), (5, .int p5)] [.ref N, .int p1, .ref 2] ((N + 1), hm_sh L (hm_gb g N), (hm_sn s N)) _ Q
      refine hm_st hR ⟨rfl, hm_st hR (hm_st hR (hm_st hR (hm_st hR (?_))))⟩
      refine hm_st hR ⟨hm_le rfl, hbt1, hm_le rfl, hm_le rfl, (0, 0), Nat.zero_le _, Nat.zero_le _, ?_⟩
      refine sp_65 hR (Nat.le_succ_of_le hN) (bx := N) hbk1 hbt1 hbl1 ?_
      show R 3 43 [(0, .ref 2), (1, .int p1), (2, .int p2), (3, .int p3), (4, .int p4), (5, .int p5)] [.ref N, .int p1, .ref 2] ((N + 1), hm_sh L (hm_gb g N), (T_65 (hm_sn s N) N p2 p3 p4 p5)) _ Q
      refine hm_st hR ⟨hm_le rfl, rfl, (hm_le rfl), (hm_ltN (Nat.le_succ_of_le hN) rfl), hm_le rfl, hm_le rfl, (0, 0), Nat.zero_le _, Nat.zero_le _, ?_⟩
      refine sp_48 hR (Nat.le_succ_of_le hN) (bx := N) hbk1 hbt1 hbl1 ?_
      show R 3 46 [(0, .ref 2), (1, .int p1), (2, .int p2), (3, .int p3), (4, .int p4), (5, .int p5)] [.int (T_48 (T_65 (hm_sn s N) N p2 p3 p4 p5) p1 N).1] ((N + 1), hm_sh L (hm_gb g N), (T_48 (T_65 (hm_sn s N) N p2 p3 p4 p5) p1 N).2) _ Q
      exact hm_st hR ⟨fun z => absurd z (by decide), hm_qx0 hq⟩
def T_96_17 : Nat → hm_St → Int32 → Int32 → Int32 → Int32 → Int32 → Int32 → Int32 → Int32
  | 0, s, _, _, _, _, _, _, _ => 0
  | n + 1, s, v1, v2, v3, v4, v5, v6, v7 => (if v7 ≤ 0 then v4 else (T_96_17 n s v1 v2 v3 (v4 + (((T_178 s 5 16 (((4 * (v1 - 2)) + (if (if v5 < v7 then (0 : Int32) else 1) = 0 then (0 : Int32) else 1)) + (if (if v6 < v7 then (0 : Int32) else 1) = 0 then (0 : Int32) else 2))) * v7) * v7)) (if ((T_178 s 7 16 (((4 * (v1 - 2)) + (if (if v5 < v7 then (0 : Int32) else 1) = 0 then (0 : Int32) else 1)) + (if (if v6 < v7 then (0 : Int32) else 1) = 0 then (0 : Int32) else 2))) &&& 2) = 0 then ((if ((T_178 s 7 16 (((4 * (v1 - 2)) + (if (if v5 < v7 then (0 : Int32) else 1) = 0 then (0 : Int32) else 1)) + (if (if v6 < v7 then (0 : Int32) else 1) = 0 then (0 : Int32) else 2))) &&& 1) = 0 then ((if (if v5 < v7 then (0 : Int32) else 1) = 0 then (v5 : Int32) else (v5 - v7)) : Int32) else (if (if v6 < v7 then (0 : Int32) else 1) = 0 then (v6 : Int32) else (v6 - v7))) : Int32) else ((v7 - 1) - (if ((T_178 s 7 16 (((4 * (v1 - 2)) + (if (if v5 < v7 then (0 : Int32) else 1) = 0 then (0 : Int32) else 1)) + (if (if v6 < v7 then (0 : Int32) else 1) = 0 then (0 : Int32) else 2))) &&& 1) = 0 then ((if (if v5 < v7 then (0 : Int32) else 1) = 0 then (v5 : Int32) else (v5 - v7)) : Int32) else (if (if v6 < v7 then (0 : Int32) else 1) = 0 then (v6 : Int32) else (v6 - v7))))) (if ((T_178 s 7 16 (((4 * (v1 - 2)) + (if (if v5 < v7 then (0 : Int32) else 1) = 0 then (0 : Int32) else 1)) + (if (if v6 < v7 then (0 : Int32) else 1) = 0 then (0 : Int32) else 2))) &&& 4) = 0 then ((if ((T_178 s 7 16 (((4 * (v1 - 2)) + (if (if v5 < v7 then (0 : Int32) else 1) = 0 then (0 : Int32) else 1)) + (if (if v6 < v7 then (0 : Int32) else 1) = 0 then (0 : Int32) else 2))) &&& 1) = 0 then ((if (if v6 < v7 then (0 : Int32) else 1) = 0 then (v6 : Int32) else (v6 - v7)) : Int32) else (if (if v5 < v7 then (0 : Int32) else 1) = 0 then (v5 : Int32) else (v5 - v7))) : Int32) else ((v7 - 1) - (if ((T_178 s 7 16 (((4 * (v1 - 2)) + (if (if v5 < v7 then (0 : Int32) else 1) = 0 then (0 : Int32) else 1)) + (if (if v6 < v7 then (0 : Int32) else 1) = 0 then (0 : Int32) else 2))) &&& 1) = 0 then ((if (if v6 < v7 then (0 : Int32) else 1) = 0 then (v6 : Int32) else (v6 - v7)) : Int32) else (if (if v5 < v7 then (0 : Int32) else 1) = 0 then (v5 : Int32) else (v5 - v7))))) (v7 / 2)))
/-- CurvekeyHouse$Curves.fold(III)I -/
def T_96 (s : hm_St) (p1 : Int32) (p2 : Int32) (p3 : Int32) : Int32 := (T_96_17 (((s 3 6) / 2).toInt.toNat + 1) s p1 p2 p3 0 p2 p3 ((s 3 6) / 2))
set_option maxRecDepth 20000 in
theorem lp_96_17 {R : hm_R} (hR : hm_Cm R) {N L : Nat} {g : Nat → hm_Sh} {b : hm_B} {Q : hm_Q} (hN : 68 ≤ N) : ∀ (n : Nat) (s : hm_St) (v1 : Int32) (v2 : Int32) (v3 : Int32) (v4 : Int32) (v5 : Int32) (v6 : Int32) (v7 : Int32), v7.toInt.toNat < n → (hq : Q (.inr (some (.int (T_96_17 n s v1 v2 v3 v4 v5 v6 v7)))) (N, hm_sh L g, s)) → R 96 17 [(7, .int v7), (6, .int v6), (5, .int v5), (4, .int v4), (0, .ref 3), (1, .int v1), (2, .int v2), (3, .int v3)] [] (N, hm_sh L g, s) b Q := by
  intro n
  induction n with
  | zero => intro s v1 v2 v3 v4 v5 v6 v7 hm _; exact absurd hm (Nat.not_lt_zero _)
  | succ n ih =>
    intro s v1 v2 v3 v4 v5 v6 v7 hm hq
    unfold T_96_17 at hq
    refine hm_st hR (?_)
    show R 96 19 [(7, .int v7), (6, .int v6), (5, .int v5), (4, .int v4), (0, .ref 3), (1, .int v1), (2, .int v2), (3, .int v3)] [.int v7] (N, hm_sh L g, s) _ Q
    refine hm_st hR ⟨fun c19 => ?_, fun c19 => ?_⟩
    · rw [if_pos c19] at hq
      show R 96 227 [(7, .int v7), (6, .int v6), (5, .int v5), (4, .int v4), (0, .ref 3), (1, .int v1), (2, .int v2), (3, .int v3)] [] (N, hm_sh L g, s) _ Q
      refine hm_st hR (?_)
      exact hm_st hR ⟨fun z => absurd z (by decide), hq⟩
    · rw [if_neg c19] at hq
      show R 96 22 [(7, .int v7), (6, .int v6), (5, .int v5), (4, .int v4), (0, .ref 3), (1, .int v1), (2, .int v2), (3, .int v3)] [] (N, hm_sh L g, s) _ Q
      refine hm_st hR (hm_st hR (?_))
      show R 96 26 [(7, .int v7), (6, .int v6), (5, .int v5), (4, .int v4), (0, .ref 3), (1, .int v1), (2, .int v2), (3, .int v3)] [.int v7, .int v5] (N, hm_sh L g, s) _ Q
      suffices G : ∀ w : Int32, w = (if v5 < v7 then (0 : Int32) else 1) → R 96 34 [(7, .int v7), (6, .int v6), (5, .int v5), (4, .int v4), (0, .ref 3), (1, .int v1), (2, .int v2), (3, .int v3)] [.int w] (N, hm_sh L g, s) b Q by
        show R 96 26 [(7, .int v7), (6, .int v6), (5, .int v5), (4, .int v4), (0, .ref 3), (1, .int v1), (2, .int v2), (3, .int v3)] [.int v7, .int v5] (N, hm_sh L g, s) _ Q
        refine hm_st hR ⟨fun c => ?_, fun c => ?_⟩
        · exact hm_st hR (G _ (if_pos c).symm)
        · exact hm_st hR (hm_st hR (G _ (if_neg c).symm))
      intro w hw
      subst hw
      show R 96 34 [(7, .int v7), (6, .int v6), (5, .int v5), (4, .int v4), (0, .ref 3), (1, .int v1), (2, .int v2), (3, .int v3)] [.int (if v5 < v7 then (0 : Int32) else 1)] (N, hm_sh L g, s) _ Q
      refine hm_st hR (hm_st hR (hm_st hR (?_)))
      show R 96 40 [(8, .int (if v5 < v7 then (0 : Int32) else 1)), (7, .int v7), (6, .int v6), (5, .int v5), (4, .int v4), (0, .ref 3), (1, .int v1), (2, .int v2), (3, .int v3)] [.int v7, .int v6] (N, hm_sh L g, s) _ Q
      suffices G : ∀ w : Int32, w = (if v6 < v7 then (0 : Int32) else 1) → R 96 48 [(8, .int (if v5 < v7 then (0 : Int32) else 1)), (7, .int v7), (6, .int v6), (5, .int v5), (4, .int v4), (0, .ref 3), (1, .int v1), (2, .int v2), (3, .int v3)] [.int w] (N, hm_sh L g, s) b Q by
        show R 96 40 [(8, .int (if v5 < v7 then (0 : Int32) else 1)), (7, .int v7), (6, .int v6), (5, .int v5), (4, .int v4), (0, .ref 3), (1, .int v1), (2, .int v2), (3, .int v3)] [.int v7, .int v6] (N, hm_sh L g, s) _ Q
        refine hm_st hR ⟨fun c => ?_, fun c => ?_⟩
        · exact hm_st hR (G _ (if_pos c).symm)
        · exact hm_st hR (hm_st hR (G _ (if_neg c).symm))
      intro w hw
      subst hw
      show R 96 48 [(8, .int (if v5 < v7 then (0 : Int32) else 1)), (7, .int v7), (6, .int v6), (5, .int v5), (4, .int v4), (0, .ref 3), (1, .int v1), (2, .int v2), (3, .int v3)] [.int (if v6 < v7 then (0 : Int32) else 1)] (N, hm_sh L g, s) _ Q
      refine hm_st hR (hm_st hR (hm_st hR (hm_st hR (hm_st hR (hm_st hR (hm_st hR (?_)))))))
      show R 96 57 [(9, .int (if v6 < v7 then (0 : Int32) else 1)), (8, .int (if v5 < v7 then (0 : Int32) else 1)), (7, .int v7), (6, .int v6), (5, .int v5), (4, .int v4), (0, .ref 3), (1, .int v1), (2, .int v2), (3, .int v3)] [.int (if v5 < v7 then (0 : Int32) else 1), .int (4 * (v1 - 2))] (N, hm_sh L g, s) _ Q
      suffices G : ∀ w : Int32, w = (if (if v5 < v7 then (0 : Int32) else 1) = 0 then (0 : Int32) else 1) → R 96 65 [(9, .int (if v6 < v7 then (0 : Int32) else 1)), (8, .int (if v5 < v7 then (0 : Int32) else 1)), (7, .int v7), (6, .int v6), (5, .int v5), (4, .int v4), (0, .ref 3), (1, .int v1), (2, .int v2), (3, .int v3)] [.int w, .int (4 * (v1 - 2))] (N, hm_sh L g, s) b Q by
        show R 96 57 [(9, .int (if v6 < v7 then (0 : Int32) else 1)), (8, .int (if v5 < v7 then (0 : Int32) else 1)), (7, .int v7), (6, .int v6), (5, .int v5), (4, .int v4), (0, .ref 3), (1, .int v1), (2, .int v2), (3, .int v3)] [.int (if v5 < v7 then (0 : Int32) else 1), .int (4 * (v1 - 2))] (N, hm_sh L g, s) _ Q
        refine hm_st hR ⟨fun c => ?_, fun c => ?_⟩
        · exact hm_st hR (G _ (if_pos c).symm)
        · exact hm_st hR (hm_st hR (G _ (if_neg c).symm))
      intro w hw
      subst hw
      show R 96 65 [(9, .int (if v6 < v7 then (0 : Int32) else 1)), (8, .int (if v5 < v7 then (0 : Int32) else 1)), (7, .int v7), (6, .int v6), (5, .int v5), (4, .int v4), (0, .ref 3), (1, .int v1), (2, .int v2), (3, .int v3)] [.int (if (if v5 < v7 then (0 : Int32) else 1) = 0 then (0 : Int32) else 1), .int (4 * (v1 - 2))] (N, hm_sh L g, s) _ Q
      refine hm_st hR (hm_st hR (?_))
      show R 96 68 [(9, .int (if v6 < v7 then (0 : Int32) else 1)), (8, .int (if v5 < v7 then (0 : Int32) else 1)), (7, .int v7), (6, .int v6), (5, .int v5), (4, .int v4), (0, .ref 3), (1, .int v1), (2, .int v2), (3, .int v3)] [.int (if v6 < v7 then (0 : Int32) else 1), .int ((4 * (v1 - 2)) + (if (if v5 < v7 then (0 : Int32) else 1) = 0 then (0 : Int32) else 1))] (N, hm_sh L g, s) _ Q
      suffices G : ∀ w : Int32, w = (if (if v6 < v7 then (0 : Int32) else 1) = 0 then (0 : Int32) else 2) → R 96 76 [(9, .int (if v6 < v7 then (0 : Int32) else 1)), (8, .int (if v5 < v7 then (0 : Int32) else 1)), (7, .int v7), (6, .int v6), (5, .int v5), (4, .int v4), (0, .ref 3), (1, .int v1), (2, .int v2), (3, .int v3)] [.int w, .int ((4 * (v1 - 2)) + (if (if v5 < v7 then (0 : Int32) else 1) = 0 then (0 : Int32) else 1))] (N, hm_sh L g, s) b Q by
        show R 96 68 [(9, .int (if v6 < v7 then (0 : Int32) else 1)), (8, .int (if v5 < v7 then (0 : Int32) else 1)), (7, .int v7), (6, .int v6), (5, .int v5), (4, .int v4), (0, .ref 3), (1, .int v1), (2, .int v2), (3, .int v3)] [.int (if v6 < v7 then (0 : Int32) else 1), .int ((4 * (v1 - 2)) + (if (if v5 < v7 then (0 : Int32) else 1) = 0 then (0 : Int32) else 1))] (N, hm_sh L g, s) _ Q
        refine hm_st hR ⟨fun c => ?_, fun c => ?_⟩
        · exact hm_st hR (G _ (if_pos c).symm)
        · exact hm_st hR (hm_st hR (G _ (if_neg c).symm))
      intro w hw
      subst hw
      show R 96 76 [(9, .int (if v6 < v7 then (0 : Int32) else 1)), (8, .int (if v5 < v7 then (0 : Int32) else 1)), (7, .int v7), (6, .int v6), (5, .int v5), (4, .int v4), (0, .ref 3), (1, .int v1), (2, .int v2), (3, .int v3)] [.int (if (if v6 < v7 then (0 : Int32) else 1) = 0 then (0 : Int32) else 2), .int ((4 * (v1 - 2)) + (if (if v5 < v7 then (0 : Int32) else 1) = 0 then (0 : Int32) else 1))] (N, hm_sh L g, s) _ Q
      refine hm_st hR (hm_st hR (hm_st hR (hm_st hR ⟨rfl, hm_le rfl, (hm_ltN hN rfl), hm_st hR (?_)⟩)))
      refine hm_st hR ⟨hm_le rfl, rfl, (hm_le rfl), (hm_ltN hN rfl), hm_le rfl, hm_le rfl, (0, 0), Nat.zero_le _, Nat.zero_le _, ?_⟩
      refine sp_178 hR hN (rr := 6) (aa := 7) (nn := 16) rfl rfl (hm_le rfl) (hm_ltN hN rfl) rfl rfl (hm_le rfl) (hm_ltN hN rfl) (by decide) ?_
      show R 96 88 [(10, .int (((4 * (v1 - 2)) + (if (if v5 < v7 then (0 : Int32) else 1) = 0 then (0 : Int32) else 1)) + (if (if v6 < v7 then (0 : Int32) else 1) = 0 then (0 : Int32) else 2))), (9, .int (if v6 < v7 then (0 : Int32) else 1)), (8, .int (if v5 < v7 then (0 : Int32) else 1)), (7, .int v7), (6, .int v6), (5, .int v5), (4, .int v4), (0, .ref 3), (1, .int v1), (2, .int v2), (3, .int v3)] [.int (T_178 s 7 16 (((4 * (v1 - 2)) + (if (if v5 < v7 then (0 : Int32) else 1) = 0 then (0 : Int32) else 1)) + (if (if v6 < v7 then (0 : Int32) else 1) = 0 then (0 : Int32) else 2)))] (N, hm_sh L g, s) _ Q
      refine hm_st hR (hm_st hR (?_))
      show R 96 92 [(11, .int (T_178 s 7 16 (((4 * (v1 - 2)) + (if (if v5 < v7 then (0 : Int32) else 1) = 0 then (0 : Int32) else 1)) + (if (if v6 < v7 then (0 : Int32) else 1) = 0 then (0 : Int32) else 2)))), (10, .int (((4 * (v1 - 2)) + (if (if v5 < v7 then (0 : Int32) else 1) = 0 then (0 : Int32) else 1)) + (if (if v6 < v7 then (0 : Int32) else 1) = 0 then (0 : Int32) else 2))), (9, .int (if v6 < v7 then (0 : Int32) else 1)), (8, .int (if v5 < v7 then (0 : Int32) else 1)), (7, .int v7), (6, .int v6), (5, .int v5), (4, .int v4), (0, .ref 3), (1, .int v1), (2, .int v2), (3, .int v3)] [.int (if v5 < v7 then (0 : Int32) else 1)] (N, hm_sh L g, s) _ Q
      suffices G : ∀ w : Int32, w = (if (if v5 < v7 then (0 : Int32) else 1) = 0 then (v5 : Int32) else (v5 - v7)) → R 96 105 [(11, .int (T_178 s 7 16 (((4 * (v1 - 2)) + (if (if v5 < v7 then (0 : Int32) else 1) = 0 then (0 : Int32) else 1)) + (if (if v6 < v7 then (0 : Int32) else 1) = 0 then (0 : Int32) else 2)))), (10, .int (((4 * (v1 - 2)) + (if (if v5 < v7 then (0 : Int32) else 1) = 0 then (0 : Int32) else 1)) + (if (if v6 < v7 then (0 : Int32) else 1) = 0 then (0 : Int32) else 2))), (9, .int (if v6 < v7 then (0 : Int32) else 1)), (8, .int (if v5 < v7 then (0 : Int32) else 1)), (7, .int v7), (6, .int v6), (5, .int v5), (4, .int v4), (0, .ref 3), (1, .int v1), (2, .int v2), (3, .int v3)] [.int w] (N, hm_sh L g, s) (b.1 - 0, b.2 - 0) Q by
        show R 96 92 [(11, .int (T_178 s 7 16 (((4 * (v1 - 2)) + (if (if v5 < v7 then (0 : Int32) else 1) = 0 then (0 : Int32) else 1)) + (if (if v6 < v7 then (0 : Int32) else 1) = 0 then (0 : Int32) else 2)))), (10, .int (((4 * (v1 - 2)) + (if (if v5 < v7 then (0 : Int32) else 1) = 0 then (0 : Int32) else 1)) + (if (if v6 < v7 then (0 : Int32) else 1) = 0 then (0 : Int32) else 2))), (9, .int (if v6 < v7 then (0 : Int32) else 1)), (8, .int (if v5 < v7 then (0 : Int32) else 1)), (7, .int v7), (6, .int v6), (5, .int v5), (4, .int v4), (0, .ref 3), (1, .int v1), (2, .int v2), (3, .int v3)] [.int (if v5 < v7 then (0 : Int32) else 1)] (N, hm_sh L g, s) _ Q
        refine hm_st hR ⟨fun c => ?_, fun c => ?_⟩
        · exact hm_st hR (G _ (if_pos c).symm)
        · exact hm_st hR (hm_st hR (hm_st hR (hm_st hR (G _ (if_neg c).symm))))
      intro w hw
      subst hw
      show R 96 105 [(11, .int (T_178 s 7 16 (((4 * (v1 - 2)) + (if (if v5 < v7 then (0 : Int32) else 1) = 0 then (0 : Int32) else 1)) + (if (if v6 < v7 then (0 : Int32) else 1) = 0 then (0 : Int32) else 2)))), (10, .int (((4 * (v1 - 2)) + (if (if v5 < v7 then (0 : Int32) else 1) = 0 then (0 : Int32) else 1)) + (if (if v6 < v7 then (0 : Int32) else 1) = 0 then (0 : Int32) else 2))), (9, .int (if v6 < v7 then (0 : Int32) else 1)), (8, .int (if v5 < v7 then (0 : Int32) else 1)), (7, .int v7), (6, .int v6), (5, .int v5), (4, .int v4), (0, .ref 3), (1, .int v1), (2, .int v2), (3, .int v3)] [.int (if (if v5 < v7 then (0 : Int32) else 1) = 0 then (v5 : Int32) else (v5 - v7))] (N, hm_sh L g, s) _ Q
      refine hm_st hR (hm_st hR (?_))
      show R 96 109 [(12, .int (if (if v5 < v7 then (0 : Int32) else 1) = 0 then (v5 : Int32) else (v5 - v7))), (11, .int (T_178 s 7 16 (((4 * (v1 - 2)) + (if (if v5 < v7 then (0 : Int32) else 1) = 0 then (0 : Int32) else 1)) + (if (if v6 < v7 then (0 : Int32) else 1) = 0 then (0 : Int32) else 2)))), (10, .int (((4 * (v1 - 2)) + (if (if v5 < v7 then (0 : Int32) else 1) = 0 then (0 : Int32) else 1)) + (if (if v6 < v7 then (0 : Int32) else 1) = 0 then (0 : Int32) else 2))), (9, .int (if v6 < v7 then (0 : Int32) else 1)), (8, .int (if v5 < v7 then (0 : Int32) else 1)), (7, .int v7), (6, .int v6), (5, .int v5), (4, .int v4), (0, .ref 3), (1, .int v1), (2, .int v2), (3, .int v3)] [.int (if v6 < v7 then (0 : Int32) else 1)] (N, hm_sh L g, s) _ Q
      suffices G : ∀ w : Int32, w = (if (if v6 < v7 then (0 : Int32) else 1) = 0 then (v6 : Int32) else (v6 - v7)) → R 96 122 [(12, .int (if (if v5 < v7 then (0 : Int32) else 1) = 0 then (v5 : Int32) else (v5 - v7))), (11, .int (T_178 s 7 16 (((4 * (v1 - 2)) + (if (if v5 < v7 then (0 : Int32) else 1) = 0 then (0 : Int32) else 1)) + (if (if v6 < v7 then (0 : Int32) else 1) = 0 then (0 : Int32) else 2)))), (10, .int (((4 * (v1 - 2)) + (if (if v5 < v7 then (0 : Int32) else 1) = 0 then (0 : Int32) else 1)) + (if (if v6 < v7 then (0 : Int32) else 1) = 0 then (0 : Int32) else 2))), (9, .int (if v6 < v7 then (0 : Int32) else 1)), (8, .int (if v5 < v7 then (0 : Int32) else 1)), (7, .int v7), (6, .int v6), (5, .int v5), (4, .int v4), (0, .ref 3), (1, .int v1), (2, .int v2), (3, .int v3)] [.int w] (N, hm_sh L g, s) (b.1 - 0, b.2 - 0) Q by
        show R 96 109 [(12, .int (if (if v5 < v7 then (0 : Int32) else 1) = 0 then (v5 : Int32) else (v5 - v7))), (11, .int (T_178 s 7 16 (((4 * (v1 - 2)) + (if (if v5 < v7 then (0 : Int32) else 1) = 0 then (0 : Int32) else 1)) + (if (if v6 < v7 then (0 : Int32) else 1) = 0 then (0 : Int32) else 2)))), (10, .int (((4 * (v1 - 2)) + (if (if v5 < v7 then (0 : Int32) else 1) = 0 then (0 : Int32) else 1)) + (if (if v6 < v7 then (0 : Int32) else 1) = 0 then (0 : Int32) else 2))), (9, .int (if v6 < v7 then (0 : Int32) else 1)), (8, .int (if v5 < v7 then (0 : Int32) else 1)), (7, .int v7), (6, .int v6), (5, .int v5), (4, .int v4), (0, .ref 3), (1, .int v1), (2, .int v2), (3, .int v3)] [.int (if v6 < v7 then (0 : Int32) else 1)] (N, hm_sh L g, s) _ Q
        refine hm_st hR ⟨fun c => ?_, fun c => ?_⟩
        · exact hm_st hR (G _ (if_pos c).symm)
        · exact hm_st hR (hm_st hR (hm_st hR (hm_st hR (G _ (if_neg c).symm))))
      intro w hw
      subst hw
      show R 96 122 [(12, .int (if (if v5 < v7 then (0 : Int32) else 1) = 0 then (v5 : Int32) else (v5 - v7))), (11, .int (T_178 s 7 16 (((4 * (v1 - 2)) + (if (if v5 < v7 then (0 : Int32) else 1) = 0 then (0 : Int32) else 1)) + (if (if v6 < v7 then (0 : Int32) else 1) = 0 then (0 : Int32) else 2)))), (10, .int (((4 * (v1 - 2)) + (if (if v5 < v7 then (0 : Int32) else 1) = 0 then (0 : Int32) else 1)) + (if (if v6 < v7 then (0 : Int32) else 1) = 0 then (0 : Int32) else 2))), (9, .int (if v6 < v7 then (0 : Int32) else 1)), (8, .int (if v5 < v7 then (0 : Int32) else 1)), (7, .int v7), (6, .int v6), (5, .int v5), (4, .int v4), (0, .ref 3), (1, .int v1), (2, .int v2), (3, .int v3)] [.int (if (if v6 < v7 then (0 : Int32) else 1) = 0 then (v6 : Int32) else (v6 - v7))] (N, hm_sh L g, s) _ Q
      refine hm_st hR (hm_st hR (hm_st hR (hm_st hR (?_))))
      show R 96 128 [(13, .int (if (if v6 < v7 then (0 : Int32) else 1) = 0 then (v6 : Int32) else (v6 - v7))), (12, .int (if (if v5 < v7 then (0 : Int32) else 1) = 0 then (v5 : Int32) else (v5 - v7))), (11, .int (T_178 s 7 16 (((4 * (v1 - 2)) + (if (if v5 < v7 then (0 : Int32) else 1) = 0 then (0 : Int32) else 1)) + (if (if v6 < v7 then (0 : Int32) else 1) = 0 then (0 : Int32) else 2)))), (10, .int (((4 * (v1 - 2)) + (if (if v5 < v7 then (0 : Int32) else 1) = 0 then (0 : Int32) else 1)) + (if (if v6 < v7 then (0 : Int32) else 1) = 0 then (0 : Int32) else 2))), (9, .int (if v6 < v7 then (0 : Int32) else 1)), (8, .int (if v5 < v7 then (0 : Int32) else 1)), (7, .int v7), (6, .int v6), (5, .int v5), (4, .int v4), (0, .ref 3), (1, .int v1), (2, .int v2), (3, .int v3)] [.int ((T_178 s 7 16 (((4 * (v1 - 2)) + (if (if v5 < v7 then (0 : Int32) else 1) = 0 then (0 : Int32) else 1)) + (if (if v6 < v7 then (0 : Int32) else 1) = 0 then (0 : Int32) else 2))) &&& 1)] (N, hm_sh L g, s) _ Q
      suffices G : ∀ w : Int32, w = (if ((T_178 s 7 16 (((4 * (v1 - 2)) + (if (if v5 < v7 then (0 : Int32) else 1) = 0 then (0 : Int32) else 1)) + (if (if v6 < v7 then (0 : Int32) else 1) = 0 then (0 : Int32) else 2))) &&& 1) = 0 then ((if (if v5 < v7 then (0 : Int32) else 1) = 0 then (v5 : Int32) else (v5 - v7)) : Int32) else (if (if v6 < v7 then (0 : Int32) else 1) = 0 then (v6 : Int32) else (v6 - v7))) → R 96 138 [(13, .int (if (if v6 < v7 then (0 : Int32) else 1) = 0 then (v6 : Int32) else (v6 - v7))), (12, .int (if (if v5 < v7 then (0 : Int32) else 1) = 0 then (v5 : Int32) else (v5 - v7))), (11, .int (T_178 s 7 16 (((4 * (v1 - 2)) + (if (if v5 < v7 then (0 : Int32) else 1) = 0 then (0 : Int32) else 1)) + (if (if v6 < v7 then (0 : Int32) else 1) = 0 then (0 : Int32) else 2)))), (10, .int (((4 * (v1 - 2)) + (if (if v5 < v7 then (0 : Int32) else 1) = 0 then (0 : Int32) else 1)) + (if (if v6 < v7 then (0 : Int32) else 1) = 0 then (0 : Int32) else 2))), (9, .int (if v6 < v7 then (0 : Int32) else 1)), (8, .int (if v5 < v7 then (0 : Int32) else 1)), (7, .int v7), (6, .int v6), (5, .int v5), (4, .int v4), (0, .ref 3), (1, .int v1), (2, .int v2), (3, .int v3)] [.int w] (N, hm_sh L g, s) (b.1 - 0, b.2 - 0) Q by
        show R 96 128 [(13, .int (if (if v6 < v7 then (0 : Int32) else 1) = 0 then (v6 : Int32) else (v6 - v7))), (12, .int (if (if v5 < v7 then (0 : Int32) else 1) = 0 then (v5 : Int32) else (v5 - v7))), (11, .int (T_178 s 7 16 (((4 * (v1 - 2)) + (if (if v5 < v7 then (0 : Int32) else 1) = 0 then (0 : Int32) else 1)) + (if (if v6 < v7 then (0 : Int32) else 1) = 0 then (0 : Int32) else 2)))), (10, .int (((4 * (v1 - 2)) + (if (if v5 < v7 then (0 : Int32) else 1) = 0 then (0 : Int32) else 1)) + (if (if v6 < v7 then (0 : Int32) else 1) = 0 then (0 : Int32) else 2))), (9, .int (if v6 < v7 then (0 : Int32) else 1)), (8, .int (if v5 < v7 then (0 : Int32) else 1)), (7, .int v7), (6, .int v6), (5, .int v5), (4, .int v4), (0, .ref 3), (1, .int v1), (2, .int v2), (3, .int v3)] [.int ((T_178 s 7 16 (((4 * (v1 - 2)) + (if (if v5 < v7 then (0 : Int32) else 1) = 0 then (0 : Int32) else 1)) + (if (if v6 < v7 then (0 : Int32) else 1) = 0 then (0 : Int32) else 2))) &&& 1)] (N, hm_sh L g, s) _ Q
        refine hm_st hR ⟨fun c => ?_, fun c => ?_⟩
        · exact hm_st hR (G _ (if_neg c).symm)
        · exact hm_st hR (hm_st hR (G _ (if_pos c).symm))
      intro w hw
      subst hw
      show R 96 138 [(13, .int (if (if v6 < v7 then (0 : Int32) else 1) = 0 then (v6 : Int32) else (v6 - v7))), (12, .int (if (if v5 < v7 then (0 : Int32) else 1) = 0 then (v5 : Int32) else (v5 - v7))), (11, .int (T_178 s 7 16 (((4 * (v1 - 2)) + (if (if v5 < v7 then (0 : Int32) else 1) = 0 then (0 : Int32) else 1)) + (if (if v6 < v7 then (0 : Int32) else 1) = 0 then (0 : Int32) else 2)))), (10, .int (((4 * (v1 - 2)) + (if (if v5 < v7 then (0 : Int32) else 1) = 0 then (0 : Int32) else 1)) + (if (if v6 < v7 then (0 : Int32) else 1) = 0 then (0 : Int32) else 2))), (9, .int (if v6 < v7 then (0 : Int32) else 1)), (8, .int (if v5 < v7 then (0 : Int32) else 1)), (7, .int v7), (6, .int v6), (5, .int v5), (4, .int v4), (0, .ref 3), (1, .int v1), (2, .int v2), (3, .int v3)] [.int (if ((T_178 s 7 16 (((4 * (v1 - 2)) + (if (if v5 < v7 then (0 : Int32) else 1) = 0 then (0 : Int32) else 1)) + (if (if v6 < v7 then (0 : Int32) else 1) = 0 then (0 : Int32) else 2))) &&& 1) = 0 then ((if (if v5 < v7 then (0 : Int32) else 1) = 0 then (v5 : Int32) else (v5 - v7)) : Int32) else (if (if v6 < v7 then (0 : Int32) else 1) = 0 then (v6 : Int32) else (v6 - v7)))] (N, hm_sh L g, s) _ Q
      refine hm_st hR (hm_st hR (hm_st hR (hm_st hR (?_))))
      show R 96 144 [(5, .int (if ((T_178 s 7 16 (((4 * (v1 - 2)) + (if (if v5 < v7 then (0 : Int32) else 1) = 0 then (0 : Int32) else 1)) + (if (if v6 < v7 then (0 : Int32) else 1) = 0 then (0 : Int32) else 2))) &&& 1) = 0 then ((if (if v5 < v7 then (0 : Int32) else 1) = 0 then (v5 : Int32) else (v5 - v7)) : Int32) else (if (if v6 < v7 then (0 : Int32) else 1) = 0 then (v6 : Int32) else (v6 - v7)))), (13, .int (if (if v6 < v7 then (0 : Int32) else 1) = 0 then (v6 : Int32) else (v6 - v7))), (12, .int (if (if v5 < v7 then (0 : Int32) else 1) = 0 then (v5 : Int32) else (v5 - v7))), (11, .int (T_178 s 7 16 (((4 * (v1 - 2)) + (if (if v5 < v7 then (0 : Int32) else 1) = 0 then (0 : Int32) else 1)) + (if (if v6 < v7 then (0 : Int32) else 1) = 0 then (0 : Int32) else 2)))), (10, .int (((4 * (v1 - 2)) + (if (if v5 < v7 then (0 : Int32) else 1) = 0 then (0 : Int32) else 1)) + (if (if v6 < v7 then (0 : Int32) else 1) = 0 then (0 : Int32) else 2))), (9, .int (if v6 < v7 then (0 : Int32) else 1)), (8, .int (if v5 < v7 then (0 : Int32) else 1)), (7, .int v7), (6, .int v6), (4, .int v4), (0, .ref 3), (1, .int v1), (2, .int v2), (3, .int v3)] [.int ((T_178 s 7 16 (((4 * (v1 - 2)) + (if (if v5 < v7 then (0 : Int32) else 1) = 0 then (0 : Int32) else 1)) + (if (if v6 < v7 then (0 : Int32) else 1) = 0 then (0 : Int32) else 2))) &&& 1)] (N, hm_sh L g, s) _ Q
      suffices G : ∀ w : Int32, w = (if ((T_178 s 7 16 (((4 * (v1 - 2)) + (if (if v5 < v7 then (0 : Int32) else 1) = 0 then (0 : Int32) else 1)) + (if (if v6 < v7 then (0 : Int32) else 1) = 0 then (0 : Int32) else 2))) &&& 1) = 0 then ((if (if v6 < v7 then (0 : Int32) else 1) = 0 then (v6 : Int32) else (v6 - v7)) : Int32) else (if (if v5 < v7 then (0 : Int32) else 1) = 0 then (v5 : Int32) else (v5 - v7))) → R 96 154 [(5, .int (if ((T_178 s 7 16 (((4 * (v1 - 2)) + (if (if v5 < v7 then (0 : Int32) else 1) = 0 then (0 : Int32) else 1)) + (if (if v6 < v7 then (0 : Int32) else 1) = 0 then (0 : Int32) else 2))) &&& 1) = 0 then ((if (if v5 < v7 then (0 : Int32) else 1) = 0 then (v5 : Int32) else (v5 - v7)) : Int32) else (if (if v6 < v7 then (0 : Int32) else 1) = 0 then (v6 : Int32) else (v6 - v7)))), (13, .int (if (if v6 < v7 then (0 : Int32) else 1) = 0 then (v6 : Int32) else (v6 - v7))), (12, .int (if (if v5 < v7 then (0 : Int32) else 1) = 0 then (v5 : Int32) else (v5 - v7))), (11, .int (T_178 s 7 16 (((4 * (v1 - 2)) + (if (if v5 < v7 then (0 : Int32) else 1) = 0 then (0 : Int32) else 1)) + (if (if v6 < v7 then (0 : Int32) else 1) = 0 then (0 : Int32) else 2)))), (10, .int (((4 * (v1 - 2)) + (if (if v5 < v7 then (0 : Int32) else 1) = 0 then (0 : Int32) else 1)) + (if (if v6 < v7 then (0 : Int32) else 1) = 0 then (0 : Int32) else 2))), (9, .int (if v6 < v7 then (0 : Int32) else 1)), (8, .int (if v5 < v7 then (0 : Int32) else 1)), (7, .int v7), (6, .int v6), (4, .int v4), (0, .ref 3), (1, .int v1), (2, .int v2), (3, .int v3)] [.int w] (N, hm_sh L g, s) (b.1 - 0, b.2 - 0) Q by
        show R 96 144 [(5, .int (if ((T_178 s 7 16 (((4 * (v1 - 2)) + (if (if v5 < v7 then (0 : Int32) else 1) = 0 then (0 : Int32) else 1)) + (if (if v6 < v7 then (0 : Int32) else 1) = 0 then (0 : Int32) else 2))) &&& 1) = 0 then ((if (if v5 < v7 then (0 : Int32) else 1) = 0 then (v5 : Int32) else (v5 - v7)) : Int32) else (if (if v6 < v7 then (0 : Int32) else 1) = 0 then (v6 : Int32) else (v6 - v7)))), (13, .int (if (if v6 < v7 then (0 : Int32) else 1) = 0 then (v6 : Int32) else (v6 - v7))), (12, .int (if (if v5 < v7 then (0 : Int32) else 1) = 0 then (v5 : Int32) else (v5 - v7))), (11, .int (T_178 s 7 16 (((4 * (v1 - 2)) + (if (if v5 < v7 then (0 : Int32) else 1) = 0 then (0 : Int32) else 1)) + (if (if v6 < v7 then (0 : Int32) else 1) = 0 then (0 : Int32) else 2)))), (10, .int (((4 * (v1 - 2)) + (if (if v5 < v7 then (0 : Int32) else 1) = 0 then (0 : Int32) else 1)) + (if (if v6 < v7 then (0 : Int32) else 1) = 0 then (0 : Int32) else 2))), (9, .int (if v6 < v7 then (0 : Int32) else 1)), (8, .int (if v5 < v7 then (0 : Int32) else 1)), (7, .int v7), (6, .int v6), (4, .int v4), (0, .ref 3), (1, .int v1), (2, .int v2), (3, .int v3)] [.int ((T_178 s 7 16 (((4 * (v1 - 2)) + (if (if v5 < v7 then (0 : Int32) else 1) = 0 then (0 : Int32) else 1)) + (if (if v6 < v7 then (0 : Int32) else 1) = 0 then (0 : Int32) else 2))) &&& 1)] (N, hm_sh L g, s) _ Q
        refine hm_st hR ⟨fun c => ?_, fun c => ?_⟩
        · exact hm_st hR (G _ (if_neg c).symm)
        · exact hm_st hR (hm_st hR (G _ (if_pos c).symm))
      intro w hw
      subst hw
      show R 96 154 [(5, .int (if ((T_178 s 7 16 (((4 * (v1 - 2)) + (if (if v5 < v7 then (0 : Int32) else 1) = 0 then (0 : Int32) else 1)) + (if (if v6 < v7 then (0 : Int32) else 1) = 0 then (0 : Int32) else 2))) &&& 1) = 0 then ((if (if v5 < v7 then (0 : Int32) else 1) = 0 then (v5 : Int32) else (v5 - v7)) : Int32) else (if (if v6 < v7 then (0 : Int32) else 1) = 0 then (v6 : Int32) else (v6 - v7)))), (13, .int (if (if v6 < v7 then (0 : Int32) else 1) = 0 then (v6 : Int32) else (v6 - v7))), (12, .int (if (if v5 < v7 then (0 : Int32) else 1) = 0 then (v5 : Int32) else (v5 - v7))), (11, .int (T_178 s 7 16 (((4 * (v1 - 2)) + (if (if v5 < v7 then (0 : Int32) else 1) = 0 then (0 : Int32) else 1)) + (if (if v6 < v7 then (0 : Int32) else 1) = 0 then (0 : Int32) else 2)))), (10, .int (((4 * (v1 - 2)) + (if (if v5 < v7 then (0 : Int32) else 1) = 0 then (0 : Int32) else 1)) + (if (if v6 < v7 then (0 : Int32) else 1) = 0 then (0 : Int32) else 2))), (9, .int (if v6 < v7 then (0 : Int32) else 1)), (8, .int (if v5 < v7 then (0 : Int32) else 1)), (7, .int v7), (6, .int v6), (4, .int v4), (0, .ref 3), (1, .int v1), (2, .int v2), (3, .int v3)] [.int (if ((T_178 s 7 16 (((4 * (v1 - 2)) + (if (if v5 < v7 then (0 : Int32) else 1) = 0 then (0 : Int32) else 1)) + (if (if v6 < v7 then (0 : Int32) else 1) = 0 then (0 : Int32) else 2))) &&& 1) = 0 then ((if (if v6 < v7 then (0 : Int32) else 1) = 0 then (v6 : Int32) else (v6 - v7)) : Int32) else (if (if v5 < v7 then (0 : Int32) else 1) = 0 then (v5 : Int32) else (v5 - v7)))] (N, hm_sh L g, s) _ Q
      refine hm_st hR (hm_st hR (hm_st hR (hm_st hR (?_))))
      show R 96 160 [(6, .int (if ((T_178 s 7 16 (((4 * (v1 - 2)) + (if (if v5 < v7 then (0 : Int32) else 1) = 0 then (0 : Int32) else 1)) + (if (if v6 < v7 then (0 : Int32) else 1) = 0 then (0 : Int32) else 2))) &&& 1) = 0 then ((if (if v6 < v7 then (0 : Int32) else 1) = 0 then (v6 : Int32) else (v6 - v7)) : Int32) else (if (if v5 < v7 then (0 : Int32) else 1) = 0 then (v5 : Int32) else (v5 - v7)))), (5, .int (if ((T_178 s 7 16 (((4 * (v1 - 2)) + (if (if v5 < v7 then (0 : Int32) else 1) = 0 then (0 : Int32) else 1)) + (if (if v6 < v7 then (0 : Int32) else 1) = 0 then (0 : Int32) else 2))) &&& 1) = 0 then ((if (if v5 < v7 then (0 : Int32) else 1) = 0 then (v5 : Int32) else (v5 - v7)) : Int32) else (if (if v6 < v7 then (0 : Int32) else 1) = 0 then (v6 : Int32) else (v6 - v7)))), (13, .int (if (if v6 < v7 then (0 : Int32) else 1) = 0 then (v6 : Int32) else (v6 - v7))), (12, .int (if (if v5 < v7 then (0 : Int32) else 1) = 0 then (v5 : Int32) else (v5 - v7))), (11, .int (T_178 s 7 16 (((4 * (v1 - 2)) + (if (if v5 < v7 then (0 : Int32) else 1) = 0 then (0 : Int32) else 1)) + (if (if v6 < v7 then (0 : Int32) else 1) = 0 then (0 : Int32) else 2)))), (10, .int (((4 * (v1 - 2)) + (if (if v5 < v7 then (0 : Int32) else 1) = 0 then (0 : Int32) else 1)) + (if (if v6 < v7 then (0 : Int32) else 1) = 0 then (0 : Int32) else 2))), (9, .int (if v6 < v7 then (0 : Int32) else 1)), (8, .int (if v5 < v7 then (0 : Int32) else 1)), (7, .int v7), (4, .int v4), (0, .ref 3), (1, .int v1), (2, .int v2), (3, .int v3)] [.int ((T_178 s 7 16 (((4 * (v1 - 2)) + (if (if v5 < v7 then (0 : Int32) else 1) = 0 then (0 : Int32) else 1)) + (if (if v6 < v7 then (0 : Int32) else 1) = 0 then (0 : Int32) else 2))) &&& 2)] (N, hm_sh L g, s) _ Q
      suffices G : ∀ w : Int32, w = (if ((T_178 s 7 16 (((4 * (v1 - 2)) + (if (if v5 < v7 then (0 : Int32) else 1) = 0 then (0 : Int32) else 1)) + (if (if v6 < v7 then (0 : Int32) else 1) = 0 then (0 : Int32) else 2))) &&& 2) = 0 then ((if ((T_178 s 7 16 (((4 * (v1 - 2)) + (if (if v5 < v7 then (0 : Int32) else 1) = 0 then (0 : Int32) else 1)) + (if (if v6 < v7 then (0 : Int32) else 1) = 0 then (0 : Int32) else 2))) &&& 1) = 0 then ((if (if v5 < v7 then (0 : Int32) else 1) = 0 then (v5 : Int32) else (v5 - v7)) : Int32) else (if (if v6 < v7 then (0 : Int32) else 1) = 0 then (v6 : Int32) else (v6 - v7))) : Int32) else ((v7 - 1) - (if ((T_178 s 7 16 (((4 * (v1 - 2)) + (if (if v5 < v7 then (0 : Int32) else 1) = 0 then (0 : Int32) else 1)) + (if (if v6 < v7 then (0 : Int32) else 1) = 0 then (0 : Int32) else 2))) &&& 1) = 0 then ((if (if v5 < v7 then (0 : Int32) else 1) = 0 then (v5 : Int32) else (v5 - v7)) : Int32) else (if (if v6 < v7 then (0 : Int32) else 1) = 0 then (v6 : Int32) else (v6 - v7))))) → R 96 175 [(6, .int (if ((T_178 s 7 16 (((4 * (v1 - 2)) + (if (if v5 < v7 then (0 : Int32) else 1) = 0 then (0 : Int32) else 1)) + (if (if v6 < v7 then (0 : Int32) else 1) = 0 then (0 : Int32) else 2))) &&& 1) = 0 then ((if (if v6 < v7 then (0 : Int32) else 1) = 0 then (v6 : Int32) else (v6 - v7)) : Int32) else (if (if v5 < v7 then (0 : Int32) else 1) = 0 then (v5 : Int32) else (v5 - v7)))), (5, .int (if ((T_178 s 7 16 (((4 * (v1 - 2)) + (if (if v5 < v7 then (0 : Int32) else 1) = 0 then (0 : Int32) else 1)) + (if (if v6 < v7 then (0 : Int32) else 1) = 0 then (0 : Int32) else 2))) &&& 1) = 0 then ((if (if v5 < v7 then (0 : Int32) else 1) = 0 then (v5 : Int32) else (v5 - v7)) : Int32) else (if (if v6 < v7 then (0 : Int32) else 1) = 0 then (v6 : Int32) else (v6 - v7)))), (13, .int (if (if v6 < v7 then (0 : Int32) else 1) = 0 then (v6 : Int32) else (v6 - v7))), (12, .int (if (if v5 < v7 then (0 : Int32) else 1) = 0 then (v5 : Int32) else (v5 - v7))), (11, .int (T_178 s 7 16 (((4 * (v1 - 2)) + (if (if v5 < v7 then (0 : Int32) else 1) = 0 then (0 : Int32) else 1)) + (if (if v6 < v7 then (0 : Int32) else 1) = 0 then (0 : Int32) else 2)))), (10, .int (((4 * (v1 - 2)) + (if (if v5 < v7 then (0 : Int32) else 1) = 0 then (0 : Int32) else 1)) + (if (if v6 < v7 then (0 : Int32) else 1) = 0 then (0 : Int32) else 2))), (9, .int (if v6 < v7 then (0 : Int32) else 1)), (8, .int (if v5 < v7 then (0 : Int32) else 1)), (7, .int v7), (4, .int v4), (0, .ref 3), (1, .int v1), (2, .int v2), (3, .int v3)] [.int w] (N, hm_sh L g, s) (b.1 - 0, b.2 - 0) Q by
        show R 96 160 [(6, .int (if ((T_178 s 7 16 (((4 * (v1 - 2)) + (if (if v5 < v7 then (0 : Int32) else 1) = 0 then (0 : Int32) else 1)) + (if (if v6 < v7 then (0 : Int32) else 1) = 0 then (0 : Int32) else 2))) &&& 1) = 0 then ((if (if v6 < v7 then (0 : Int32) else 1) = 0 then (v6 : Int32) else (v6 - v7)) : Int32) else (if (if v5 < v7 then (0 : Int32) else 1) = 0 then (v5 : Int32) else (v5 - v7)))), (5, .int (if ((T_178 s 7 16 (((4 * (v1 - 2)) + (if (if v5 < v7 then (0 : Int32) else 1) = 0 then (0 : Int32) else 1)) + (if (if v6 < v7 then (0 : Int32) else 1) = 0 then (0 : Int32) else 2))) &&& 1) = 0 then ((if (if v5 < v7 then (0 : Int32) else 1) = 0 then (v5 : Int32) else (v5 - v7)) : Int32) else (if (if v6 < v7 then (0 : Int32) else 1) = 0 then (v6 : Int32) else (v6 - v7)))), (13, .int (if (if v6 < v7 then (0 : Int32) else 1) = 0 then (v6 : Int32) else (v6 - v7))), (12, .int (if (if v5 < v7 then (0 : Int32) else 1) = 0 then (v5 : Int32) else (v5 - v7))), (11, .int (T_178 s 7 16 (((4 * (v1 - 2)) + (if (if v5 < v7 then (0 : Int32) else 1) = 0 then (0 : Int32) else 1)) + (if (if v6 < v7 then (0 : Int32) else 1) = 0 then (0 : Int32) else 2)))), (10, .int (((4 * (v1 - 2)) + (if (if v5 < v7 then (0 : Int32) else 1) = 0 then (0 : Int32) else 1)) + (if (if v6 < v7 then (0 : Int32) else 1) = 0 then (0 : Int32) else 2))), (9, .int (if v6 < v7 then (0 : Int32) else 1)), (8, .int (if v5 < v7 then (0 : Int32) else 1)), (7, .int v7), (4, .int v4), (0, .ref 3), (1, .int v1), (2, .int v2), (3, .int v3)] [.int ((T_178 s 7 16 (((4 * (v1 - 2)) + (if (if v5 < v7 then (0 : Int32) else 1) = 0 then (0 : Int32) else 1)) + (if (if v6 < v7 then (0 : Int32) else 1) = 0 then (0 : Int32) else 2))) &&& 2)] (N, hm_sh L g, s) _ Q
        refine hm_st hR ⟨fun c => ?_, fun c => ?_⟩
        · exact hm_st hR (hm_st hR (hm_st hR (hm_st hR (hm_st hR (G _ (if_neg c).symm)))))
        · exact hm_st hR (hm_st hR (G _ (if_pos c).symm))
      intro w hw
      subst hw
      show R 96 175 [(6, .int (if ((T_178 s 7 16 (((4 * (v1 - 2)) + (if (if v5 < v7 then (0 : Int32) else 1) = 0 then (0 : Int32) else 1)) + (if (if v6 < v7 then (0 : Int32) else 1) = 0 then (0 : Int32) else 2))) &&& 1) = 0 then ((if (if v6 < v7 then (0 : Int32) else 1) = 0 then (v6 : Int32) else (v6 - v7)) : Int32) else (if (if v5 < v7 then (0 : Int32) else 1) = 0 then (v5 : Int32) else (v5 - v7)))), (5, .int (if ((T_178 s 7 16 (((4 * (v1 - 2)) + (if (if v5 < v7 then (0 : Int32) else 1) = 0 then (0 : Int32) else 1)) + (if (if v6 < v7 then (0 : Int32) else 1) = 0 then (0 : Int32) else 2))) &&& 1) = 0 then ((if (if v5 < v7 then (0 : Int32) else 1) = 0 then (v5 : Int32) else (v5 - v7)) : Int32) else (if (if v6 < v7 then (0 : Int32) else 1) = 0 then (v6 : Int32) else (v6 - v7)))), (13, .int (if (if v6 < v7 then (0 : Int32) else 1) = 0 then (v6 : Int32) else (v6 - v7))), (12, .int (if (if v5 < v7 then (0 : Int32) else 1) = 0 then (v5 : Int32) else (v5 - v7))), (11, .int (T_178 s 7 16 (((4 * (v1 - 2)) + (if (if v5 < v7 then (0 : Int32) else 1) = 0 then (0 : Int32) else 1)) + (if (if v6 < v7 then (0 : Int32) else 1) = 0 then (0 : Int32) else 2)))), (10, .int (((4 * (v1 - 2)) + (if (if v5 < v7 then (0 : Int32) else 1) = 0 then (0 : Int32) else 1)) + (if (if v6 < v7 then (0 : Int32) else 1) = 0 then (0 : Int32) else 2))), (9, .int (if v6 < v7 then (0 : Int32) else 1)), (8, .int (if v5 < v7 then (0 : Int32) else 1)), (7, .int v7), (4, .int v4), (0, .ref 3), (1, .int v1), (2, .int v2), (3, .int v3)] [.int (if ((T_178 s 7 16 (((4 * (v1 - 2)) + (if (if v5 < v7 then (0 : Int32) else 1) = 0 then (0 : Int32) else 1)) + (if (if v6 < v7 then (0 : Int32) else 1) = 0 then (0 : Int32) else 2))) &&& 2) = 0 then ((if ((T_178 s 7 16 (((4 * (v1 - 2)) + (if (if v5 < v7 then (0 : Int32) else 1) = 0 then (0 : Int32) else 1)) + (if (if v6 < v7 then (0 : Int32) else 1) = 0 then (0 : Int32) else 2))) &&& 1) = 0 then ((if (if v5 < v7 then (0 : Int32) else 1) = 0 then (v5 : Int32) else (v5 - v7)) : Int32) else (if (if v6 < v7 then (0 : Int32) else 1) = 0 then (v6 : Int32) else (v6 - v7))) : Int32) else ((v7 - 1) - (if ((T_178 s 7 16 (((4 * (v1 - 2)) + (if (if v5 < v7 then (0 : Int32) else 1) = 0 then (0 : Int32) else 1)) + (if (if v6 < v7 then (0 : Int32) else 1) = 0 then (0 : Int32) else 2))) &&& 1) = 0 then ((if (if v5 < v7 then (0 : Int32) else 1) = 0 then (v5 : Int32) else (v5 - v7)) : Int32) else (if (if v6 < v7 then (0 : Int32) else 1) = 0 then (v6 : Int32) else (v6 - v7)))))] (N, hm_sh L g, s) _ Q
      refine hm_st hR (hm_st hR (hm_st hR (hm_st hR (?_))))
      show R 96 181 [(5, .int (if ((T_178 s 7 16 (((4 * (v1 - 2)) + (if (if v5 < v7 then (0 : Int32) else 1) = 0 then (0 : Int32) else 1)) + (if (if v6 < v7 then (0 : Int32) else 1) = 0 then (0 : Int32) else 2))) &&& 2) = 0 then ((if ((T_178 s 7 16 (((4 * (v1 - 2)) + (if (if v5 < v7 then (0 : Int32) else 1) = 0 then (0 : Int32) else 1)) + (if (if v6 < v7 then (0 : Int32) else 1) = 0 then (0 : Int32) else 2))) &&& 1) = 0 then ((if (if v5 < v7 then (0 : Int32) else 1) = 0 then (v5 : Int32) else (v5 - v7)) : Int32) else (if (if v6 < v7 then (0 : Int32) else 1) = 0 then (v6 : Int32) else (v6 - v7))) : Int32) else ((v7 - 1) - (if ((T_178 s 7 16 (((4 * (v1 - 2)) + (if (if v5 < v7 then (0 : Int32) else 1) = 0 then (0 : Int32) else 1)) + (if (if v6 < v7 then (0 : Int32) else 1) = 0 then (0 : Int32) else 2))) &&& 1) = 0 then ((if (if v5 < v7 then (0 : Int32) else 1) = 0 then (v5 : Int32) else (v5 - v7)) : Int32) else (if (if v6 < v7 then (0 : Int32) else 1) = 0 then (v6 : Int32) else (v6 - v7)))))), (6, .int (if ((T_178 s 7 16 (((4 * (v1 - 2)) + (if (if v5 < v7 then (0 : Int32) else 1) = 0 then (0 : Int32) else 1)) + (if (if v6 < v7 then (0 : Int32) else 1) = 0 then (0 : Int32) else 2))) &&& 1) = 0 then ((if (if v6 < v7 then (0 : Int32) else 1) = 0 then (v6 : Int32) else (v6 - v7)) : Int32) else (if (if v5 < v7 then (0 : Int32) else 1) = 0 then (v5 : Int32) else (v5 - v7)))), (13, .int (if (if v6 < v7 then (0 : Int32) else 1) = 0 then (v6 : Int32) else (v6 - v7))), (12, .int (if (if v5 < v7 then (0 : Int32) else 1) = 0 then (v5 : Int32) else (v5 - v7))), (11, .int (T_178 s 7 16 (((4 * (v1 - 2)) + (if (if v5 < v7 then (0 : Int32) else 1) = 0 then (0 : Int32) else 1)) + (if (if v6 < v7 then (0 : Int32) else 1) = 0 then (0 : Int32) else 2)))), (10, .int (((4 * (v1 - 2)) + (if (if v5 < v7 then (0 : Int32) else 1) = 0 then (0 : Int32) else 1)) + (if (if v6 < v7 then (0 : Int32) else 1) = 0 then (0 : Int32) else 2))), (9, .int (if v6 < v7 then (0 : Int32) else 1)), (8, .int (if v5 < v7 then (0 : Int32) else 1)), (7, .int v7), (4, .int v4), (0, .ref 3), (1, .int v1), (2, .int v2), (3, .int v3)] [.int ((T_178 s 7 16 (((4 * (v1 - 2)) + (if (if v5 < v7 then (0 : Int32) else 1) = 0 then (0 : Int32) else 1)) + (if (if v6 < v7 then (0 : Int32) else 1) = 0 then (0 : Int32) else 2))) &&& 4)] (N, hm_sh L g, s) _ Q
      suffices G : ∀ w : Int32, w = (if ((T_178 s 7 16 (((4 * (v1 - 2)) + (if (if v5 < v7 then (0 : Int32) else 1) = 0 then (0 : Int32) else 1)) + (if (if v6 < v7 then (0 : Int32) else 1) = 0 then (0 : Int32) else 2))) &&& 4) = 0 then ((if ((T_178 s 7 16 (((4 * (v1 - 2)) + (if (if v5 < v7 then (0 : Int32) else 1) = 0 then (0 : Int32) else 1)) + (if (if v6 < v7 then (0 : Int32) else 1) = 0 then (0 : Int32) else 2))) &&& 1) = 0 then ((if (if v6 < v7 then (0 : Int32) else 1) = 0 then (v6 : Int32) else (v6 - v7)) : Int32) else (if (if v5 < v7 then (0 : Int32) else 1) = 0 then (v5 : Int32) else (v5 - v7))) : Int32) else ((v7 - 1) - (if ((T_178 s 7 16 (((4 * (v1 - 2)) + (if (if v5 < v7 then (0 : Int32) else 1) = 0 then (0 : Int32) else 1)) + (if (if v6 < v7 then (0 : Int32) else 1) = 0 then (0 : Int32) else 2))) &&& 1) = 0 then ((if (if v6 < v7 then (0 : Int32) else 1) = 0 then (v6 : Int32) else (v6 - v7)) : Int32) else (if (if v5 < v7 then (0 : Int32) else 1) = 0 then (v5 : Int32) else (v5 - v7))))) → R 96 196 [(5, .int (if ((T_178 s 7 16 (((4 * (v1 - 2)) + (if (if v5 < v7 then (0 : Int32) else 1) = 0 then (0 : Int32) else 1)) + (if (if v6 < v7 then (0 : Int32) else 1) = 0 then (0 : Int32) else 2))) &&& 2) = 0 then ((if ((T_178 s 7 16 (((4 * (v1 - 2)) + (if (if v5 < v7 then (0 : Int32) else 1) = 0 then (0 : Int32) else 1)) + (if (if v6 < v7 then (0 : Int32) else 1) = 0 then (0 : Int32) else 2))) &&& 1) = 0 then ((if (if v5 < v7 then (0 : Int32) else 1) = 0 then (v5 : Int32) else (v5 - v7)) : Int32) else (if (if v6 < v7 then (0 : Int32) else 1) = 0 then (v6 : Int32) else (v6 - v7))) : Int32) else ((v7 - 1) - (if ((T_178 s 7 16 (((4 * (v1 - 2)) + (if (if v5 < v7 then (0 : Int32) else 1) = 0 then (0 : Int32) else 1)) + (if (if v6 < v7 then (0 : Int32) else 1) = 0 then (0 : Int32) else 2))) &&& 1) = 0 then ((if (if v5 < v7 then (0 : Int32) else 1) = 0 then (v5 : Int32) else (v5 - v7)) : Int32) else (if (if v6 < v7 then (0 : Int32) else 1) = 0 then (v6 : Int32) else (v6 - v7)))))), (6, .int (if ((T_178 s 7 16 (((4 * (v1 - 2)) + (if (if v5 < v7 then (0 : Int32) else 1) = 0 then (0 : Int32) else 1)) + (if (if v6 < v7 then (0 : Int32) else 1) = 0 then (0 : Int32) else 2))) &&& 1) = 0 then ((if (if v6 < v7 then (0 : Int32) else 1) = 0 then (v6 : Int32) else (v6 - v7)) : Int32) else (if (if v5 < v7 then (0 : Int32) else 1) = 0 then (v5 : Int32) else (v5 - v7)))), (13, .int (if (if v6 < v7 then (0 : Int32) else 1) = 0 then (v6 : Int32) else (v6 - v7))), (12, .int (if (if v5 < v7 then (0 : Int32) else 1) = 0 then (v5 : Int32) else (v5 - v7))), (11, .int (T_178 s 7 16 (((4 * (v1 - 2)) + (if (if v5 < v7 then (0 : Int32) else 1) = 0 then (0 : Int32) else 1)) + (if (if v6 < v7 then (0 : Int32) else 1) = 0 then (0 : Int32) else 2)))), (10, .int (((4 * (v1 - 2)) + (if (if v5 < v7 then (0 : Int32) else 1) = 0 then (0 : Int32) else 1)) + (if (if v6 < v7 then (0 : Int32) else 1) = 0 then (0 : Int32) else 2))), (9, .int (if v6 < v7 then (0 : Int32) else 1)), (8, .int (if v5 < v7 then (0 : Int32) else 1)), (7, .int v7), (4, .int v4), (0, .ref 3), (1, .int v1), (2, .int v2), (3, .int v3)] [.int w] (N, hm_sh L g, s) (b.1 - 0, b.2 - 0) Q by
        show R 96 181 [(5, .int (if ((T_178 s 7 16 (((4 * (v1 - 2)) + (if (if v5 < v7 then (0 : Int32) else 1) = 0 then (0 : Int32) else 1)) + (if (if v6 < v7 then (0 : Int32) else 1) = 0 then (0 : Int32) else 2))) &&& 2) = 0 then ((if ((T_178 s 7 16 (((4 * (v1 - 2)) + (if (if v5 < v7 then (0 : Int32) else 1) = 0 then (0 : Int32) else 1)) + (if (if v6 < v7 then (0 : Int32) else 1) = 0 then (0 : Int32) else 2))) &&& 1) = 0 then ((if (if v5 < v7 then (0 : Int32) else 1) = 0 then (v5 : Int32) else (v5 - v7)) : Int32) else (if (if v6 < v7 then (0 : Int32) else 1) = 0 then (v6 : Int32) else (v6 - v7))) : Int32) else ((v7 - 1) - (if ((T_178 s 7 16 (((4 * (v1 - 2)) + (if (if v5 < v7 then (0 : Int32) else 1) = 0 then (0 : Int32) else 1)) + (if (if v6 < v7 then (0 : Int32) else 1) = 0 then (0 : Int32) else 2))) &&& 1) = 0 then ((if (if v5 < v7 then (0 : Int32) else 1) = 0 then (v5 : Int32) else (v5 - v7)) : Int32) else (if (if v6 < v7 then (0 : Int32) else 1) = 0 then (v6 : Int32) else (v6 - v7)))))), (6, .int (if ((T_178 s 7 16 (((4 * (v1 - 2)) + (if (if v5 < v7 then (0 : Int32) else 1) = 0 then (0 : Int32) else 1)) + (if (if v6 < v7 then (0 : Int32) else 1) = 0 then (0 : Int32) else 2))) &&& 1) = 0 then ((if (if v6 < v7 then (0 : Int32) else 1) = 0 then (v6 : Int32) else (v6 - v7)) : Int32) else (if (if v5 < v7 then (0 : Int32) else 1) = 0 then (v5 : Int32) else (v5 - v7)))), (13, .int (if (if v6 < v7 then (0 : Int32) else 1) = 0 then (v6 : Int32) else (v6 - v7))), (12, .int (if (if v5 < v7 then (0 : Int32) else 1) = 0 then (v5 : Int32) else (v5 - v7))), (11, .int (T_178 s 7 16 (((4 * (v1 - 2)) + (if (if v5 < v7 then (0 : Int32) else 1) = 0 then (0 : Int32) else 1)) + (if (if v6 < v7 then (0 : Int32) else 1) = 0 then (0 : Int32) else 2)))), (10, .int (((4 * (v1 - 2)) + (if (if v5 < v7 then (0 : Int32) else 1) = 0 then (0 : Int32) else 1)) + (if (if v6 < v7 then (0 : Int32) else 1) = 0 then (0 : Int32) else 2))), (9, .int (if v6 < v7 then (0 : Int32) else 1)), (8, .int (if v5 < v7 then (0 : Int32) else 1)), (7, .int v7), (4, .int v4), (0, .ref 3), (1, .int v1), (2, .int v2), (3, .int v3)] [.int ((T_178 s 7 16 (((4 * (v1 - 2)) + (if (if v5 < v7 then (0 : Int32) else 1) = 0 then (0 : Int32) else 1)) + (if (if v6 < v7 then (0 : Int32) else 1) = 0 then (0 : Int32) else 2))) &&& 4)] (N, hm_sh L g, s) _ Q
        refine hm_st hR ⟨fun c => ?_, fun c => ?_⟩
        · exact hm_st hR (hm_st hR (hm_st hR (hm_st hR (hm_st hR (G _ (if_neg c).symm)))))
        · exact hm_st hR (hm_st hR (G _ (if_pos c).symm))
      intro w hw
      subst hw
      show R 96 196 [(5, .int (if ((T_178 s 7 16 (((4 * (v1 - 2)) + (if (if v5 < v7 then (0 : Int32) else 1) = 0 then (0 : Int32) else 1)) + (if (if v6 < v7 then (0 : Int32) else 1) = 0 then (0 : Int32) else 2))) &&& 2) = 0 then ((if ((T_178 s 7 16 (((4 * (v1 - 2)) + (if (if v5 < v7 then (0 : Int32) else 1) = 0 then (0 : Int32) else 1)) + (if (if v6 < v7 then (0 : Int32) else 1) = 0 then (0 : Int32) else 2))) &&& 1) = 0 then ((if (if v5 < v7 then (0 : Int32) else 1) = 0 then (v5 : Int32) else (v5 - v7)) : Int32) else (if (if v6 < v7 then (0 : Int32) else 1) = 0 then (v6 : Int32) else (v6 - v7))) : Int32) else ((v7 - 1) - (if ((T_178 s 7 16 (((4 * (v1 - 2)) + (if (if v5 < v7 then (0 : Int32) else 1) = 0 then (0 : Int32) else 1)) + (if (if v6 < v7 then (0 : Int32) else 1) = 0 then (0 : Int32) else 2))) &&& 1) = 0 then ((if (if v5 < v7 then (0 : Int32) else 1) = 0 then (v5 : Int32) else (v5 - v7)) : Int32) else (if (if v6 < v7 then (0 : Int32) else 1) = 0 then (v6 : Int32) else (v6 - v7)))))), (6, .int (if ((T_178 s 7 16 (((4 * (v1 - 2)) + (if (if v5 < v7 then (0 : Int32) else 1) = 0 then (0 : Int32) else 1)) + (if (if v6 < v7 then (0 : Int32) else 1) = 0 then (0 : Int32) else 2))) &&& 1) = 0 then ((if (if v6 < v7 then (0 : Int32) else 1) = 0 then (v6 : Int32) else (v6 - v7)) : Int32) else (if (if v5 < v7 then (0 : Int32) else 1) = 0 then (v5 : Int32) else (v5 - v7)))), (13, .int (if (if v6 < v7 then (0 : Int32) else 1) = 0 then (v6 : Int32) else (v6 - v7))), (12, .int (if (if v5 < v7 then (0 : Int32) else 1) = 0 then (v5 : Int32) else (v5 - v7))), (11, .int (T_178 s 7 16 (((4 * (v1 - 2)) + (if (if v5 < v7 then (0 : Int32) else 1) = 0 then (0 : Int32) else 1)) + (if (if v6 < v7 then (0 : Int32) else 1) = 0 then (0 : Int32) else 2)))), (10, .int (((4 * (v1 - 2)) + (if (if v5 < v7 then (0 : Int32) else 1) = 0 then (0 : Int32) else 1)) + (if (if v6 < v7 then (0 : Int32) else 1) = 0 then (0 : Int32) else 2))), (9, .int (if v6 < v7 then (0 : Int32) else 1)), (8, .int (if v5 < v7 then (0 : Int32) else 1)), (7, .int v7), (4, .int v4), (0, .ref 3), (1, .int v1), (2, .int v2), (3, .int v3)] [.int (if ((T_178 s 7 16 (((4 * (v1 - 2)) + (if (if v5 < v7 then (0 : Int32) else 1) = 0 then (0 : Int32) else 1)) + (if (if v6 < v7 then (0 : Int32) else 1) = 0 then (0 : Int32) else 2))) &&& 4) = 0 then ((if ((T_178 s 7 16 (((4 * (v1 - 2)) + (if (if v5 < v7 then (0 : Int32) else 1) = 0 then (0 : Int32) else 1)) + (if (if v6 < v7 then (0 : Int32) else 1) = 0 then (0 : Int32) else 2))) &&& 1) = 0 then ((if (if v6 < v7 then (0 : Int32) else 1) = 0 then (v6 : Int32) else (v6 - v7)) : Int32) else (if (if v5 < v7 then (0 : Int32) else 1) = 0 then (v5 : Int32) else (v5 - v7))) : Int32) else ((v7 - 1) - (if ((T_178 s 7 16 (((4 * (v1 - 2)) + (if (if v5 < v7 then (0 : Int32) else 1) = 0 then (0 : Int32) else 1)) + (if (if v6 < v7 then (0 : Int32) else 1) = 0 then (0 : Int32) else 2))) &&& 1) = 0 then ((if (if v6 < v7 then (0 : Int32) else 1) = 0 then (v6 : Int32) else (v6 - v7)) : Int32) else (if (if v5 < v7 then (0 : Int32) else 1) = 0 then (v5 : Int32) else (v5 - v7)))))] (N, hm_sh L g, s) _ Q
      refine hm_st hR (hm_st hR (hm_st hR (hm_st hR ⟨rfl, hm_le rfl, (hm_ltN hN rfl), hm_st hR (?_)⟩)))
      refine hm_st hR ⟨hm_le rfl, rfl, (hm_le rfl), (hm_ltN hN rfl), hm_le rfl, hm_le rfl, (0, 0), Nat.zero_le _, Nat.zero_le _, ?_⟩
      refine sp_178 hR hN (rr := 4) (aa := 5) (nn := 16) rfl rfl (hm_le rfl) (hm_ltN hN rfl) rfl rfl (hm_le rfl) (hm_ltN hN rfl) (by decide) ?_
      show R 96 209 [(6, .int (if ((T_178 s 7 16 (((4 * (v1 - 2)) + (if (if v5 < v7 then (0 : Int32) else 1) = 0 then (0 : Int32) else 1)) + (if (if v6 < v7 then (0 : Int32) else 1) = 0 then (0 : Int32) else 2))) &&& 4) = 0 then ((if ((T_178 s 7 16 (((4 * (v1 - 2)) + (if (if v5 < v7 then (0 : Int32) else 1) = 0 then (0 : Int32) else 1)) + (if (if v6 < v7 then (0 : Int32) else 1) = 0 then (0 : Int32) else 2))) &&& 1) = 0 then ((if (if v6 < v7 then (0 : Int32) else 1) = 0 then (v6 : Int32) else (v6 - v7)) : Int32) else (if (if v5 < v7 then (0 : Int32) else 1) = 0 then (v5 : Int32) else (v5 - v7))) : Int32) else ((v7 - 1) - (if ((T_178 s 7 16 (((4 * (v1 - 2)) + (if (if v5 < v7 then (0 : Int32) else 1) = 0 then (0 : Int32) else 1)) + (if (if v6 < v7 then (0 : Int32) else 1) = 0 then (0 : Int32) else 2))) &&& 1) = 0 then ((if (if v6 < v7 then (0 : Int32) else 1) = 0 then (v6 : Int32) else (v6 - v7)) : Int32) else (if (if v5 < v7 then (0 : Int32) else 1) = 0 then (v5 : Int32) else (v5 - v7)))))), (5, .int (if ((T_178 s 7 16 (((4 * (v1 - 2)) + (if (if v5 < v7 then (0 : Int32) else 1) = 0 then (0 : Int32) else 1)) + (if (if v6 < v7 then (0 : Int32) else 1) = 0 then (0 : Int32) else 2))) &&& 2) = 0 then ((if ((T_178 s 7 16 (((4 * (v1 - 2)) + (if (if v5 < v7 then (0 : Int32) else 1) = 0 then (0 : Int32) else 1)) + (if (if v6 < v7 then (0 : Int32) else 1) = 0 then (0 : Int32) else 2))) &&& 1) = 0 then ((if (if v5 < v7 then (0 : Int32) else 1) = 0 then (v5 : Int32) else (v5 - v7)) : Int32) else (if (if v6 < v7 then (0 : Int32) else 1) = 0 then (v6 : Int32) else (v6 - v7))) : Int32) else ((v7 - 1) - (if ((T_178 s 7 16 (((4 * (v1 - 2)) + (if (if v5 < v7 then (0 : Int32) else 1) = 0 then (0 : Int32) else 1)) + (if (if v6 < v7 then (0 : Int32) else 1) = 0 then (0 : Int32) else 2))) &&& 1) = 0 then ((if (if v5 < v7 then (0 : Int32) else 1) = 0 then (v5 : Int32) else (v5 - v7)) : Int32) else (if (if v6 < v7 then (0 : Int32) else 1) = 0 then (v6 : Int32) else (v6 - v7)))))), (13, .int (if (if v6 < v7 then (0 : Int32) else 1) = 0 then (v6 : Int32) else (v6 - v7))), (12, .int (if (if v5 < v7 then (0 : Int32) else 1) = 0 then (v5 : Int32) else (v5 - v7))), (11, .int (T_178 s 7 16 (((4 * (v1 - 2)) + (if (if v5 < v7 then (0 : Int32) else 1) = 0 then (0 : Int32) else 1)) + (if (if v6 < v7 then (0 : Int32) else 1) = 0 then (0 : Int32) else 2)))), (10, .int (((4 * (v1 - 2)) + (if (if v5 < v7 then (0 : Int32) else 1) = 0 then (0 : Int32) else 1)) + (if (if v6 < v7 then (0 : Int32) else 1) = 0 then (0 : Int32) else 2))), (9, .int (if v6 < v7 then (0 : Int32) else 1)), (8, .int (if v5 < v7 then (0 : Int32) else 1)), (7, .int v7), (4, .int v4), (0, .ref 3), (1, .int v1), (2, .int v2), (3, .int v3)] [.int (T_178 s 5 16 (((4 * (v1 - 2)) + (if (if v5 < v7 then (0 : Int32) else 1) = 0 then (0 : Int32) else 1)) + (if (if v6 < v7 then (0 : Int32) else 1) = 0 then (0 : Int32) else 2))), .int v4] (N, hm_sh L g, s) _ Q
      refine hm_st hR (hm_st hR (hm_st hR (hm_st hR (hm_st hR (hm_st hR (hm_st hR (hm_st hR (hm_st hR ⟨(by decide), hm_st hR (hm_st hR (?_))⟩))))))))
      show R 96 17 [(7, .int (v7 / 2)), (4, .int (v4 + (((T_178 s 5 16 (((4 * (v1 - 2)) + (if (if v5 < v7 then (0 : Int32) else 1) = 0 then (0 : Int32) else 1)) + (if (if v6 < v7 then (0 : Int32) else 1) = 0 then (0 : Int32) else 2))) * v7) * v7))), (6, .int (if ((T_178 s 7 16 (((4 * (v1 - 2)) + (if (if v5 < v7 then (0 : Int32) else 1) = 0 then (0 : Int32) else 1)) + (if (if v6 < v7 then (0 : Int32) else 1) = 0 then (0 : Int32) else 2))) &&& 4) = 0 then ((if ((T_178 s 7 16 (((4 * (v1 - 2)) + (if (if v5 < v7 then (0 : Int32) else 1) = 0 then (0 : Int32) else 1)) + (if (if v6 < v7 then (0 : Int32) else 1) = 0 then (0 : Int32) else 2))) &&& 1) = 0 then ((if (if v6 < v7 then (0 : Int32) else 1) = 0 then (v6 : Int32) else (v6 - v7)) : Int32) else (if (if v5 < v7 then (0 : Int32) else 1) = 0 then (v5 : Int32) else (v5 - v7))) : Int32) else ((v7 - 1) - (if ((T_178 s 7 16 (((4 * (v1 - 2)) + (if (if v5 < v7 then (0 : Int32) else 1) = 0 then (0 : Int32) else 1)) + (if (if v6 < v7 then (0 : Int32) else 1) = 0 then (0 : Int32) else 2))) &&& 1) = 0 then ((if (if v6 < v7 then (0 : Int32) else 1) = 0 then (v6 : Int32) else (v6 - v7)) : Int32) else (if (if v5 < v7 then (0 : Int32) else 1) = 0 then (v5 : Int32) else (v5 - v7)))))), (5, .int (if ((T_178 s 7 16 (((4 * (v1 - 2)) + (if (if v5 < v7 then (0 : Int32) else 1) = 0 then (0 : Int32) else 1)) + (if (if v6 < v7 then (0 : Int32) else 1) = 0 then (0 : Int32) else 2))) &&& 2) = 0 then ((if ((T_178 s 7 16 (((4 * (v1 - 2)) + (if (if v5 < v7 then (0 : Int32) else 1) = 0 then (0 : Int32) else 1)) + (if (if v6 < v7 then (0 : Int32) else 1) = 0 then (0 : Int32) else 2))) &&& 1) = 0 then ((if (if v5 < v7 then (0 : Int32) else 1) = 0 then (v5 : Int32) else (v5 - v7)) : Int32) else (if (if v6 < v7 then (0 : Int32) else 1) = 0 then (v6 : Int32) else (v6 - v7))) : Int32) else ((v7 - 1) - (if ((T_178 s 7 16 (((4 * (v1 - 2)) + (if (if v5 < v7 then (0 : Int32) else 1) = 0 then (0 : Int32) else 1)) + (if (if v6 < v7 then (0 : Int32) else 1) = 0 then (0 : Int32) else 2))) &&& 1) = 0 then ((if (if v5 < v7 then (0 : Int32) else 1) = 0 then (v5 : Int32) else (v5 - v7)) : Int32) else (if (if v6 < v7 then (0 : Int32) else 1) = 0 then (v6 : Int32) else (v6 - v7)))))), (13, .int (if (if v6 < v7 then (0 : Int32) else 1) = 0 then (v6 : Int32) else (v6 - v7))), (12, .int (if (if v5 < v7 then (0 : Int32) else 1) = 0 then (v5 : Int32) else (v5 - v7))), (11, .int (T_178 s 7 16 (((4 * (v1 - 2)) + (if (if v5 < v7 then (0 : Int32) else 1) = 0 then (0 : Int32) else 1)) + (if (if v6 < v7 then (0 : Int32) else 1) = 0 then (0 : Int32) else 2)))), (10, .int (((4 * (v1 - 2)) + (if (if v5 < v7 then (0 : Int32) else 1) = 0 then (0 : Int32) else 1)) + (if (if v6 < v7 then (0 : Int32) else 1) = 0 then (0 : Int32) else 2))), (9, .int (if v6 < v7 then (0 : Int32) else 1)), (8, .int (if v5 < v7 then (0 : Int32) else 1)), (0, .ref 3), (1, .int v1), (2, .int v2), (3, .int v3)] [] (N, hm_sh L g, s) _ Q
      exact hm_lvS hR (by intro q hq; simp only [List.mem_cons, List.not_mem_nil, or_false] at hq ⊢; rcases hq with rfl | rfl | rfl | rfl | rfl | rfl | rfl | rfl <;> simp) (ih s v1 v2 v3 (v4 + (((T_178 s 5 16 (((4 * (v1 - 2)) + (if (if v5 < v7 then (0 : Int32) else 1) = 0 then (0 : Int32) else 1)) + (if (if v6 < v7 then (0 : Int32) else 1) = 0 then (0 : Int32) else 2))) * v7) * v7)) (if ((T_178 s 7 16 (((4 * (v1 - 2)) + (if (if v5 < v7 then (0 : Int32) else 1) = 0 then (0 : Int32) else 1)) + (if (if v6 < v7 then (0 : Int32) else 1) = 0 then (0 : Int32) else 2))) &&& 2) = 0 then ((if ((T_178 s 7 16 (((4 * (v1 - 2)) + (if (if v5 < v7 then (0 : Int32) else 1) = 0 then (0 : Int32) else 1)) + (if (if v6 < v7 then (0 : Int32) else 1) = 0 then (0 : Int32) else 2))) &&& 1) = 0 then ((if (if v5 < v7 then (0 : Int32) else 1) = 0 then (v5 : Int32) else (v5 - v7)) : Int32) else (if (if v6 < v7 then (0 : Int32) else 1) = 0 then (v6 : Int32) else (v6 - v7))) : Int32) else ((v7 - 1) - (if ((T_178 s 7 16 (((4 * (v1 - 2)) + (if (if v5 < v7 then (0 : Int32) else 1) = 0 then (0 : Int32) else 1)) + (if (if v6 < v7 then (0 : Int32) else 1) = 0 then (0 : Int32) else 2))) &&& 1) = 0 then ((if (if v5 < v7 then (0 : Int32) else 1) = 0 then (v5 : Int32) else (v5 - v7)) : Int32) else (if (if v6 < v7 then (0 : Int32) else 1) = 0 then (v6 : Int32) else (v6 - v7))))) (if ((T_178 s 7 16 (((4 * (v1 - 2)) + (if (if v5 < v7 then (0 : Int32) else 1) = 0 then (0 : Int32) else 1)) + (if (if v6 < v7 then (0 : Int32) else 1) = 0 then (0 : Int32) else 2))) &&& 4) = 0 then ((if ((T_178 s 7 16 (((4 * (v1 - 2)) + (if (if v5 < v7 then (0 : Int32) else 1) = 0 then (0 : Int32) else 1)) + (if (if v6 < v7 then (0 : Int32) else 1) = 0 then (0 : Int32) else 2))) &&& 1) = 0 then ((if (if v6 < v7 then (0 : Int32) else 1) = 0 then (v6 : Int32) else (v6 - v7)) : Int32) else (if (if v5 < v7 then (0 : Int32) else 1) = 0 then (v5 : Int32) else (v5 - v7))) : Int32) else ((v7 - 1) - (if ((T_178 s 7 16 (((4 * (v1 - 2)) + (if (if v5 < v7 then (0 : Int32) else 1) = 0 then (0 : Int32) else 1)) + (if (if v6 < v7 then (0 : Int32) else 1) = 0 then (0 : Int32) else 2))) &&& 1) = 0 then ((if (if v6 < v7 then (0 : Int32) else 1) = 0 then (v6 : Int32) else (v6 - v7)) : Int32) else (if (if v5 < v7 then (0 : Int32) else 1) = 0 then (v5 : Int32) else (v5 - v7))))) (v7 / 2) (hm_dch c19 hm) hq)
set_option maxRecDepth 20000 in
theorem sp_96 {R : hm_R} (hR : hm_Cm R) {N L : Nat} {g : Nat → hm_Sh} {s : hm_St} {b : hm_B} {Q : hm_Q} (hN : 68 ≤ N) {p1 : Int32} {p2 : Int32} {p3 : Int32} (hq : Q (.inr (some (.int (T_96 s p1 p2 p3)))) (N, hm_sh L g, s)) : R 96 0 (lv_args 0 [.ref 3, .int p1, .int p2, .int p3]) [] (N, hm_sh L g, s) b Q := by
  unfold T_96 at hq
  show R 96 0 [(0, .ref 3), (1, .int p1), (2, .int p2), (3, .int p3)] [] (N, hm_sh L g, s) _ Q
  refine hm_st hR (hm_st hR (hm_st hR (hm_st hR (hm_st hR (hm_st hR (hm_st hR (hm_st hR ⟨rfl, hm_le rfl, (hm_ltN hN rfl), hm_st hR (hm_st hR ⟨(by decide), hm_st hR (?_)⟩)⟩)))))))
  show R 96 17 [(7, .int ((s 3 6) / 2)), (6, .int p3), (5, .int p2), (4, .int 0), (0, .ref 3), (1, .int p1), (2, .int p2), (3, .int p3)] [] (N, hm_sh L g, s) _ Q
  exact lp_96_17 hR hN _ _ _ _ _ _ _ _ _ (Nat.lt_succ_self _) hq
/-- CurvekeyHouse$Curves.reckon(III)I -/
def T_95 (s : hm_St) (p1 : Int32) (p2 : Int32) (p3 : Int32) : Int32 := (if p1 = 0 then ((p3 * (s 3 6)) + p2) else (if p1 = 1 then ((p3 * (s 3 6)) + (if (p3 &&& 1) = 0 then (p2 : Int32) else (((s 3 6) - 1) - p2))) else (T_96 s p1 p2 p3)))
set_option maxRecDepth 20000 in
theorem sp_95 {R : hm_R} (hR : hm_Cm R) {N L : Nat} {g : Nat → hm_Sh} {s : hm_St} {b : hm_B} {Q : hm_Q} (hN : 68 ≤ N) {p1 : Int32} {p2 : Int32} {p3 : Int32} (hq : Q (.inr (some (.int (T_95 s p1 p2 p3)))) (N, hm_sh L g, s)) : R 95 0 (lv_args 0 [.ref 3, .int p1, .int p2, .int p3]) [] (N, hm_sh L g, s) b Q := by
  unfold T_95 at hq
  show R 95 0 [(0, .ref 3), (1, .int p1), (2, .int p2), (3, .int p3)] [] (N, hm_sh L g, s) _ Q
  refine hm_st hR (?_)
  show R 95 1 [(0, .ref 3), (1, .int p1), (2, .int p2), (3, .int p3)] [.int p1] (N, hm_sh L g, s) _ Q
  refine hm_st hR ⟨fun c1 => ?_, fun c1 => ?_⟩
  · rw [if_neg c1] at hq
    show R 95 13 [(0, .ref 3), (1, .int p1), (2, .int p2), (3, .int p3)] [] (N, hm_sh L g, s) _ Q
    refine hm_st hR (hm_st hR (?_))
    show R 95 15 [(0, .ref 3), (1, .int p1), (2, .int p2), (3, .int p3)] [.int 1, .int p1] (N, hm_sh L g, s) _ Q
    refine hm_st hR ⟨fun c15 => ?_, fun c15 => ?_⟩
    · rw [if_neg c15] at hq
      show R 95 44 [(0, .ref 3), (1, .int p1), (2, .int p2), (3, .int p3)] [] (N, hm_sh L g, s) _ Q
      refine hm_st hR (hm_st hR (hm_st hR (hm_st hR (?_))))
      refine hm_st hR ⟨hm_le rfl, rfl, (hm_le rfl), (hm_ltN hN rfl), hm_le rfl, hm_le rfl, (0, 0), Nat.zero_le _, Nat.zero_le _, ?_⟩
      refine sp_96 hR hN ?_
      show R 95 51 [(0, .ref 3), (1, .int p1), (2, .int p2), (3, .int p3)] [.int (T_96 s p1 p2 p3)] (N, hm_sh L g, s) _ Q
      exact hm_st hR ⟨fun z => absurd z (by decide), hq⟩
    · rw [if_pos c15] at hq
      show R 95 18 [(0, .ref 3), (1, .int p1), (2, .int p2), (3, .int p3)] [] (N, hm_sh L g, s) _ Q
      refine hm_st hR (hm_st hR (hm_st hR ⟨rfl, hm_le rfl, (hm_ltN hN rfl), hm_st hR (hm_st hR (hm_st hR (hm_st hR (?_))))⟩))
      show R 95 27 [(0, .ref 3), (1, .int p1), (2, .int p2), (3, .int p3)] [.int (p3 &&& 1), .int (p3 * (s 3 6))] (N, hm_sh L g, s) _ Q
      suffices G : ∀ w : Int32, w = (if (p3 &&& 1) = 0 then (p2 : Int32) else (((s 3 6) - 1) - p2)) → R 95 42 [(0, .ref 3), (1, .int p1), (2, .int p2), (3, .int p3)] [.int w, .int (p3 * (s 3 6))] (N, hm_sh L g, s) b Q by
        show R 95 27 [(0, .ref 3), (1, .int p1), (2, .int p2), (3, .int p3)] [.int (p3 &&& 1), .int (p3 * (s 3 6))] (N, hm_sh L g, s) _ Q
        refine hm_st hR ⟨fun c => ?_, fun c => ?_⟩
        · exact hm_st hR (hm_st hR ⟨rfl, hm_le rfl, (hm_ltN hN rfl), hm_st hR (hm_st hR (hm_st hR (hm_st hR (G _ (if_neg c).symm))))⟩)
        · exact hm_st hR (hm_st hR (G _ (if_pos c).symm))
      intro w hw
      subst hw
      show R 95 42 [(0, .ref 3), (1, .int p1), (2, .int p2), (3, .int p3)] [.int (if (p3 &&& 1) = 0 then (p2 : Int32) else (((s 3 6) - 1) - p2)), .int (p3 * (s 3 6))] (N, hm_sh L g, s) _ Q
      refine hm_st hR (?_)
      exact hm_st hR ⟨fun z => absurd z (by decide), hq⟩
  · rw [if_pos c1] at hq
    show R 95 4 [(0, .ref 3), (1, .int p1), (2, .int p2), (3, .int p3)] [] (N, hm_sh L g, s) _ Q
    refine hm_st hR (hm_st hR (hm_st hR ⟨rfl, hm_le rfl, (hm_ltN hN rfl), hm_st hR (hm_st hR (hm_st hR (?_)))⟩))
    exact hm_st hR ⟨fun z => absurd z (by decide), hq⟩
/-- CurvekeyHouse$Curves.isBeside(III)Z -/
def T_98 (s : hm_St) (p1 : Int32) (p2 : Int32) (p3 : Int32) : Int32 := (if ((hm_abs ((T_89 s p1 p2) - (T_89 s p1 p3))) + (hm_abs ((T_90 s p1 p2) - (T_90 s p1 p3)))) = 1 then (1 : Int32) else 0)
theorem B_98 (s : hm_St) (p1 : Int32) (p2 : Int32) (p3 : Int32) : T_98 s p1 p2 p3 = 0 ∨ T_98 s p1 p2 p3 = 1 := by
  unfold T_98
  repeat' split
  all_goals first | exact Or.inl rfl | exact Or.inr rfl
set_option maxRecDepth 20000 in
theorem sp_98 {R : hm_R} (hR : hm_Cm R) {N L : Nat} {g : Nat → hm_Sh} {s : hm_St} {b : hm_B} {Q : hm_Q} (hN : 68 ≤ N) {p1 : Int32} {p2 : Int32} {p3 : Int32} (hq : Q (.inr (some (.int (T_98 s p1 p2 p3)))) (N, hm_sh L g, s)) : R 98 0 (lv_args 0 [.ref 3, .int p1, .int p2, .int p3]) [] (N, hm_sh L g, s) b Q := by
  unfold T_98 at hq
  show R 98 0 [(0, .ref 3), (1, .int p1), (2, .int p2), (3, .int p3)] [] (N, hm_sh L g, s) _ Q
  refine hm_st hR (hm_st hR (hm_st hR (?_)))
  refine hm_st hR ⟨hm_le rfl, rfl, (hm_le rfl), (hm_ltN hN rfl), hm_le rfl, hm_le rfl, (0, 0), Nat.zero_le _, Nat.zero_le _, ?_⟩
  refine sp_89 hR hN ?_
  show R 98 6 [(0, .ref 3), (1, .int p1), (2, .int p2), (3, .int p3)] [.int (T_89 s p1 p2)] (N, hm_sh L g, s) _ Q
  refine hm_st hR (hm_st hR (hm_st hR (?_)))
  refine hm_st hR ⟨hm_le rfl, rfl, (hm_le rfl), (hm_ltN hN rfl), hm_le rfl, hm_le rfl, (0, 0), Nat.zero_le _, Nat.zero_le _, ?_⟩
  refine sp_89 hR hN ?_
  show R 98 12 [(0, .ref 3), (1, .int p1), (2, .int p2), (3, .int p3)] [.int (T_89 s p1 p3), .int (T_89 s p1 p2)] (N, hm_sh L g, s) _ Q
  refine hm_st hR (hm_st hR ⟨hm_le rfl, ?_⟩)
  show R 98 16 [(0, .ref 3), (1, .int p1), (2, .int p2), (3, .int p3)] [.int (hm_abs ((T_89 s p1 p2) - (T_89 s p1 p3)))] (N, hm_sh L g, s) _ Q
  refine hm_st hR (hm_st hR (hm_st hR (hm_st hR (?_))))
  refine hm_st hR ⟨hm_le rfl, rfl, (hm_le rfl), (hm_ltN hN rfl), hm_le rfl, hm_le rfl, (0, 0), Nat.zero_le _, Nat.zero_le _, ?_⟩
  refine sp_90 hR hN ?_
  show R 98 24 [(4, .int (hm_abs ((T_89 s p1 p2) - (T_89 s p1 p3)))), (0, .ref 3), (1, .int p1), (2, .int p2), (3, .int p3)] [.int (T_90 s p1 p2)] (N, hm_sh L g, s) _ Q
  refine hm_st hR (hm_st hR (hm_st hR (?_)))
  refine hm_st hR ⟨hm_le rfl, rfl, (hm_le rfl), (hm_ltN hN rfl), hm_le rfl, hm_le rfl, (0, 0), Nat.zero_le _, Nat.zero_le _, ?_⟩
  refine sp_90 hR hN ?_
  show R 98 30 [(4, .int (hm_abs ((T_89 s p1 p2) - (T_89 s p1 p3)))), (0, .ref 3), (1, .int p1), (2, .int p2), (3, .int p3)] [.int (T_90 s p1 p3), .int (T_90 s p1 p2)] (N, hm_sh L g, s) _ Q
  refine hm_st hR (hm_st hR ⟨hm_le rfl, ?_⟩)
  show R 98 34 [(4, .int (hm_abs ((T_89 s p1 p2) - (T_89 s p1 p3)))), (0, .ref 3), (1, .int p1), (2, .int p2), (3, .int p3)] [.int (hm_abs ((T_90 s p1 p2) - (T_90 s p1 p3)))] (N, hm_sh L g, s) _ Q
  refine hm_st hR (hm_st hR (hm_st hR (hm_st hR (hm_st hR (?_)))))
  show R 98 42 [(5, .int (hm_abs ((T_90 s p1 p2) - (T_90 s p1 p3)))), (4, .int (hm_abs ((T_89 s p1 p2) - (T_89 s p1 p3)))), (0, .ref 3), (1, .int p1), (2, .int p2), (3, .int p3)] [.int 1, .int ((hm_abs ((T_89 s p1 p2) - (T_89 s p1 p3))) + (hm_abs ((T_90 s p1 p2) - (T_90 s p1 p3))))] (N, hm_sh L g, s) _ Q
  suffices G : ∀ w : Int32, w = (if ((hm_abs ((T_89 s p1 p2) - (T_89 s p1 p3))) + (hm_abs ((T_90 s p1 p2) - (T_90 s p1 p3)))) = 1 then (1 : Int32) else 0) → R 98 50 [(5, .int (hm_abs ((T_90 s p1 p2) - (T_90 s p1 p3)))), (4, .int (hm_abs ((T_89 s p1 p2) - (T_89 s p1 p3)))), (0, .ref 3), (1, .int p1), (2, .int p2), (3, .int p3)] [.int w] (N, hm_sh L g, s) (b.1 - 0 - 0 - 0 - 0, b.2 - 0 - 0 - 0 - 0) Q by
    show R 98 42 [(5, .int (hm_abs ((T_90 s p1 p2) - (T_90 s p1 p3)))), (4, .int (hm_abs ((T_89 s p1 p2) - (T_89 s p1 p3)))), (0, .ref 3), (1, .int p1), (2, .int p2), (3, .int p3)] [.int 1, .int ((hm_abs ((T_89 s p1 p2) - (T_89 s p1 p3))) + (hm_abs ((T_90 s p1 p2) - (T_90 s p1 p3))))] (N, hm_sh L g, s) _ Q
    refine hm_st hR ⟨fun c => ?_, fun c => ?_⟩
    · exact hm_st hR (G _ (if_neg c).symm)
    · exact hm_st hR (hm_st hR (G _ (if_pos c).symm))
  intro w hw
  subst hw
  show R 98 50 [(5, .int (hm_abs ((T_90 s p1 p2) - (T_90 s p1 p3)))), (4, .int (hm_abs ((T_89 s p1 p2) - (T_89 s p1 p3)))), (0, .ref 3), (1, .int p1), (2, .int p2), (3, .int p3)] [.int (if ((hm_abs ((T_89 s p1 p2) - (T_89 s p1 p3))) + (hm_abs ((T_90 s p1 p2) - (T_90 s p1 p3)))) = 1 then (1 : Int32) else 0)] (N, hm_sh L g, s) _ Q
  exact hm_st hR ⟨fun _ => (by split <;> first | exact Or.inl rfl | exact Or.inr rfl), hq⟩
def T_97_4 : Nat → hm_St → Int32 → Int32 → Int32 → Int32
  | 0, s, _, _, _ => 0
  | n + 1, s, v1, v2, v3 => (if (T_87 s) ≤ (v3 + 1) then v2 else (if (T_98 s v1 v3 (v3 + 1)) = 0 then (T_97_4 n s v1 (v2 + 1) (v3 + 1)) else (T_97_4 n s v1 v2 (v3 + 1))))
/-- CurvekeyHouse$Curves.jumps(I)I -/
def T_97 (s : hm_St) (p1 : Int32) : Int32 := (T_97_4 (hm_df (T_87 s) (0 + 1) + 1) s p1 0 0)
set_option maxRecDepth 20000 in
theorem lp_97_4 {R : hm_R} (hR : hm_Cm R) {N L : Nat} {g : Nat → hm_Sh} {b : hm_B} {Q : hm_Q} (hN : 68 ≤ N) : ∀ (n : Nat) (s : hm_St) (v1 : Int32) (v2 : Int32) (v3 : Int32), hm_df (T_87 s) (v3 + 1) < n → (hq : Q (.inr (some (.int (T_97_4 n s v1 v2 v3)))) (N, hm_sh L g, s)) → R 97 4 [(3, .int v3), (2, .int v2), (0, .ref 3), (1, .int v1)] [] (N, hm_sh L g, s) b Q := by
  intro n
  induction n with
  | zero => intro s v1 v2 v3 hm _; exact absurd hm (Nat.not_lt_zero _)
  | succ n ih =>
    intro s v1 v2 v3 hm hq
    unfold T_97_4 at hq
    refine hm_st hR (hm_st hR (hm_st hR (hm_st hR (?_))))
    refine hm_st hR ⟨hm_le rfl, rfl, (hm_le rfl), (hm_ltN hN rfl), hm_le rfl, hm_le rfl, (0, 0), Nat.zero_le _, Nat.zero_le _, ?_⟩
    refine sp_87 hR hN ?_
    show R 97 11 [(3, .int v3), (2, .int v2), (0, .ref 3), (1, .int v1)] [.int (T_87 s), .int (v3 + 1)] (N, hm_sh L g, s) _ Q
    show R 97 11 [(3, .int v3), (2, .int v2), (0, .ref 3), (1, .int v1)] [.int (T_87 s), .int (v3 + 1)] (N, hm_sh L g, s) _ Q
    refine hm_st hR ⟨fun c11 => ?_, fun c11 => ?_⟩
    · rw [if_pos c11] at hq
      show R 97 35 [(3, .int v3), (2, .int v2), (0, .ref 3), (1, .int v1)] [] (N, hm_sh L g, s) _ Q
      refine hm_st hR (?_)
      exact hm_st hR ⟨fun z => absurd z (by decide), hq⟩
    · rw [if_neg c11] at hq
      show R 97 14 [(3, .int v3), (2, .int v2), (0, .ref 3), (1, .int v1)] [] (N, hm_sh L g, s) _ Q
      refine hm_st hR (hm_st hR (hm_st hR (hm_st hR (hm_st hR (hm_st hR (?_))))))
      refine hm_st hR ⟨hm_le rfl, rfl, (hm_le rfl), (hm_ltN hN rfl), hm_le rfl, hm_le rfl, (0, 0), Nat.zero_le _, Nat.zero_le _, ?_⟩
      refine sp_98 hR hN ?_
      show R 97 23 [(3, .int v3), (2, .int v2), (0, .ref 3), (1, .int v1)] [.int (T_98 s v1 v3 (v3 + 1))] (N, hm_sh L g, s) _ Q
      show R 97 23 [(3, .int v3), (2, .int v2), (0, .ref 3), (1, .int v1)] [.int (T_98 s v1 v3 (v3 + 1))] (N, hm_sh L g, s) _ Q
      refine hm_st hR ⟨fun c23 => ?_, fun c23 => ?_⟩
      · rw [if_neg c23] at hq
        show R 97 29 [(3, .int v3), (2, .int v2), (0, .ref 3), (1, .int v1)] [] (N, hm_sh L g, s) _ Q
        refine hm_st hR (hm_st hR (?_))
        show R 97 4 [(3, .int (v3 + 1)), (2, .int v2), (0, .ref 3), (1, .int v1)] [] (N, hm_sh L g, s) _ Q
        exact hm_lvS hR (by intro q hq; simp only [List.mem_cons, List.not_mem_nil, or_false] at hq ⊢; rcases hq with rfl | rfl | rfl | rfl <;> simp) (ih s v1 v2 (v3 + 1) (hm_dcx c11 hm) hq)
      · rw [if_pos c23] at hq
        show R 97 26 [(3, .int v3), (2, .int v2), (0, .ref 3), (1, .int v1)] [] (N, hm_sh L g, s) _ Q
        refine hm_st hR (hm_st hR (hm_st hR (?_)))
        show R 97 4 [(3, .int (v3 + 1)), (2, .int (v2 + 1)), (0, .ref 3), (1, .int v1)] [] (N, hm_sh L g, s) _ Q
        exact hm_lvS hR (by intro q hq; simp only [List.mem_cons, List.not_mem_nil, or_false] at hq ⊢; rcases hq with rfl | rfl | rfl | rfl <;> simp) (ih s v1 (v2 + 1) (v3 + 1) (hm_dcx c11 hm) hq)
set_option maxRecDepth 20000 in
theorem sp_97 {R : hm_R} (hR : hm_Cm R) {N L : Nat} {g : Nat → hm_Sh} {s : hm_St} {b : hm_B} {Q : hm_Q} (hN : 68 ≤ N) {p1 : Int32} (hq : Q (.inr (some (.int (T_97 s p1)))) (N, hm_sh L g, s)) : R 97 0 (lv_args 0 [.ref 3, .int p1]) [] (N, hm_sh L g, s) b Q := by
  unfold T_97 at hq
  show R 97 0 [(0, .ref 3), (1, .int p1)] [] (N, hm_sh L g, s) _ Q
  refine hm_st hR (hm_st hR (hm_st hR (hm_st hR (?_))))
  show R 97 4 [(3, .int 0), (2, .int 0), (0, .ref 3), (1, .int p1)] [] (N, hm_sh L g, s) _ Q
  exact lp_97_4 hR hN _ _ _ _ _ (Nat.lt_succ_self _) hq
