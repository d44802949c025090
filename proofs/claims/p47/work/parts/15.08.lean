/-! The methods as functions; the abstract machine does them. -/
/-- CurvekeyHouse.many(I)I -/
def T_11 (N : Nat) (g : Nat → hm_Sh) (s : hm_St) (p1 : Int32) : hm_Er Int32 := (if ((T_34 s p1 0 15) : Int32) = 0 then (1, 0, N, g, s) else (if 8 ≤ p1 then (0, (T_56 s p1), N, g, s) else (0, (T_55 s p1), N, g, s)))
theorem N_11 {c j : Nat}  {N : Nat} {g : Nat → hm_Sh} {s : hm_St} {p1 : Int32} : (T_11 N g s p1).2.2.2.2 c j = s c j := by
  unfold T_11
  repeat' split
  all_goals first | with_reducible rfl | simp only []
set_option maxRecDepth 20000 in
theorem sp_11 {R : hm_R} (hR : hm_Cm R) {N L : Nat} {g : Nat → hm_Sh} {s : hm_St} {b : hm_B} {Q : hm_Q} (hN : 68 ≤ N) (hb1 : 1 ≤ b.1) (hb2 : 6 ≤ b.2) {p1 : Int32} (hq : hm_qx Q L (fun v => some (.int v)) (T_11 N g s p1)) : R 11 0 (lv_args 0 [.ref 2, .int p1]) [] (N, hm_sh L g, s) b Q := by
  unfold T_11 at hq
  show R 11 0 [(0, .ref 2), (1, .int p1)] [] (N, hm_sh L g, s) _ Q
  refine hm_st hR (hm_st hR (hm_st hR (?_)))
  refine hm_st hR ⟨hm_le rfl, hm_le rfl, hm_le rfl, (0, 0), Nat.zero_le _, Nat.zero_le _, ?_⟩
  refine sp_34 hR hN ?_
  show R 11 7 [(0, .ref 2), (1, .int p1)] [.int (T_34 s p1 0 15)] (N, hm_sh L g, s) _ Q
  show R 11 7 [(0, .ref 2), (1, .int p1)] [.int (T_34 s p1 0 15)] (N, hm_sh L g, s) _ Q
  by_cases c7 : ((T_34 s p1 0 15) : Int32) = 0
  · rw [if_pos c7] at hq
    exact hm_st hR ⟨hm_le rfl, hm_le rfl, hm_le rfl, (1, 6), (by show 1 ≤ b.1 - 0; omega), (by show 6 ≤ b.2 - 0; omega), hm_needT31 hR hN c7 (fun N2 hN2 => hm_KX (by decide) (hq N2 hN2))⟩
  · rw [if_neg c7] at hq
    refine hm_st hR ⟨hm_le rfl, hm_le rfl, hm_le rfl, (0, 0), Nat.zero_le _, Nat.zero_le _, hm_needP31 hR c7 ?_⟩
    show R 11 10 [(0, .ref 2), (1, .int p1)] [] (N, hm_sh L g, s) _ Q
    refine hm_st hR (hm_st hR (?_))
    show R 11 13 [(0, .ref 2), (1, .int p1)] [.int 8, .int p1] (N, hm_sh L g, s) _ Q
    refine hm_st hR ⟨fun c13 => ?_, fun c13 => ?_⟩
    · rw [if_pos c13] at hq
      show R 11 24 [(0, .ref 2), (1, .int p1)] [] (N, hm_sh L g, s) _ Q
      refine hm_st hR (hm_st hR (?_))
      refine hm_st hR ⟨hm_le rfl, rfl, (hm_le rfl), (hm_ltN hN rfl), hm_le rfl, hm_le rfl, (0, 0), Nat.zero_le _, Nat.zero_le _, ?_⟩
      refine sp_56 hR hN ?_
      show R 11 29 [(0, .ref 2), (1, .int p1)] [.int (T_56 s p1)] (N, hm_sh L g, s) _ Q
      exact hm_st hR ⟨fun z => absurd z (by decide), hm_qx0 hq⟩
    · rw [if_neg c13] at hq
      show R 11 16 [(0, .ref 2), (1, .int p1)] [] (N, hm_sh L g, s) _ Q
      refine hm_st hR (hm_st hR (?_))
      refine hm_st hR ⟨hm_le rfl, rfl, (hm_le rfl), (hm_ltN hN rfl), hm_le rfl, hm_le rfl, (0, 0), Nat.zero_le _, Nat.zero_le _, ?_⟩
      refine sp_55 hR hN ?_
      show R 11 21 [(0, .ref 2), (1, .int p1)] [.int (T_55 s p1)] (N, hm_sh L g, s) _ Q
      refine hm_st hR (?_)
      exact hm_st hR ⟨fun z => absurd z (by decide), hm_qx0 hq⟩
/-- CurvekeyHouse$Cut.gapBehind(I)I -/
def T_106 (s : hm_St) (p1 : Int32) : Int32 := (((T_178 s 61 1024 (p1 + 1)) - (T_178 s 63 1024 p1)) - 1)
set_option maxRecDepth 20000 in
theorem sp_106 {R : hm_R} (hR : hm_Cm R) {N L : Nat} {g : Nat → hm_Sh} {s : hm_St} {b : hm_B} {Q : hm_Q} (hN : 68 ≤ N) {p1 : Int32} (hq : Q (.inr (some (.int (T_106 s p1)))) (N, hm_sh L g, s)) : R 106 0 (lv_args 0 [.ref 59, .int p1]) [] (N, hm_sh L g, s) b Q := by
  unfold T_106 at hq
  show R 106 0 [(0, .ref 59), (1, .int p1)] [] (N, hm_sh L g, s) _ Q
  refine hm_st hR (hm_st hR ⟨rfl, hm_le rfl, (hm_ltN hN rfl), hm_st hR (hm_st hR (hm_st hR (?_)))⟩)
  refine hm_st hR ⟨hm_le rfl, rfl, (hm_le rfl), (hm_ltN hN rfl), hm_le rfl, hm_le rfl, (0, 0), Nat.zero_le _, Nat.zero_le _, ?_⟩
  refine sp_178 hR hN (rr := 60) (aa := 61) (nn := 1024) rfl rfl (hm_le rfl) (hm_ltN hN rfl) rfl rfl (hm_le rfl) (hm_ltN hN rfl) (by decide) ?_
  show R 106 10 [(0, .ref 59), (1, .int p1)] [.int (T_178 s 61 1024 (p1 + 1))] (N, hm_sh L g, s) _ Q
  refine hm_st hR (hm_st hR ⟨rfl, hm_le rfl, (hm_ltN hN rfl), hm_st hR (?_)⟩)
  refine hm_st hR ⟨hm_le rfl, rfl, (hm_le rfl), (hm_ltN hN rfl), hm_le rfl, hm_le rfl, (0, 0), Nat.zero_le _, Nat.zero_le _, ?_⟩
  refine sp_178 hR hN (rr := 62) (aa := 63) (nn := 1024) rfl rfl (hm_le rfl) (hm_ltN hN rfl) rfl rfl (hm_le rfl) (hm_ltN hN rfl) (by decide) ?_
  show R 106 18 [(0, .ref 59), (1, .int p1)] [.int (T_178 s 63 1024 p1), .int (T_178 s 61 1024 (p1 + 1))] (N, hm_sh L g, s) _ Q
  refine hm_st hR (hm_st hR (hm_st hR (?_)))
  exact hm_st hR ⟨fun z => absurd z (by decide), hq⟩
def T_107_4 : Nat → hm_St → Int32 → Int32 → Int32
  | 0, s, _, _ => 0
  | n + 1, s, v1, v2 => (if (s 59 2) ≤ (v2 + 1) then v1 else (if (T_106 s v1) ≤ (T_106 s v2) then (T_107_4 n s v1 (v2 + 1)) else (T_107_4 n s v2 (v2 + 1))))
/-- CurvekeyHouse$Cut.closest()I -/
def T_107 (s : hm_St) : Int32 := (T_107_4 (hm_df (s 59 2) (1 + 1) + 1) s 0 1)
set_option maxRecDepth 20000 in
theorem lp_107_4 {R : hm_R} (hR : hm_Cm R) {N L : Nat} {g : Nat → hm_Sh} {b : hm_B} {Q : hm_Q} (hN : 68 ≤ N) : ∀ (n : Nat) (s : hm_St) (v1 : Int32) (v2 : Int32), hm_df (s 59 2) (v2 + 1) < n → (hq : Q (.inr (some (.int (T_107_4 n s v1 v2)))) (N, hm_sh L g, s)) → R 107 4 [(2, .int v2), (1, .int v1), (0, .ref 59)] [] (N, hm_sh L g, s) b Q := by
  intro n
  induction n with
  | zero => intro s v1 v2 hm _; exact absurd hm (Nat.not_lt_zero _)
  | succ n ih =>
    intro s v1 v2 hm hq
    unfold T_107_4 at hq
    refine hm_st hR (hm_st hR (hm_st hR (hm_st hR (hm_st hR ⟨rfl, hm_le rfl, (hm_ltN hN rfl), ?_⟩))))
    show R 107 11 [(2, .int v2), (1, .int v1), (0, .ref 59)] [.int (s 59 2), .int (v2 + 1)] (N, hm_sh L g, s) _ Q
    refine hm_st hR ⟨fun c11 => ?_, fun c11 => ?_⟩
    · rw [if_pos c11] at hq
      show R 107 35 [(2, .int v2), (1, .int v1), (0, .ref 59)] [] (N, hm_sh L g, s) _ Q
      refine hm_st hR (?_)
      exact hm_st hR ⟨fun z => absurd z (by decide), hq⟩
    · rw [if_neg c11] at hq
      show R 107 14 [(2, .int v2), (1, .int v1), (0, .ref 59)] [] (N, hm_sh L g, s) _ Q
      refine hm_st hR (hm_st hR (?_))
      refine hm_st hR ⟨hm_le rfl, rfl, (hm_le rfl), (hm_ltN hN rfl), hm_le rfl, hm_le rfl, (0, 0), Nat.zero_le _, Nat.zero_le _, ?_⟩
      refine sp_106 hR hN ?_
      show R 107 19 [(2, .int v2), (1, .int v1), (0, .ref 59)] [.int (T_106 s v2)] (N, hm_sh L g, s) _ Q
      refine hm_st hR (hm_st hR (?_))
      refine hm_st hR ⟨hm_le rfl, rfl, (hm_le rfl), (hm_ltN hN rfl), hm_le rfl, hm_le rfl, (0, 0), Nat.zero_le _, Nat.zero_le _, ?_⟩
      refine sp_106 hR hN ?_
      show R 107 24 [(2, .int v2), (1, .int v1), (0, .ref 59)] [.int (T_106 s v1), .int (T_106 s v2)] (N, hm_sh L g, s) _ Q
      show R 107 24 [(2, .int v2), (1, .int v1), (0, .ref 59)] [.int (T_106 s v1), .int (T_106 s v2)] (N, hm_sh L g, s) _ Q
      refine hm_st hR ⟨fun c24 => ?_, fun c24 => ?_⟩
      · rw [if_pos c24] at hq
        show R 107 29 [(2, .int v2), (1, .int v1), (0, .ref 59)] [] (N, hm_sh L g, s) _ Q
        refine hm_st hR (hm_st hR (?_))
        show R 107 4 [(2, .int (v2 + 1)), (1, .int v1), (0, .ref 59)] [] (N, hm_sh L g, s) _ Q
        exact hm_lvS hR (by intro q hq; simp only [List.mem_cons, List.not_mem_nil, or_false] at hq ⊢; rcases hq with rfl | rfl | rfl <;> simp) (ih s v1 (v2 + 1) (hm_dcx c11 hm) hq)
      · rw [if_neg c24] at hq
        show R 107 27 [(2, .int v2), (1, .int v1), (0, .ref 59)] [] (N, hm_sh L g, s) _ Q
        refine hm_st hR (hm_st hR (hm_st hR (hm_st hR (?_))))
        show R 107 4 [(2, .int (v2 + 1)), (1, .int v2), (0, .ref 59)] [] (N, hm_sh L g, s) _ Q
        exact hm_lvS hR (by intro q hq; simp only [List.mem_cons, List.not_mem_nil, or_false] at hq ⊢; rcases hq with rfl | rfl | rfl <;> simp) (ih s v2 (v2 + 1) (hm_dcx c11 hm) hq)
set_option maxRecDepth 20000 in
theorem sp_107 {R : hm_R} (hR : hm_Cm R) {N L : Nat} {g : Nat → hm_Sh} {s : hm_St} {b : hm_B} {Q : hm_Q} (hN : 68 ≤ N) (hq : Q (.inr (some (.int (T_107 s)))) (N, hm_sh L g, s)) : R 107 0 (lv_args 0 [.ref 59]) [] (N, hm_sh L g, s) b Q := by
  unfold T_107 at hq
  show R 107 0 [(0, .ref 59)] [] (N, hm_sh L g, s) _ Q
  refine hm_st hR (hm_st hR (hm_st hR (hm_st hR (?_))))
  show R 107 4 [(2, .int 1), (1, .int 0), (0, .ref 59)] [] (N, hm_sh L g, s) _ Q
  exact lp_107_4 hR hN _ _ _ _ (Nat.lt_succ_self _) hq
/-- CurvekeyHouse$Cut.joinBehind(I)V -/
def T_108 (s : hm_St) (p1 : Int32) : hm_St := (hm_w1 (T_183 (T_183 (hm_w1 s 59 3 ((s 59 3) + (T_106 s p1))) 61 1024 (p1 + 1) ((hm_w1 s 59 3 ((s 59 3) + (T_106 s p1))) 59 2)) 63 1024 p1 ((T_183 (hm_w1 s 59 3 ((s 59 3) + (T_106 s p1))) 61 1024 (p1 + 1) ((hm_w1 s 59 3 ((s 59 3) + (T_106 s p1))) 59 2)) 59 2)) 59 2 (((T_183 (T_183 (hm_w1 s 59 3 ((s 59 3) + (T_106 s p1))) 61 1024 (p1 + 1) ((hm_w1 s 59 3 ((s 59 3) + (T_106 s p1))) 59 2)) 63 1024 p1 ((T_183 (hm_w1 s 59 3 ((s 59 3) + (T_106 s p1))) 61 1024 (p1 + 1) ((hm_w1 s 59 3 ((s 59 3) + (T_106 s p1))) 59 2)) 59 2)) 59 2) - 1))
theorem N_108 {c j : Nat} (h59 : c ≠ 59) (h61 : c ≠ 61) (h63 : c ≠ 63) {s : hm_St} {p1 : Int32} : (T_108 s p1) c j = s c j := by
  unfold T_108
  repeat' split
  all_goals first | with_reducible rfl | simp only [hm_w1n h59, hm_w1n h61, hm_w1n h63, N_183 h59, N_183 h61, N_183 h63]
set_option maxRecDepth 20000 in
theorem sp_108 {R : hm_R} (hR : hm_Cm R) {N L : Nat} {g : Nat → hm_Sh} {s : hm_St} {b : hm_B} {Q : hm_Q} (hN : 68 ≤ N) {p1 : Int32} (hq : Q (.inr none) (N, hm_sh L g, (T_108 s p1))) : R 108 0 (lv_args 0 [.ref 59, .int p1]) [] (N, hm_sh L g, s) b Q := by
  unfold T_108 at hq
  show R 108 0 [(0, .ref 59), (1, .int p1)] [] (N, hm_sh L g, s) _ Q
  refine hm_st hR (hm_st hR ⟨rfl, hm_st hR ⟨rfl, hm_le rfl, (hm_ltN hN rfl), hm_st hR (hm_st hR (?_))⟩⟩)
  refine hm_st hR ⟨hm_le rfl, rfl, (hm_le rfl), (hm_ltN hN rfl), hm_le rfl, hm_le rfl, (0, 0), Nat.zero_le _, Nat.zero_le _, ?_⟩
  refine sp_106 hR hN ?_
  show R 108 10 [(0, .ref 59), (1, .int p1)] [.int (T_106 s p1), .int (s 59 3), .ref 59] (N, hm_sh L g, s) _ Q
  refine hm_st hR (hm_st hR ⟨rfl, rfl, hm_le rfl, (hm_ltN hN rfl), ?_⟩)
  show R 108 14 [(0, .ref 59), (1, .int p1)] [] (N, hm_sh L g, (hm_w1 s 59 3 ((s 59 3) + (T_106 s p1)))) _ Q
  refine hm_st hR (hm_st hR ⟨rfl, hm_le rfl, (hm_ltN hN rfl), hm_st hR (hm_st hR (hm_st hR (hm_st hR (hm_st hR ⟨rfl, hm_le rfl, (hm_ltN hN rfl), ?_⟩))))⟩)
  refine hm_st hR ⟨hm_le rfl, rfl, (hm_le rfl), (hm_ltN hN rfl), hm_le rfl, hm_le rfl, (0, 0), Nat.zero_le _, Nat.zero_le _, ?_⟩
  refine sp_183 hR hN (rr := 60) (aa := 61) (nn := 1024) rfl rfl (hm_le rfl) (hm_ltN hN rfl) rfl rfl (hm_le rfl) (hm_ltN hN rfl) (by decide) ?_
  show R 108 28 [(0, .ref 59), (1, .int p1)] [] (N, hm_sh L g, (T_183 (hm_w1 s 59 3 ((s 59 3) + (T_106 s p1))) 61 1024 (p1 + 1) ((hm_w1 s 59 3 ((s 59 3) + (T_106 s p1))) 59 2))) _ Q
  refine hm_st hR (hm_st hR ⟨rfl, hm_le rfl, (hm_ltN hN rfl), hm_st hR (hm_st hR (hm_st hR ⟨rfl, hm_le rfl, (hm_ltN hN rfl), ?_⟩))⟩)
  refine hm_st hR ⟨hm_le rfl, rfl, (hm_le rfl), (hm_ltN hN rfl), hm_le rfl, hm_le rfl, (0, 0), Nat.zero_le _, Nat.zero_le _, ?_⟩
  refine sp_183 hR hN (rr := 62) (aa := 63) (nn := 1024) rfl rfl (hm_le rfl) (hm_ltN hN rfl) rfl rfl (hm_le rfl) (hm_ltN hN rfl) (by decide) ?_
  show R 108 40 [(0, .ref 59), (1, .int p1)] [] (N, hm_sh L g, (T_183 (T_183 (hm_w1 s 59 3 ((s 59 3) + (T_106 s p1))) 61 1024 (p1 + 1) ((hm_w1 s 59 3 ((s 59 3) + (T_106 s p1))) 59 2)) 63 1024 p1 ((T_183 (hm_w1 s 59 3 ((s 59 3) + (T_106 s p1))) 61 1024 (p1 + 1) ((hm_w1 s 59 3 ((s 59 3) + (T_106 s p1))) 59 2)) 59 2))) _ Q
  refine hm_st hR (hm_st hR ⟨rfl, hm_st hR ⟨rfl, hm_le rfl, (hm_ltN hN rfl), hm_st hR (hm_st hR (hm_st hR ⟨rfl, rfl, hm_le rfl, (hm_ltN hN rfl), ?_⟩))⟩⟩)
  show R 108 50 [(0, .ref 59), (1, .int p1)] [] (N, hm_sh L g, (hm_w1 (T_183 (T_183 (hm_w1 s 59 3 ((s 59 3) + (T_106 s p1))) 61 1024 (p1 + 1) ((hm_w1 s 59 3 ((s 59 3) + (T_106 s p1))) 59 2)) 63 1024 p1 ((T_183 (hm_w1 s 59 3 ((s 59 3) + (T_106 s p1))) 61 1024 (p1 + 1) ((hm_w1 s 59 3 ((s 59 3) + (T_106 s p1))) 59 2)) 59 2)) 59 2 (((T_183 (T_183 (hm_w1 s 59 3 ((s 59 3) + (T_106 s p1))) 61 1024 (p1 + 1) ((hm_w1 s 59 3 ((s 59 3) + (T_106 s p1))) 59 2)) 63 1024 p1 ((T_183 (hm_w1 s 59 3 ((s 59 3) + (T_106 s p1))) 61 1024 (p1 + 1) ((hm_w1 s 59 3 ((s 59 3) + (T_106 s p1))) 59 2)) 59 2)) 59 2) - 1))) _ Q
  exact hm_st hR (hq)
def T_105_7 : Nat → hm_St → Int32 → Int32 → hm_St
  | 0, s, _, _ => s
  | n + 1, s, v1, v2 => (if v2 ≤ 0 then s else (T_105_7 n (T_108 s (T_107 s)) v1 (v2 + (-1))))
/-- CurvekeyHouse$Cut.joinTo(I)V -/
def T_105 (s : hm_St) (p1 : Int32) : hm_St := (T_105_7 (hm_df ((s 59 2) - p1) 0 + 1) s p1 ((s 59 2) - p1))
theorem N_105_7 {c j : Nat} (h59 : c ≠ 59) (h61 : c ≠ 61) (h63 : c ≠ 63) : ∀ (n : Nat) (s : hm_St) (v0 v1 : Int32), (T_105_7  n s v0 v1) c j = s c j := by
  intro n
  induction n with
  | zero => intros; rfl
  | succ n ih =>
    intros
    unfold T_105_7
    repeat' split
    all_goals first | with_reducible rfl | simp only [ih, hm_w1n h59, hm_w1n h61, hm_w1n h63, N_108 h59 h61 h63]
theorem N_105 {c j : Nat} (h59 : c ≠ 59) (h61 : c ≠ 61) (h63 : c ≠ 63) {s : hm_St} {p1 : Int32} : (T_105 s p1) c j = s c j := by
  unfold T_105
  repeat' split
  all_goals first | with_reducible rfl | simp only [hm_w1n h59, hm_w1n h61, hm_w1n h63, N_108 h59 h61 h63, N_105_7 h59 h61 h63]
set_option maxRecDepth 20000 in
theorem lp_105_7 {R : hm_R} (hR : hm_Cm R) {N L : Nat} {g : Nat → hm_Sh} {b : hm_B} {Q : hm_Q} (hN : 68 ≤ N) : ∀ (n : Nat) (s : hm_St) (v1 : Int32) (v2 : Int32), hm_df v2 0 < n → (hq : Q (.inr none) (N, hm_sh L g, (T_105_7 n s v1 v2))) → R 105 7 [(2, .int v2), (0, .ref 59), (1, .int v1)] [] (N, hm_sh L g, s) b Q := by
  intro n
  induction n with
  | zero => intro s v1 v2 hm _; exact absurd hm (Nat.not_lt_zero _)
  | succ n ih =>
    intro s v1 v2 hm hq
    unfold T_105_7 at hq
    refine hm_st hR (?_)
    show R 105 8 [(2, .int v2), (0, .ref 59), (1, .int v1)] [.int v2] (N, hm_sh L g, s) _ Q
    refine hm_st hR ⟨fun c8 => ?_, fun c8 => ?_⟩
    · rw [if_pos c8] at hq
      show R 105 25 [(2, .int v2), (0, .ref 59), (1, .int v1)] [] (N, hm_sh L g, s) _ Q
      exact hm_st hR (hq)
    · rw [if_neg c8] at hq
      show R 105 11 [(2, .int v2), (0, .ref 59), (1, .int v1)] [] (N, hm_sh L g, s) _ Q
      refine hm_st hR (hm_st hR (?_))
      refine hm_st hR ⟨hm_le rfl, rfl, (hm_le rfl), (hm_ltN hN rfl), hm_le rfl, hm_le rfl, (0, 0), Nat.zero_le _, Nat.zero_le _, ?_⟩
      refine sp_107 hR hN ?_
      show R 105 16 [(2, .int v2), (0, .ref 59), (1, .int v1)] [.int (T_107 s), .ref 59] (N, hm_sh L g, s) _ Q
      refine hm_st hR ⟨hm_le rfl, rfl, (hm_le rfl), (hm_ltN hN rfl), hm_le rfl, hm_le rfl, (0, 0), Nat.zero_le _, Nat.zero_le _, ?_⟩
      refine sp_108 hR hN ?_
      show R 105 19 [(2, .int v2), (0, .ref 59), (1, .int v1)] [] (N, hm_sh L g, (T_108 s (T_107 s))) _ Q
      refine hm_st hR (hm_st hR (?_))
      show R 105 7 [(2, .int (v2 + (-1))), (0, .ref 59), (1, .int v1)] [] (N, hm_sh L g, (T_108 s (T_107 s))) _ Q
      exact hm_lvS hR (by intro q hq; simp only [List.mem_cons, List.not_mem_nil, or_false] at hq ⊢; rcases hq with rfl | rfl | rfl <;> simp) (ih (T_108 s (T_107 s)) v1 (v2 + (-1)) (hm_dcm c8 hm) hq)
set_option maxRecDepth 20000 in
theorem sp_105 {R : hm_R} (hR : hm_Cm R) {N L : Nat} {g : Nat → hm_Sh} {s : hm_St} {b : hm_B} {Q : hm_Q} (hN : 68 ≤ N) {p1 : Int32} (hq : Q (.inr none) (N, hm_sh L g, (T_105 s p1))) : R 105 0 (lv_args 0 [.ref 59, .int p1]) [] (N, hm_sh L g, s) b Q := by
  unfold T_105 at hq
  show R 105 0 [(0, .ref 59), (1, .int p1)] [] (N, hm_sh L g, s) _ Q
  refine hm_st hR (hm_st hR ⟨rfl, hm_le rfl, (hm_ltN hN rfl), hm_st hR (hm_st hR (hm_st hR (?_)))⟩)
  show R 105 7 [(2, .int ((s 59 2) - p1)), (0, .ref 59), (1, .int p1)] [] (N, hm_sh L g, s) _ Q
  exact lp_105_7 hR hN _ _ _ _ (Nat.lt_succ_self _) hq
/-- CurvekeyHouse.cutTo(LCurvekeyHouse$Box;I)V -/
def T_49 (s : hm_St) (bx : Nat) (p2 : Int32) : hm_St := (T_105 (T_104 s (s 2 8) bx) p2)
theorem N_49 {c j : Nat} (h59 : c ≠ 59) (h61 : c ≠ 61) (h63 : c ≠ 63) {s : hm_St} {bx : Nat} {p2 : Int32} : (T_49 s bx p2) c j = s c j := by
  unfold T_49
  repeat' split
  all_goals first | with_reducible rfl | simp only [hm_w1n h59, hm_w1n h61, hm_w1n h63, N_104 h59 h61 h63, N_105 h59 h61 h63]
set_option maxRecDepth 20000 in
theorem sp_49 {R : hm_R} (hR : hm_Cm R) {N L : Nat} {g : Nat → hm_Sh} {s : hm_St} {b : hm_B} {Q : hm_Q} (hN : 68 ≤ N) {bx : Nat} (hbk : (hm_sh L g bx).1 = 0) (hb2 : 2 ≤ bx) (hbl : bx < N) {p2 : Int32} (hq : Q (.inr none) (N, hm_sh L g, (T_49 s bx p2))) : R 49 0 (lv_args 0 [.ref 2, .ref bx, .int p2]) [] (N, hm_sh L g, s) b Q := by
  unfold T_49 at hq
  show R 49 0 [(0, .ref 2), (1, .ref bx), (2, .int p2)] [] (N, hm_sh L g, s) _ Q
  refine hm_st hR (hm_st hR ⟨rfl, hm_le rfl, (hm_ltN hN rfl), hm_st hR (hm_st hR ⟨rfl, hm_le rfl, (hm_ltN hN rfl), hm_st hR (hm_st hR ⟨rfl, hm_le rfl, (hm_ltN hN rfl), hm_st hR (?_)⟩)⟩)⟩)
  refine hm_st hR ⟨hm_le rfl, rfl, (hm_le rfl), (hm_ltN hN rfl), hm_le rfl, hm_le rfl, (0, 0), Nat.zero_le _, Nat.zero_le _, ?_⟩
  refine sp_104 hR hN (bx := bx) hbk hb2 hbl ?_
  show R 49 16 [(0, .ref 2), (1, .ref bx), (2, .int p2)] [] (N, hm_sh L g, (T_104 s (s 2 8) bx)) _ Q
  refine hm_st hR (hm_st hR ⟨rfl, hm_le rfl, (hm_ltN hN rfl), hm_st hR (?_)⟩)
  refine hm_st hR ⟨hm_le rfl, rfl, (hm_le rfl), (hm_ltN hN rfl), hm_le rfl, hm_le rfl, (0, 0), Nat.zero_le _, Nat.zero_le _, ?_⟩
  refine sp_105 hR hN ?_
  show R 49 24 [(0, .ref 2), (1, .ref bx), (2, .int p2)] [] (N, hm_sh L g, (T_105 (T_104 s (s 2 8) bx) p2)) _ Q
  exact hm_st hR (hq)
/-- CurvekeyHouse$Cut.falseKeys()I -/
def T_102 (s : hm_St) : Int32 := (s 59 3)
set_option maxRecDepth 20000 in
theorem sp_102 {R : hm_R} (hR : hm_Cm R) {N L : Nat} {g : Nat → hm_Sh} {s : hm_St} {b : hm_B} {Q : hm_Q} (hN : 68 ≤ N) (hq : Q (.inr (some (.int (T_102 s)))) (N, hm_sh L g, s)) : R 102 0 (lv_args 0 [.ref 59]) [] (N, hm_sh L g, s) b Q := by
  unfold T_102 at hq
  show R 102 0 [(0, .ref 59)] [] (N, hm_sh L g, s) _ Q
  refine hm_st hR (hm_st hR ⟨rfl, hm_le rfl, (hm_ltN hN rfl), ?_⟩)
  exact hm_st hR ⟨fun z => absurd z (by decide), hq⟩
def T_109_7 : Nat → hm_St → Int32 → Int32 → Int32 → Int32
  | 0, s, _, _, _ => 0
  | n + 1, s, v2, v3, v4 => (if (s 59 2) ≤ v4 then v2 else (T_109_7 n s (v2 + (((T_139 s (T_178 s 63 1024 v4)) - (hm_max (v3 + 1) (T_139 s (T_178 s 61 1024 v4)))) + 1)) (T_139 s (T_178 s 63 1024 v4)) (v4 + 1)))
/-- CurvekeyHouse$Cut.pagesRead(LCurvekeyHouse$Pages;)I -/
def T_109 (s : hm_St) : Int32 := (T_109_7 (hm_df (s 59 2) 0 + 1) s 0 (-1) 0)
set_option maxRecDepth 20000 in
theorem lp_109_7 {R : hm_R} (hR : hm_Cm R) {N L : Nat} {g : Nat → hm_Sh} {b : hm_B} {Q : hm_Q} (hN : 68 ≤ N) : ∀ (n : Nat) (s : hm_St) (v2 : Int32) (v3 : Int32) (v4 : Int32), hm_df (s 59 2) v4 < n → (hq : Q (.inr (some (.int (T_109_7 n s v2 v3 v4)))) (N, hm_sh L g, s)) → R 109 7 [(4, .int v4), (3, .int v3), (2, .int v2), (0, .ref 59), (1, .ref 42)] [] (N, hm_sh L g, s) b Q := by
  intro n
  induction n with
  | zero => intro s v2 v3 v4 hm _; exact absurd hm (Nat.not_lt_zero _)
  | succ n ih =>
    intro s v2 v3 v4 hm hq
    unfold T_109_7 at hq
    refine hm_st hR (hm_st hR (hm_st hR ⟨rfl, hm_le rfl, (hm_ltN hN rfl), ?_⟩))
    show R 109 13 [(4, .int v4), (3, .int v3), (2, .int v2), (0, .ref 59), (1, .ref 42)] [.int (s 59 2), .int v4] (N, hm_sh L g, s) _ Q
    refine hm_st hR ⟨fun c13 => ?_, fun c13 => ?_⟩
    · rw [if_pos c13] at hq
      show R 109 66 [(4, .int v4), (3, .int v3), (2, .int v2), (0, .ref 59), (1, .ref 42)] [] (N, hm_sh L g, s) _ Q
      refine hm_st hR (?_)
      exact hm_st hR ⟨fun z => absurd z (by decide), hq⟩
    · rw [if_neg c13] at hq
      show R 109 16 [(4, .int v4), (3, .int v3), (2, .int v2), (0, .ref 59), (1, .ref 42)] [] (N, hm_sh L g, s) _ Q
      refine hm_st hR (hm_st hR (hm_st hR (hm_st hR (hm_st hR (hm_st hR ⟨rfl, hm_le rfl, (hm_ltN hN rfl), hm_st hR (?_)⟩)))))
      refine hm_st hR ⟨hm_le rfl, rfl, (hm_le rfl), (hm_ltN hN rfl), hm_le rfl, hm_le rfl, (0, 0), Nat.zero_le _, Nat.zero_le _, ?_⟩
      refine sp_178 hR hN (rr := 60) (aa := 61) (nn := 1024) rfl rfl (hm_le rfl) (hm_ltN hN rfl) rfl rfl (hm_le rfl) (hm_ltN hN rfl) (by decide) ?_
      show R 109 29 [(4, .int v4), (3, .int v3), (2, .int v2), (0, .ref 59), (1, .ref 42)] [.int (T_178 s 61 1024 v4), .ref 42, .int (v3 + 1)] (N, hm_sh L g, s) _ Q
      refine hm_st hR ⟨hm_le rfl, rfl, (hm_le rfl), (hm_ltN hN rfl), hm_le rfl, hm_le rfl, (0, 0), Nat.zero_le _, Nat.zero_le _, ?_⟩
      refine sp_139 hR hN ?_
      show R 109 32 [(4, .int v4), (3, .int v3), (2, .int v2), (0, .ref 59), (1, .ref 42)] [.int (T_139 s (T_178 s 61 1024 v4)), .int (v3 + 1)] (N, hm_sh L g, s) _ Q
      refine hm_st hR ⟨hm_le rfl, ?_⟩
      show R 109 35 [(4, .int v4), (3, .int v3), (2, .int v2), (0, .ref 59), (1, .ref 42)] [.int (hm_max (v3 + 1) (T_139 s (T_178 s 61 1024 v4)))] (N, hm_sh L g, s) _ Q
      refine hm_st hR (hm_st hR (hm_st hR (hm_st hR ⟨rfl, hm_le rfl, (hm_ltN hN rfl), hm_st hR (?_)⟩)))
      refine hm_st hR ⟨hm_le rfl, rfl, (hm_le rfl), (hm_ltN hN rfl), hm_le rfl, hm_le rfl, (0, 0), Nat.zero_le _, Nat.zero_le _, ?_⟩
      refine sp_178 hR hN (rr := 62) (aa := 63) (nn := 1024) rfl rfl (hm_le rfl) (hm_ltN hN rfl) rfl rfl (hm_le rfl) (hm_ltN hN rfl) (by decide) ?_
      show R 109 47 [(5, .int (hm_max (v3 + 1) (T_139 s (T_178 s 61 1024 v4)))), (4, .int v4), (3, .int v3), (2, .int v2), (0, .ref 59), (1, .ref 42)] [.int (T_178 s 63 1024 v4), .ref 42] (N, hm_sh L g, s) _ Q
      refine hm_st hR ⟨hm_le rfl, rfl, (hm_le rfl), (hm_ltN hN rfl), hm_le rfl, hm_le rfl, (0, 0), Nat.zero_le _, Nat.zero_le _, ?_⟩
      refine sp_139 hR hN ?_
      show R 109 50 [(5, .int (hm_max (v3 + 1) (T_139 s (T_178 s 61 1024 v4)))), (4, .int v4), (3, .int v3), (2, .int v2), (0, .ref 59), (1, .ref 42)] [.int (T_139 s (T_178 s 63 1024 v4))] (N, hm_sh L g, s) _ Q
      refine hm_st hR (hm_st hR (hm_st hR (hm_st hR (hm_st hR (hm_st hR (hm_st hR (hm_st hR (hm_st hR (hm_st hR (hm_st hR (?_)))))))))))
      show R 109 7 [(4, .int (v4 + 1)), (2, .int (v2 + (((T_139 s (T_178 s 63 1024 v4)) - (hm_max (v3 + 1) (T_139 s (T_178 s 61 1024 v4)))) + 1))), (3, .int (T_139 s (T_178 s 63 1024 v4))), (5, .int (hm_max (v3 + 1) (T_139 s (T_178 s 61 1024 v4)))), (0, .ref 59), (1, .ref 42)] [] (N, hm_sh L g, s) _ Q
      exact hm_lvS hR (by intro q hq; simp only [List.mem_cons, List.not_mem_nil, or_false] at hq ⊢; rcases hq with rfl | rfl | rfl | rfl | rfl <;> simp) (ih s (v2 + (((T_139 s (T_178 s 63 1024 v4)) - (hm_max (v3 + 1) (T_139 s (T_178 s 61 1024 v4)))) + 1)) (T_139 s (T_178 s 63 1024 v4)) (v4 + 1) (hm_dcx c13 hm) hq)
set_option maxRecDepth 20000 in
theorem sp_109 {R : hm_R} (hR : hm_Cm R) {N L : Nat} {g : Nat → hm_Sh} {s : hm_St} {b : hm_B} {Q : hm_Q} (hN : 68 ≤ N) (hq : Q (.inr (some (.int (T_109 s)))) (N, hm_sh L g, s)) : R 109 0 (lv_args 0 [.ref 59, .ref 42]) [] (N, hm_sh L g, s) b Q := by
  unfold T_109 at hq
  show R 109 0 [(0, .ref 59), (1, .ref 42)] [] (N, hm_sh L g, s) _ Q
  refine hm_st hR (hm_st hR (hm_st hR (hm_st hR (hm_st hR (hm_st hR (?_))))))
  show R 109 7 [(4, .int 0), (3, .int (-1)), (2, .int 0), (0, .ref 59), (1, .ref 42)] [] (N, hm_sh L g, s) _ Q
  exact lp_109_7 hR hN _ _ _ _ _ (Nat.lt_succ_self _) hq
/-- CurvekeyHouse$Cut.lastBegin()I -/
def T_103 (s : hm_St) : Int32 := (T_178 s 61 1024 ((s 59 2) - 1))
set_option maxRecDepth 20000 in
theorem sp_103 {R : hm_R} (hR : hm_Cm R) {N L : Nat} {g : Nat → hm_Sh} {s : hm_St} {b : hm_B} {Q : hm_Q} (hN : 68 ≤ N) (hq : Q (.inr (some (.int (T_103 s)))) (N, hm_sh L g, s)) : R 103 0 (lv_args 0 [.ref 59]) [] (N, hm_sh L g, s) b Q := by
  unfold T_103 at hq
  show R 103 0 [(0, .ref 59)] [] (N, hm_sh L g, s) _ Q
  refine hm_st hR (hm_st hR ⟨rfl, hm_le rfl, (hm_ltN hN rfl), hm_st hR (hm_st hR ⟨rfl, hm_le rfl, (hm_ltN hN rfl), hm_st hR (hm_st hR (?_))⟩)⟩)
  refine hm_st hR ⟨hm_le rfl, rfl, (hm_le rfl), (hm_ltN hN rfl), hm_le rfl, hm_le rfl, (0, 0), Nat.zero_le _, Nat.zero_le _, ?_⟩
  refine sp_178 hR hN (rr := 60) (aa := 61) (nn := 1024) rfl rfl (hm_le rfl) (hm_ltN hN rfl) rfl rfl (hm_le rfl) (hm_ltN hN rfl) (by decide) ?_
  show R 103 13 [(0, .ref 59)] [.int (T_178 s 61 1024 ((s 59 2) - 1))] (N, hm_sh L g, s) _ Q
  exact hm_st hR ⟨fun z => absurd z (by decide), hq⟩
/-- CurvekeyHouse.cut(IIIIII)I -/
def T_12 (N : Nat) (g : Nat → hm_Sh) (s : hm_St) (p1 : Int32) (p2 : Int32) (p3 : Int32) (p4 : Int32) (p5 : Int32) (p6 : Int32) : hm_Er Int32 := (if (T_38 s p1 p2 p3 p4) = 0 then (1, 0, N, g, s) else (if (T_34 s p5 1 99) = 0 then (1, 0, N, g, s) else (if ((if (T_34 s p6 0 3) = 0 then (0 : Int32) else 1) : Int32) = 0 then (1, 0, N, g, s) else (if p6 = 0 then (0, (T_101 (T_49 (T_65 (hm_sn s N) N p1 p2 p3 p4) N p5)), (N + 1), (hm_gb g N), (T_49 (T_65 (hm_sn s N) N p1 p2 p3 p4) N p5)) else (if p6 = 1 then (0, (T_102 (T_49 (T_65 (hm_sn s N) N p1 p2 p3 p4) N p5)), (N + 1), (hm_gb g N), (T_49 (T_65 (hm_sn s N) N p1 p2 p3 p4) N p5)) else (if p6 = 2 then (0, (T_109 (T_49 (T_65 (hm_sn s N) N p1 p2 p3 p4) N p5)), (N + 1), (hm_gb g N), (T_49 (T_65 (hm_sn s N) N p1 p2 p3 p4) N p5)) else (0, (T_103 (T_49 (T_65 (hm_sn s N) N p1 p2 p3 p4) N p5)), (N + 1), (hm_gb g N), (T_49 (T_65 (hm_sn s N) N p1 p2 p3 p4) N p5))))))))
set_option maxRecDepth 20000 in
theorem sp_12 {R : hm_R} (hR : hm_Cm R) {N L : Nat} {g : Nat → hm_Sh} {s : hm_St} {b : hm_B} {Q : hm_Q} (hN : 68 ≤ N) (hb1 : 2 ≤ b.1) (hb2 : 10 ≤ b.2) {p1 : Int32} {p2 : Int32} {p3 : Int32} {p4 : Int32} {p5 : Int32} {p6 : Int32} (hq : hm_qx Q L (fun v => some (.int v)) (T_12 N g s p1 p2 p3 p4 p5 p6)) : R 12 0 (lv_args 0 [.ref 2, .int p1, .int p2, .int p3, .int p4, .int p5, .int p6]) [] (N, hm_sh L g, s) b Q := by
  unfold T_12 at hq
  show R 12 0 [(0, .ref 2), (1, .int p1), (2, .int p2), (3, .int p3), (4, .int p4), (5, .int p5), (6, .int p6)] [] (N, hm_sh L g, s) _ Q
  refine hm_st hR (hm_st hR (hm_st hR (hm_st hR (hm_st hR (?_)))))
  refine hm_st hR ⟨hm_le rfl, rfl, (hm_le rfl), (hm_ltN hN rfl), hm_le rfl, hm_le rfl, (0, 0), Nat.zero_le _, Nat.zero_le _, ?_⟩
  refine sp_38 hR hN ?_
  show R 12 9 [(0, .ref 2), (1, .int p1), (2, .int p2), (3, .int p3), (4, .int p4), (5, .int p5), (6, .int p6)] [.int (T_38 s p1 p2 p3 p4)] (N, hm_sh L g, s) _ Q
  show R 12 9 [(0, .ref 2), (1, .int p1), (2, .int p2), (3, .int p3), (4, .int p4), (5, .int p5), (6, .int p6)] [.int (T_38 s p1 p2 p3 p4)] (N, hm_sh L g, s) _ Q
  refine hm_st hR ⟨fun c9 => ?_, fun c9 => ?_⟩
  · rw [if_pos c9] at hq
    show R 12 37 [(0, .ref 2), (1, .int p1), (2, .int p2), (3, .int p3), (4, .int p4), (5, .int p5), (6, .int p6)] [] (N, hm_sh L g, s) _ Q
    refine hm_st hR (?_)
    show R 12 38 [(0, .ref 2), (1, .int p1), (2, .int p2), (3, .int p3), (4, .int p4), (5, .int p5), (6, .int p6)] [.int 0] (N, hm_sh L g, s) _ Q
    exact hm_st hR ⟨hm_le rfl, hm_le rfl, hm_le rfl, (1, 6), (by show 1 ≤ b.1 - 0; omega), (by show 6 ≤ b.2 - 0; omega), hm_needT31 hR hN rfl (fun N2 hN2 => hm_KX (by decide) (hq N2 hN2))⟩
  · rw [if_neg c9] at hq
    show R 12 12 [(0, .ref 2), (1, .int p1), (2, .int p2), (3, .int p3), (4, .int p4), (5, .int p5), (6, .int p6)] [] (N, hm_sh L g, s) _ Q
    refine hm_st hR (hm_st hR (hm_st hR (?_)))
    refine hm_st hR ⟨hm_le rfl, hm_le rfl, hm_le rfl, (0, 0), Nat.zero_le _, Nat.zero_le _, ?_⟩
    refine sp_34 hR hN ?_
    show R 12 20 [(0, .ref 2), (1, .int p1), (2, .int p2), (3, .int p3), (4, .int p4), (5, .int p5), (6, .int p6)] [.int (T_34 s p5 1 99)] (N, hm_sh L g, s) _ Q
    show R 12 20 [(0, .ref 2), (1, .int p1), (2, .int p2), (3, .int p3), (4, .int p4), (5, .int p5), (6, .int p6)] [.int (T_34 s p5 1 99)] (N, hm_sh L g, s) _ Q
    refine hm_st hR ⟨fun c20 => ?_, fun c20 => ?_⟩
    · rw [if_pos c20] at hq
      show R 12 37 [(0, .ref 2), (1, .int p1), (2, .int p2), (3, .int p3), (4, .int p4), (5, .int p5), (6, .int p6)] [] (N, hm_sh L g, s) _ Q
      refine hm_st hR (?_)
      show R 12 38 [(0, .ref 2), (1, .int p1), (2, .int p2), (3, .int p3), (4, .int p4), (5, .int p5), (6, .int p6)] [.int 0] (N, hm_sh L g, s) _ Q
      exact hm_st hR ⟨hm_le rfl, hm_le rfl, hm_le rfl, (1, 6), (by show 1 ≤ b.1 - 0 - 0; omega), (by show 6 ≤ b.2 - 0 - 0; omega), hm_needT31 hR hN rfl (fun N2 hN2 => hm_KX (by decide) (hq N2 hN2))⟩
    · rw [if_neg c20] at hq
      show R 12 23 [(0, .ref 2), (1, .int p1), (2, .int p2), (3, .int p3), (4, .int p4), (5, .int p5), (6, .int p6)] [] (N, hm_sh L g, s) _ Q
      refine hm_st hR (hm_st hR (hm_st hR (?_)))
      refine hm_st hR ⟨hm_le rfl, hm_le rfl, hm_le rfl, (0, 0), Nat.zero_le _, Nat.zero_le _, ?_⟩
      refine sp_34 hR hN ?_
      show R 12 30 [(0, .ref 2), (1, .int p1), (2, .int p2), (3, .int p3), (4, .int p4), (5, .int p5), (6, .int p6)] [.int (T_34 s p6 0 3)] (N, hm_sh L g, s) _ Q
      show R 12 30 [(0, .ref 2), (1, .int p1), (2, .int p2), (3, .int p3), (4, .int p4), (5, .int p5), (6, .int p6)] [.int (T_34 s p6 0 3)] (N, hm_sh L g, s) _ Q
      suffices G : ∀ w : Int32, w = (if (T_34 s p6 0 3) = 0 then (0 : Int32) else 1) → R 12 38 [(0, .ref 2), (1, .int p1), (2, .int p2), (3, .int p3), (4, .int p4), (5, .int p5), (6, .int p6)] [.int w] (N, hm_sh L g, s) (b.1 - 0 - 0 - 0, b.2 - 0 - 0 - 0) Q by
        show R 12 30 [(0, .ref 2), (1, .int p1), (2, .int p2), (3, .int p3), (4, .int p4), (5, .int p5), (6, .int p6)] [.int (T_34 s p6 0 3)] (N, hm_sh L g, s) _ Q
        refine hm_st hR ⟨fun c => ?_, fun c => ?_⟩
        · exact hm_st hR (G _ (if_pos c).symm)
        · exact hm_st hR (hm_st hR (G _ (if_neg c).symm))
      intro w hw
      subst hw
      show R 12 38 [(0, .ref 2), (1, .int p1), (2, .int p2), (3, .int p3), (4, .int p4), (5, .int p5), (6, .int p6)] [.int (if (T_34 s p6 0 3) = 0 then (0 : Int32) else 1)] (N, hm_sh L g, s) _ Q
      show R 12 38 [(0, .ref 2), (1, .int p1), (2, .int p2), (3, .int p3), (4, .int p4), (5, .int p5), (6, .int p6)] [.int (if (T_34 s p6 0 3) = 0 then (0 : Int32) else 1)] (N, hm_sh L g, s) _ Q
      by_cases c38 : ((if (T_34 s p6 0 3) = 0 then (0 : Int32) else 1) : Int32) = 0
      · rw [if_pos c38] at hq
        exact hm_st hR ⟨hm_le rfl, hm_le rfl, hm_le rfl, (1, 6), (by show 1 ≤ b.1 - 0 - 0 - 0; omega), (by show 6 ≤ b.2 - 0 - 0 - 0; omega), hm_needT31 hR hN c38 (fun N2 hN2 => hm_KX (by decide) (hq N2 hN2))⟩
      · rw [if_neg c38] at hq
        refine hm_st hR ⟨hm_le rfl, hm_le rfl, hm_le rfl, (0, 0), Nat.zero_le _, Nat.zero_le _, hm_needP31 hR c38 ?_⟩
        show R 12 41 [(0, .ref 2), (1, .int p1), (2, .int p2), (3, .int p3), (4, .int p4), (5, .int p5), (6, .int p6)] [] (N, hm_sh L g, s) _ Q
        refine hm_st hR (?_)
        show R 12 42 [(0, .ref 2), (1, .int p1), (2, .int p2), (3, .int p3), (4, .int p4), (5, .int p5), (6, .int p6)] [.ref 2] (N, hm_sh L g, s) _ Q
        refine hm_nwb hR hN (by show 1 ≤ b.1 - 0 - 0 - 0 - 0; omega) (by show 4 ≤ b.2 - 0 - 0 - 0 - 0; omega) (by rfl) ?_
        have hbk1 : (hm_sh L (hm_gb g N) N).1 = 0 := hm_gbk hN
        have hbt1 : 2 ≤ N := hm_two hN
        have hbl1 : N < N + 1 := Nat.lt_succ_self _
        show R 12 45 [(0, .ref 2), (1, .int p1), (2, .int p2), (3, .int p3), (4, .int p4), (5, .int p5), (6, .int p6)] [.ref N, .ref 2] ((N + 1), hm_sh L (hm_gb g N), (hm_sn s N)) _ Q
        refine hm_st hR ⟨rfl, hm_st hR (hm_st hR (hm_st hR (hm_st hR (?_))))⟩
        refine hm_st hR ⟨hm_le rfl, hbt1, hm_le rfl, hm_le rfl, (0, 0), Nat.zero_le _, Nat.zero_le _, ?_⟩
        refine sp_65 hR (Nat.le_succ_of_le hN) (bx := N) hbk1 hbt1 hbl1 ?_
        show R 12 54 [(0, .ref 2), (1, .int p1), (2, .int p2), (3, .int p3), (4, .int p4), (5, .int p5), (6, .int p6)] [.ref N, .ref 2] ((N + 1), hm_sh L (hm_gb g N), (T_65 (hm_sn s N) N p1 p2 p3 p4)) _ Q
        refine hm_st hR (?_)
        refine hm_st hR ⟨hm_le rfl, rfl, (hm_le rfl), (hm_ltN (Nat.le_succ_of_le hN) rfl), hm_le rfl, hm_le rfl, (0, 0), Nat.zero_le _, Nat.zero_le _, ?_⟩
        refine sp_49 hR (Nat.le_succ_of_le hN) (bx := N) hbk1 hbt1 hbl1 ?_
        show R 12 59 [(0, .ref 2), (1, .int p1), (2, .int p2), (3, .int p3), (4, .int p4), (5, .int p5), (6, .int p6)] [] ((N + 1), hm_sh L (hm_gb g N), (T_49 (T_65 (hm_sn s N) N p1 p2 p3 p4) N p5)) _ Q
        refine hm_st hR (?_)
        show R 12 61 [(0, .ref 2), (1, .int p1), (2, .int p2), (3, .int p3), (4, .int p4), (5, .int p5), (6, .int p6)] [.int p6] ((N + 1), hm_sh L (hm_gb g N), (T_49 (T_65 (hm_sn s N) N p1 p2 p3 p4) N p5)) _ Q
        by_cases w61_0 : p6 = 0
        · rw [if_pos w61_0] at hq
          refine hm_tsS hR 88 (by rfl) (by rw [w61_0]; rfl) ?_
          show R 12 88 [(0, .ref 2), (1, .int p1), (2, .int p2), (3, .int p3), (4, .int p4), (5, .int p5), (6, .int p6)] [] ((N + 1), hm_sh L (hm_gb g N), (T_49 (T_65 (hm_sn s N) N p1 p2 p3 p4) N p5)) _ Q
          refine hm_st hR (hm_st hR ⟨rfl, hm_le rfl, (hm_ltN (Nat.le_succ_of_le hN) rfl), ?_⟩)
          refine hm_st hR ⟨hm_le rfl, rfl, (hm_le rfl), (hm_ltN (Nat.le_succ_of_le hN) rfl), hm_le rfl, hm_le rfl, (0, 0), Nat.zero_le _, Nat.zero_le _, ?_⟩
          refine sp_101 hR (Nat.le_succ_of_le hN) ?_
          show R 12 95 [(0, .ref 2), (1, .int p1), (2, .int p2), (3, .int p3), (4, .int p4), (5, .int p5), (6, .int p6)] [.int (T_101 (T_49 (T_65 (hm_sn s N) N p1 p2 p3 p4) N p5))] ((N + 1), hm_sh L (hm_gb g N), (T_49 (T_65 (hm_sn s N) N p1 p2 p3 p4) N p5)) _ Q
          exact hm_st hR ⟨fun z => absurd z (by decide), hm_qx0 hq⟩
        rw [if_neg w61_0] at hq
        by_cases w61_1 : p6 = 1
        · rw [if_pos w61_1] at hq
          refine hm_tsS hR 96 (by rfl) (by rw [w61_1]; rfl) ?_
          show R 12 96 [(0, .ref 2), (1, .int p1), (2, .int p2), (3, .int p3), (4, .int p4), (5, .int p5), (6, .int p6)] [] ((N + 1), hm_sh L (hm_gb g N), (T_49 (T_65 (hm_sn s N) N p1 p2 p3 p4) N p5)) _ Q
          refine hm_st hR (hm_st hR ⟨rfl, hm_le rfl, (hm_ltN (Nat.le_succ_of_le hN) rfl), ?_⟩)
          refine hm_st hR ⟨hm_le rfl, rfl, (hm_le rfl), (hm_ltN (Nat.le_succ_of_le hN) rfl), hm_le rfl, hm_le rfl, (0, 0), Nat.zero_le _, Nat.zero_le _, ?_⟩
          refine sp_102 hR (Nat.le_succ_of_le hN) ?_
          show R 12 103 [(0, .ref 2), (1, .int p1), (2, .int p2), (3, .int p3), (4, .int p4), (5, .int p5), (6, .int p6)] [.int (T_102 (T_49 (T_65 (hm_sn s N) N p1 p2 p3 p4) N p5))] ((N + 1), hm_sh L (hm_gb g N), (T_49 (T_65 (hm_sn s N) N p1 p2 p3 p4) N p5)) _ Q
          exact hm_st hR ⟨fun z => absurd z (by decide), hm_qx0 hq⟩
        rw [if_neg w61_1] at hq
        by_cases w61_2 : p6 = 2
        · rw [if_pos w61_2] at hq
          refine hm_tsS hR 104 (by rfl) (by rw [w61_2]; rfl) ?_
          show R 12 104 [(0, .ref 2), (1, .int p1), (2, .int p2), (3, .int p3), (4, .int p4), (5, .int p5), (6, .int p6)] [] ((N + 1), hm_sh L (hm_gb g N), (T_49 (T_65 (hm_sn s N) N p1 p2 p3 p4) N p5)) _ Q
          refine hm_st hR (hm_st hR ⟨rfl, hm_le rfl, (hm_ltN (Nat.le_succ_of_le hN) rfl), hm_st hR (hm_st hR ⟨rfl, hm_le rfl, (hm_ltN (Nat.le_succ_of_le hN) rfl), ?_⟩)⟩)
          refine hm_st hR ⟨hm_le rfl, rfl, (hm_le rfl), (hm_ltN (Nat.le_succ_of_le hN) rfl), hm_le rfl, hm_le rfl, (0, 0), Nat.zero_le _, Nat.zero_le _, ?_⟩
          refine sp_109 hR (Nat.le_succ_of_le hN) ?_
          show R 12 115 [(0, .ref 2), (1, .int p1), (2, .int p2), (3, .int p3), (4, .int p4), (5, .int p5), (6, .int p6)] [.int (T_109 (T_49 (T_65 (hm_sn s N) N p1 p2 p3 p4) N p5))] ((N + 1), hm_sh L (hm_gb g N), (T_49 (T_65 (hm_sn s N) N p1 p2 p3 p4) N p5)) _ Q
          exact hm_st hR ⟨fun z => absurd z (by decide), hm_qx0 hq⟩
        rw [if_neg w61_2] at hq
        refine hm_tsS hR 116 (by rfl) (by exact hm_swD3 w61_0 w61_1 w61_2) ?_
        show R 12 116 [(0, .ref 2), (1, .int p1), (2, .int p2), (3, .int p3), (4, .int p4), (5, .int p5), (6, .int p6)] [] ((N + 1), hm_sh L (hm_gb g N), (T_49 (T_65 (hm_sn s N) N p1 p2 p3 p4) N p5)) _ Q
        refine hm_st hR (hm_st hR ⟨rfl, hm_le rfl, (hm_ltN (Nat.le_succ_of_le hN) rfl), ?_⟩)
        refine hm_st hR ⟨hm_le rfl, rfl, (hm_le rfl), (hm_ltN (Nat.le_succ_of_le hN) rfl), hm_le rfl, hm_le rfl, (0, 0), Nat.zero_le _, Nat.zero_le _, ?_⟩
        refine sp_103 hR (Nat.le_succ_of_le hN) ?_
        show R 12 123 [(0, .ref 2), (1, .int p1), (2, .int p2), (3, .int p3), (4, .int p4), (5, .int p5), (6, .int p6)] [.int (T_103 (T_49 (T_65 (hm_sn s N) N p1 p2 p3 p4) N p5))] ((N + 1), hm_sh L (hm_gb g N), (T_49 (T_65 (hm_sn s N) N p1 p2 p3 p4) N p5)) _ Q
        exact hm_st hR ⟨fun z => absurd z (by decide), hm_qx0 hq⟩
def T_122_5 (bx : Nat) : Nat → hm_St → Int32 → Int32 → Int32 → Int32
  | 0, s, _, _, _ => 0
  | n + 1, s, v2, v3, v4 => (if (s 25 8) ≤ v4 then v3 else (if 2048 ≤ v4 then v3 else (if v2 < (T_178 s 31 2048 v4) then (T_122_5 bx n s v2 v3 (v4 + 1)) else (if (T_178 s 33 2048 v4) ≤ v2 then (T_122_5 bx n s v2 v3 (v4 + 1)) else (if (T_66 s bx (T_178 s 27 2048 v4) (T_178 s 29 2048 v4)) = 0 then (T_122_5 bx n s v2 v3 (v4 + 1)) else (T_122_5 bx n s v2 (v3 + 1) (v4 + 1)))))))
/-- CurvekeyHouse$History.livedIn(LCurvekeyHouse$Box;I)I -/
def T_122 (s : hm_St) (bx : Nat) (p2 : Int32) : Int32 := (T_122_5 bx (hm_df (s 25 8) 0 + 1) s p2 0 0)
set_option maxRecDepth 20000 in
theorem lp_122_5 {R : hm_R} (hR : hm_Cm R) {N L : Nat} {g : Nat → hm_Sh} {b : hm_B} {Q : hm_Q} (hN : 68 ≤ N) {bx : Nat} (hbk : (hm_sh L g bx).1 = 0) (hb2 : 2 ≤ bx) (hbl : bx < N) : ∀ (n : Nat) (s : hm_St) (v2 : Int32) (v3 : Int32) (v4 : Int32), hm_df (s 25 8) v4 < n → (hq : Q (.inr (some (.int (T_122_5 bx n s v2 v3 v4)))) (N, hm_sh L g, s)) → R 122 5 [(4, .int v4), (3, .int v3), (0, .ref 25), (1, .ref bx), (2, .int v2)] [] (N, hm_sh L g, s) b Q := by
  intro n
  induction n with
  | zero => intro s v2 v3 v4 hm _; exact absurd hm (Nat.not_lt_zero _)
  | succ n ih =>
    intro s v2 v3 v4 hm hq
    unfold T_122_5 at hq
    refine hm_st hR (hm_st hR (hm_st hR ⟨rfl, hm_le rfl, (hm_ltN hN rfl), ?_⟩))
    show R 122 11 [(4, .int v4), (3, .int v3), (0, .ref 25), (1, .ref bx), (2, .int v2)] [.int (s 25 8), .int v4] (N, hm_sh L g, s) _ Q
    refine hm_st hR ⟨fun c11 => ?_, fun c11 => ?_⟩
    · rw [if_pos c11] at hq
      show R 122 82 [(4, .int v4), (3, .int v3), (0, .ref 25), (1, .ref bx), (2, .int v2)] [] (N, hm_sh L g, s) _ Q
      refine hm_st hR (?_)
      exact hm_st hR ⟨fun z => absurd z (by decide), hq⟩
    · rw [if_neg c11] at hq
      show R 122 14 [(4, .int v4), (3, .int v3), (0, .ref 25), (1, .ref bx), (2, .int v2)] [] (N, hm_sh L g, s) _ Q
      refine hm_st hR (hm_st hR (?_))
      show R 122 19 [(4, .int v4), (3, .int v3), (0, .ref 25), (1, .ref bx), (2, .int v2)] [.int 2048, .int v4] (N, hm_sh L g, s) _ Q
      refine hm_st hR ⟨fun c19 => ?_, fun c19 => ?_⟩
      · rw [if_pos c19] at hq
        show R 122 82 [(4, .int v4), (3, .int v3), (0, .ref 25), (1, .ref bx), (2, .int v2)] [] (N, hm_sh L g, s) _ Q
        refine hm_st hR (?_)
        exact hm_st hR ⟨fun z => absurd z (by decide), hq⟩
      · rw [if_neg c19] at hq
        show R 122 22 [(4, .int v4), (3, .int v3), (0, .ref 25), (1, .ref bx), (2, .int v2)] [] (N, hm_sh L g, s) _ Q
        refine hm_st hR (hm_st hR ⟨rfl, hm_le rfl, (hm_ltN hN rfl), hm_st hR (?_)⟩)
        refine hm_st hR ⟨hm_le rfl, rfl, (hm_le rfl), (hm_ltN hN rfl), hm_le rfl, hm_le rfl, (0, 0), Nat.zero_le _, Nat.zero_le _, ?_⟩
        refine sp_178 hR hN (rr := 30) (aa := 31) (nn := 2048) rfl rfl (hm_le rfl) (hm_ltN hN rfl) rfl rfl (hm_le rfl) (hm_ltN hN rfl) (by decide) ?_
        show R 122 31 [(4, .int v4), (3, .int v3), (0, .ref 25), (1, .ref bx), (2, .int v2)] [.int (T_178 s 31 2048 v4)] (N, hm_sh L g, s) _ Q
        refine hm_st hR (?_)
        show R 122 32 [(4, .int v4), (3, .int v3), (0, .ref 25), (1, .ref bx), (2, .int v2)] [.int v2, .int (T_178 s 31 2048 v4)] (N, hm_sh L g, s) _ Q
        refine hm_st hR ⟨fun c32 => ?_, fun c32 => ?_⟩
        · rw [if_pos c32] at hq
          show R 122 76 [(4, .int v4), (3, .int v3), (0, .ref 25), (1, .ref bx), (2, .int v2)] [] (N, hm_sh L g, s) _ Q
          refine hm_st hR (hm_st hR (?_))
          show R 122 5 [(4, .int (v4 + 1)), (3, .int v3), (0, .ref 25), (1, .ref bx), (2, .int v2)] [] (N, hm_sh L g, s) _ Q
          exact hm_lvS hR (by intro q hq; simp only [List.mem_cons, List.not_mem_nil, or_false] at hq ⊢; rcases hq with rfl | rfl | rfl | rfl | rfl <;> simp) (ih s v2 v3 (v4 + 1) (hm_dcx c11 hm) hq)
        · rw [if_neg c32] at hq
          show R 122 35 [(4, .int v4), (3, .int v3), (0, .ref 25), (1, .ref bx), (2, .int v2)] [] (N, hm_sh L g, s) _ Q
          refine hm_st hR (hm_st hR (hm_st hR ⟨rfl, hm_le rfl, (hm_ltN hN rfl), hm_st hR (?_)⟩))
          refine hm_st hR ⟨hm_le rfl, rfl, (hm_le rfl), (hm_ltN hN rfl), hm_le rfl, hm_le rfl, (0, 0), Nat.zero_le _, Nat.zero_le _, ?_⟩
          refine sp_178 hR hN (rr := 32) (aa := 33) (nn := 2048) rfl rfl (hm_le rfl) (hm_ltN hN rfl) rfl rfl (hm_le rfl) (hm_ltN hN rfl) (by decide) ?_
          show R 122 45 [(4, .int v4), (3, .int v3), (0, .ref 25), (1, .ref bx), (2, .int v2)] [.int (T_178 s 33 2048 v4), .int v2] (N, hm_sh L g, s) _ Q
          show R 122 45 [(4, .int v4), (3, .int v3), (0, .ref 25), (1, .ref bx), (2, .int v2)] [.int (T_178 s 33 2048 v4), .int v2] (N, hm_sh L g, s) _ Q
          refine hm_st hR ⟨fun c45 => ?_, fun c45 => ?_⟩
          · rw [if_pos c45] at hq
            show R 122 76 [(4, .int v4), (3, .int v3), (0, .ref 25), (1, .ref bx), (2, .int v2)] [] (N, hm_sh L g, s) _ Q
            refine hm_st hR (hm_st hR (?_))
            show R 122 5 [(4, .int (v4 + 1)), (3, .int v3), (0, .ref 25), (1, .ref bx), (2, .int v2)] [] (N, hm_sh L g, s) _ Q
            exact hm_lvS hR (by intro q hq; simp only [List.mem_cons, List.not_mem_nil, or_false] at hq ⊢; rcases hq with rfl | rfl | rfl | rfl | rfl <;> simp) (ih s v2 v3 (v4 + 1) (hm_dcx c11 hm) hq)
          · rw [if_neg c45] at hq
            show R 122 48 [(4, .int v4), (3, .int v3), (0, .ref 25), (1, .ref bx), (2, .int v2)] [] (N, hm_sh L g, s) _ Q
            refine hm_st hR (hm_st hR (hm_st hR ⟨rfl, hm_le rfl, (hm_ltN hN rfl), hm_st hR (?_)⟩))
            refine hm_st hR ⟨hm_le rfl, rfl, (hm_le rfl), (hm_ltN hN rfl), hm_le rfl, hm_le rfl, (0, 0), Nat.zero_le _, Nat.zero_le _, ?_⟩
            refine sp_178 hR hN (rr := 26) (aa := 27) (nn := 2048) rfl rfl (hm_le rfl) (hm_ltN hN rfl) rfl rfl (hm_le rfl) (hm_ltN hN rfl) (by decide) ?_
            show R 122 58 [(4, .int v4), (3, .int v3), (0, .ref 25), (1, .ref bx), (2, .int v2)] [.int (T_178 s 27 2048 v4), .ref bx] (N, hm_sh L g, s) _ Q
            refine hm_st hR (hm_st hR ⟨rfl, hm_le rfl, (hm_ltN hN rfl), hm_st hR (?_)⟩)
            refine hm_st hR ⟨hm_le rfl, rfl, (hm_le rfl), (hm_ltN hN rfl), hm_le rfl, hm_le rfl, (0, 0), Nat.zero_le _, Nat.zero_le _, ?_⟩
            refine sp_178 hR hN (rr := 28) (aa := 29) (nn := 2048) rfl rfl (hm_le rfl) (hm_ltN hN rfl) rfl rfl (hm_le rfl) (hm_ltN hN rfl) (by decide) ?_
            show R 122 67 [(4, .int v4), (3, .int v3), (0, .ref 25), (1, .ref bx), (2, .int v2)] [.int (T_178 s 29 2048 v4), .int (T_178 s 27 2048 v4), .ref bx] (N, hm_sh L g, s) _ Q
            refine hm_st hR ⟨hm_le rfl, hbk, hb2, hbl, hm_le rfl, hm_le rfl, (0, 0), Nat.zero_le _, Nat.zero_le _, ?_⟩
            refine sp_66 hR hN (bx := bx) hbk hb2 hbl ?_
            show R 122 70 [(4, .int v4), (3, .int v3), (0, .ref 25), (1, .ref bx), (2, .int v2)] [.int (T_66 s bx (T_178 s 27 2048 v4) (T_178 s 29 2048 v4))] (N, hm_sh L g, s) _ Q
            show R 122 70 [(4, .int v4), (3, .int v3), (0, .ref 25), (1, .ref bx), (2, .int v2)] [.int (T_66 s bx (T_178 s 27 2048 v4) (T_178 s 29 2048 v4))] (N, hm_sh L g, s) _ Q
            refine hm_st hR ⟨fun c70 => ?_, fun c70 => ?_⟩
            · rw [if_pos c70] at hq
              show R 122 76 [(4, .int v4), (3, .int v3), (0, .ref 25), (1, .ref bx), (2, .int v2)] [] (N, hm_sh L g, s) _ Q
              refine hm_st hR (hm_st hR (?_))
              show R 122 5 [(4, .int (v4 + 1)), (3, .int v3), (0, .ref 25), (1, .ref bx), (2, .int v2)] [] (N, hm_sh L g, s) _ Q
              exact hm_lvS hR (by intro q hq; simp only [List.mem_cons, List.not_mem_nil, or_false] at hq ⊢; rcases hq with rfl | rfl | rfl | rfl | rfl <;> simp) (ih s v2 v3 (v4 + 1) (hm_dcx c11 hm) hq)
            · rw [if_neg c70] at hq
              show R 122 73 [(4, .int v4), (3, .int v3), (0, .ref 25), (1, .ref bx), (2, .int v2)] [] (N, hm_sh L g, s) _ Q
              refine hm_st hR (hm_st hR (hm_st hR (?_)))
              show R 122 5 [(4, .int (v4 + 1)), (3, .int (v3 + 1)), (0, .ref 25), (1, .ref bx), (2, .int v2)] [] (N, hm_sh L g, s) _ Q
              exact hm_lvS hR (by intro q hq; simp only [List.mem_cons, List.not_mem_nil, or_false] at hq ⊢; rcases hq with rfl | rfl | rfl | rfl | rfl <;> simp) (ih s v2 (v3 + 1) (v4 + 1) (hm_dcx c11 hm) hq)
set_option maxRecDepth 20000 in
theorem sp_122 {R : hm_R} (hR : hm_Cm R) {N L : Nat} {g : Nat → hm_Sh} {s : hm_St} {b : hm_B} {Q : hm_Q} (hN : 68 ≤ N) {bx : Nat} (hbk : (hm_sh L g bx).1 = 0) (hb2 : 2 ≤ bx) (hbl : bx < N) {p2 : Int32} (hq : Q (.inr (some (.int (T_122 s bx p2)))) (N, hm_sh L g, s)) : R 122 0 (lv_args 0 [.ref 25, .ref bx, .int p2]) [] (N, hm_sh L g, s) b Q := by
  unfold T_122 at hq
  show R 122 0 [(0, .ref 25), (1, .ref bx), (2, .int p2)] [] (N, hm_sh L g, s) _ Q
  refine hm_st hR (hm_st hR (hm_st hR (hm_st hR (?_))))
  show R 122 5 [(4, .int 0), (3, .int 0), (0, .ref 25), (1, .ref bx), (2, .int p2)] [] (N, hm_sh L g, s) _ Q
  exact lp_122_5 hR hN hbk hb2 hbl _ _ _ _ _ (Nat.lt_succ_self _) hq
/-- CurvekeyHouse.asOf(IIIII)I -/
def T_13 (N : Nat) (g : Nat → hm_Sh) (s : hm_St) (p1 : Int32) (p2 : Int32) (p3 : Int32) (p4 : Int32) (p5 : Int32) : hm_Er Int32 := (if (T_38 s p1 p2 p3 p4) = 0 then (1, 0, N, g, s) else (if ((if (T_34 s p5 0 (T_113 s)) = 0 then (0 : Int32) else 1) : Int32) = 0 then (1, 0, N, g, s) else (0, (T_122 (T_65 (hm_sn s N) N p1 p2 p3 p4) N p5), (N + 1), (hm_gb g N), (T_65 (hm_sn s N) N p1 p2 p3 p4))))
set_option maxRecDepth 20000 in
theorem sp_13 {R : hm_R} (hR : hm_Cm R) {N L : Nat} {g : Nat → hm_Sh} {s : hm_St} {b : hm_B} {Q : hm_Q} (hN : 68 ≤ N) (hb1 : 2 ≤ b.1) (hb2 : 10 ≤ b.2) {p1 : Int32} {p2 : Int32} {p3 : Int32} {p4 : Int32} {p5 : Int32} (hq : hm_qx Q L (fun v => some (.int v)) (T_13 N g s p1 p2 p3 p4 p5)) : R 13 0 (lv_args 0 [.ref 2, .int p1, .int p2, .int p3, .int p4, .int p5]) [] (N, hm_sh L g, s) b Q := by
  unfold T_13 at hq
  show R 13 0 [(0, .ref 2), (1, .int p1), (2, .int p2), (3, .int p3), (4, .int p4), (5, .int p5)] [] (N, hm_sh L g, s) _ Q
  refine hm_st hR (hm_st hR (hm_st hR (hm_st hR (hm_st hR (?_)))))
  refine hm_st hR ⟨hm_le rfl, rfl, (hm_le rfl), (hm_ltN hN rfl), hm_le rfl, hm_le rfl, (0, 0), Nat.zero_le _, Nat.zero_le _, ?_⟩
  refine sp_38 hR hN ?_
  show R 13 9 [(0, .ref 2), (1, .int p1), (2, .int p2), (3, .int p3), (4, .int p4), (5, .int p5)] [.int (T_38 s p1 p2 p3 p4)] (N, hm_sh L g, s) _ Q
  show R 13 9 [(0, .ref 2), (1, .int p1), (2, .int p2), (3, .int p3), (4, .int p4), (5, .int p5)] [.int (T_38 s p1 p2 p3 p4)] (N, hm_sh L g, s) _ Q
  refine hm_st hR ⟨fun c9 => ?_, fun c9 => ?_⟩
  · rw [if_pos c9] at hq
    show R 13 32 [(0, .ref 2), (1, .int p1), (2, .int p2), (3, .int p3), (4, .int p4), (5, .int p5)] [] (N, hm_sh L g, s) _ Q
    refine hm_st hR (?_)
    show R 13 33 [(0, .ref 2), (1, .int p1), (2, .int p2), (3, .int p3), (4, .int p4), (5, .int p5)] [.int 0] (N, hm_sh L g, s) _ Q
    exact hm_st hR ⟨hm_le rfl, hm_le rfl, hm_le rfl, (1, 6), (by show 1 ≤ b.1 - 0; omega), (by show 6 ≤ b.2 - 0; omega), hm_needT31 hR hN rfl (fun N2 hN2 => hm_KX (by decide) (hq N2 hN2))⟩
  · rw [if_neg c9] at hq
    show R 13 12 [(0, .ref 2), (1, .int p1), (2, .int p2), (3, .int p3), (4, .int p4), (5, .int p5)] [] (N, hm_sh L g, s) _ Q
    refine hm_st hR (hm_st hR (hm_st hR (hm_st hR ⟨rfl, hm_le rfl, (hm_ltN hN rfl), ?_⟩)))
    refine hm_st hR ⟨hm_le rfl, rfl, (hm_le rfl), (hm_ltN hN rfl), hm_le rfl, hm_le rfl, (0, 0), Nat.zero_le _, Nat.zero_le _, ?_⟩
    refine sp_113 hR hN ?_
    show R 13 22 [(0, .ref 2), (1, .int p1), (2, .int p2), (3, .int p3), (4, .int p4), (5, .int p5)] [.int (T_113 s), .int 0, .int p5] (N, hm_sh L g, s) _ Q
    refine hm_st hR ⟨hm_le rfl, hm_le rfl, hm_le rfl, (0, 0), Nat.zero_le _, Nat.zero_le _, ?_⟩
    refine sp_34 hR hN ?_
    show R 13 25 [(0, .ref 2), (1, .int p1), (2, .int p2), (3, .int p3), (4, .int p4), (5, .int p5)] [.int (T_34 s p5 0 (T_113 s))] (N, hm_sh L g, s) _ Q
    show R 13 25 [(0, .ref 2), (1, .int p1), (2, .int p2), (3, .int p3), (4, .int p4), (5, .int p5)] [.int (T_34 s p5 0 (T_113 s))] (N, hm_sh L g, s) _ Q
    suffices G : ∀ w : Int32, w = (if (T_34 s p5 0 (T_113 s)) = 0 then (0 : Int32) else 1) → R 13 33 [(0, .ref 2), (1, .int p1), (2, .int p2), (3, .int p3), (4, .int p4), (5, .int p5)] [.int w] (N, hm_sh L g, s) (b.1 - 0 - 0 - 0, b.2 - 0 - 0 - 0) Q by
      show R 13 25 [(0, .ref 2), (1, .int p1), (2, .int p2), (3, .int p3), (4, .int p4), (5, .int p5)] [.int (T_34 s p5 0 (T_113 s))] (N, hm_sh L g, s) _ Q
      refine hm_st hR ⟨fun c => ?_, fun c => ?_⟩
      · exact hm_st hR (G _ (if_pos c).symm)
      · exact hm_st hR (hm_st hR (G _ (if_neg c).symm))
    intro w hw
    subst hw
    show R 13 33 [(0, .ref 2), (1, .int p1), (2, .int p2), (3, .int p3), (4, .int p4), (5, .int p5)] [.int (if (T_34 s p5 0 (T_113 s)) = 0 then (0 : Int32) else 1)] (N, hm_sh L g, s) _ Q
    show R 13 33 [(0, .ref 2), (1, .int p1), (2, .int p2), (3, .int p3), (4, .int p4), (5, .int p5)] [.int (if (T_34 s p5 0 (T_113 s)) = 0 then (0 : Int32) else 1)] (N, hm_sh L g, s) _ Q
    by_cases c33 : ((if (T_34 s p5 0 (T_113 s)) = 0 then (0 : Int32) else 1) : Int32) = 0
    · rw [if_pos c33] at hq
      exact hm_st hR ⟨hm_le rfl, hm_le rfl, hm_le rfl, (1, 6), (by show 1 ≤ b.1 - 0 - 0 - 0; omega), (by show 6 ≤ b.2 - 0 - 0 - 0; omega), hm_needT31 hR hN c33 (fun N2 hN2 => hm_KX (by decide) (hq N2 hN2))⟩
    · rw [if_neg c33] at hq
      refine hm_st hR ⟨hm_le rfl, hm_le rfl, hm_le rfl, (0, 0), Nat.zero_le _, Nat.zero_le _, hm_needP31 hR c33 ?_⟩
      show R 13 36 [(0, .ref 2), (1, .int p1), (2, .int p2), (3, .int p3), (4, .int p4), (5, .int p5)] [] (N, hm_sh L g, s) _ Q
      refine hm_st hR (hm_st hR ⟨rfl, hm_le rfl, (hm_ltN hN rfl), ?_⟩)
      show R 13 40 [(0, .ref 2), (1, .int p1), (2, .int p2), (3, .int p3), (4, .int p4), (5, .int p5)] [.ref 25] (N, hm_sh L g, s) _ Q
      refine hm_nwb hR hN (by show 1 ≤ b.1 - 0 - 0 - 0 - 0; omega) (by show 4 ≤ b.2 - 0 - 0 - 0 - 0; omega) (by rfl) ?_
      have hbk1 : (hm_sh L (hm_gb g N) N).1 = 0 := hm_gbk hN
      have hbt1 : 2 ≤ N := hm_two hN
      have hbl1 : N < N + 1 := Nat.lt_succ_self _
      show R 13 43 [(0, .ref 2), (1, .int p1), (2, .int p2), (3, .int p3), (4, .int p4), (5, .int p5)] [.ref N, .ref 25] ((N + 1), hm_sh L (hm_gb g N), (hm_sn s N)) _ Q
      refine hm_st hR ⟨rfl, hm_st hR (hm_st hR (hm_st hR (hm_st hR (?_))))⟩
      refine hm_st hR ⟨hm_le rfl, hbt1, hm_le rfl, hm_le rfl, (0, 0), Nat.zero_le _, Nat.zero_le _, ?_⟩
      refine sp_65 hR (Nat.le_succ_of_le hN) (bx := N) hbk1 hbt1 hbl1 ?_
      show R 13 52 [(0, .ref 2), (1, .int p1), (2, .int p2), (3, .int p3), (4, .int p4), (5, .int p5)] [.ref N, .ref 25] ((N + 1), hm_sh L (hm_gb g N), (T_65 (hm_sn s N) N p1 p2 p3 p4)) _ Q
      refine hm_st hR (?_)
      refine hm_st hR ⟨hm_le rfl, rfl, (hm_le rfl), (hm_ltN (Nat.le_succ_of_le hN) rfl), hm_le rfl, hm_le rfl, (0, 0), Nat.zero_le _, Nat.zero_le _, ?_⟩
      refine sp_122 hR (Nat.le_succ_of_le hN) (bx := N) hbk1 hbt1 hbl1 ?_
      show R 13 57 [(0, .ref 2), (1, .int p1), (2, .int p2), (3, .int p3), (4, .int p4), (5, .int p5)] [.int (T_122 (T_65 (hm_sn s N) N p1 p2 p3 p4) N p5)] ((N + 1), hm_sh L (hm_gb g N), (T_65 (hm_sn s N) N p1 p2 p3 p4)) _ Q
      exact hm_st hR ⟨fun z => absurd z (by decide), hm_qx0 hq⟩
