/-! The methods as functions; the abstract machine does them. -/
def T_21_13 (N : Nat) (g : Nat → hm_Sh) : Nat → hm_St → Int32 → Int32 → Int32 → hm_Er Int32
  | 0, s, _, _, _ => (0, 0, N, g, s)
  | n + 1, s, v1, v2, v3 => (if (T_133 s) ≤ v3 then (0, v2, N, g, (hm_w1 s 2 9 v1)) else (if (T_146 s v3 v1) = (T_146 s v3 (s 2 9)) then (T_21_13 N g n s v1 v2 (v3 + 1)) else (T_21_13 N g n s v1 (v2 + 1) (v3 + 1))))
/-- CurvekeyHouse.share(I)I -/
def T_21 (N : Nat) (g : Nat → hm_Sh) (s : hm_St) (p1 : Int32) : hm_Er Int32 := (if ((T_34 s p1 1 4) : Int32) = 0 then (1, 0, N, g, s) else (T_21_13 N g (hm_df (T_133 s) 0 + 1) s p1 0 0))
theorem N_21_13 (N : Nat) (g : Nat → hm_Sh) {c j : Nat} (h2 : c ≠ 2) : ∀ (n : Nat) (s : hm_St) (v0 v1 v2 : Int32), (T_21_13 N g n s v0 v1 v2).2.2.2.2 c j = s c j := by
  intro n
  induction n with
  | zero => intros; rfl
  | succ n ih =>
    intros
    unfold T_21_13
    repeat' split
    all_goals first | with_reducible rfl | simp only [ih, hm_w1n h2]
theorem N_21 {c j : Nat} (h2 : c ≠ 2) {N : Nat} {g : Nat → hm_Sh} {s : hm_St} {p1 : Int32} : (T_21 N g s p1).2.2.2.2 c j = s c j := by
  unfold T_21
  repeat' split
  all_goals first | with_reducible rfl | simp only [hm_w1n h2, N_21_13 _ _ h2]
set_option maxRecDepth 20000 in
theorem lp_21_13 {R : hm_R} (hR : hm_Cm R) {N L : Nat} {g : Nat → hm_Sh} {b : hm_B} {Q : hm_Q} (hN : 68 ≤ N) : ∀ (n : Nat) (s : hm_St) (v1 : Int32) (v2 : Int32) (v3 : Int32), hm_df (T_133 s) v3 < n → (hq : hm_qx Q L (fun v => some (.int v)) (T_21_13 N g n s v1 v2 v3)) → R 21 13 [(3, .int v3), (2, .int v2), (0, .ref 2), (1, .int v1)] [] (N, hm_sh L g, s) b Q := by
  intro n
  induction n with
  | zero => intro s v1 v2 v3 hm _; exact absurd hm (Nat.not_lt_zero _)
  | succ n ih =>
    intro s v1 v2 v3 hm hq
    unfold T_21_13 at hq
    refine hm_st hR (hm_st hR (hm_st hR ⟨rfl, hm_le rfl, (hm_ltN hN rfl), ?_⟩))
    refine hm_st hR ⟨hm_le rfl, rfl, (hm_le rfl), (hm_ltN hN rfl), hm_le rfl, hm_le rfl, (0, 0), Nat.zero_le _, Nat.zero_le _, ?_⟩
    refine sp_133 hR hN ?_
    show R 21 21 [(3, .int v3), (2, .int v2), (0, .ref 2), (1, .int v1)] [.int (T_133 s), .int v3] (N, hm_sh L g, s) _ Q
    show R 21 21 [(3, .int v3), (2, .int v2), (0, .ref 2), (1, .int v1)] [.int (T_133 s), .int v3] (N, hm_sh L g, s) _ Q
    refine hm_st hR ⟨fun c21 => ?_, fun c21 => ?_⟩
    · rw [if_pos c21] at hq
      show R 21 57 [(3, .int v3), (2, .int v2), (0, .ref 2), (1, .int v1)] [] (N, hm_sh L g, s) _ Q
      refine hm_st hR (hm_st hR (hm_st hR ⟨rfl, rfl, hm_le rfl, (hm_ltN hN rfl), ?_⟩))
      show R 21 62 [(3, .int v3), (2, .int v2), (0, .ref 2), (1, .int v1)] [] (N, hm_sh L g, (hm_w1 s 2 9 v1)) _ Q
      refine hm_st hR (?_)
      exact hm_st hR ⟨fun z => absurd z (by decide), hm_qx0 hq⟩
    · rw [if_neg c21] at hq
      show R 21 24 [(3, .int v3), (2, .int v2), (0, .ref 2), (1, .int v1)] [] (N, hm_sh L g, s) _ Q
      refine hm_st hR (hm_st hR ⟨rfl, hm_le rfl, (hm_ltN hN rfl), hm_st hR (hm_st hR (?_))⟩)
      refine hm_st hR ⟨hm_le rfl, rfl, (hm_le rfl), (hm_ltN hN rfl), hm_le rfl, hm_le rfl, (0, 0), Nat.zero_le _, Nat.zero_le _, ?_⟩
      refine sp_146 hR hN ?_
      show R 21 33 [(3, .int v3), (2, .int v2), (0, .ref 2), (1, .int v1)] [.int (T_146 s v3 v1)] (N, hm_sh L g, s) _ Q
      refine hm_st hR (hm_st hR ⟨rfl, hm_le rfl, (hm_ltN hN rfl), hm_st hR (hm_st hR (hm_st hR ⟨rfl, hm_le rfl, (hm_ltN hN rfl), ?_⟩))⟩)
      refine hm_st hR ⟨hm_le rfl, rfl, (hm_le rfl), (hm_ltN hN rfl), hm_le rfl, hm_le rfl, (0, 0), Nat.zero_le _, Nat.zero_le _, ?_⟩
      refine sp_146 hR hN ?_
      show R 21 45 [(3, .int v3), (2, .int v2), (0, .ref 2), (1, .int v1)] [.int (T_146 s v3 (s 2 9)), .int (T_146 s v3 v1)] (N, hm_sh L g, s) _ Q
      show R 21 45 [(3, .int v3), (2, .int v2), (0, .ref 2), (1, .int v1)] [.int (T_146 s v3 (s 2 9)), .int (T_146 s v3 v1)] (N, hm_sh L g, s) _ Q
      refine hm_st hR ⟨fun c45 => ?_, fun c45 => ?_⟩
      · rw [if_pos c45] at hq
        show R 21 51 [(3, .int v3), (2, .int v2), (0, .ref 2), (1, .int v1)] [] (N, hm_sh L g, s) _ Q
        refine hm_st hR (hm_st hR (?_))
        show R 21 13 [(3, .int (v3 + 1)), (2, .int v2), (0, .ref 2), (1, .int v1)] [] (N, hm_sh L g, s) _ Q
        exact hm_lvS hR (by intro q hq; simp only [List.mem_cons, List.not_mem_nil, or_false] at hq ⊢; rcases hq with rfl | rfl | rfl | rfl <;> simp) (ih s v1 v2 (v3 + 1) (hm_dcx c21 hm) hq)
      · rw [if_neg c45] at hq
        show R 21 48 [(3, .int v3), (2, .int v2), (0, .ref 2), (1, .int v1)] [] (N, hm_sh L g, s) _ Q
        refine hm_st hR (hm_st hR (hm_st hR (?_)))
        show R 21 13 [(3, .int (v3 + 1)), (2, .int (v2 + 1)), (0, .ref 2), (1, .int v1)] [] (N, hm_sh L g, s) _ Q
        exact hm_lvS hR (by intro q hq; simp only [List.mem_cons, List.not_mem_nil, or_false] at hq ⊢; rcases hq with rfl | rfl | rfl | rfl <;> simp) (ih s v1 (v2 + 1) (v3 + 1) (hm_dcx c21 hm) hq)
set_option maxRecDepth 20000 in
theorem sp_21 {R : hm_R} (hR : hm_Cm R) {N L : Nat} {g : Nat → hm_Sh} {s : hm_St} {b : hm_B} {Q : hm_Q} (hN : 68 ≤ N) (hb1 : 1 ≤ b.1) (hb2 : 6 ≤ b.2) {p1 : Int32} (hq : hm_qx Q L (fun v => some (.int v)) (T_21 N g s p1)) : R 21 0 (lv_args 0 [.ref 2, .int p1]) [] (N, hm_sh L g, s) b Q := by
  unfold T_21 at hq
  show R 21 0 [(0, .ref 2), (1, .int p1)] [] (N, hm_sh L g, s) _ Q
  refine hm_st hR (hm_st hR (hm_st hR (?_)))
  refine hm_st hR ⟨hm_le rfl, hm_le rfl, hm_le rfl, (0, 0), Nat.zero_le _, Nat.zero_le _, ?_⟩
  refine sp_34 hR hN ?_
  show R 21 6 [(0, .ref 2), (1, .int p1)] [.int (T_34 s p1 1 4)] (N, hm_sh L g, s) _ Q
  show R 21 6 [(0, .ref 2), (1, .int p1)] [.int (T_34 s p1 1 4)] (N, hm_sh L g, s) _ Q
  by_cases c6 : ((T_34 s p1 1 4) : Int32) = 0
  · rw [if_pos c6] at hq
    exact hm_st hR ⟨hm_le rfl, hm_le rfl, hm_le rfl, (1, 6), (by show 1 ≤ b.1 - 0; omega), (by show 6 ≤ b.2 - 0; omega), hm_needT31 hR hN c6 (fun N2 hN2 => hm_KX (by decide) (hq N2 hN2))⟩
  · rw [if_neg c6] at hq
    refine hm_st hR ⟨hm_le rfl, hm_le rfl, hm_le rfl, (0, 0), Nat.zero_le _, Nat.zero_le _, hm_needP31 hR c6 ?_⟩
    show R 21 9 [(0, .ref 2), (1, .int p1)] [] (N, hm_sh L g, s) _ Q
    refine hm_st hR (hm_st hR (hm_st hR (hm_st hR (?_))))
    show R 21 13 [(3, .int 0), (2, .int 0), (0, .ref 2), (1, .int p1)] [] (N, hm_sh L g, s) _ Q
    exact lp_21_13 hR hN _ _ _ _ _ (Nat.lt_succ_self _) hq
def T_142_23 : Nat → hm_St → Int32 → Int32 → Int32 → Int32 → Int32
  | 0, s, _, _, _, _ => 0
  | n + 1, s, v1, v2, v3, v4 => (if v3 ≤ v4 then v2 else (if (T_178 s 44 1024 v4) = (-2) then (T_142_23 n s v1 (v2 + 1) v3 (v4 + 1)) else (T_142_23 n s v1 v2 v3 (v4 + 1))))
/-- CurvekeyHouse$Pages.tombsIn(I)I -/
def T_142 (s : hm_St) (p1 : Int32) : Int32 := (T_142_23 (hm_df (T_178 s 46 1025 (p1 + 1)) (T_178 s 46 1025 p1) + 1) s p1 0 (T_178 s 46 1025 (p1 + 1)) (T_178 s 46 1025 p1))
set_option maxRecDepth 20000 in
theorem lp_142_23 {R : hm_R} (hR : hm_Cm R) {N L : Nat} {g : Nat → hm_Sh} {b : hm_B} {Q : hm_Q} (hN : 68 ≤ N) : ∀ (n : Nat) (s : hm_St) (v1 : Int32) (v2 : Int32) (v3 : Int32) (v4 : Int32), hm_df v3 v4 < n → (hq : Q (.inr (some (.int (T_142_23 n s v1 v2 v3 v4)))) (N, hm_sh L g, s)) → R 142 23 [(4, .int v4), (3, .int v3), (2, .int v2), (0, .ref 42), (1, .int v1)] [] (N, hm_sh L g, s) b Q := by
  intro n
  induction n with
  | zero => intro s v1 v2 v3 v4 hm _; exact absurd hm (Nat.not_lt_zero _)
  | succ n ih =>
    intro s v1 v2 v3 v4 hm hq
    unfold T_142_23 at hq
    refine hm_st hR (hm_st hR (?_))
    show R 142 26 [(4, .int v4), (3, .int v3), (2, .int v2), (0, .ref 42), (1, .int v1)] [.int v3, .int v4] (N, hm_sh L g, s) _ Q
    refine hm_st hR ⟨fun c26 => ?_, fun c26 => ?_⟩
    · rw [if_pos c26] at hq
      show R 142 52 [(4, .int v4), (3, .int v3), (2, .int v2), (0, .ref 42), (1, .int v1)] [] (N, hm_sh L g, s) _ Q
      refine hm_st hR (?_)
      exact hm_st hR ⟨fun z => absurd z (by decide), hq⟩
    · rw [if_neg c26] at hq
      show R 142 29 [(4, .int v4), (3, .int v3), (2, .int v2), (0, .ref 42), (1, .int v1)] [] (N, hm_sh L g, s) _ Q
      refine hm_st hR (hm_st hR ⟨rfl, hm_le rfl, (hm_ltN hN rfl), hm_st hR (?_)⟩)
      refine hm_st hR ⟨hm_le rfl, rfl, (hm_le rfl), (hm_ltN hN rfl), hm_le rfl, hm_le rfl, (0, 0), Nat.zero_le _, Nat.zero_le _, ?_⟩
      refine sp_178 hR hN (rr := 43) (aa := 44) (nn := 1024) rfl rfl (hm_le rfl) (hm_ltN hN rfl) rfl rfl (hm_le rfl) (hm_ltN hN rfl) (by decide) ?_
      show R 142 38 [(4, .int v4), (3, .int v3), (2, .int v2), (0, .ref 42), (1, .int v1)] [.int (T_178 s 44 1024 v4)] (N, hm_sh L g, s) _ Q
      refine hm_st hR (?_)
      show R 142 40 [(4, .int v4), (3, .int v3), (2, .int v2), (0, .ref 42), (1, .int v1)] [.int (-2), .int (T_178 s 44 1024 v4)] (N, hm_sh L g, s) _ Q
      refine hm_st hR ⟨fun c40 => ?_, fun c40 => ?_⟩
      · rw [if_neg c40] at hq
        show R 142 46 [(4, .int v4), (3, .int v3), (2, .int v2), (0, .ref 42), (1, .int v1)] [] (N, hm_sh L g, s) _ Q
        refine hm_st hR (hm_st hR (?_))
        show R 142 23 [(4, .int (v4 + 1)), (3, .int v3), (2, .int v2), (0, .ref 42), (1, .int v1)] [] (N, hm_sh L g, s) _ Q
        exact hm_lvS hR (by intro q hq; simp only [List.mem_cons, List.not_mem_nil, or_false] at hq ⊢; rcases hq with rfl | rfl | rfl | rfl | rfl <;> simp) (ih s v1 v2 v3 (v4 + 1) (hm_dcx c26 hm) hq)
      · rw [if_pos c40] at hq
        show R 142 43 [(4, .int v4), (3, .int v3), (2, .int v2), (0, .ref 42), (1, .int v1)] [] (N, hm_sh L g, s) _ Q
        refine hm_st hR (hm_st hR (hm_st hR (?_)))
        show R 142 23 [(4, .int (v4 + 1)), (2, .int (v2 + 1)), (3, .int v3), (0, .ref 42), (1, .int v1)] [] (N, hm_sh L g, s) _ Q
        exact hm_lvS hR (by intro q hq; simp only [List.mem_cons, List.not_mem_nil, or_false] at hq ⊢; rcases hq with rfl | rfl | rfl | rfl | rfl <;> simp) (ih s v1 (v2 + 1) v3 (v4 + 1) (hm_dcx c26 hm) hq)
set_option maxRecDepth 20000 in
theorem sp_142 {R : hm_R} (hR : hm_Cm R) {N L : Nat} {g : Nat → hm_Sh} {s : hm_St} {b : hm_B} {Q : hm_Q} (hN : 68 ≤ N) {p1 : Int32} (hq : Q (.inr (some (.int (T_142 s p1)))) (N, hm_sh L g, s)) : R 142 0 (lv_args 0 [.ref 42, .int p1]) [] (N, hm_sh L g, s) b Q := by
  unfold T_142 at hq
  show R 142 0 [(0, .ref 42), (1, .int p1)] [] (N, hm_sh L g, s) _ Q
  refine hm_st hR (hm_st hR (hm_st hR (hm_st hR ⟨rfl, hm_le rfl, (hm_ltN hN rfl), hm_st hR (hm_st hR (hm_st hR (?_)))⟩)))
  refine hm_st hR ⟨hm_le rfl, rfl, (hm_le rfl), (hm_ltN hN rfl), hm_le rfl, hm_le rfl, (0, 0), Nat.zero_le _, Nat.zero_le _, ?_⟩
  refine sp_178 hR hN (rr := 45) (aa := 46) (nn := 1025) rfl rfl (hm_le rfl) (hm_ltN hN rfl) rfl rfl (hm_le rfl) (hm_ltN hN rfl) (by decide) ?_
  show R 142 12 [(2, .int 0), (0, .ref 42), (1, .int p1)] [.int (T_178 s 46 1025 (p1 + 1))] (N, hm_sh L g, s) _ Q
  refine hm_st hR (hm_st hR (hm_st hR ⟨rfl, hm_le rfl, (hm_ltN hN rfl), hm_st hR (?_)⟩))
  refine hm_st hR ⟨hm_le rfl, rfl, (hm_le rfl), (hm_ltN hN rfl), hm_le rfl, hm_le rfl, (0, 0), Nat.zero_le _, Nat.zero_le _, ?_⟩
  refine sp_178 hR hN (rr := 45) (aa := 46) (nn := 1025) rfl rfl (hm_le rfl) (hm_ltN hN rfl) rfl rfl (hm_le rfl) (hm_ltN hN rfl) (by decide) ?_
  show R 142 21 [(3, .int (T_178 s 46 1025 (p1 + 1))), (2, .int 0), (0, .ref 42), (1, .int p1)] [.int (T_178 s 46 1025 p1)] (N, hm_sh L g, s) _ Q
  refine hm_st hR (?_)
  show R 142 23 [(4, .int (T_178 s 46 1025 p1)), (3, .int (T_178 s 46 1025 (p1 + 1))), (2, .int 0), (0, .ref 42), (1, .int p1)] [] (N, hm_sh L g, s) _ Q
  exact lp_142_23 hR hN _ _ _ _ _ _ (Nat.lt_succ_self _) hq
def T_147_5 : Nat → hm_St → Int32 → Int32 → Int32 → Int32 → Int32
  | 0, s, _, _, _, _ => 0
  | n + 1, s, v1, v2, v3, v4 => (if (s 42 4) ≤ v4 then v3 else (if (T_146 s v4 v2) = v1 then (T_147_5 n s v1 v2 (v3 + ((T_141 s v4) - (T_142 s v4))) (v4 + 1)) else (T_147_5 n s v1 v2 v3 (v4 + 1))))
/-- CurvekeyHouse$Pages.loadOf(II)I -/
def T_147 (s : hm_St) (p1 : Int32) (p2 : Int32) : Int32 := (T_147_5 (hm_df (s 42 4) 0 + 1) s p1 p2 0 0)
set_option maxRecDepth 20000 in
theorem lp_147_5 {R : hm_R} (hR : hm_Cm R) {N L : Nat} {g : Nat → hm_Sh} {b : hm_B} {Q : hm_Q} (hN : 68 ≤ N) : ∀ (n : Nat) (s : hm_St) (v1 : Int32) (v2 : Int32) (v3 : Int32) (v4 : Int32), hm_df (s 42 4) v4 < n → (hq : Q (.inr (some (.int (T_147_5 n s v1 v2 v3 v4)))) (N, hm_sh L g, s)) → R 147 5 [(4, .int v4), (3, .int v3), (0, .ref 42), (1, .int v1), (2, .int v2)] [] (N, hm_sh L g, s) b Q := by
  intro n
  induction n with
  | zero => intro s v1 v2 v3 v4 hm _; exact absurd hm (Nat.not_lt_zero _)
  | succ n ih =>
    intro s v1 v2 v3 v4 hm hq
    unfold T_147_5 at hq
    refine hm_st hR (hm_st hR (hm_st hR ⟨rfl, hm_le rfl, (hm_ltN hN rfl), ?_⟩))
    show R 147 11 [(4, .int v4), (3, .int v3), (0, .ref 42), (1, .int v1), (2, .int v2)] [.int (s 42 4), .int v4] (N, hm_sh L g, s) _ Q
    refine hm_st hR ⟨fun c11 => ?_, fun c11 => ?_⟩
    · rw [if_pos c11] at hq
      show R 147 47 [(4, .int v4), (3, .int v3), (0, .ref 42), (1, .int v1), (2, .int v2)] [] (N, hm_sh L g, s) _ Q
      refine hm_st hR (?_)
      exact hm_st hR ⟨fun z => absurd z (by decide), hq⟩
    · rw [if_neg c11] at hq
      show R 147 14 [(4, .int v4), (3, .int v3), (0, .ref 42), (1, .int v1), (2, .int v2)] [] (N, hm_sh L g, s) _ Q
      refine hm_st hR (hm_st hR (hm_st hR (?_)))
      refine hm_st hR ⟨hm_le rfl, rfl, (hm_le rfl), (hm_ltN hN rfl), hm_le rfl, hm_le rfl, (0, 0), Nat.zero_le _, Nat.zero_le _, ?_⟩
      refine sp_146 hR hN ?_
      show R 147 21 [(4, .int v4), (3, .int v3), (0, .ref 42), (1, .int v1), (2, .int v2)] [.int (T_146 s v4 v2)] (N, hm_sh L g, s) _ Q
      refine hm_st hR (?_)
      show R 147 22 [(4, .int v4), (3, .int v3), (0, .ref 42), (1, .int v1), (2, .int v2)] [.int v1, .int (T_146 s v4 v2)] (N, hm_sh L g, s) _ Q
      refine hm_st hR ⟨fun c22 => ?_, fun c22 => ?_⟩
      · rw [if_neg c22] at hq
        show R 147 41 [(4, .int v4), (3, .int v3), (0, .ref 42), (1, .int v1), (2, .int v2)] [] (N, hm_sh L g, s) _ Q
        refine hm_st hR (hm_st hR (?_))
        show R 147 5 [(4, .int (v4 + 1)), (3, .int v3), (0, .ref 42), (1, .int v1), (2, .int v2)] [] (N, hm_sh L g, s) _ Q
        exact hm_lvS hR (by intro q hq; simp only [List.mem_cons, List.not_mem_nil, or_false] at hq ⊢; rcases hq with rfl | rfl | rfl | rfl | rfl <;> simp) (ih s v1 v2 v3 (v4 + 1) (hm_dcx c11 hm) hq)
      · rw [if_pos c22] at hq
        show R 147 25 [(4, .int v4), (3, .int v3), (0, .ref 42), (1, .int v1), (2, .int v2)] [] (N, hm_sh L g, s) _ Q
        refine hm_st hR (hm_st hR (hm_st hR (?_)))
        refine hm_st hR ⟨hm_le rfl, rfl, (hm_le rfl), (hm_ltN hN rfl), hm_le rfl, hm_le rfl, (0, 0), Nat.zero_le _, Nat.zero_le _, ?_⟩
        refine sp_141 hR hN ?_
        show R 147 32 [(4, .int v4), (3, .int v3), (0, .ref 42), (1, .int v1), (2, .int v2)] [.int (T_141 s v4), .int v3] (N, hm_sh L g, s) _ Q
        refine hm_st hR (hm_st hR (?_))
        refine hm_st hR ⟨hm_le rfl, rfl, (hm_le rfl), (hm_ltN hN rfl), hm_le rfl, hm_le rfl, (0, 0), Nat.zero_le _, Nat.zero_le _, ?_⟩
        refine sp_142 hR hN ?_
        show R 147 38 [(4, .int v4), (3, .int v3), (0, .ref 42), (1, .int v1), (2, .int v2)] [.int (T_142 s v4), .int (T_141 s v4), .int v3] (N, hm_sh L g, s) _ Q
        refine hm_st hR (hm_st hR (hm_st hR (hm_st hR (hm_st hR (?_)))))
        show R 147 5 [(4, .int (v4 + 1)), (3, .int (v3 + ((T_141 s v4) - (T_142 s v4)))), (0, .ref 42), (1, .int v1), (2, .int v2)] [] (N, hm_sh L g, s) _ Q
        exact hm_lvS hR (by intro q hq; simp only [List.mem_cons, List.not_mem_nil, or_false] at hq ⊢; rcases hq with rfl | rfl | rfl | rfl | rfl <;> simp) (ih s v1 v2 (v3 + ((T_141 s v4) - (T_142 s v4))) (v4 + 1) (hm_dcx c11 hm) hq)
set_option maxRecDepth 20000 in
theorem sp_147 {R : hm_R} (hR : hm_Cm R) {N L : Nat} {g : Nat → hm_Sh} {s : hm_St} {b : hm_B} {Q : hm_Q} (hN : 68 ≤ N) {p1 : Int32} {p2 : Int32} (hq : Q (.inr (some (.int (T_147 s p1 p2)))) (N, hm_sh L g, s)) : R 147 0 (lv_args 0 [.ref 42, .int p1, .int p2]) [] (N, hm_sh L g, s) b Q := by
  unfold T_147 at hq
  show R 147 0 [(0, .ref 42), (1, .int p1), (2, .int p2)] [] (N, hm_sh L g, s) _ Q
  refine hm_st hR (hm_st hR (hm_st hR (hm_st hR (?_))))
  show R 147 5 [(4, .int 0), (3, .int 0), (0, .ref 42), (1, .int p1), (2, .int p2)] [] (N, hm_sh L g, s) _ Q
  exact lp_147_5 hR hN _ _ _ _ _ _ (Nat.lt_succ_self _) hq
def T_148_5 : Nat → hm_St → Int32 → Int32 → Int32 → Int32 → Int32
  | 0, s, _, _, _, _ => 0
  | n + 1, s, v1, v2, v3, v4 => (if (s 42 4) ≤ v4 then v3 else (if (T_146 s v4 v2) = v1 then (T_148_5 n s v1 v2 (v3 + 1) (v4 + 1)) else (T_148_5 n s v1 v2 v3 (v4 + 1))))
/-- CurvekeyHouse$Pages.ownedBy(II)I -/
def T_148 (s : hm_St) (p1 : Int32) (p2 : Int32) : Int32 := (T_148_5 (hm_df (s 42 4) 0 + 1) s p1 p2 0 0)
set_option maxRecDepth 20000 in
theorem lp_148_5 {R : hm_R} (hR : hm_Cm R) {N L : Nat} {g : Nat → hm_Sh} {b : hm_B} {Q : hm_Q} (hN : 68 ≤ N) : ∀ (n : Nat) (s : hm_St) (v1 : Int32) (v2 : Int32) (v3 : Int32) (v4 : Int32), hm_df (s 42 4) v4 < n → (hq : Q (.inr (some (.int (T_148_5 n s v1 v2 v3 v4)))) (N, hm_sh L g, s)) → R 148 5 [(4, .int v4), (3, .int v3), (0, .ref 42), (1, .int v1), (2, .int v2)] [] (N, hm_sh L g, s) b Q := by
  intro n
  induction n with
  | zero => intro s v1 v2 v3 v4 hm _; exact absurd hm (Nat.not_lt_zero _)
  | succ n ih =>
    intro s v1 v2 v3 v4 hm hq
    unfold T_148_5 at hq
    refine hm_st hR (hm_st hR (hm_st hR ⟨rfl, hm_le rfl, (hm_ltN hN rfl), ?_⟩))
    show R 148 11 [(4, .int v4), (3, .int v3), (0, .ref 42), (1, .int v1), (2, .int v2)] [.int (s 42 4), .int v4] (N, hm_sh L g, s) _ Q
    refine hm_st hR ⟨fun c11 => ?_, fun c11 => ?_⟩
    · rw [if_pos c11] at hq
      show R 148 34 [(4, .int v4), (3, .int v3), (0, .ref 42), (1, .int v1), (2, .int v2)] [] (N, hm_sh L g, s) _ Q
      refine hm_st hR (?_)
      exact hm_st hR ⟨fun z => absurd z (by decide), hq⟩
    · rw [if_neg c11] at hq
      show R 148 14 [(4, .int v4), (3, .int v3), (0, .ref 42), (1, .int v1), (2, .int v2)] [] (N, hm_sh L g, s) _ Q
      refine hm_st hR (hm_st hR (hm_st hR (?_)))
      refine hm_st hR ⟨hm_le rfl, rfl, (hm_le rfl), (hm_ltN hN rfl), hm_le rfl, hm_le rfl, (0, 0), Nat.zero_le _, Nat.zero_le _, ?_⟩
      refine sp_146 hR hN ?_
      show R 148 21 [(4, .int v4), (3, .int v3), (0, .ref 42), (1, .int v1), (2, .int v2)] [.int (T_146 s v4 v2)] (N, hm_sh L g, s) _ Q
      refine hm_st hR (?_)
      show R 148 22 [(4, .int v4), (3, .int v3), (0, .ref 42), (1, .int v1), (2, .int v2)] [.int v1, .int (T_146 s v4 v2)] (N, hm_sh L g, s) _ Q
      refine hm_st hR ⟨fun c22 => ?_, fun c22 => ?_⟩
      · rw [if_neg c22] at hq
        show R 148 28 [(4, .int v4), (3, .int v3), (0, .ref 42), (1, .int v1), (2, .int v2)] [] (N, hm_sh L g, s) _ Q
        refine hm_st hR (hm_st hR (?_))
        show R 148 5 [(4, .int (v4 + 1)), (3, .int v3), (0, .ref 42), (1, .int v1), (2, .int v2)] [] (N, hm_sh L g, s) _ Q
        exact hm_lvS hR (by intro q hq; simp only [List.mem_cons, List.not_mem_nil, or_false] at hq ⊢; rcases hq with rfl | rfl | rfl | rfl | rfl <;> simp) (ih s v1 v2 v3 (v4 + 1) (hm_dcx c11 hm) hq)
      · rw [if_pos c22] at hq
        show R 148 25 [(4, .int v4), (3, .int v3), (0, .ref 42), (1, .int v1), (2, .int v2)] [] (N, hm_sh L g, s) _ Q
        refine hm_st hR (hm_st hR (hm_st hR (?_)))
        show R 148 5 [(4, .int (v4 + 1)), (3, .int (v3 + 1)), (0, .ref 42), (1, .int v1), (2, .int v2)] [] (N, hm_sh L g, s) _ Q
        exact hm_lvS hR (by intro q hq; simp only [List.mem_cons, List.not_mem_nil, or_false] at hq ⊢; rcases hq with rfl | rfl | rfl | rfl | rfl <;> simp) (ih s v1 v2 (v3 + 1) (v4 + 1) (hm_dcx c11 hm) hq)
set_option maxRecDepth 20000 in
theorem sp_148 {R : hm_R} (hR : hm_Cm R) {N L : Nat} {g : Nat → hm_Sh} {s : hm_St} {b : hm_B} {Q : hm_Q} (hN : 68 ≤ N) {p1 : Int32} {p2 : Int32} (hq : Q (.inr (some (.int (T_148 s p1 p2)))) (N, hm_sh L g, s)) : R 148 0 (lv_args 0 [.ref 42, .int p1, .int p2]) [] (N, hm_sh L g, s) b Q := by
  unfold T_148 at hq
  show R 148 0 [(0, .ref 42), (1, .int p1), (2, .int p2)] [] (N, hm_sh L g, s) _ Q
  refine hm_st hR (hm_st hR (hm_st hR (hm_st hR (?_))))
  show R 148 5 [(4, .int 0), (3, .int 0), (0, .ref 42), (1, .int p1), (2, .int p2)] [] (N, hm_sh L g, s) _ Q
  exact lp_148_5 hR hN _ _ _ _ _ _ (Nat.lt_succ_self _) hq
def T_149_2 : Nat → hm_St → Int32 → Int32 → Int32 → Int32
  | 0, s, _, _, _ => 0
  | n + 1, s, v1, v2, v3 => (if (s 42 4) ≤ v3 then (-1) else (if (T_146 s v3 v2) = v1 then (T_178 s 46 1025 v3) else (T_149_2 n s v1 v2 (v3 + 1))))
/-- CurvekeyHouse$Pages.firstFloorOf(II)I -/
def T_149 (s : hm_St) (p1 : Int32) (p2 : Int32) : Int32 := (T_149_2 (hm_df (s 42 4) 0 + 1) s p1 p2 0)
set_option maxRecDepth 20000 in
theorem lp_149_2 {R : hm_R} (hR : hm_Cm R) {N L : Nat} {g : Nat → hm_Sh} {b : hm_B} {Q : hm_Q} (hN : 68 ≤ N) : ∀ (n : Nat) (s : hm_St) (v1 : Int32) (v2 : Int32) (v3 : Int32), hm_df (s 42 4) v3 < n → (hq : Q (.inr (some (.int (T_149_2 n s v1 v2 v3)))) (N, hm_sh L g, s)) → R 149 2 [(3, .int v3), (0, .ref 42), (1, .int v1), (2, .int v2)] [] (N, hm_sh L g, s) b Q := by
  intro n
  induction n with
  | zero => intro s v1 v2 v3 hm _; exact absurd hm (Nat.not_lt_zero _)
  | succ n ih =>
    intro s v1 v2 v3 hm hq
    unfold T_149_2 at hq
    refine hm_st hR (hm_st hR (hm_st hR ⟨rfl, hm_le rfl, (hm_ltN hN rfl), ?_⟩))
    show R 149 7 [(3, .int v3), (0, .ref 42), (1, .int v1), (2, .int v2)] [.int (s 42 4), .int v3] (N, hm_sh L g, s) _ Q
    refine hm_st hR ⟨fun c7 => ?_, fun c7 => ?_⟩
    · rw [if_pos c7] at hq
      show R 149 35 [(3, .int v3), (0, .ref 42), (1, .int v1), (2, .int v2)] [] (N, hm_sh L g, s) _ Q
      refine hm_st hR (?_)
      exact hm_st hR ⟨fun z => absurd z (by decide), hq⟩
    · rw [if_neg c7] at hq
      show R 149 10 [(3, .int v3), (0, .ref 42), (1, .int v1), (2, .int v2)] [] (N, hm_sh L g, s) _ Q
      refine hm_st hR (hm_st hR (hm_st hR (?_)))
      refine hm_st hR ⟨hm_le rfl, rfl, (hm_le rfl), (hm_ltN hN rfl), hm_le rfl, hm_le rfl, (0, 0), Nat.zero_le _, Nat.zero_le _, ?_⟩
      refine sp_146 hR hN ?_
      show R 149 16 [(3, .int v3), (0, .ref 42), (1, .int v1), (2, .int v2)] [.int (T_146 s v3 v2)] (N, hm_sh L g, s) _ Q
      refine hm_st hR (?_)
      show R 149 17 [(3, .int v3), (0, .ref 42), (1, .int v1), (2, .int v2)] [.int v1, .int (T_146 s v3 v2)] (N, hm_sh L g, s) _ Q
      refine hm_st hR ⟨fun c17 => ?_, fun c17 => ?_⟩
      · rw [if_neg c17] at hq
        show R 149 29 [(3, .int v3), (0, .ref 42), (1, .int v1), (2, .int v2)] [] (N, hm_sh L g, s) _ Q
        refine hm_st hR (hm_st hR (?_))
        show R 149 2 [(3, .int (v3 + 1)), (0, .ref 42), (1, .int v1), (2, .int v2)] [] (N, hm_sh L g, s) _ Q
        exact hm_lvS hR (by intro q hq; simp only [List.mem_cons, List.not_mem_nil, or_false] at hq ⊢; rcases hq with rfl | rfl | rfl | rfl <;> simp) (ih s v1 v2 (v3 + 1) (hm_dcx c7 hm) hq)
      · rw [if_pos c17] at hq
        show R 149 20 [(3, .int v3), (0, .ref 42), (1, .int v1), (2, .int v2)] [] (N, hm_sh L g, s) _ Q
        refine hm_st hR (hm_st hR ⟨rfl, hm_le rfl, (hm_ltN hN rfl), hm_st hR (?_)⟩)
        refine hm_st hR ⟨hm_le rfl, rfl, (hm_le rfl), (hm_ltN hN rfl), hm_le rfl, hm_le rfl, (0, 0), Nat.zero_le _, Nat.zero_le _, ?_⟩
        refine sp_178 hR hN (rr := 45) (aa := 46) (nn := 1025) rfl rfl (hm_le rfl) (hm_ltN hN rfl) rfl rfl (hm_le rfl) (hm_ltN hN rfl) (by decide) ?_
        show R 149 28 [(3, .int v3), (0, .ref 42), (1, .int v1), (2, .int v2)] [.int (T_178 s 46 1025 v3)] (N, hm_sh L g, s) _ Q
        exact hm_st hR ⟨fun z => absurd z (by decide), hq⟩
set_option maxRecDepth 20000 in
theorem sp_149 {R : hm_R} (hR : hm_Cm R) {N L : Nat} {g : Nat → hm_Sh} {s : hm_St} {b : hm_B} {Q : hm_Q} (hN : 68 ≤ N) {p1 : Int32} {p2 : Int32} (hq : Q (.inr (some (.int (T_149 s p1 p2)))) (N, hm_sh L g, s)) : R 149 0 (lv_args 0 [.ref 42, .int p1, .int p2]) [] (N, hm_sh L g, s) b Q := by
  unfold T_149 at hq
  show R 149 0 [(0, .ref 42), (1, .int p1), (2, .int p2)] [] (N, hm_sh L g, s) _ Q
  refine hm_st hR (hm_st hR (?_))
  show R 149 2 [(3, .int 0), (0, .ref 42), (1, .int p1), (2, .int p2)] [] (N, hm_sh L g, s) _ Q
  exact lp_149_2 hR hN _ _ _ _ _ (Nat.lt_succ_self _) hq
/-- CurvekeyHouse.machineFact(II)I -/
def T_57 (s : hm_St) (p1 : Int32) (p2 : Int32) : Int32 := (if p2 = 0 then (T_147 s p1 (s 2 9)) else (if p2 = 1 then (T_148 s p1 (s 2 9)) else (T_149 s p1 (s 2 9))))
set_option maxRecDepth 20000 in
theorem sp_57 {R : hm_R} (hR : hm_Cm R) {N L : Nat} {g : Nat → hm_Sh} {s : hm_St} {b : hm_B} {Q : hm_Q} (hN : 68 ≤ N) {p1 : Int32} {p2 : Int32} (hq : Q (.inr (some (.int (T_57 s p1 p2)))) (N, hm_sh L g, s)) : R 57 0 (lv_args 0 [.ref 2, .int p1, .int p2]) [] (N, hm_sh L g, s) b Q := by
  unfold T_57 at hq
  show R 57 0 [(0, .ref 2), (1, .int p1), (2, .int p2)] [] (N, hm_sh L g, s) _ Q
  refine hm_st hR (?_)
  show R 57 1 [(0, .ref 2), (1, .int p1), (2, .int p2)] [.int p2] (N, hm_sh L g, s) _ Q
  by_cases w1_0 : p2 = 0
  · rw [if_pos w1_0] at hq
    refine hm_lkS hR 28 (by rfl) (by rw [w1_0]; rfl) ?_
    show R 57 28 [(0, .ref 2), (1, .int p1), (2, .int p2)] [] (N, hm_sh L g, s) _ Q
    refine hm_st hR (hm_st hR ⟨rfl, hm_le rfl, (hm_ltN hN rfl), hm_st hR (hm_st hR (hm_st hR ⟨rfl, hm_le rfl, (hm_ltN hN rfl), ?_⟩))⟩)
    refine hm_st hR ⟨hm_le rfl, rfl, (hm_le rfl), (hm_ltN hN rfl), hm_le rfl, hm_le rfl, (0, 0), Nat.zero_le _, Nat.zero_le _, ?_⟩
    refine sp_147 hR hN ?_
    show R 57 40 [(0, .ref 2), (1, .int p1), (2, .int p2)] [.int (T_147 s p1 (s 2 9))] (N, hm_sh L g, s) _ Q
    exact hm_st hR ⟨fun z => absurd z (by decide), hq⟩
  rw [if_neg w1_0] at hq
  by_cases w1_1 : p2 = 1
  · rw [if_pos w1_1] at hq
    refine hm_lkS hR 41 (by rfl) (by rw [w1_1]; rfl) ?_
    show R 57 41 [(0, .ref 2), (1, .int p1), (2, .int p2)] [] (N, hm_sh L g, s) _ Q
    refine hm_st hR (hm_st hR ⟨rfl, hm_le rfl, (hm_ltN hN rfl), hm_st hR (hm_st hR (hm_st hR ⟨rfl, hm_le rfl, (hm_ltN hN rfl), ?_⟩))⟩)
    refine hm_st hR ⟨hm_le rfl, rfl, (hm_le rfl), (hm_ltN hN rfl), hm_le rfl, hm_le rfl, (0, 0), Nat.zero_le _, Nat.zero_le _, ?_⟩
    refine sp_148 hR hN ?_
    show R 57 53 [(0, .ref 2), (1, .int p1), (2, .int p2)] [.int (T_148 s p1 (s 2 9))] (N, hm_sh L g, s) _ Q
    exact hm_st hR ⟨fun z => absurd z (by decide), hq⟩
  rw [if_neg w1_1] at hq
  refine hm_lkS hR 54 (by rfl) (by exact hm_lkD2 w1_0 w1_1) ?_
  show R 57 54 [(0, .ref 2), (1, .int p1), (2, .int p2)] [] (N, hm_sh L g, s) _ Q
  refine hm_st hR (hm_st hR ⟨rfl, hm_le rfl, (hm_ltN hN rfl), hm_st hR (hm_st hR (hm_st hR ⟨rfl, hm_le rfl, (hm_ltN hN rfl), ?_⟩))⟩)
  refine hm_st hR ⟨hm_le rfl, rfl, (hm_le rfl), (hm_ltN hN rfl), hm_le rfl, hm_le rfl, (0, 0), Nat.zero_le _, Nat.zero_le _, ?_⟩
  refine sp_149 hR hN ?_
  show R 57 66 [(0, .ref 2), (1, .int p1), (2, .int p2)] [.int (T_149 s p1 (s 2 9))] (N, hm_sh L g, s) _ Q
  exact hm_st hR ⟨fun z => absurd z (by decide), hq⟩
/-- CurvekeyHouse.ofMachine(II)I -/
def T_22 (N : Nat) (g : Nat → hm_Sh) (s : hm_St) (p1 : Int32) (p2 : Int32) : hm_Er Int32 := (if ((T_34 s p1 0 ((s 2 9) - 1)) : Int32) = 0 then (3, 0, N, g, s) else (if ((T_34 s p2 0 2) : Int32) = 0 then (1, 0, N, g, s) else (0, (T_57 s p1 p2), N, g, s)))
theorem N_22 {c j : Nat}  {N : Nat} {g : Nat → hm_Sh} {s : hm_St} {p1 : Int32} {p2 : Int32} : (T_22 N g s p1 p2).2.2.2.2 c j = s c j := by
  unfold T_22
  repeat' split
  all_goals first | with_reducible rfl | simp only []
set_option maxRecDepth 20000 in
theorem sp_22 {R : hm_R} (hR : hm_Cm R) {N L : Nat} {g : Nat → hm_Sh} {s : hm_St} {b : hm_B} {Q : hm_Q} (hN : 68 ≤ N) (hb1 : 1 ≤ b.1) (hb2 : 6 ≤ b.2) {p1 : Int32} {p2 : Int32} (hq : hm_qx Q L (fun v => some (.int v)) (T_22 N g s p1 p2)) : R 22 0 (lv_args 0 [.ref 2, .int p1, .int p2]) [] (N, hm_sh L g, s) b Q := by
  unfold T_22 at hq
  show R 22 0 [(0, .ref 2), (1, .int p1), (2, .int p2)] [] (N, hm_sh L g, s) _ Q
  refine hm_st hR (hm_st hR (hm_st hR (hm_st hR ⟨rfl, hm_le rfl, (hm_ltN hN rfl), hm_st hR (hm_st hR (?_))⟩)))
  refine hm_st hR ⟨hm_le rfl, hm_le rfl, hm_le rfl, (0, 0), Nat.zero_le _, Nat.zero_le _, ?_⟩
  refine sp_34 hR hN ?_
  show R 22 11 [(0, .ref 2), (1, .int p1), (2, .int p2)] [.int (T_34 s p1 0 ((s 2 9) - 1))] (N, hm_sh L g, s) _ Q
  show R 22 11 [(0, .ref 2), (1, .int p1), (2, .int p2)] [.int (T_34 s p1 0 ((s 2 9) - 1))] (N, hm_sh L g, s) _ Q
  by_cases c11 : ((T_34 s p1 0 ((s 2 9) - 1)) : Int32) = 0
  · rw [if_pos c11] at hq
    exact hm_st hR ⟨hm_le rfl, hm_le rfl, hm_le rfl, (1, 6), (by show 1 ≤ b.1 - 0; omega), (by show 6 ≤ b.2 - 0; omega), hm_needT33 hR hN c11 (fun N2 hN2 => hm_KX (by decide) (hq N2 hN2))⟩
  · rw [if_neg c11] at hq
    refine hm_st hR ⟨hm_le rfl, hm_le rfl, hm_le rfl, (0, 0), Nat.zero_le _, Nat.zero_le _, hm_needP33 hR c11 ?_⟩
    show R 22 14 [(0, .ref 2), (1, .int p1), (2, .int p2)] [] (N, hm_sh L g, s) _ Q
    refine hm_st hR (hm_st hR (hm_st hR (?_)))
    refine hm_st hR ⟨hm_le rfl, hm_le rfl, hm_le rfl, (0, 0), Nat.zero_le _, Nat.zero_le _, ?_⟩
    refine sp_34 hR hN ?_
    show R 22 20 [(0, .ref 2), (1, .int p1), (2, .int p2)] [.int (T_34 s p2 0 2)] (N, hm_sh L g, s) _ Q
    show R 22 20 [(0, .ref 2), (1, .int p1), (2, .int p2)] [.int (T_34 s p2 0 2)] (N, hm_sh L g, s) _ Q
    by_cases c20 : ((T_34 s p2 0 2) : Int32) = 0
    · rw [if_pos c20] at hq
      exact hm_st hR ⟨hm_le rfl, hm_le rfl, hm_le rfl, (1, 6), (by show 1 ≤ b.1 - 0 - 0 - 0; omega), (by show 6 ≤ b.2 - 0 - 0 - 0; omega), hm_needT31 hR hN c20 (fun N2 hN2 => hm_KX (by decide) (hq N2 hN2))⟩
    · rw [if_neg c20] at hq
      refine hm_st hR ⟨hm_le rfl, hm_le rfl, hm_le rfl, (0, 0), Nat.zero_le _, Nat.zero_le _, hm_needP31 hR c20 ?_⟩
      show R 22 23 [(0, .ref 2), (1, .int p1), (2, .int p2)] [] (N, hm_sh L g, s) _ Q
      refine hm_st hR (hm_st hR (hm_st hR (?_)))
      refine hm_st hR ⟨hm_le rfl, rfl, (hm_le rfl), (hm_ltN hN rfl), hm_le rfl, hm_le rfl, (0, 0), Nat.zero_le _, Nat.zero_le _, ?_⟩
      refine sp_57 hR hN ?_
      show R 22 29 [(0, .ref 2), (1, .int p1), (2, .int p2)] [.int (T_57 s p1 p2)] (N, hm_sh L g, s) _ Q
      exact hm_st hR ⟨fun z => absurd z (by decide), hm_qx0 hq⟩
def T_23_17 : Nat → hm_St → Int32 → Int32 → Int32 → Int32
  | 0, s, _, _, _ => 0
  | n + 1, s, v1, v2, v3 => (if (s 2 9) ≤ v3 then (v1 - v2) else (T_23_17 n s (hm_max v1 (T_147 s v3 (s 2 9))) (hm_min v2 (T_147 s v3 (s 2 9))) (v3 + 1)))
/-- CurvekeyHouse.skew()I -/
def T_23 (s : hm_St) : Int32 := (T_23_17 (hm_df (s 2 9) 1 + 1) s (T_147 s 0 (s 2 9)) (T_147 s 0 (s 2 9)) 1)
set_option maxRecDepth 20000 in
theorem lp_23_17 {R : hm_R} (hR : hm_Cm R) {N L : Nat} {g : Nat → hm_Sh} {b : hm_B} {Q : hm_Q} (hN : 68 ≤ N) : ∀ (n : Nat) (s : hm_St) (v1 : Int32) (v2 : Int32) (v3 : Int32), hm_df (s 2 9) v3 < n → (hq : Q (.inr (some (.int (T_23_17 n s v1 v2 v3)))) (N, hm_sh L g, s)) → R 23 17 [(3, .int v3), (2, .int v2), (1, .int v1), (0, .ref 2)] [] (N, hm_sh L g, s) b Q := by
  intro n
  induction n with
  | zero => intro s v1 v2 v3 hm _; exact absurd hm (Nat.not_lt_zero _)
  | succ n ih =>
    intro s v1 v2 v3 hm hq
    unfold T_23_17 at hq
    refine hm_st hR (hm_st hR (hm_st hR ⟨rfl, hm_le rfl, (hm_ltN hN rfl), ?_⟩))
    show R 23 22 [(3, .int v3), (2, .int v2), (1, .int v1), (0, .ref 2)] [.int (s 2 9), .int v3] (N, hm_sh L g, s) _ Q
    refine hm_st hR ⟨fun c22 => ?_, fun c22 => ?_⟩
    · rw [if_pos c22] at hq
      show R 23 59 [(3, .int v3), (2, .int v2), (1, .int v1), (0, .ref 2)] [] (N, hm_sh L g, s) _ Q
      refine hm_st hR (hm_st hR (hm_st hR (?_)))
      exact hm_st hR ⟨fun z => absurd z (by decide), hq⟩
    · rw [if_neg c22] at hq
      show R 23 25 [(3, .int v3), (2, .int v2), (1, .int v1), (0, .ref 2)] [] (N, hm_sh L g, s) _ Q
      refine hm_st hR (hm_st hR ⟨rfl, hm_le rfl, (hm_ltN hN rfl), hm_st hR (hm_st hR (hm_st hR ⟨rfl, hm_le rfl, (hm_ltN hN rfl), ?_⟩))⟩)
      refine hm_st hR ⟨hm_le rfl, rfl, (hm_le rfl), (hm_ltN hN rfl), hm_le rfl, hm_le rfl, (0, 0), Nat.zero_le _, Nat.zero_le _, ?_⟩
      refine sp_147 hR hN ?_
      show R 23 37 [(3, .int v3), (2, .int v2), (1, .int v1), (0, .ref 2)] [.int (T_147 s v3 (s 2 9))] (N, hm_sh L g, s) _ Q
      refine hm_st hR (hm_st hR (hm_st hR (hm_st hR ⟨hm_le rfl, ?_⟩)))
      show R 23 45 [(4, .int (T_147 s v3 (s 2 9))), (3, .int v3), (2, .int v2), (1, .int v1), (0, .ref 2)] [.int (hm_max v1 (T_147 s v3 (s 2 9)))] (N, hm_sh L g, s) _ Q
      refine hm_st hR (hm_st hR (hm_st hR (hm_st hR ⟨hm_le rfl, ?_⟩)))
      show R 23 52 [(1, .int (hm_max v1 (T_147 s v3 (s 2 9)))), (4, .int (T_147 s v3 (s 2 9))), (3, .int v3), (2, .int v2), (0, .ref 2)] [.int (hm_min v2 (T_147 s v3 (s 2 9)))] (N, hm_sh L g, s) _ Q
      refine hm_st hR (hm_st hR (hm_st hR (?_)))
      show R 23 17 [(3, .int (v3 + 1)), (2, .int (hm_min v2 (T_147 s v3 (s 2 9)))), (1, .int (hm_max v1 (T_147 s v3 (s 2 9)))), (4, .int (T_147 s v3 (s 2 9))), (0, .ref 2)] [] (N, hm_sh L g, s) _ Q
      exact hm_lvS hR (by intro q hq; simp only [List.mem_cons, List.not_mem_nil, or_false] at hq ⊢; rcases hq with rfl | rfl | rfl | rfl <;> simp) (ih s (hm_max v1 (T_147 s v3 (s 2 9))) (hm_min v2 (T_147 s v3 (s 2 9))) (v3 + 1) (hm_dcx c22 hm) hq)
set_option maxRecDepth 20000 in
theorem sp_23 {R : hm_R} (hR : hm_Cm R) {N L : Nat} {g : Nat → hm_Sh} {s : hm_St} {b : hm_B} {Q : hm_Q} (hN : 68 ≤ N) (hq : Q (.inr (some (.int (T_23 s)))) (N, hm_sh L g, s)) : R 23 0 (lv_args 0 [.ref 2]) [] (N, hm_sh L g, s) b Q := by
  unfold T_23 at hq
  show R 23 0 [(0, .ref 2)] [] (N, hm_sh L g, s) _ Q
  refine hm_st hR (hm_st hR ⟨rfl, hm_le rfl, (hm_ltN hN rfl), hm_st hR (hm_st hR (hm_st hR ⟨rfl, hm_le rfl, (hm_ltN hN rfl), ?_⟩))⟩)
  refine hm_st hR ⟨hm_le rfl, rfl, (hm_le rfl), (hm_ltN hN rfl), hm_le rfl, hm_le rfl, (0, 0), Nat.zero_le _, Nat.zero_le _, ?_⟩
  refine sp_147 hR hN ?_
  show R 23 12 [(0, .ref 2)] [.int (T_147 s 0 (s 2 9))] (N, hm_sh L g, s) _ Q
  refine hm_st hR (hm_st hR (hm_st hR (hm_st hR (hm_st hR (?_)))))
  show R 23 17 [(3, .int 1), (2, .int (T_147 s 0 (s 2 9))), (1, .int (T_147 s 0 (s 2 9))), (0, .ref 2)] [] (N, hm_sh L g, s) _ Q
  exact lp_23_17 hR hN _ _ _ _ _ (Nat.lt_succ_self _) hq
/-- CurvekeyHouse$Cells.isLevel(I)Z -/
def T_70 (s : hm_St) (p1 : Int32) : Int32 := (if p1 < 0 then 0 else (if (s 47 1) < p1 then (0 : Int32) else 1))
theorem B_70 (s : hm_St) (p1 : Int32) : T_70 s p1 = 0 ∨ T_70 s p1 = 1 := by
  unfold T_70
  repeat' split
  all_goals first | exact Or.inl rfl | exact Or.inr rfl
set_option maxRecDepth 20000 in
theorem sp_70 {R : hm_R} (hR : hm_Cm R) {N L : Nat} {g : Nat → hm_Sh} {s : hm_St} {b : hm_B} {Q : hm_Q} (hN : 68 ≤ N) {p1 : Int32} (hq : Q (.inr (some (.int (T_70 s p1)))) (N, hm_sh L g, s)) : R 70 0 (lv_args 0 [.ref 47, .int p1]) [] (N, hm_sh L g, s) b Q := by
  unfold T_70 at hq
  show R 70 0 [(0, .ref 47), (1, .int p1)] [] (N, hm_sh L g, s) _ Q
  refine hm_st hR (?_)
  show R 70 1 [(0, .ref 47), (1, .int p1)] [.int p1] (N, hm_sh L g, s) _ Q
  refine hm_st hR ⟨fun c1 => ?_, fun c1 => ?_⟩
  · rw [if_pos c1] at hq
    show R 70 16 [(0, .ref 47), (1, .int p1)] [] (N, hm_sh L g, s) _ Q
    refine hm_st hR (?_)
    exact hm_st hR ⟨fun _ => Or.inl rfl, hq⟩
  · rw [if_neg c1] at hq
    show R 70 4 [(0, .ref 47), (1, .int p1)] [] (N, hm_sh L g, s) _ Q
    refine hm_st hR (hm_st hR (hm_st hR ⟨rfl, hm_le rfl, (hm_ltN hN rfl), ?_⟩))
    show R 70 9 [(0, .ref 47), (1, .int p1)] [.int (s 47 1), .int p1] (N, hm_sh L g, s) _ Q
    suffices G : ∀ w : Int32, w = (if (s 47 1) < p1 then (0 : Int32) else 1) → R 70 17 [(0, .ref 47), (1, .int p1)] [.int w] (N, hm_sh L g, s) b Q by
      show R 70 9 [(0, .ref 47), (1, .int p1)] [.int (s 47 1), .int p1] (N, hm_sh L g, s) _ Q
      refine hm_st hR ⟨fun c => ?_, fun c => ?_⟩
      · exact hm_st hR (G _ (if_pos c).symm)
      · exact hm_st hR (hm_st hR (G _ (if_neg c).symm))
    intro w hw
    subst hw
    show R 70 17 [(0, .ref 47), (1, .int p1)] [.int (if (s 47 1) < p1 then (0 : Int32) else 1)] (N, hm_sh L g, s) _ Q
    exact hm_st hR ⟨fun _ => (by split <;> first | exact Or.inl rfl | exact Or.inr rfl), hq⟩
/-- CurvekeyHouse$Cells.isCell(II)Z -/
def T_71 (s : hm_St) (p1 : Int32) (p2 : Int32) : Int32 := (if (T_70 s p1) = 0 then 0 else (if p2 < 0 then 0 else (if (T_72 s p1) ≤ p2 then (0 : Int32) else 1)))
theorem B_71 (s : hm_St) (p1 : Int32) (p2 : Int32) : T_71 s p1 p2 = 0 ∨ T_71 s p1 p2 = 1 := by
  unfold T_71
  repeat' split
  all_goals first | exact Or.inl rfl | exact Or.inr rfl | exact B_70 _ _
set_option maxRecDepth 20000 in
theorem sp_71 {R : hm_R} (hR : hm_Cm R) {N L : Nat} {g : Nat → hm_Sh} {s : hm_St} {b : hm_B} {Q : hm_Q} (hN : 68 ≤ N) {p1 : Int32} {p2 : Int32} (hq : Q (.inr (some (.int (T_71 s p1 p2)))) (N, hm_sh L g, s)) : R 71 0 (lv_args 0 [.ref 47, .int p1, .int p2]) [] (N, hm_sh L g, s) b Q := by
  unfold T_71 at hq
  show R 71 0 [(0, .ref 47), (1, .int p1), (2, .int p2)] [] (N, hm_sh L g, s) _ Q
  refine hm_st hR (hm_st hR (?_))
  refine hm_st hR ⟨hm_le rfl, rfl, (hm_le rfl), (hm_ltN hN rfl), hm_le rfl, hm_le rfl, (0, 0), Nat.zero_le _, Nat.zero_le _, ?_⟩
  refine sp_70 hR hN ?_
  show R 71 5 [(0, .ref 47), (1, .int p1), (2, .int p2)] [.int (T_70 s p1)] (N, hm_sh L g, s) _ Q
  show R 71 5 [(0, .ref 47), (1, .int p1), (2, .int p2)] [.int (T_70 s p1)] (N, hm_sh L g, s) _ Q
  refine hm_st hR ⟨fun c5 => ?_, fun c5 => ?_⟩
  · rw [if_pos c5] at hq
    show R 71 24 [(0, .ref 47), (1, .int p1), (2, .int p2)] [] (N, hm_sh L g, s) _ Q
    refine hm_st hR (?_)
    exact hm_st hR ⟨fun _ => Or.inl rfl, hq⟩
  · rw [if_neg c5] at hq
    show R 71 8 [(0, .ref 47), (1, .int p1), (2, .int p2)] [] (N, hm_sh L g, s) _ Q
    refine hm_st hR (?_)
    show R 71 9 [(0, .ref 47), (1, .int p1), (2, .int p2)] [.int p2] (N, hm_sh L g, s) _ Q
    refine hm_st hR ⟨fun c9 => ?_, fun c9 => ?_⟩
    · rw [if_pos c9] at hq
      show R 71 24 [(0, .ref 47), (1, .int p1), (2, .int p2)] [] (N, hm_sh L g, s) _ Q
      refine hm_st hR (?_)
      exact hm_st hR ⟨fun _ => Or.inl rfl, hq⟩
    · rw [if_neg c9] at hq
      show R 71 12 [(0, .ref 47), (1, .int p1), (2, .int p2)] [] (N, hm_sh L g, s) _ Q
      refine hm_st hR (hm_st hR (?_))
      refine hm_st hR ⟨hm_le rfl, hm_le rfl, hm_le rfl, (0, 0), Nat.zero_le _, Nat.zero_le _, ?_⟩
      refine sp_72 hR hN ?_
      show R 71 17 [(0, .ref 47), (1, .int p1), (2, .int p2)] [.int (T_72 s p1), .int p2] (N, hm_sh L g, s) _ Q
      show R 71 17 [(0, .ref 47), (1, .int p1), (2, .int p2)] [.int (T_72 s p1), .int p2] (N, hm_sh L g, s) _ Q
      suffices G : ∀ w : Int32, w = (if (T_72 s p1) ≤ p2 then (0 : Int32) else 1) → R 71 25 [(0, .ref 47), (1, .int p1), (2, .int p2)] [.int w] (N, hm_sh L g, s) (b.1 - 0 - 0, b.2 - 0 - 0) Q by
        show R 71 17 [(0, .ref 47), (1, .int p1), (2, .int p2)] [.int (T_72 s p1), .int p2] (N, hm_sh L g, s) _ Q
        refine hm_st hR ⟨fun c => ?_, fun c => ?_⟩
        · exact hm_st hR (G _ (if_pos c).symm)
        · exact hm_st hR (hm_st hR (G _ (if_neg c).symm))
      intro w hw
      subst hw
      show R 71 25 [(0, .ref 47), (1, .int p1), (2, .int p2)] [.int (if (T_72 s p1) ≤ p2 then (0 : Int32) else 1)] (N, hm_sh L g, s) _ Q
      exact hm_st hR ⟨fun _ => (by split <;> first | exact Or.inl rfl | exact Or.inr rfl), hq⟩
/-- CurvekeyHouse$Cells.countIn(II)I -/
def T_75 (s : hm_St) (p1 : Int32) (p2 : Int32) : Int32 := (T_178 s 49 1365 (T_73 s p1 p2))
set_option maxRecDepth 20000 in
theorem sp_75 {R : hm_R} (hR : hm_Cm R) {N L : Nat} {g : Nat → hm_Sh} {s : hm_St} {b : hm_B} {Q : hm_Q} (hN : 68 ≤ N) {p1 : Int32} {p2 : Int32} (hq : Q (.inr (some (.int (T_75 s p1 p2)))) (N, hm_sh L g, s)) : R 75 0 (lv_args 0 [.ref 47, .int p1, .int p2]) [] (N, hm_sh L g, s) b Q := by
  unfold T_75 at hq
  show R 75 0 [(0, .ref 47), (1, .int p1), (2, .int p2)] [] (N, hm_sh L g, s) _ Q
  refine hm_st hR (hm_st hR ⟨rfl, hm_le rfl, (hm_ltN hN rfl), hm_st hR (hm_st hR (?_))⟩)
  refine hm_st hR ⟨hm_le rfl, hm_le rfl, hm_le rfl, (0, 0), Nat.zero_le _, Nat.zero_le _, ?_⟩
  refine sp_73 hR hN ?_
  show R 75 9 [(0, .ref 47), (1, .int p1), (2, .int p2)] [.int (T_73 s p1 p2), .ref 48] (N, hm_sh L g, s) _ Q
  refine hm_st hR ⟨hm_le rfl, rfl, (hm_le rfl), (hm_ltN hN rfl), hm_le rfl, hm_le rfl, (0, 0), Nat.zero_le _, Nat.zero_le _, ?_⟩
  refine sp_178 hR hN (rr := 48) (aa := 49) (nn := 1365) rfl rfl (hm_le rfl) (hm_ltN hN rfl) rfl rfl (hm_le rfl) (hm_ltN hN rfl) (by decide) ?_
  show R 75 12 [(0, .ref 47), (1, .int p1), (2, .int p2)] [.int (T_178 s 49 1365 (T_73 s p1 p2))] (N, hm_sh L g, s) _ Q
  exact hm_st hR ⟨fun z => absurd z (by decide), hq⟩
/-- CurvekeyHouse.density(II)I -/
def T_24 (N : Nat) (g : Nat → hm_Sh) (s : hm_St) (p1 : Int32) (p2 : Int32) : hm_Er Int32 := (if ((T_71 s p1 p2) : Int32) = 0 then (1, 0, N, g, s) else (0, (T_75 s p1 p2), N, g, s))
theorem N_24 {c j : Nat}  {N : Nat} {g : Nat → hm_Sh} {s : hm_St} {p1 : Int32} {p2 : Int32} : (T_24 N g s p1 p2).2.2.2.2 c j = s c j := by
  unfold T_24
  repeat' split
  all_goals first | with_reducible rfl | simp only []
set_option maxRecDepth 20000 in
theorem sp_24 {R : hm_R} (hR : hm_Cm R) {N L : Nat} {g : Nat → hm_Sh} {s : hm_St} {b : hm_B} {Q : hm_Q} (hN : 68 ≤ N) (hb1 : 1 ≤ b.1) (hb2 : 6 ≤ b.2) {p1 : Int32} {p2 : Int32} (hq : hm_qx Q L (fun v => some (.int v)) (T_24 N g s p1 p2)) : R 24 0 (lv_args 0 [.ref 2, .int p1, .int p2]) [] (N, hm_sh L g, s) b Q := by
  unfold T_24 at hq
  show R 24 0 [(0, .ref 2), (1, .int p1), (2, .int p2)] [] (N, hm_sh L g, s) _ Q
  refine hm_st hR (hm_st hR ⟨rfl, hm_le rfl, (hm_ltN hN rfl), hm_st hR (hm_st hR (?_))⟩)
  refine hm_st hR ⟨hm_le rfl, rfl, (hm_le rfl), (hm_ltN hN rfl), hm_le rfl, hm_le rfl, (0, 0), Nat.zero_le _, Nat.zero_le _, ?_⟩
  refine sp_71 hR hN ?_
  show R 24 9 [(0, .ref 2), (1, .int p1), (2, .int p2)] [.int (T_71 s p1 p2)] (N, hm_sh L g, s) _ Q
  show R 24 9 [(0, .ref 2), (1, .int p1), (2, .int p2)] [.int (T_71 s p1 p2)] (N, hm_sh L g, s) _ Q
  by_cases c9 : ((T_71 s p1 p2) : Int32) = 0
  · rw [if_pos c9] at hq
    exact hm_st hR ⟨hm_le rfl, hm_le rfl, hm_le rfl, (1, 6), (by show 1 ≤ b.1 - 0; omega), (by show 6 ≤ b.2 - 0; omega), hm_needT31 hR hN c9 (fun N2 hN2 => hm_KX (by decide) (hq N2 hN2))⟩
  · rw [if_neg c9] at hq
    refine hm_st hR ⟨hm_le rfl, hm_le rfl, hm_le rfl, (0, 0), Nat.zero_le _, Nat.zero_le _, hm_needP31 hR c9 ?_⟩
    show R 24 12 [(0, .ref 2), (1, .int p1), (2, .int p2)] [] (N, hm_sh L g, s) _ Q
    refine hm_st hR (hm_st hR ⟨rfl, hm_le rfl, (hm_ltN hN rfl), hm_st hR (hm_st hR (?_))⟩)
    refine hm_st hR ⟨hm_le rfl, rfl, (hm_le rfl), (hm_ltN hN rfl), hm_le rfl, hm_le rfl, (0, 0), Nat.zero_le _, Nat.zero_le _, ?_⟩
    refine sp_75 hR hN ?_
    show R 24 21 [(0, .ref 2), (1, .int p1), (2, .int p2)] [.int (T_75 s p1 p2)] (N, hm_sh L g, s) _ Q
    exact hm_st hR ⟨fun z => absurd z (by decide), hm_qx0 hq⟩
