/-! The methods as functions; the abstract machine does them. -/
def T_77_6 : Nat → hm_St → Int32 → Int32 → Int32 → Int32 → Int32
  | 0, s, _, _, _, _ => 0
  | n + 1, s, v1, v2, v3, v4 => (if v4 < 0 then (-1) else (if (T_75 s v4 (T_74 s v4 v1 v2)) < v3 then (T_77_6 n s v1 v2 v3 (v4 + (-1))) else v4))
/-- CurvekeyHouse$Cells.deepestWith(III)I -/
def T_77 (s : hm_St) (p1 : Int32) (p2 : Int32) (p3 : Int32) : Int32 := (T_77_6 (((s 47 1).toInt + 1).toNat + 1) s p1 p2 p3 (s 47 1))
set_option maxRecDepth 20000 in
theorem lp_77_6 {R : hm_R} (hR : hm_Cm R) {N L : Nat} {g : Nat → hm_Sh} {b : hm_B} {Q : hm_Q} (hN : 68 ≤ N) : ∀ (n : Nat) (s : hm_St) (v1 : Int32) (v2 : Int32) (v3 : Int32) (v4 : Int32), (v4.toInt + 1).toNat < n → (hq : Q (.inr (some (.int (T_77_6 n s v1 v2 v3 v4)))) (N, hm_sh L g, s)) → R 77 6 [(4, .int v4), (0, .ref 47), (1, .int v1), (2, .int v2), (3, .int v3)] [] (N, hm_sh L g, s) b Q := by
  intro n
  induction n with
  | zero => intro s v1 v2 v3 v4 hm _; exact absurd hm (Nat.not_lt_zero _)
  | succ n ih =>
    intro s v1 v2 v3 v4 hm hq
    unfold T_77_6 at hq
    refine hm_st hR (?_)
    show R 77 8 [(4, .int v4), (0, .ref 47), (1, .int v1), (2, .int v2), (3, .int v3)] [.int v4] (N, hm_sh L g, s) _ Q
    refine hm_st hR ⟨fun c8 => ?_, fun c8 => ?_⟩
    · rw [if_pos c8] at hq
      show R 77 38 [(4, .int v4), (0, .ref 47), (1, .int v1), (2, .int v2), (3, .int v3)] [] (N, hm_sh L g, s) _ Q
      refine hm_st hR (?_)
      exact hm_st hR ⟨fun z => absurd z (by decide), hq⟩
    · rw [if_neg c8] at hq
      show R 77 11 [(4, .int v4), (0, .ref 47), (1, .int v1), (2, .int v2), (3, .int v3)] [] (N, hm_sh L g, s) _ Q
      refine hm_st hR (hm_st hR (hm_st hR (hm_st hR (hm_st hR (hm_st hR (?_))))))
      refine hm_st hR ⟨hm_le rfl, rfl, (hm_le rfl), (hm_ltN hN rfl), hm_le rfl, hm_le rfl, (0, 0), Nat.zero_le _, Nat.zero_le _, ?_⟩
      refine sp_74 hR hN ?_
      show R 77 22 [(4, .int v4), (0, .ref 47), (1, .int v1), (2, .int v2), (3, .int v3)] [.int (T_74 s v4 v1 v2), .int v4, .ref 47] (N, hm_sh L g, s) _ Q
      refine hm_st hR ⟨hm_le rfl, rfl, (hm_le rfl), (hm_ltN hN rfl), hm_le rfl, hm_le rfl, (0, 0), Nat.zero_le _, Nat.zero_le _, ?_⟩
      refine sp_75 hR hN ?_
      show R 77 25 [(4, .int v4), (0, .ref 47), (1, .int v1), (2, .int v2), (3, .int v3)] [.int (T_75 s v4 (T_74 s v4 v1 v2))] (N, hm_sh L g, s) _ Q
      refine hm_st hR (?_)
      show R 77 26 [(4, .int v4), (0, .ref 47), (1, .int v1), (2, .int v2), (3, .int v3)] [.int v3, .int (T_75 s v4 (T_74 s v4 v1 v2))] (N, hm_sh L g, s) _ Q
      refine hm_st hR ⟨fun c26 => ?_, fun c26 => ?_⟩
      · rw [if_pos c26] at hq
        show R 77 32 [(4, .int v4), (0, .ref 47), (1, .int v1), (2, .int v2), (3, .int v3)] [] (N, hm_sh L g, s) _ Q
        refine hm_st hR (hm_st hR (?_))
        show R 77 6 [(4, .int (v4 + (-1))), (0, .ref 47), (1, .int v1), (2, .int v2), (3, .int v3)] [] (N, hm_sh L g, s) _ Q
        exact hm_lvS hR (by intro q hq; simp only [List.mem_cons, List.not_mem_nil, or_false] at hq ⊢; rcases hq with rfl | rfl | rfl | rfl | rfl <;> simp) (ih s v1 v2 v3 (v4 + (-1)) (hm_dcn c8 hm) hq)
      · rw [if_neg c26] at hq
        show R 77 29 [(4, .int v4), (0, .ref 47), (1, .int v1), (2, .int v2), (3, .int v3)] [] (N, hm_sh L g, s) _ Q
        refine hm_st hR (?_)
        exact hm_st hR ⟨fun z => absurd z (by decide), hq⟩
set_option maxRecDepth 20000 in
theorem sp_77 {R : hm_R} (hR : hm_Cm R) {N L : Nat} {g : Nat → hm_Sh} {s : hm_St} {b : hm_B} {Q : hm_Q} (hN : 68 ≤ N) {p1 : Int32} {p2 : Int32} {p3 : Int32} (hq : Q (.inr (some (.int (T_77 s p1 p2 p3)))) (N, hm_sh L g, s)) : R 77 0 (lv_args 0 [.ref 47, .int p1, .int p2, .int p3]) [] (N, hm_sh L g, s) b Q := by
  unfold T_77 at hq
  show R 77 0 [(0, .ref 47), (1, .int p1), (2, .int p2), (3, .int p3)] [] (N, hm_sh L g, s) _ Q
  refine hm_st hR (hm_st hR ⟨rfl, hm_le rfl, (hm_ltN hN rfl), hm_st hR (?_)⟩)
  show R 77 6 [(4, .int (s 47 1)), (0, .ref 47), (1, .int p1), (2, .int p2), (3, .int p3)] [] (N, hm_sh L g, s) _ Q
  exact lp_77_6 hR hN _ _ _ _ _ _ (Nat.lt_succ_self _) hq
/-- CurvekeyHouse.blur(II)I -/
def T_25 (N : Nat) (g : Nat → hm_Sh) (s : hm_St) (p1 : Int32) (p2 : Int32) : hm_Er Int32 := (if ((T_159 s p1) : Int32) = 0 then (3, 0, N, g, s) else (if ((T_34 s p2 1 80) : Int32) = 0 then (1, 0, N, g, s) else (if ((T_160 s p1) : Int32) = 0 then (2, 0, N, g, s) else (0, (T_77 s (T_161 s p1) (T_162 s p1) p2), N, g, s))))
theorem N_25 {c j : Nat}  {N : Nat} {g : Nat → hm_Sh} {s : hm_St} {p1 : Int32} {p2 : Int32} : (T_25 N g s p1 p2).2.2.2.2 c j = s c j := by
  unfold T_25
  repeat' split
  all_goals first | with_reducible rfl | simp only []
set_option maxRecDepth 20000 in
theorem sp_25 {R : hm_R} (hR : hm_Cm R) {N L : Nat} {g : Nat → hm_Sh} {s : hm_St} {b : hm_B} {Q : hm_Q} (hN : 68 ≤ N) (hb1 : 1 ≤ b.1) (hb2 : 6 ≤ b.2) {p1 : Int32} {p2 : Int32} (hq : hm_qx Q L (fun v => some (.int v)) (T_25 N g s p1 p2)) : R 25 0 (lv_args 0 [.ref 2, .int p1, .int p2]) [] (N, hm_sh L g, s) b Q := by
  unfold T_25 at hq
  show R 25 0 [(0, .ref 2), (1, .int p1), (2, .int p2)] [] (N, hm_sh L g, s) _ Q
  refine hm_st hR (hm_st hR ⟨rfl, hm_le rfl, (hm_ltN hN rfl), hm_st hR (?_)⟩)
  refine hm_st hR ⟨hm_le rfl, rfl, (hm_le rfl), (hm_ltN hN rfl), hm_le rfl, hm_le rfl, (0, 0), Nat.zero_le _, Nat.zero_le _, ?_⟩
  refine sp_159 hR hN ?_
  show R 25 8 [(0, .ref 2), (1, .int p1), (2, .int p2)] [.int (T_159 s p1)] (N, hm_sh L g, s) _ Q
  show R 25 8 [(0, .ref 2), (1, .int p1), (2, .int p2)] [.int (T_159 s p1)] (N, hm_sh L g, s) _ Q
  by_cases c8 : ((T_159 s p1) : Int32) = 0
  · rw [if_pos c8] at hq
    exact hm_st hR ⟨hm_le rfl, hm_le rfl, hm_le rfl, (1, 6), (by show 1 ≤ b.1 - 0; omega), (by show 6 ≤ b.2 - 0; omega), hm_needT33 hR hN c8 (fun N2 hN2 => hm_KX (by decide) (hq N2 hN2))⟩
  · rw [if_neg c8] at hq
    refine hm_st hR ⟨hm_le rfl, hm_le rfl, hm_le rfl, (0, 0), Nat.zero_le _, Nat.zero_le _, hm_needP33 hR c8 ?_⟩
    show R 25 11 [(0, .ref 2), (1, .int p1), (2, .int p2)] [] (N, hm_sh L g, s) _ Q
    refine hm_st hR (hm_st hR (hm_st hR (?_)))
    refine hm_st hR ⟨hm_le rfl, hm_le rfl, hm_le rfl, (0, 0), Nat.zero_le _, Nat.zero_le _, ?_⟩
    refine sp_34 hR hN ?_
    show R 25 18 [(0, .ref 2), (1, .int p1), (2, .int p2)] [.int (T_34 s p2 1 80)] (N, hm_sh L g, s) _ Q
    show R 25 18 [(0, .ref 2), (1, .int p1), (2, .int p2)] [.int (T_34 s p2 1 80)] (N, hm_sh L g, s) _ Q
    by_cases c18 : ((T_34 s p2 1 80) : Int32) = 0
    · rw [if_pos c18] at hq
      exact hm_st hR ⟨hm_le rfl, hm_le rfl, hm_le rfl, (1, 6), (by show 1 ≤ b.1 - 0 - 0 - 0; omega), (by show 6 ≤ b.2 - 0 - 0 - 0; omega), hm_needT31 hR hN c18 (fun N2 hN2 => hm_KX (by decide) (hq N2 hN2))⟩
    · rw [if_neg c18] at hq
      refine hm_st hR ⟨hm_le rfl, hm_le rfl, hm_le rfl, (0, 0), Nat.zero_le _, Nat.zero_le _, hm_needP31 hR c18 ?_⟩
      show R 25 21 [(0, .ref 2), (1, .int p1), (2, .int p2)] [] (N, hm_sh L g, s) _ Q
      refine hm_st hR (hm_st hR ⟨rfl, hm_le rfl, (hm_ltN hN rfl), hm_st hR (?_)⟩)
      refine hm_st hR ⟨hm_le rfl, rfl, (hm_le rfl), (hm_ltN hN rfl), hm_le rfl, hm_le rfl, (0, 0), Nat.zero_le _, Nat.zero_le _, ?_⟩
      refine sp_160 hR hN ?_
      show R 25 29 [(0, .ref 2), (1, .int p1), (2, .int p2)] [.int (T_160 s p1)] (N, hm_sh L g, s) _ Q
      show R 25 29 [(0, .ref 2), (1, .int p1), (2, .int p2)] [.int (T_160 s p1)] (N, hm_sh L g, s) _ Q
      by_cases c29 : ((T_160 s p1) : Int32) = 0
      · rw [if_pos c29] at hq
        exact hm_st hR ⟨hm_le rfl, hm_le rfl, hm_le rfl, (1, 6), (by show 1 ≤ b.1 - 0 - 0 - 0 - 0 - 0; omega), (by show 6 ≤ b.2 - 0 - 0 - 0 - 0 - 0; omega), hm_needT32 hR hN c29 (fun N2 hN2 => hm_KX (by decide) (hq N2 hN2))⟩
      · rw [if_neg c29] at hq
        refine hm_st hR ⟨hm_le rfl, hm_le rfl, hm_le rfl, (0, 0), Nat.zero_le _, Nat.zero_le _, hm_needP32 hR c29 ?_⟩
        show R 25 32 [(0, .ref 2), (1, .int p1), (2, .int p2)] [] (N, hm_sh L g, s) _ Q
        refine hm_st hR (hm_st hR ⟨rfl, hm_le rfl, (hm_ltN hN rfl), hm_st hR (hm_st hR ⟨rfl, hm_le rfl, (hm_ltN hN rfl), hm_st hR (?_)⟩)⟩)
        refine hm_st hR ⟨hm_le rfl, rfl, (hm_le rfl), (hm_ltN hN rfl), hm_le rfl, hm_le rfl, (0, 0), Nat.zero_le _, Nat.zero_le _, ?_⟩
        refine sp_161 hR hN ?_
        show R 25 44 [(0, .ref 2), (1, .int p1), (2, .int p2)] [.int (T_161 s p1), .ref 47] (N, hm_sh L g, s) _ Q
        refine hm_st hR (hm_st hR ⟨rfl, hm_le rfl, (hm_ltN hN rfl), hm_st hR (?_)⟩)
        refine hm_st hR ⟨hm_le rfl, rfl, (hm_le rfl), (hm_ltN hN rfl), hm_le rfl, hm_le rfl, (0, 0), Nat.zero_le _, Nat.zero_le _, ?_⟩
        refine sp_162 hR hN ?_
        show R 25 52 [(0, .ref 2), (1, .int p1), (2, .int p2)] [.int (T_162 s p1), .int (T_161 s p1), .ref 47] (N, hm_sh L g, s) _ Q
        refine hm_st hR (?_)
        refine hm_st hR ⟨hm_le rfl, rfl, (hm_le rfl), (hm_ltN hN rfl), hm_le rfl, hm_le rfl, (0, 0), Nat.zero_le _, Nat.zero_le _, ?_⟩
        refine sp_77 hR hN ?_
        show R 25 56 [(0, .ref 2), (1, .int p1), (2, .int p2)] [.int (T_77 s (T_161 s p1) (T_162 s p1) p2)] (N, hm_sh L g, s) _ Q
        exact hm_st hR ⟨fun z => absurd z (by decide), hm_qx0 hq⟩
def T_187_2 : Nat → hm_St → Int32 → Int32 → Int32 → Int32
  | 0, s, _, _, _ => 0
  | n + 1, s, v1, v2, v3 => (if (s 50 4) ≤ v3 then (-1) else (if (T_178 s 52 20 v3) = v1 then (if (T_178 s 54 20 v3) = v2 then v3 else (T_187_2 n s v1 v2 (v3 + 1))) else (T_187_2 n s v1 v2 (v3 + 1))))
/-- CurvekeyHouse$Tiles.find(II)I -/
def T_187 (s : hm_St) (p1 : Int32) (p2 : Int32) : Int32 := (T_187_2 (hm_df (s 50 4) 0 + 1) s p1 p2 0)
set_option maxRecDepth 20000 in
theorem lp_187_2 {R : hm_R} (hR : hm_Cm R) {N L : Nat} {g : Nat → hm_Sh} {b : hm_B} {Q : hm_Q} (hN : 68 ≤ N) : ∀ (n : Nat) (s : hm_St) (v1 : Int32) (v2 : Int32) (v3 : Int32), hm_df (s 50 4) v3 < n → (hq : Q (.inr (some (.int (T_187_2 n s v1 v2 v3)))) (N, hm_sh L g, s)) → R 187 2 [(3, .int v3), (0, .ref 50), (1, .int v1), (2, .int v2)] [] (N, hm_sh L g, s) b Q := by
  intro n
  induction n with
  | zero => intro s v1 v2 v3 hm _; exact absurd hm (Nat.not_lt_zero _)
  | succ n ih =>
    intro s v1 v2 v3 hm hq
    unfold T_187_2 at hq
    refine hm_st hR (hm_st hR (hm_st hR ⟨rfl, hm_le rfl, (hm_ltN hN rfl), ?_⟩))
    show R 187 7 [(3, .int v3), (0, .ref 50), (1, .int v1), (2, .int v2)] [.int (s 50 4), .int v3] (N, hm_sh L g, s) _ Q
    refine hm_st hR ⟨fun c7 => ?_, fun c7 => ?_⟩
    · rw [if_pos c7] at hq
      show R 187 42 [(3, .int v3), (0, .ref 50), (1, .int v1), (2, .int v2)] [] (N, hm_sh L g, s) _ Q
      refine hm_st hR (?_)
      exact hm_st hR ⟨fun z => absurd z (by decide), hq⟩
    · rw [if_neg c7] at hq
      show R 187 10 [(3, .int v3), (0, .ref 50), (1, .int v1), (2, .int v2)] [] (N, hm_sh L g, s) _ Q
      refine hm_st hR (hm_st hR ⟨rfl, hm_le rfl, (hm_ltN hN rfl), hm_st hR (?_)⟩)
      refine hm_st hR ⟨hm_le rfl, rfl, (hm_le rfl), (hm_ltN hN rfl), hm_le rfl, hm_le rfl, (0, 0), Nat.zero_le _, Nat.zero_le _, ?_⟩
      refine sp_178 hR hN (rr := 51) (aa := 52) (nn := 20) rfl rfl (hm_le rfl) (hm_ltN hN rfl) rfl rfl (hm_le rfl) (hm_ltN hN rfl) (by decide) ?_
      show R 187 18 [(3, .int v3), (0, .ref 50), (1, .int v1), (2, .int v2)] [.int (T_178 s 52 20 v3)] (N, hm_sh L g, s) _ Q
      refine hm_st hR (?_)
      show R 187 19 [(3, .int v3), (0, .ref 50), (1, .int v1), (2, .int v2)] [.int v1, .int (T_178 s 52 20 v3)] (N, hm_sh L g, s) _ Q
      refine hm_st hR ⟨fun c19 => ?_, fun c19 => ?_⟩
      · rw [if_neg c19] at hq
        show R 187 36 [(3, .int v3), (0, .ref 50), (1, .int v1), (2, .int v2)] [] (N, hm_sh L g, s) _ Q
        refine hm_st hR (hm_st hR (?_))
        show R 187 2 [(3, .int (v3 + 1)), (0, .ref 50), (1, .int v1), (2, .int v2)] [] (N, hm_sh L g, s) _ Q
        exact hm_lvS hR (by intro q hq; simp only [List.mem_cons, List.not_mem_nil, or_false] at hq ⊢; rcases hq with rfl | rfl | rfl | rfl <;> simp) (ih s v1 v2 (v3 + 1) (hm_dcx c7 hm) hq)
      · rw [if_pos c19] at hq
        show R 187 22 [(3, .int v3), (0, .ref 50), (1, .int v1), (2, .int v2)] [] (N, hm_sh L g, s) _ Q
        refine hm_st hR (hm_st hR ⟨rfl, hm_le rfl, (hm_ltN hN rfl), hm_st hR (?_)⟩)
        refine hm_st hR ⟨hm_le rfl, rfl, (hm_le rfl), (hm_ltN hN rfl), hm_le rfl, hm_le rfl, (0, 0), Nat.zero_le _, Nat.zero_le _, ?_⟩
        refine sp_178 hR hN (rr := 53) (aa := 54) (nn := 20) rfl rfl (hm_le rfl) (hm_ltN hN rfl) rfl rfl (hm_le rfl) (hm_ltN hN rfl) (by decide) ?_
        show R 187 30 [(3, .int v3), (0, .ref 50), (1, .int v1), (2, .int v2)] [.int (T_178 s 54 20 v3)] (N, hm_sh L g, s) _ Q
        refine hm_st hR (?_)
        show R 187 31 [(3, .int v3), (0, .ref 50), (1, .int v1), (2, .int v2)] [.int v2, .int (T_178 s 54 20 v3)] (N, hm_sh L g, s) _ Q
        refine hm_st hR ⟨fun c31 => ?_, fun c31 => ?_⟩
        · rw [if_neg c31] at hq
          show R 187 36 [(3, .int v3), (0, .ref 50), (1, .int v1), (2, .int v2)] [] (N, hm_sh L g, s) _ Q
          refine hm_st hR (hm_st hR (?_))
          show R 187 2 [(3, .int (v3 + 1)), (0, .ref 50), (1, .int v1), (2, .int v2)] [] (N, hm_sh L g, s) _ Q
          exact hm_lvS hR (by intro q hq; simp only [List.mem_cons, List.not_mem_nil, or_false] at hq ⊢; rcases hq with rfl | rfl | rfl | rfl <;> simp) (ih s v1 v2 (v3 + 1) (hm_dcx c7 hm) hq)
        · rw [if_pos c31] at hq
          show R 187 34 [(3, .int v3), (0, .ref 50), (1, .int v1), (2, .int v2)] [] (N, hm_sh L g, s) _ Q
          refine hm_st hR (?_)
          exact hm_st hR ⟨fun z => absurd z (by decide), hq⟩
set_option maxRecDepth 20000 in
theorem sp_187 {R : hm_R} (hR : hm_Cm R) {N L : Nat} {g : Nat → hm_Sh} {s : hm_St} {b : hm_B} {Q : hm_Q} (hN : 68 ≤ N) {p1 : Int32} {p2 : Int32} (hq : Q (.inr (some (.int (T_187 s p1 p2)))) (N, hm_sh L g, s)) : R 187 0 (lv_args 0 [.ref 50, .int p1, .int p2]) [] (N, hm_sh L g, s) b Q := by
  unfold T_187 at hq
  show R 187 0 [(0, .ref 50), (1, .int p1), (2, .int p2)] [] (N, hm_sh L g, s) _ Q
  refine hm_st hR (hm_st hR (?_))
  show R 187 2 [(3, .int 0), (0, .ref 50), (1, .int p1), (2, .int p2)] [] (N, hm_sh L g, s) _ Q
  exact lp_187_2 hR hN _ _ _ _ _ (Nat.lt_succ_self _) hq
/-- CurvekeyHouse$Tiles.hasRoomFor(II)Z -/
def T_188 (s : hm_St) (p1 : Int32) (p2 : Int32) : Int32 := (if (s 50 4) < 20 then 1 else (if (T_187 s p1 p2) = (-1) then (0 : Int32) else 1))
theorem B_188 (s : hm_St) (p1 : Int32) (p2 : Int32) : T_188 s p1 p2 = 0 ∨ T_188 s p1 p2 = 1 := by
  unfold T_188
  repeat' split
  all_goals first | exact Or.inl rfl | exact Or.inr rfl
set_option maxRecDepth 20000 in
theorem sp_188 {R : hm_R} (hR : hm_Cm R) {N L : Nat} {g : Nat → hm_Sh} {s : hm_St} {b : hm_B} {Q : hm_Q} (hN : 68 ≤ N) {p1 : Int32} {p2 : Int32} (hq : Q (.inr (some (.int (T_188 s p1 p2)))) (N, hm_sh L g, s)) : R 188 0 (lv_args 0 [.ref 50, .int p1, .int p2]) [] (N, hm_sh L g, s) b Q := by
  unfold T_188 at hq
  show R 188 0 [(0, .ref 50), (1, .int p1), (2, .int p2)] [] (N, hm_sh L g, s) _ Q
  refine hm_st hR (hm_st hR ⟨rfl, hm_le rfl, (hm_ltN hN rfl), hm_st hR (?_)⟩)
  show R 188 6 [(0, .ref 50), (1, .int p1), (2, .int p2)] [.int 20, .int (s 50 4)] (N, hm_sh L g, s) _ Q
  refine hm_st hR ⟨fun c6 => ?_, fun c6 => ?_⟩
  · rw [if_pos c6] at hq
    show R 188 19 [(0, .ref 50), (1, .int p1), (2, .int p2)] [] (N, hm_sh L g, s) _ Q
    refine hm_st hR (hm_st hR (?_))
    exact hm_st hR ⟨fun _ => Or.inr rfl, hq⟩
  · rw [if_neg c6] at hq
    show R 188 9 [(0, .ref 50), (1, .int p1), (2, .int p2)] [] (N, hm_sh L g, s) _ Q
    refine hm_st hR (hm_st hR (hm_st hR (?_)))
    refine hm_st hR ⟨hm_le rfl, rfl, (hm_le rfl), (hm_ltN hN rfl), hm_le rfl, hm_le rfl, (0, 0), Nat.zero_le _, Nat.zero_le _, ?_⟩
    refine sp_187 hR hN ?_
    show R 188 15 [(0, .ref 50), (1, .int p1), (2, .int p2)] [.int (T_187 s p1 p2)] (N, hm_sh L g, s) _ Q
    refine hm_st hR (?_)
    show R 188 16 [(0, .ref 50), (1, .int p1), (2, .int p2)] [.int (-1), .int (T_187 s p1 p2)] (N, hm_sh L g, s) _ Q
    suffices G : ∀ w : Int32, w = (if (T_187 s p1 p2) = (-1) then (0 : Int32) else 1) → R 188 24 [(0, .ref 50), (1, .int p1), (2, .int p2)] [.int w] (N, hm_sh L g, s) (b.1 - 0, b.2 - 0) Q by
      show R 188 16 [(0, .ref 50), (1, .int p1), (2, .int p2)] [.int (-1), .int (T_187 s p1 p2)] (N, hm_sh L g, s) _ Q
      refine hm_st hR ⟨fun c => ?_, fun c => ?_⟩
      · exact hm_st hR (G _ (if_pos c).symm)
      · exact hm_st hR (hm_st hR (G _ (if_neg c).symm))
    intro w hw
    subst hw
    show R 188 24 [(0, .ref 50), (1, .int p1), (2, .int p2)] [.int (if (T_187 s p1 p2) = (-1) then (0 : Int32) else 1)] (N, hm_sh L g, s) _ Q
    exact hm_st hR ⟨fun _ => (by split <;> first | exact Or.inl rfl | exact Or.inr rfl), hq⟩
/-- CurvekeyHouse$Tiles.drawAnew(III)V -/
def T_189 (s : hm_St) (p1 : Int32) (p2 : Int32) (p3 : Int32) : hm_St := (if (T_187 s p1 p2) = (-1) then (T_179 (T_179 (T_179 (T_179 (hm_w1 s 50 4 ((s 50 4) + 1)) 52 20 (s 50 4) p1) 54 20 (s 50 4) p2) 56 20 (s 50 4) p3) 58 20 (s 50 4) 0) else (T_179 (T_179 (T_179 (T_179 s 52 20 (T_187 s p1 p2) p1) 54 20 (T_187 s p1 p2) p2) 56 20 (T_187 s p1 p2) p3) 58 20 (T_187 s p1 p2) 0))
theorem N_189 {c j : Nat} (h50 : c ≠ 50) (h52 : c ≠ 52) (h54 : c ≠ 54) (h56 : c ≠ 56) (h58 : c ≠ 58) {s : hm_St} {p1 : Int32} {p2 : Int32} {p3 : Int32} : (T_189 s p1 p2 p3) c j = s c j := by
  unfold T_189
  repeat' split
  all_goals first | with_reducible rfl | simp only [hm_w1n h50, hm_w1n h52, hm_w1n h54, hm_w1n h56, hm_w1n h58, N_179 h50, N_179 h52, N_179 h54, N_179 h56, N_179 h58]
set_option maxRecDepth 20000 in
theorem sp_189 {R : hm_R} (hR : hm_Cm R) {N L : Nat} {g : Nat → hm_Sh} {s : hm_St} {b : hm_B} {Q : hm_Q} (hN : 68 ≤ N) {p1 : Int32} {p2 : Int32} {p3 : Int32} (hq : Q (.inr none) (N, hm_sh L g, (T_189 s p1 p2 p3))) : R 189 0 (lv_args 0 [.ref 50, .int p1, .int p2, .int p3]) [] (N, hm_sh L g, s) b Q := by
  unfold T_189 at hq
  show R 189 0 [(0, .ref 50), (1, .int p1), (2, .int p2), (3, .int p3)] [] (N, hm_sh L g, s) _ Q
  refine hm_st hR (hm_st hR (hm_st hR (?_)))
  refine hm_st hR ⟨hm_le rfl, rfl, (hm_le rfl), (hm_ltN hN rfl), hm_le rfl, hm_le rfl, (0, 0), Nat.zero_le _, Nat.zero_le _, ?_⟩
  refine sp_187 hR hN ?_
  show R 189 6 [(0, .ref 50), (1, .int p1), (2, .int p2), (3, .int p3)] [.int (T_187 s p1 p2)] (N, hm_sh L g, s) _ Q
  refine hm_st hR (hm_st hR (hm_st hR (?_)))
  show R 189 11 [(4, .int (T_187 s p1 p2)), (0, .ref 50), (1, .int p1), (2, .int p2), (3, .int p3)] [.int (-1), .int (T_187 s p1 p2)] (N, hm_sh L g, s) _ Q
  refine hm_st hR ⟨fun c11 => ?_, fun c11 => ?_⟩
  · rw [if_neg c11] at hq
    show R 189 30 [(4, .int (T_187 s p1 p2)), (0, .ref 50), (1, .int p1), (2, .int p2), (3, .int p3)] [] (N, hm_sh L g, s) _ Q
    refine hm_st hR (hm_st hR ⟨rfl, hm_le rfl, (hm_ltN hN rfl), hm_st hR (hm_st hR (?_))⟩)
    refine hm_st hR ⟨hm_le rfl, rfl, (hm_le rfl), (hm_ltN hN rfl), hm_le rfl, hm_le rfl, (0, 0), Nat.zero_le _, Nat.zero_le _, ?_⟩
    refine sp_179 hR hN (rr := 51) (aa := 52) (nn := 20) rfl rfl (hm_le rfl) (hm_ltN hN rfl) rfl rfl (hm_le rfl) (hm_ltN hN rfl) (by decide) ?_
    show R 189 40 [(4, .int (T_187 s p1 p2)), (0, .ref 50), (1, .int p1), (2, .int p2), (3, .int p3)] [] (N, hm_sh L g, (T_179 s 52 20 (T_187 s p1 p2) p1)) _ Q
    refine hm_st hR (hm_st hR ⟨rfl, hm_le rfl, (hm_ltN hN rfl), hm_st hR (hm_st hR (?_))⟩)
    refine hm_st hR ⟨hm_le rfl, rfl, (hm_le rfl), (hm_ltN hN rfl), hm_le rfl, hm_le rfl, (0, 0), Nat.zero_le _, Nat.zero_le _, ?_⟩
    refine sp_179 hR hN (rr := 53) (aa := 54) (nn := 20) rfl rfl (hm_le rfl) (hm_ltN hN rfl) rfl rfl (hm_le rfl) (hm_ltN hN rfl) (by decide) ?_
    show R 189 50 [(4, .int (T_187 s p1 p2)), (0, .ref 50), (1, .int p1), (2, .int p2), (3, .int p3)] [] (N, hm_sh L g, (T_179 (T_179 s 52 20 (T_187 s p1 p2) p1) 54 20 (T_187 s p1 p2) p2)) _ Q
    refine hm_st hR (hm_st hR ⟨rfl, hm_le rfl, (hm_ltN hN rfl), hm_st hR (hm_st hR (?_))⟩)
    refine hm_st hR ⟨hm_le rfl, rfl, (hm_le rfl), (hm_ltN hN rfl), hm_le rfl, hm_le rfl, (0, 0), Nat.zero_le _, Nat.zero_le _, ?_⟩
    refine sp_179 hR hN (rr := 55) (aa := 56) (nn := 20) rfl rfl (hm_le rfl) (hm_ltN hN rfl) rfl rfl (hm_le rfl) (hm_ltN hN rfl) (by decide) ?_
    show R 189 60 [(4, .int (T_187 s p1 p2)), (0, .ref 50), (1, .int p1), (2, .int p2), (3, .int p3)] [] (N, hm_sh L g, (T_179 (T_179 (T_179 s 52 20 (T_187 s p1 p2) p1) 54 20 (T_187 s p1 p2) p2) 56 20 (T_187 s p1 p2) p3)) _ Q
    refine hm_st hR (hm_st hR ⟨rfl, hm_le rfl, (hm_ltN hN rfl), hm_st hR (hm_st hR (?_))⟩)
    refine hm_st hR ⟨hm_le rfl, rfl, (hm_le rfl), (hm_ltN hN rfl), hm_le rfl, hm_le rfl, (0, 0), Nat.zero_le _, Nat.zero_le _, ?_⟩
    refine sp_179 hR hN (rr := 57) (aa := 58) (nn := 20) rfl rfl (hm_le rfl) (hm_ltN hN rfl) rfl rfl (hm_le rfl) (hm_ltN hN rfl) (by decide) ?_
    show R 189 70 [(4, .int (T_187 s p1 p2)), (0, .ref 50), (1, .int p1), (2, .int p2), (3, .int p3)] [] (N, hm_sh L g, (T_179 (T_179 (T_179 (T_179 s 52 20 (T_187 s p1 p2) p1) 54 20 (T_187 s p1 p2) p2) 56 20 (T_187 s p1 p2) p3) 58 20 (T_187 s p1 p2) 0)) _ Q
    exact hm_st hR (hq)
  · rw [if_pos c11] at hq
    show R 189 14 [(4, .int (T_187 s p1 p2)), (0, .ref 50), (1, .int p1), (2, .int p2), (3, .int p3)] [] (N, hm_sh L g, s) _ Q
    refine hm_st hR (hm_st hR ⟨rfl, hm_le rfl, (hm_ltN hN rfl), hm_st hR (hm_st hR (hm_st hR ⟨rfl, hm_st hR ⟨rfl, hm_le rfl, (hm_ltN hN rfl), hm_st hR (hm_st hR (hm_st hR ⟨rfl, rfl, hm_le rfl, (hm_ltN hN rfl), ?_⟩))⟩⟩))⟩)
    show R 189 30 [(4, .int (s 50 4)), (0, .ref 50), (1, .int p1), (2, .int p2), (3, .int p3)] [] (N, hm_sh L g, (hm_w1 s 50 4 ((s 50 4) + 1))) _ Q
    refine hm_st hR (hm_st hR ⟨rfl, hm_le rfl, (hm_ltN hN rfl), hm_st hR (hm_st hR (?_))⟩)
    refine hm_st hR ⟨hm_le rfl, rfl, (hm_le rfl), (hm_ltN hN rfl), hm_le rfl, hm_le rfl, (0, 0), Nat.zero_le _, Nat.zero_le _, ?_⟩
    refine sp_179 hR hN (rr := 51) (aa := 52) (nn := 20) rfl rfl (hm_le rfl) (hm_ltN hN rfl) rfl rfl (hm_le rfl) (hm_ltN hN rfl) (by decide) ?_
    show R 189 40 [(4, .int (s 50 4)), (0, .ref 50), (1, .int p1), (2, .int p2), (3, .int p3)] [] (N, hm_sh L g, (T_179 (hm_w1 s 50 4 ((s 50 4) + 1)) 52 20 (s 50 4) p1)) _ Q
    refine hm_st hR (hm_st hR ⟨rfl, hm_le rfl, (hm_ltN hN rfl), hm_st hR (hm_st hR (?_))⟩)
    refine hm_st hR ⟨hm_le rfl, rfl, (hm_le rfl), (hm_ltN hN rfl), hm_le rfl, hm_le rfl, (0, 0), Nat.zero_le _, Nat.zero_le _, ?_⟩
    refine sp_179 hR hN (rr := 53) (aa := 54) (nn := 20) rfl rfl (hm_le rfl) (hm_ltN hN rfl) rfl rfl (hm_le rfl) (hm_ltN hN rfl) (by decide) ?_
    show R 189 50 [(4, .int (s 50 4)), (0, .ref 50), (1, .int p1), (2, .int p2), (3, .int p3)] [] (N, hm_sh L g, (T_179 (T_179 (hm_w1 s 50 4 ((s 50 4) + 1)) 52 20 (s 50 4) p1) 54 20 (s 50 4) p2)) _ Q
    refine hm_st hR (hm_st hR ⟨rfl, hm_le rfl, (hm_ltN hN rfl), hm_st hR (hm_st hR (?_))⟩)
    refine hm_st hR ⟨hm_le rfl, rfl, (hm_le rfl), (hm_ltN hN rfl), hm_le rfl, hm_le rfl, (0, 0), Nat.zero_le _, Nat.zero_le _, ?_⟩
    refine sp_179 hR hN (rr := 55) (aa := 56) (nn := 20) rfl rfl (hm_le rfl) (hm_ltN hN rfl) rfl rfl (hm_le rfl) (hm_ltN hN rfl) (by decide) ?_
    show R 189 60 [(4, .int (s 50 4)), (0, .ref 50), (1, .int p1), (2, .int p2), (3, .int p3)] [] (N, hm_sh L g, (T_179 (T_179 (T_179 (hm_w1 s 50 4 ((s 50 4) + 1)) 52 20 (s 50 4) p1) 54 20 (s 50 4) p2) 56 20 (s 50 4) p3)) _ Q
    refine hm_st hR (hm_st hR ⟨rfl, hm_le rfl, (hm_ltN hN rfl), hm_st hR (hm_st hR (?_))⟩)
    refine hm_st hR ⟨hm_le rfl, rfl, (hm_le rfl), (hm_ltN hN rfl), hm_le rfl, hm_le rfl, (0, 0), Nat.zero_le _, Nat.zero_le _, ?_⟩
    refine sp_179 hR hN (rr := 57) (aa := 58) (nn := 20) rfl rfl (hm_le rfl) (hm_ltN hN rfl) rfl rfl (hm_le rfl) (hm_ltN hN rfl) (by decide) ?_
    show R 189 70 [(4, .int (s 50 4)), (0, .ref 50), (1, .int p1), (2, .int p2), (3, .int p3)] [] (N, hm_sh L g, (T_179 (T_179 (T_179 (T_179 (hm_w1 s 50 4 ((s 50 4) + 1)) 52 20 (s 50 4) p1) 54 20 (s 50 4) p2) 56 20 (s 50 4) p3) 58 20 (s 50 4) 0)) _ Q
    exact hm_st hR (hq)
/-- CurvekeyHouse.draw(II)I -/
def T_26 (N : Nat) (g : Nat → hm_Sh) (s : hm_St) (p1 : Int32) (p2 : Int32) : hm_Er Int32 := (if ((T_71 s p1 p2) : Int32) = 0 then (1, 0, N, g, s) else (if ((T_188 s p1 p2) : Int32) = 0 then (2, 0, N, g, s) else (0, (T_75 s p1 p2), N, g, (T_189 s p1 p2 (T_75 s p1 p2)))))
theorem N_26 {c j : Nat} (h50 : c ≠ 50) (h52 : c ≠ 52) (h54 : c ≠ 54) (h56 : c ≠ 56) (h58 : c ≠ 58) {N : Nat} {g : Nat → hm_Sh} {s : hm_St} {p1 : Int32} {p2 : Int32} : (T_26 N g s p1 p2).2.2.2.2 c j = s c j := by
  unfold T_26
  repeat' split
  all_goals first | with_reducible rfl | simp only [hm_w1n h50, hm_w1n h52, hm_w1n h54, hm_w1n h56, hm_w1n h58, N_189 h50 h52 h54 h56 h58]
set_option maxRecDepth 20000 in
theorem sp_26 {R : hm_R} (hR : hm_Cm R) {N L : Nat} {g : Nat → hm_Sh} {s : hm_St} {b : hm_B} {Q : hm_Q} (hN : 68 ≤ N) (hb1 : 1 ≤ b.1) (hb2 : 6 ≤ b.2) {p1 : Int32} {p2 : Int32} (hq : hm_qx Q L (fun v => some (.int v)) (T_26 N g s p1 p2)) : R 26 0 (lv_args 0 [.ref 2, .int p1, .int p2]) [] (N, hm_sh L g, s) b Q := by
  unfold T_26 at hq
  show R 26 0 [(0, .ref 2), (1, .int p1), (2, .int p2)] [] (N, hm_sh L g, s) _ Q
  refine hm_st hR (hm_st hR ⟨rfl, hm_le rfl, (hm_ltN hN rfl), hm_st hR (hm_st hR (?_))⟩)
  refine hm_st hR ⟨hm_le rfl, rfl, (hm_le rfl), (hm_ltN hN rfl), hm_le rfl, hm_le rfl, (0, 0), Nat.zero_le _, Nat.zero_le _, ?_⟩
  refine sp_71 hR hN ?_
  show R 26 9 [(0, .ref 2), (1, .int p1), (2, .int p2)] [.int (T_71 s p1 p2)] (N, hm_sh L g, s) _ Q
  show R 26 9 [(0, .ref 2), (1, .int p1), (2, .int p2)] [.int (T_71 s p1 p2)] (N, hm_sh L g, s) _ Q
  by_cases c9 : ((T_71 s p1 p2) : Int32) = 0
  · rw [if_pos c9] at hq
    exact hm_st hR ⟨hm_le rfl, hm_le rfl, hm_le rfl, (1, 6), (by show 1 ≤ b.1 - 0; omega), (by show 6 ≤ b.2 - 0; omega), hm_needT31 hR hN c9 (fun N2 hN2 => hm_KX (by decide) (hq N2 hN2))⟩
  · rw [if_neg c9] at hq
    refine hm_st hR ⟨hm_le rfl, hm_le rfl, hm_le rfl, (0, 0), Nat.zero_le _, Nat.zero_le _, hm_needP31 hR c9 ?_⟩
    show R 26 12 [(0, .ref 2), (1, .int p1), (2, .int p2)] [] (N, hm_sh L g, s) _ Q
    refine hm_st hR (hm_st hR ⟨rfl, hm_le rfl, (hm_ltN hN rfl), hm_st hR (hm_st hR (?_))⟩)
    refine hm_st hR ⟨hm_le rfl, rfl, (hm_le rfl), (hm_ltN hN rfl), hm_le rfl, hm_le rfl, (0, 0), Nat.zero_le _, Nat.zero_le _, ?_⟩
    refine sp_188 hR hN ?_
    show R 26 21 [(0, .ref 2), (1, .int p1), (2, .int p2)] [.int (T_188 s p1 p2)] (N, hm_sh L g, s) _ Q
    show R 26 21 [(0, .ref 2), (1, .int p1), (2, .int p2)] [.int (T_188 s p1 p2)] (N, hm_sh L g, s) _ Q
    by_cases c21 : ((T_188 s p1 p2) : Int32) = 0
    · rw [if_pos c21] at hq
      exact hm_st hR ⟨hm_le rfl, hm_le rfl, hm_le rfl, (1, 6), (by show 1 ≤ b.1 - 0 - 0 - 0; omega), (by show 6 ≤ b.2 - 0 - 0 - 0; omega), hm_needT32 hR hN c21 (fun N2 hN2 => hm_KX (by decide) (hq N2 hN2))⟩
    · rw [if_neg c21] at hq
      refine hm_st hR ⟨hm_le rfl, hm_le rfl, hm_le rfl, (0, 0), Nat.zero_le _, Nat.zero_le _, hm_needP32 hR c21 ?_⟩
      show R 26 24 [(0, .ref 2), (1, .int p1), (2, .int p2)] [] (N, hm_sh L g, s) _ Q
      refine hm_st hR (hm_st hR ⟨rfl, hm_le rfl, (hm_ltN hN rfl), hm_st hR (hm_st hR (?_))⟩)
      refine hm_st hR ⟨hm_le rfl, rfl, (hm_le rfl), (hm_ltN hN rfl), hm_le rfl, hm_le rfl, (0, 0), Nat.zero_le _, Nat.zero_le _, ?_⟩
      refine sp_75 hR hN ?_
      show R 26 33 [(0, .ref 2), (1, .int p1), (2, .int p2)] [.int (T_75 s p1 p2)] (N, hm_sh L g, s) _ Q
      refine hm_st hR (hm_st hR (hm_st hR ⟨rfl, hm_le rfl, (hm_ltN hN rfl), hm_st hR (hm_st hR (hm_st hR (?_)))⟩))
      refine hm_st hR ⟨hm_le rfl, rfl, (hm_le rfl), (hm_ltN hN rfl), hm_le rfl, hm_le rfl, (0, 0), Nat.zero_le _, Nat.zero_le _, ?_⟩
      refine sp_189 hR hN ?_
      show R 26 44 [(3, .int (T_75 s p1 p2)), (0, .ref 2), (1, .int p1), (2, .int p2)] [] (N, hm_sh L g, (T_189 s p1 p2 (T_75 s p1 p2))) _ Q
      refine hm_st hR (?_)
      exact hm_st hR ⟨fun z => absurd z (by decide), hm_qx0 hq⟩
/-- CurvekeyHouse.wholePlane()LCurvekeyHouse$Box; -/
def T_50 (N : Nat) (s : hm_St) : hm_St := (T_65 (hm_sn s N) N 0 0 (T_86 (hm_sn s N)) (T_86 (hm_sn s N)))
theorem N_50 {c j : Nat} {N : Nat} (hcN : c ≠ N) {s : hm_St} : T_50 N s c j = s c j := by
  unfold T_50
  simp only [N_65 hcN, hm_snn hcN]
set_option maxRecDepth 20000 in
theorem sp_50 {R : hm_R} (hR : hm_Cm R) {N L : Nat} {g : Nat → hm_Sh} {s : hm_St} {b : hm_B} {Q : hm_Q} (hN : 68 ≤ N) (hb1 : 1 ≤ b.1) (hb2 : 4 ≤ b.2) (hq : Q (.inr (some (.ref N))) (N + 1, hm_sh L (hm_gb g N), (T_50 N s))) : R 50 0 (lv_args 0 [.ref 2]) [] (N, hm_sh L g, s) b Q := by
  unfold T_50 at hq
  show R 50 0 [(0, .ref 2)] [] (N, hm_sh L g, s) _ Q
  show R 50 0 [(0, .ref 2)] [] (N, hm_sh L g, s) _ Q
  refine hm_nwb hR hN (by show 1 ≤ b.1; omega) (by show 4 ≤ b.2; omega) (by rfl) ?_
  have hbk1 : (hm_sh L (hm_gb g N) N).1 = 0 := hm_gbk hN
  have hbt1 : 2 ≤ N := hm_two hN
  have hbl1 : N < N + 1 := Nat.lt_succ_self _
  show R 50 3 [(0, .ref 2)] [.ref N] ((N + 1), hm_sh L (hm_gb g N), (hm_sn s N)) _ Q
  refine hm_st hR ⟨rfl, hm_st hR (hm_st hR (hm_st hR (hm_st hR ⟨rfl, hm_le rfl, (hm_ltN (Nat.le_succ_of_le hN) rfl), ?_⟩)))⟩
  refine hm_st hR ⟨hm_le rfl, rfl, (hm_le rfl), (hm_ltN (Nat.le_succ_of_le hN) rfl), hm_le rfl, hm_le rfl, (0, 0), Nat.zero_le _, Nat.zero_le _, ?_⟩
  refine sp_86 hR (Nat.le_succ_of_le hN) ?_
  show R 50 13 [(0, .ref 2)] [.int (T_86 (hm_sn s N)), .int 0, .int 0, .ref N, .ref N] ((N + 1), hm_sh L (hm_gb g N), (hm_sn s N)) _ Q
  refine hm_st hR (hm_st hR ⟨rfl, hm_le rfl, (hm_ltN (Nat.le_succ_of_le hN) rfl), ?_⟩)
  refine hm_st hR ⟨hm_le rfl, rfl, (hm_le rfl), (hm_ltN (Nat.le_succ_of_le hN) rfl), hm_le rfl, hm_le rfl, (0, 0), Nat.zero_le _, Nat.zero_le _, ?_⟩
  refine sp_86 hR (Nat.le_succ_of_le hN) ?_
  show R 50 20 [(0, .ref 2)] [.int (T_86 (hm_sn s N)), .int (T_86 (hm_sn s N)), .int 0, .int 0, .ref N, .ref N] ((N + 1), hm_sh L (hm_gb g N), (hm_sn s N)) _ Q
  refine hm_st hR ⟨hm_le rfl, hbt1, hm_le rfl, hm_le rfl, (0, 0), Nat.zero_le _, Nat.zero_le _, ?_⟩
  refine sp_65 hR (Nat.le_succ_of_le hN) (bx := N) hbk1 hbt1 hbl1 ?_
  show R 50 23 [(0, .ref 2)] [.ref N] ((N + 1), hm_sh L (hm_gb g N), (T_65 (hm_sn s N) N 0 0 (T_86 (hm_sn s N)) (T_86 (hm_sn s N)))) _ Q
  exact hm_st hR hq
/-- CurvekeyHouse$Cells.columnOf(II)I -/
def T_79 (s : hm_St) (p1 : Int32) (p2 : Int32) : Int32 := (p2 &&& ((1 <<< ((p1 : Int32) &&& 31)) - 1))
set_option maxRecDepth 20000 in
theorem sp_79 {R : hm_R} (hR : hm_Cm R) {N L : Nat} {g : Nat → hm_Sh} {s : hm_St} {b : hm_B} {Q : hm_Q} (hN : 68 ≤ N) {p1 : Int32} {p2 : Int32} (hq : Q (.inr (some (.int (T_79 s p1 p2)))) (N, hm_sh L g, s)) : R 79 0 (lv_args 0 [.int p1, .int p2]) [] (N, hm_sh L g, s) b Q := by
  unfold T_79 at hq
  show R 79 0 [(0, .int p1), (1, .int p2)] [] (N, hm_sh L g, s) _ Q
  refine hm_st hR (hm_st hR (hm_st hR (hm_st hR (hm_st hR (hm_st hR (hm_st hR (?_)))))))
  exact hm_st hR ⟨fun z => absurd z (by decide), hq⟩
/-- CurvekeyHouse$Cells.parentOf(II)I -/
def T_80 (s : hm_St) (p1 : Int32) (p2 : Int32) : Int32 := ((((p2 >>> ((p1 : Int32) &&& 31)) >>> ((1 : Int32) &&& 31)) <<< (((p1 - 1) : Int32) &&& 31)) + ((T_79 s p1 p2) >>> ((1 : Int32) &&& 31)))
set_option maxRecDepth 20000 in
theorem sp_80 {R : hm_R} (hR : hm_Cm R) {N L : Nat} {g : Nat → hm_Sh} {s : hm_St} {b : hm_B} {Q : hm_Q} (hN : 68 ≤ N) {p1 : Int32} {p2 : Int32} (hq : Q (.inr (some (.int (T_80 s p1 p2)))) (N, hm_sh L g, s)) : R 80 0 (lv_args 0 [.int p1, .int p2]) [] (N, hm_sh L g, s) b Q := by
  unfold T_80 at hq
  show R 80 0 [(0, .int p1), (1, .int p2)] [] (N, hm_sh L g, s) _ Q
  refine hm_st hR (hm_st hR (hm_st hR (hm_st hR (hm_st hR (hm_st hR (hm_st hR (hm_st hR (hm_st hR (hm_st hR (hm_st hR (?_)))))))))))
  refine hm_st hR ⟨hm_le rfl, hm_le rfl, hm_le rfl, (0, 0), Nat.zero_le _, Nat.zero_le _, ?_⟩
  refine sp_79 hR hN ?_
  show R 80 14 [(0, .int p1), (1, .int p2)] [.int (T_79 s p1 p2), .int (((p2 >>> ((p1 : Int32) &&& 31)) >>> ((1 : Int32) &&& 31)) <<< (((p1 - 1) : Int32) &&& 31))] (N, hm_sh L g, s) _ Q
  refine hm_st hR (hm_st hR (hm_st hR (?_)))
  exact hm_st hR ⟨fun z => absurd z (by decide), hq⟩
/-- CurvekeyHouse$Cells.isLeaf(III)Z -/
def T_78 (s : hm_St) (p1 : Int32) (p2 : Int32) (p3 : Int32) : Int32 := (if p1 = 0 then (if p1 = (s 47 1) then 1 else (if p3 < (T_75 s p1 p2) then (0 : Int32) else 1)) else (if (if (T_75 s (p1 - 1) (T_80 s p1 p2)) ≤ p3 then (0 : Int32) else 1) = 0 then 0 else (if p1 = (s 47 1) then 1 else (if p3 < (T_75 s p1 p2) then (0 : Int32) else 1))))
theorem B_78 (s : hm_St) (p1 : Int32) (p2 : Int32) (p3 : Int32) : T_78 s p1 p2 p3 = 0 ∨ T_78 s p1 p2 p3 = 1 := by
  unfold T_78
  repeat' split
  all_goals first | exact Or.inl rfl | exact Or.inr rfl
set_option maxRecDepth 20000 in
theorem sp_78 {R : hm_R} (hR : hm_Cm R) {N L : Nat} {g : Nat → hm_Sh} {s : hm_St} {b : hm_B} {Q : hm_Q} (hN : 68 ≤ N) {p1 : Int32} {p2 : Int32} {p3 : Int32} (hq : Q (.inr (some (.int (T_78 s p1 p2 p3)))) (N, hm_sh L g, s)) : R 78 0 (lv_args 0 [.ref 47, .int p1, .int p2, .int p3]) [] (N, hm_sh L g, s) b Q := by
  unfold T_78 at hq
  show R 78 0 [(0, .ref 47), (1, .int p1), (2, .int p2), (3, .int p3)] [] (N, hm_sh L g, s) _ Q
  refine hm_st hR (?_)
  show R 78 1 [(0, .ref 47), (1, .int p1), (2, .int p2), (3, .int p3)] [.int p1] (N, hm_sh L g, s) _ Q
  refine hm_st hR ⟨fun c1 => ?_, fun c1 => ?_⟩
  · rw [if_pos c1] at hq
    show R 78 20 [(0, .ref 47), (1, .int p1), (2, .int p2), (3, .int p3)] [] (N, hm_sh L g, s) _ Q
    refine hm_st hR (hm_st hR (hm_st hR (hm_st hR (?_))))
    show R 78 29 [(4, .int 1), (0, .ref 47), (1, .int p1), (2, .int p2), (3, .int p3)] [.int 1] (N, hm_sh L g, s) _ Q
    refine hm_st hR ⟨fun c => absurd c (by decide), fun _ => ?_⟩
    show R 78 32 [(4, .int 1), (0, .ref 47), (1, .int p1), (2, .int p2), (3, .int p3)] [] (N, hm_sh L g, s) _ Q
    refine hm_st hR (hm_st hR (hm_st hR ⟨rfl, hm_le rfl, (hm_ltN hN rfl), ?_⟩))
    show R 78 37 [(4, .int 1), (0, .ref 47), (1, .int p1), (2, .int p2), (3, .int p3)] [.int (s 47 1), .int p1] (N, hm_sh L g, s) _ Q
    refine hm_st hR ⟨fun c37 => ?_, fun c37 => ?_⟩
    · rw [if_pos c37] at hq
      show R 78 50 [(4, .int 1), (0, .ref 47), (1, .int p1), (2, .int p2), (3, .int p3)] [] (N, hm_sh L g, s) _ Q
      refine hm_st hR (hm_st hR (?_))
      exact hm_st hR ⟨fun _ => Or.inr rfl, hq⟩
    · rw [if_neg c37] at hq
      show R 78 40 [(4, .int 1), (0, .ref 47), (1, .int p1), (2, .int p2), (3, .int p3)] [] (N, hm_sh L g, s) _ Q
      refine hm_st hR (hm_st hR (hm_st hR (?_)))
      refine hm_st hR ⟨hm_le rfl, rfl, (hm_le rfl), (hm_ltN hN rfl), hm_le rfl, hm_le rfl, (0, 0), Nat.zero_le _, Nat.zero_le _, ?_⟩
      refine sp_75 hR hN ?_
      show R 78 46 [(4, .int 1), (0, .ref 47), (1, .int p1), (2, .int p2), (3, .int p3)] [.int (T_75 s p1 p2)] (N, hm_sh L g, s) _ Q
      refine hm_st hR (?_)
      show R 78 47 [(4, .int 1), (0, .ref 47), (1, .int p1), (2, .int p2), (3, .int p3)] [.int p3, .int (T_75 s p1 p2)] (N, hm_sh L g, s) _ Q
      suffices G : ∀ w : Int32, w = (if p3 < (T_75 s p1 p2) then (0 : Int32) else 1) → R 78 55 [(4, .int 1), (0, .ref 47), (1, .int p1), (2, .int p2), (3, .int p3)] [.int w] (N, hm_sh L g, s) (b.1 - 0, b.2 - 0) Q by
        show R 78 47 [(4, .int 1), (0, .ref 47), (1, .int p1), (2, .int p2), (3, .int p3)] [.int p3, .int (T_75 s p1 p2)] (N, hm_sh L g, s) _ Q
        refine hm_st hR ⟨fun c => ?_, fun c => ?_⟩
        · exact hm_st hR (G _ (if_pos c).symm)
        · exact hm_st hR (hm_st hR (G _ (if_neg c).symm))
      intro w hw
      subst hw
      show R 78 55 [(4, .int 1), (0, .ref 47), (1, .int p1), (2, .int p2), (3, .int p3)] [.int (if p3 < (T_75 s p1 p2) then (0 : Int32) else 1)] (N, hm_sh L g, s) _ Q
      exact hm_st hR ⟨fun _ => (by split <;> first | exact Or.inl rfl | exact Or.inr rfl), hq⟩
  · rw [if_neg c1] at hq
    show R 78 4 [(0, .ref 47), (1, .int p1), (2, .int p2), (3, .int p3)] [] (N, hm_sh L g, s) _ Q
    refine hm_st hR (hm_st hR (hm_st hR (hm_st hR (hm_st hR (hm_st hR (?_))))))
    refine hm_st hR ⟨hm_le rfl, hm_le rfl, hm_le rfl, (0, 0), Nat.zero_le _, Nat.zero_le _, ?_⟩
    refine sp_80 hR hN ?_
    show R 78 13 [(0, .ref 47), (1, .int p1), (2, .int p2), (3, .int p3)] [.int (T_80 s p1 p2), .int (p1 - 1), .ref 47] (N, hm_sh L g, s) _ Q
    refine hm_st hR ⟨hm_le rfl, rfl, (hm_le rfl), (hm_ltN hN rfl), hm_le rfl, hm_le rfl, (0, 0), Nat.zero_le _, Nat.zero_le _, ?_⟩
    refine sp_75 hR hN ?_
    show R 78 16 [(0, .ref 47), (1, .int p1), (2, .int p2), (3, .int p3)] [.int (T_75 s (p1 - 1) (T_80 s p1 p2))] (N, hm_sh L g, s) _ Q
    refine hm_st hR (?_)
    show R 78 17 [(0, .ref 47), (1, .int p1), (2, .int p2), (3, .int p3)] [.int p3, .int (T_75 s (p1 - 1) (T_80 s p1 p2))] (N, hm_sh L g, s) _ Q
    suffices G : ∀ w : Int32, w = (if (T_75 s (p1 - 1) (T_80 s p1 p2)) ≤ p3 then (0 : Int32) else 1) → R 78 25 [(0, .ref 47), (1, .int p1), (2, .int p2), (3, .int p3)] [.int w] (N, hm_sh L g, s) (b.1 - 0 - 0, b.2 - 0 - 0) Q by
      show R 78 17 [(0, .ref 47), (1, .int p1), (2, .int p2), (3, .int p3)] [.int p3, .int (T_75 s (p1 - 1) (T_80 s p1 p2))] (N, hm_sh L g, s) _ Q
      refine hm_st hR ⟨fun c => ?_, fun c => ?_⟩
      · exact hm_st hR (G _ (if_pos c).symm)
      · exact hm_st hR (hm_st hR (G _ (if_neg c).symm))
    intro w hw
    subst hw
    show R 78 25 [(0, .ref 47), (1, .int p1), (2, .int p2), (3, .int p3)] [.int (if (T_75 s (p1 - 1) (T_80 s p1 p2)) ≤ p3 then (0 : Int32) else 1)] (N, hm_sh L g, s) _ Q
    refine hm_st hR (hm_st hR (?_))
    show R 78 29 [(4, .int (if (T_75 s (p1 - 1) (T_80 s p1 p2)) ≤ p3 then (0 : Int32) else 1)), (0, .ref 47), (1, .int p1), (2, .int p2), (3, .int p3)] [.int (if (T_75 s (p1 - 1) (T_80 s p1 p2)) ≤ p3 then (0 : Int32) else 1)] (N, hm_sh L g, s) _ Q
    refine hm_st hR ⟨fun c29 => ?_, fun c29 => ?_⟩
    · rw [if_pos c29] at hq
      show R 78 54 [(4, .int (if (T_75 s (p1 - 1) (T_80 s p1 p2)) ≤ p3 then (0 : Int32) else 1)), (0, .ref 47), (1, .int p1), (2, .int p2), (3, .int p3)] [] (N, hm_sh L g, s) _ Q
      refine hm_st hR (?_)
      exact hm_st hR ⟨fun _ => Or.inl rfl, hq⟩
    · rw [if_neg c29] at hq
      show R 78 32 [(4, .int (if (T_75 s (p1 - 1) (T_80 s p1 p2)) ≤ p3 then (0 : Int32) else 1)), (0, .ref 47), (1, .int p1), (2, .int p2), (3, .int p3)] [] (N, hm_sh L g, s) _ Q
      refine hm_st hR (hm_st hR (hm_st hR ⟨rfl, hm_le rfl, (hm_ltN hN rfl), ?_⟩))
      show R 78 37 [(4, .int (if (T_75 s (p1 - 1) (T_80 s p1 p2)) ≤ p3 then (0 : Int32) else 1)), (0, .ref 47), (1, .int p1), (2, .int p2), (3, .int p3)] [.int (s 47 1), .int p1] (N, hm_sh L g, s) _ Q
      refine hm_st hR ⟨fun c37 => ?_, fun c37 => ?_⟩
      · rw [if_pos c37] at hq
        show R 78 50 [(4, .int (if (T_75 s (p1 - 1) (T_80 s p1 p2)) ≤ p3 then (0 : Int32) else 1)), (0, .ref 47), (1, .int p1), (2, .int p2), (3, .int p3)] [] (N, hm_sh L g, s) _ Q
        refine hm_st hR (hm_st hR (?_))
        exact hm_st hR ⟨fun _ => Or.inr rfl, hq⟩
      · rw [if_neg c37] at hq
        show R 78 40 [(4, .int (if (T_75 s (p1 - 1) (T_80 s p1 p2)) ≤ p3 then (0 : Int32) else 1)), (0, .ref 47), (1, .int p1), (2, .int p2), (3, .int p3)] [] (N, hm_sh L g, s) _ Q
        refine hm_st hR (hm_st hR (hm_st hR (?_)))
        refine hm_st hR ⟨hm_le rfl, rfl, (hm_le rfl), (hm_ltN hN rfl), hm_le rfl, hm_le rfl, (0, 0), Nat.zero_le _, Nat.zero_le _, ?_⟩
        refine sp_75 hR hN ?_
        show R 78 46 [(4, .int (if (T_75 s (p1 - 1) (T_80 s p1 p2)) ≤ p3 then (0 : Int32) else 1)), (0, .ref 47), (1, .int p1), (2, .int p2), (3, .int p3)] [.int (T_75 s p1 p2)] (N, hm_sh L g, s) _ Q
        refine hm_st hR (?_)
        show R 78 47 [(4, .int (if (T_75 s (p1 - 1) (T_80 s p1 p2)) ≤ p3 then (0 : Int32) else 1)), (0, .ref 47), (1, .int p1), (2, .int p2), (3, .int p3)] [.int p3, .int (T_75 s p1 p2)] (N, hm_sh L g, s) _ Q
        suffices G : ∀ w : Int32, w = (if p3 < (T_75 s p1 p2) then (0 : Int32) else 1) → R 78 55 [(4, .int (if (T_75 s (p1 - 1) (T_80 s p1 p2)) ≤ p3 then (0 : Int32) else 1)), (0, .ref 47), (1, .int p1), (2, .int p2), (3, .int p3)] [.int w] (N, hm_sh L g, s) (b.1 - 0 - 0 - 0, b.2 - 0 - 0 - 0) Q by
          show R 78 47 [(4, .int (if (T_75 s (p1 - 1) (T_80 s p1 p2)) ≤ p3 then (0 : Int32) else 1)), (0, .ref 47), (1, .int p1), (2, .int p2), (3, .int p3)] [.int p3, .int (T_75 s p1 p2)] (N, hm_sh L g, s) _ Q
          refine hm_st hR ⟨fun c => ?_, fun c => ?_⟩
          · exact hm_st hR (G _ (if_pos c).symm)
          · exact hm_st hR (hm_st hR (G _ (if_neg c).symm))
        intro w hw
        subst hw
        show R 78 55 [(4, .int (if (T_75 s (p1 - 1) (T_80 s p1 p2)) ≤ p3 then (0 : Int32) else 1)), (0, .ref 47), (1, .int p1), (2, .int p2), (3, .int p3)] [.int (if p3 < (T_75 s p1 p2) then (0 : Int32) else 1)] (N, hm_sh L g, s) _ Q
        exact hm_st hR ⟨fun _ => (by split <;> first | exact Or.inl rfl | exact Or.inr rfl), hq⟩
/-- CurvekeyHouse$Box.meets(III)Z -/
def T_67 (s : hm_St) (bx : Nat) (p1 : Int32) (p2 : Int32) (p3 : Int32) : Int32 := (if ((s bx 0) + (s bx 2)) ≤ p1 then 0 else (if (p1 + p3) ≤ (s bx 0) then 0 else (if ((s bx 1) + (s bx 3)) ≤ p2 then 0 else (if (p2 + p3) ≤ (s bx 1) then (0 : Int32) else 1))))
theorem B_67 (s : hm_St) (bx : Nat) (p1 : Int32) (p2 : Int32) (p3 : Int32) : T_67 s bx p1 p2 p3 = 0 ∨ T_67 s bx p1 p2 p3 = 1 := by
  unfold T_67
  repeat' split
  all_goals first | exact Or.inl rfl | exact Or.inr rfl
set_option maxRecDepth 20000 in
theorem sp_67 {R : hm_R} (hR : hm_Cm R) {N L : Nat} {g : Nat → hm_Sh} {s : hm_St} {b : hm_B} {Q : hm_Q} (hN : 68 ≤ N) {bx : Nat} (hbk : (hm_sh L g bx).1 = 0) (hb2 : 2 ≤ bx) (hbl : bx < N) {p1 : Int32} {p2 : Int32} {p3 : Int32} (hq : Q (.inr (some (.int (T_67 s bx p1 p2 p3)))) (N, hm_sh L g, s)) : R 67 0 (lv_args 0 [.ref bx, .int p1, .int p2, .int p3]) [] (N, hm_sh L g, s) b Q := by
  unfold T_67 at hq
  show R 67 0 [(0, .ref bx), (1, .int p1), (2, .int p2), (3, .int p3)] [] (N, hm_sh L g, s) _ Q
  refine hm_st hR (hm_st hR (?_))
  show R 67 2 [(0, .ref bx), (1, .int p1), (2, .int p2), (3, .int p3)] [.ref bx, .int p1] (N, hm_sh L g, s) _ Q
  refine hm_bxf hR hbk hb2 hbl (by rfl) ?_
  show R 67 5 [(0, .ref bx), (1, .int p1), (2, .int p2), (3, .int p3)] [.int (s bx 0), .int p1] (N, hm_sh L g, s) _ Q
  refine hm_st hR (?_)
  show R 67 6 [(0, .ref bx), (1, .int p1), (2, .int p2), (3, .int p3)] [.ref bx, .int (s bx 0), .int p1] (N, hm_sh L g, s) _ Q
  refine hm_bxf hR hbk hb2 hbl (by rfl) ?_
  show R 67 9 [(0, .ref bx), (1, .int p1), (2, .int p2), (3, .int p3)] [.int (s bx 2), .int (s bx 0), .int p1] (N, hm_sh L g, s) _ Q
  refine hm_st hR (?_)
  show R 67 10 [(0, .ref bx), (1, .int p1), (2, .int p2), (3, .int p3)] [.int ((s bx 0) + (s bx 2)), .int p1] (N, hm_sh L g, s) _ Q
  refine hm_st hR ⟨fun c10 => ?_, fun c10 => ?_⟩
  · rw [if_pos c10] at hq
    show R 67 50 [(0, .ref bx), (1, .int p1), (2, .int p2), (3, .int p3)] [] (N, hm_sh L g, s) _ Q
    refine hm_st hR (?_)
    exact hm_st hR ⟨fun _ => Or.inl rfl, hq⟩
  · rw [if_neg c10] at hq
    show R 67 13 [(0, .ref bx), (1, .int p1), (2, .int p2), (3, .int p3)] [] (N, hm_sh L g, s) _ Q
    refine hm_st hR (hm_st hR (hm_st hR (hm_st hR (?_))))
    show R 67 17 [(0, .ref bx), (1, .int p1), (2, .int p2), (3, .int p3)] [.ref bx, .int (p1 + p3)] (N, hm_sh L g, s) _ Q
    refine hm_bxf hR hbk hb2 hbl (by rfl) ?_
    show R 67 20 [(0, .ref bx), (1, .int p1), (2, .int p2), (3, .int p3)] [.int (s bx 0), .int (p1 + p3)] (N, hm_sh L g, s) _ Q
    show R 67 20 [(0, .ref bx), (1, .int p1), (2, .int p2), (3, .int p3)] [.int (s bx 0), .int (p1 + p3)] (N, hm_sh L g, s) _ Q
    refine hm_st hR ⟨fun c20 => ?_, fun c20 => ?_⟩
    · rw [if_pos c20] at hq
      show R 67 50 [(0, .ref bx), (1, .int p1), (2, .int p2), (3, .int p3)] [] (N, hm_sh L g, s) _ Q
      refine hm_st hR (?_)
      exact hm_st hR ⟨fun _ => Or.inl rfl, hq⟩
    · rw [if_neg c20] at hq
      show R 67 23 [(0, .ref bx), (1, .int p1), (2, .int p2), (3, .int p3)] [] (N, hm_sh L g, s) _ Q
      refine hm_st hR (hm_st hR (?_))
      show R 67 25 [(0, .ref bx), (1, .int p1), (2, .int p2), (3, .int p3)] [.ref bx, .int p2] (N, hm_sh L g, s) _ Q
      refine hm_bxf hR hbk hb2 hbl (by rfl) ?_
      show R 67 28 [(0, .ref bx), (1, .int p1), (2, .int p2), (3, .int p3)] [.int (s bx 1), .int p2] (N, hm_sh L g, s) _ Q
      refine hm_st hR (?_)
      show R 67 29 [(0, .ref bx), (1, .int p1), (2, .int p2), (3, .int p3)] [.ref bx, .int (s bx 1), .int p2] (N, hm_sh L g, s) _ Q
      refine hm_bxf hR hbk hb2 hbl (by rfl) ?_
      show R 67 32 [(0, .ref bx), (1, .int p1), (2, .int p2), (3, .int p3)] [.int (s bx 3), .int (s bx 1), .int p2] (N, hm_sh L g, s) _ Q
      refine hm_st hR (?_)
      show R 67 33 [(0, .ref bx), (1, .int p1), (2, .int p2), (3, .int p3)] [.int ((s bx 1) + (s bx 3)), .int p2] (N, hm_sh L g, s) _ Q
      refine hm_st hR ⟨fun c33 => ?_, fun c33 => ?_⟩
      · rw [if_pos c33] at hq
        show R 67 50 [(0, .ref bx), (1, .int p1), (2, .int p2), (3, .int p3)] [] (N, hm_sh L g, s) _ Q
        refine hm_st hR (?_)
        exact hm_st hR ⟨fun _ => Or.inl rfl, hq⟩
      · rw [if_neg c33] at hq
        show R 67 36 [(0, .ref bx), (1, .int p1), (2, .int p2), (3, .int p3)] [] (N, hm_sh L g, s) _ Q
        refine hm_st hR (hm_st hR (hm_st hR (hm_st hR (?_))))
        show R 67 40 [(0, .ref bx), (1, .int p1), (2, .int p2), (3, .int p3)] [.ref bx, .int (p2 + p3)] (N, hm_sh L g, s) _ Q
        refine hm_bxf hR hbk hb2 hbl (by rfl) ?_
        show R 67 43 [(0, .ref bx), (1, .int p1), (2, .int p2), (3, .int p3)] [.int (s bx 1), .int (p2 + p3)] (N, hm_sh L g, s) _ Q
        show R 67 43 [(0, .ref bx), (1, .int p1), (2, .int p2), (3, .int p3)] [.int (s bx 1), .int (p2 + p3)] (N, hm_sh L g, s) _ Q
        suffices G : ∀ w : Int32, w = (if (p2 + p3) ≤ (s bx 1) then (0 : Int32) else 1) → R 67 51 [(0, .ref bx), (1, .int p1), (2, .int p2), (3, .int p3)] [.int w] (N, hm_sh L g, s) b Q by
          show R 67 43 [(0, .ref bx), (1, .int p1), (2, .int p2), (3, .int p3)] [.int (s bx 1), .int (p2 + p3)] (N, hm_sh L g, s) _ Q
          refine hm_st hR ⟨fun c => ?_, fun c => ?_⟩
          · exact hm_st hR (G _ (if_pos c).symm)
          · exact hm_st hR (hm_st hR (G _ (if_neg c).symm))
        intro w hw
        subst hw
        show R 67 51 [(0, .ref bx), (1, .int p1), (2, .int p2), (3, .int p3)] [.int (if (p2 + p3) ≤ (s bx 1) then (0 : Int32) else 1)] (N, hm_sh L g, s) _ Q
        exact hm_st hR ⟨fun _ => (by split <;> first | exact Or.inl rfl | exact Or.inr rfl), hq⟩
def T_81_26 (O : hm_St → Int32 → Int32 → Int32 → Int32) (bx : Nat) : Nat → hm_St → Int32 → Int32 → Int32 → Int32 → Int32 → Int32
  | 0, s, _, _, _, _, _ => 0
  | n + 1, s, v2, v3, v4, v5, v6 => (if (T_72 s v4) ≤ v6 then (O s v2 v3 (v4 + 1)) else (if (T_78 s v4 v6 v2) = 0 then (T_81_26 O bx n s v2 v3 v4 v5 (v6 + 1)) else (if (T_67 s bx ((T_79 s v4 v6) <<< ((v5 : Int32) &&& 31)) ((v6 >>> ((v4 : Int32) &&& 31)) <<< ((v5 : Int32) &&& 31)) (1 <<< ((v5 : Int32) &&& 31))) = 0 then (T_81_26 O bx n s v2 v3 v4 v5 (v6 + 1)) else (T_81_26 O bx n s v2 (v3 + 1) v4 v5 (v6 + 1)))))
def T_81_5 (bx : Nat) : Nat → hm_St → Int32 → Int32 → Int32 → Int32
  | 0, s, _, _, _ => 0
  | n + 1, s, v2, v3, v4 => (if (s 47 1) < v4 then v3 else (T_81_26 (fun s v2 v3 v4 => T_81_5 bx n s v2 v3 v4) bx (hm_df (T_72 s v4) 0 + 1) s v2 v3 v4 ((s 47 1) - v4) 0))
/-- CurvekeyHouse$Cells.leavesIn(LCurvekeyHouse$Box;I)I -/
def T_81 (s : hm_St) (bx : Nat) (p2 : Int32) : Int32 := (T_81_5 bx (hm_df1 (s 47 1) 0 + 1) s p2 0 0)
set_option maxRecDepth 20000 in
theorem lp_81_26 {R : hm_R} (hR : hm_Cm R) {N L : Nat} {g : Nat → hm_Sh} {b : hm_B} {Q : hm_Q} (hN : 68 ≤ N) {bx : Nat} (hbk : (hm_sh L g bx).1 = 0) (hb2 : 2 ≤ bx) (hbl : bx < N) {O : hm_St → Int32 → Int32 → Int32 → Int32} {nO : Nat} (hO : ∀ (s : hm_St) (v2 : Int32) (v3 : Int32) (v4 : Int32), hm_df1 (s 47 1) v4 < nO ∧ s 47 1 < 100000 → (Q (.inr (some (.int (O s v2 v3 v4)))) (N, hm_sh L g, s)) → R 81 5 [(4, .int v4), (3, .int v3), (0, .ref 47), (1, .ref bx), (2, .int v2)] [] (N, hm_sh L g, s) b Q) : ∀ (n : Nat) (s : hm_St) (v2 : Int32) (v3 : Int32) (v4 : Int32) (v5 : Int32) (v6 : Int32), hm_df (T_72 s v4) v6 < n → (hPO : hm_df1 (s 47 1) (v4 + 1) < nO ∧ s 47 1 < 100000) → (hq : Q (.inr (some (.int (T_81_26 O bx n s v2 v3 v4 v5 v6)))) (N, hm_sh L g, s)) → R 81 26 [(6, .int v6), (5, .int v5), (4, .int v4), (3, .int v3), (0, .ref 47), (1, .ref bx), (2, .int v2)] [] (N, hm_sh L g, s) b Q := by
  intro n
  induction n with
  | zero => intro s v2 v3 v4 v5 v6 hm hPO _; exact absurd hm (Nat.not_lt_zero _)
  | succ n ih =>
    intro s v2 v3 v4 v5 v6 hm hPO hq
    unfold T_81_26 at hq
    refine hm_st hR (hm_st hR (?_))
    refine hm_st hR ⟨hm_le rfl, hm_le rfl, hm_le rfl, (0, 0), Nat.zero_le _, Nat.zero_le _, ?_⟩
    refine sp_72 hR hN ?_
    show R 81 33 [(6, .int v6), (5, .int v5), (4, .int v4), (3, .int v3), (0, .ref 47), (1, .ref bx), (2, .int v2)] [.int (T_72 s v4), .int v6] (N, hm_sh L g, s) _ Q
    show R 81 33 [(6, .int v6), (5, .int v5), (4, .int v4), (3, .int v3), (0, .ref 47), (1, .ref bx), (2, .int v2)] [.int (T_72 s v4), .int v6] (N, hm_sh L g, s) _ Q
    refine hm_st hR ⟨fun c33 => ?_, fun c33 => ?_⟩
    · rw [if_pos c33] at hq
      show R 81 94 [(6, .int v6), (5, .int v5), (4, .int v4), (3, .int v3), (0, .ref 47), (1, .ref bx), (2, .int v2)] [] (N, hm_sh L g, s) _ Q
      refine hm_st hR (hm_st hR (?_))
      show R 81 5 [(4, .int (v4 + 1)), (6, .int v6), (5, .int v5), (3, .int v3), (0, .ref 47), (1, .ref bx), (2, .int v2)] [] (N, hm_sh L g, s) _ Q
      exact hm_lvS hR (by intro q hq; simp only [List.mem_cons, List.not_mem_nil, or_false] at hq ⊢; rcases hq with rfl | rfl | rfl | rfl | rfl <;> simp) (hO s v2 v3 (v4 + 1) hPO hq)
    · rw [if_neg c33] at hq
      show R 81 36 [(6, .int v6), (5, .int v5), (4, .int v4), (3, .int v3), (0, .ref 47), (1, .ref bx), (2, .int v2)] [] (N, hm_sh L g, s) _ Q
      refine hm_st hR (hm_st hR (?_))
      refine hm_st hR ⟨hm_le rfl, hm_le rfl, hm_le rfl, (0, 0), Nat.zero_le _, Nat.zero_le _, ?_⟩
      refine sp_79 hR hN ?_
      show R 81 43 [(6, .int v6), (5, .int v5), (4, .int v4), (3, .int v3), (0, .ref 47), (1, .ref bx), (2, .int v2)] [.int (T_79 s v4 v6)] (N, hm_sh L g, s) _ Q
      refine hm_st hR (hm_st hR (hm_st hR (hm_st hR (hm_st hR (hm_st hR (hm_st hR (hm_st hR (hm_st hR (hm_st hR (hm_st hR (hm_st hR (hm_st hR (?_)))))))))))))
      refine hm_st hR ⟨hm_le rfl, rfl, (hm_le rfl), (hm_ltN hN rfl), hm_le rfl, hm_le rfl, (0, 0), Nat.zero_le _, Nat.zero_le _, ?_⟩
      refine sp_78 hR hN ?_
      show R 81 67 [(8, .int ((v6 >>> ((v4 : Int32) &&& 31)) <<< ((v5 : Int32) &&& 31))), (7, .int ((T_79 s v4 v6) <<< ((v5 : Int32) &&& 31))), (6, .int v6), (5, .int v5), (4, .int v4), (3, .int v3), (0, .ref 47), (1, .ref bx), (2, .int v2)] [.int (T_78 s v4 v6 v2)] (N, hm_sh L g, s) _ Q
      show R 81 67 [(8, .int ((v6 >>> ((v4 : Int32) &&& 31)) <<< ((v5 : Int32) &&& 31))), (7, .int ((T_79 s v4 v6) <<< ((v5 : Int32) &&& 31))), (6, .int v6), (5, .int v5), (4, .int v4), (3, .int v3), (0, .ref 47), (1, .ref bx), (2, .int v2)] [.int (T_78 s v4 v6 v2)] (N, hm_sh L g, s) _ Q
      refine hm_st hR ⟨fun c67 => ?_, fun c67 => ?_⟩
      · rw [if_pos c67] at hq
        show R 81 88 [(8, .int ((v6 >>> ((v4 : Int32) &&& 31)) <<< ((v5 : Int32) &&& 31))), (7, .int ((T_79 s v4 v6) <<< ((v5 : Int32) &&& 31))), (6, .int v6), (5, .int v5), (4, .int v4), (3, .int v3), (0, .ref 47), (1, .ref bx), (2, .int v2)] [] (N, hm_sh L g, s) _ Q
        refine hm_st hR (hm_st hR (?_))
        show R 81 26 [(6, .int (v6 + 1)), (8, .int ((v6 >>> ((v4 : Int32) &&& 31)) <<< ((v5 : Int32) &&& 31))), (7, .int ((T_79 s v4 v6) <<< ((v5 : Int32) &&& 31))), (5, .int v5), (4, .int v4), (3, .int v3), (0, .ref 47), (1, .ref bx), (2, .int v2)] [] (N, hm_sh L g, s) _ Q
        exact hm_lvS hR (by intro q hq; simp only [List.mem_cons, List.not_mem_nil, or_false] at hq ⊢; rcases hq with rfl | rfl | rfl | rfl | rfl | rfl | rfl <;> simp) (ih s v2 v3 v4 v5 (v6 + 1) (hm_dcx c33 hm) hPO hq)
      · rw [if_neg c67] at hq
        show R 81 70 [(8, .int ((v6 >>> ((v4 : Int32) &&& 31)) <<< ((v5 : Int32) &&& 31))), (7, .int ((T_79 s v4 v6) <<< ((v5 : Int32) &&& 31))), (6, .int v6), (5, .int v5), (4, .int v4), (3, .int v3), (0, .ref 47), (1, .ref bx), (2, .int v2)] [] (N, hm_sh L g, s) _ Q
        refine hm_st hR (hm_st hR (hm_st hR (hm_st hR (hm_st hR (hm_st hR (?_))))))
        refine hm_st hR ⟨hm_le rfl, hbk, hb2, hbl, hm_le rfl, hm_le rfl, (0, 0), Nat.zero_le _, Nat.zero_le _, ?_⟩
        refine sp_67 hR hN (bx := bx) hbk hb2 hbl ?_
        show R 81 82 [(8, .int ((v6 >>> ((v4 : Int32) &&& 31)) <<< ((v5 : Int32) &&& 31))), (7, .int ((T_79 s v4 v6) <<< ((v5 : Int32) &&& 31))), (6, .int v6), (5, .int v5), (4, .int v4), (3, .int v3), (0, .ref 47), (1, .ref bx), (2, .int v2)] [.int (T_67 s bx ((T_79 s v4 v6) <<< ((v5 : Int32) &&& 31)) ((v6 >>> ((v4 : Int32) &&& 31)) <<< ((v5 : Int32) &&& 31)) (1 <<< ((v5 : Int32) &&& 31)))] (N, hm_sh L g, s) _ Q
        show R 81 82 [(8, .int ((v6 >>> ((v4 : Int32) &&& 31)) <<< ((v5 : Int32) &&& 31))), (7, .int ((T_79 s v4 v6) <<< ((v5 : Int32) &&& 31))), (6, .int v6), (5, .int v5), (4, .int v4), (3, .int v3), (0, .ref 47), (1, .ref bx), (2, .int v2)] [.int (T_67 s bx ((T_79 s v4 v6) <<< ((v5 : Int32) &&& 31)) ((v6 >>> ((v4 : Int32) &&& 31)) <<< ((v5 : Int32) &&& 31)) (1 <<< ((v5 : Int32) &&& 31)))] (N, hm_sh L g, s) _ Q
        refine hm_st hR ⟨fun c82 => ?_, fun c82 => ?_⟩
        · rw [if_pos c82] at hq
          show R 81 88 [(8, .int ((v6 >>> ((v4 : Int32) &&& 31)) <<< ((v5 : Int32) &&& 31))), (7, .int ((T_79 s v4 v6) <<< ((v5 : Int32) &&& 31))), (6, .int v6), (5, .int v5), (4, .int v4), (3, .int v3), (0, .ref 47), (1, .ref bx), (2, .int v2)] [] (N, hm_sh L g, s) _ Q
          refine hm_st hR (hm_st hR (?_))
          show R 81 26 [(6, .int (v6 + 1)), (8, .int ((v6 >>> ((v4 : Int32) &&& 31)) <<< ((v5 : Int32) &&& 31))), (7, .int ((T_79 s v4 v6) <<< ((v5 : Int32) &&& 31))), (5, .int v5), (4, .int v4), (3, .int v3), (0, .ref 47), (1, .ref bx), (2, .int v2)] [] (N, hm_sh L g, s) _ Q
          exact hm_lvS hR (by intro q hq; simp only [List.mem_cons, List.not_mem_nil, or_false] at hq ⊢; rcases hq with rfl | rfl | rfl | rfl | rfl | rfl | rfl <;> simp) (ih s v2 v3 v4 v5 (v6 + 1) (hm_dcx c33 hm) hPO hq)
        · rw [if_neg c82] at hq
          show R 81 85 [(8, .int ((v6 >>> ((v4 : Int32) &&& 31)) <<< ((v5 : Int32) &&& 31))), (7, .int ((T_79 s v4 v6) <<< ((v5 : Int32) &&& 31))), (6, .int v6), (5, .int v5), (4, .int v4), (3, .int v3), (0, .ref 47), (1, .ref bx), (2, .int v2)] [] (N, hm_sh L g, s) _ Q
          refine hm_st hR (hm_st hR (hm_st hR (?_)))
          show R 81 26 [(6, .int (v6 + 1)), (3, .int (v3 + 1)), (8, .int ((v6 >>> ((v4 : Int32) &&& 31)) <<< ((v5 : Int32) &&& 31))), (7, .int ((T_79 s v4 v6) <<< ((v5 : Int32) &&& 31))), (5, .int v5), (4, .int v4), (0, .ref 47), (1, .ref bx), (2, .int v2)] [] (N, hm_sh L g, s) _ Q
          exact hm_lvS hR (by intro q hq; simp only [List.mem_cons, List.not_mem_nil, or_false] at hq ⊢; rcases hq with rfl | rfl | rfl | rfl | rfl | rfl | rfl <;> simp) (ih s v2 (v3 + 1) v4 v5 (v6 + 1) (hm_dcx c33 hm) hPO hq)
set_option maxRecDepth 20000 in
theorem lp_81_5 {R : hm_R} (hR : hm_Cm R) {N L : Nat} {g : Nat → hm_Sh} {b : hm_B} {Q : hm_Q} (hN : 68 ≤ N) {bx : Nat} (hbk : (hm_sh L g bx).1 = 0) (hb2 : 2 ≤ bx) (hbl : bx < N) : ∀ (n : Nat) (s : hm_St) (v2 : Int32) (v3 : Int32) (v4 : Int32), hm_df1 (s 47 1) v4 < n → (hinv : s 47 1 < 100000) → (hq : Q (.inr (some (.int (T_81_5 bx n s v2 v3 v4)))) (N, hm_sh L g, s)) → R 81 5 [(4, .int v4), (3, .int v3), (0, .ref 47), (1, .ref bx), (2, .int v2)] [] (N, hm_sh L g, s) b Q := by
  intro n
  induction n with
  | zero => intro s v2 v3 v4 hm hinv _; exact absurd hm (Nat.not_lt_zero _)
  | succ n ih =>
    intro s v2 v3 v4 hm hinv hq
    unfold T_81_5 at hq
    refine hm_st hR (hm_st hR (hm_st hR ⟨rfl, hm_le rfl, (hm_ltN hN rfl), ?_⟩))
    show R 81 11 [(4, .int v4), (3, .int v3), (0, .ref 47), (1, .ref bx), (2, .int v2)] [.int (s 47 1), .int v4] (N, hm_sh L g, s) _ Q
    refine hm_st hR ⟨fun c11 => ?_, fun c11 => ?_⟩
    · rw [if_pos c11] at hq
      show R 81 100 [(4, .int v4), (3, .int v3), (0, .ref 47), (1, .ref bx), (2, .int v2)] [] (N, hm_sh L g, s) _ Q
      refine hm_st hR (?_)
      exact hm_st hR ⟨fun z => absurd z (by decide), hq⟩
    · rw [if_neg c11] at hq
      show R 81 14 [(4, .int v4), (3, .int v3), (0, .ref 47), (1, .ref bx), (2, .int v2)] [] (N, hm_sh L g, s) _ Q
      refine hm_st hR (hm_st hR ⟨rfl, hm_le rfl, (hm_ltN hN rfl), hm_st hR (hm_st hR (hm_st hR (hm_st hR (hm_st hR (?_)))))⟩)
      show R 81 26 [(6, .int 0), (5, .int ((s 47 1) - v4)), (4, .int v4), (3, .int v3), (0, .ref 47), (1, .ref bx), (2, .int v2)] [] (N, hm_sh L g, s) _ Q
      exact lp_81_26 hR hN hbk hb2 hbl (O := (fun s v2 v3 v4 => T_81_5 bx n s v2 v3 v4)) (nO := n) (fun s v2 v3 v4 hm hq => ih s v2 v3 v4 hm.1 hm.2 hq) _ _ _ _ _ _ _ (Nat.lt_succ_self _) ⟨(hm_dcy c11 hinv hm), hinv⟩ hq
set_option maxRecDepth 20000 in
theorem sp_81 {R : hm_R} (hR : hm_Cm R) {N L : Nat} {g : Nat → hm_Sh} {s : hm_St} {b : hm_B} {Q : hm_Q} (hN : 68 ≤ N) {bx : Nat} (hbk : (hm_sh L g bx).1 = 0) (hb2 : 2 ≤ bx) (hbl : bx < N) {p2 : Int32} (hO : s 47 1 < 100000) (hq : Q (.inr (some (.int (T_81 s bx p2)))) (N, hm_sh L g, s)) : R 81 0 (lv_args 0 [.ref 47, .ref bx, .int p2]) [] (N, hm_sh L g, s) b Q := by
  unfold T_81 at hq
  show R 81 0 [(0, .ref 47), (1, .ref bx), (2, .int p2)] [] (N, hm_sh L g, s) _ Q
  refine hm_st hR (hm_st hR (hm_st hR (hm_st hR (?_))))
  show R 81 5 [(4, .int 0), (3, .int 0), (0, .ref 47), (1, .ref bx), (2, .int p2)] [] (N, hm_sh L g, s) _ Q
  exact lp_81_5 hR hN hbk hb2 hbl _ _ _ _ _ (Nat.lt_succ_self _) hO hq
