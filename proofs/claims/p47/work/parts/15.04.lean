/-! The methods as functions; the abstract machine does them. -/
/-- CurvekeyHouse$Box.has(II)Z -/
def T_66 (s : hm_St) (bx : Nat) (p1 : Int32) (p2 : Int32) : Int32 := (if p1 < (s bx 0) then 0 else (if ((s bx 0) + (s bx 2)) ≤ p1 then 0 else (if p2 < (s bx 1) then 0 else (if ((s bx 1) + (s bx 3)) ≤ p2 then 0 else 1))))
theorem B_66 (s : hm_St) (bx : Nat) (p1 : Int32) (p2 : Int32) : T_66 s bx p1 p2 = 0 ∨ T_66 s bx p1 p2 = 1 := by
  unfold T_66
  repeat' split
  all_goals first | exact Or.inl rfl | exact Or.inr rfl
set_option maxRecDepth 20000 in
theorem sp_66 {R : hm_R} (hR : hm_Cm R) {N L : Nat} {g : Nat → hm_Sh} {s : hm_St} {b : hm_B} {Q : hm_Q} (hN : 68 ≤ N) {bx : Nat} (hbk : (hm_sh L g bx).1 = 0) (hb2 : 2 ≤ bx) (hbl : bx < N) {p1 : Int32} {p2 : Int32} (hq : Q (.inr (some (.int (T_66 s bx p1 p2)))) (N, hm_sh L g, s)) : R 66 0 (lv_args 0 [.ref bx, .int p1, .int p2]) [] (N, hm_sh L g, s) b Q := by
  unfold T_66 at hq
  show R 66 0 [(0, .ref bx), (1, .int p1), (2, .int p2)] [] (N, hm_sh L g, s) _ Q
  refine hm_st hR (hm_st hR (?_))
  show R 66 2 [(0, .ref bx), (1, .int p1), (2, .int p2)] [.ref bx, .int p1] (N, hm_sh L g, s) _ Q
  refine hm_bxf hR hbk hb2 hbl (by rfl) ?_
  show R 66 5 [(0, .ref bx), (1, .int p1), (2, .int p2)] [.int (s bx 0), .int p1] (N, hm_sh L g, s) _ Q
  show R 66 5 [(0, .ref bx), (1, .int p1), (2, .int p2)] [.int (s bx 0), .int p1] (N, hm_sh L g, s) _ Q
  refine hm_st hR ⟨fun c5 => ?_, fun c5 => ?_⟩
  · rw [if_pos c5] at hq
    show R 66 46 [(0, .ref bx), (1, .int p1), (2, .int p2)] [] (N, hm_sh L g, s) _ Q
    refine hm_st hR (?_)
    exact hm_st hR ⟨fun _ => Or.inl rfl, hq⟩
  · rw [if_neg c5] at hq
    show R 66 8 [(0, .ref bx), (1, .int p1), (2, .int p2)] [] (N, hm_sh L g, s) _ Q
    refine hm_st hR (hm_st hR (?_))
    show R 66 10 [(0, .ref bx), (1, .int p1), (2, .int p2)] [.ref bx, .int p1] (N, hm_sh L g, s) _ Q
    refine hm_bxf hR hbk hb2 hbl (by rfl) ?_
    show R 66 13 [(0, .ref bx), (1, .int p1), (2, .int p2)] [.int (s bx 0), .int p1] (N, hm_sh L g, s) _ Q
    refine hm_st hR (?_)
    show R 66 14 [(0, .ref bx), (1, .int p1), (2, .int p2)] [.ref bx, .int (s bx 0), .int p1] (N, hm_sh L g, s) _ Q
    refine hm_bxf hR hbk hb2 hbl (by rfl) ?_
    show R 66 17 [(0, .ref bx), (1, .int p1), (2, .int p2)] [.int (s bx 2), .int (s bx 0), .int p1] (N, hm_sh L g, s) _ Q
    refine hm_st hR (?_)
    show R 66 18 [(0, .ref bx), (1, .int p1), (2, .int p2)] [.int ((s bx 0) + (s bx 2)), .int p1] (N, hm_sh L g, s) _ Q
    refine hm_st hR ⟨fun c18 => ?_, fun c18 => ?_⟩
    · rw [if_pos c18] at hq
      show R 66 46 [(0, .ref bx), (1, .int p1), (2, .int p2)] [] (N, hm_sh L g, s) _ Q
      refine hm_st hR (?_)
      exact hm_st hR ⟨fun _ => Or.inl rfl, hq⟩
    · rw [if_neg c18] at hq
      show R 66 21 [(0, .ref bx), (1, .int p1), (2, .int p2)] [] (N, hm_sh L g, s) _ Q
      refine hm_st hR (hm_st hR (?_))
      show R 66 23 [(0, .ref bx), (1, .int p1), (2, .int p2)] [.ref bx, .int p2] (N, hm_sh L g, s) _ Q
      refine hm_bxf hR hbk hb2 hbl (by rfl) ?_
      show R 66 26 [(0, .ref bx), (1, .int p1), (2, .int p2)] [.int (s bx 1), .int p2] (N, hm_sh L g, s) _ Q
      show R 66 26 [(0, .ref bx), (1, .int p1), (2, .int p2)] [.int (s bx 1), .int p2] (N, hm_sh L g, s) _ Q
      refine hm_st hR ⟨fun c26 => ?_, fun c26 => ?_⟩
      · rw [if_pos c26] at hq
        show R 66 46 [(0, .ref bx), (1, .int p1), (2, .int p2)] [] (N, hm_sh L g, s) _ Q
        refine hm_st hR (?_)
        exact hm_st hR ⟨fun _ => Or.inl rfl, hq⟩
      · rw [if_neg c26] at hq
        show R 66 29 [(0, .ref bx), (1, .int p1), (2, .int p2)] [] (N, hm_sh L g, s) _ Q
        refine hm_st hR (hm_st hR (?_))
        show R 66 31 [(0, .ref bx), (1, .int p1), (2, .int p2)] [.ref bx, .int p2] (N, hm_sh L g, s) _ Q
        refine hm_bxf hR hbk hb2 hbl (by rfl) ?_
        show R 66 34 [(0, .ref bx), (1, .int p1), (2, .int p2)] [.int (s bx 1), .int p2] (N, hm_sh L g, s) _ Q
        refine hm_st hR (?_)
        show R 66 35 [(0, .ref bx), (1, .int p1), (2, .int p2)] [.ref bx, .int (s bx 1), .int p2] (N, hm_sh L g, s) _ Q
        refine hm_bxf hR hbk hb2 hbl (by rfl) ?_
        show R 66 38 [(0, .ref bx), (1, .int p1), (2, .int p2)] [.int (s bx 3), .int (s bx 1), .int p2] (N, hm_sh L g, s) _ Q
        refine hm_st hR (?_)
        show R 66 39 [(0, .ref bx), (1, .int p1), (2, .int p2)] [.int ((s bx 1) + (s bx 3)), .int p2] (N, hm_sh L g, s) _ Q
        suffices G : R 66 47 [(0, .ref bx), (1, .int p1), (2, .int p2)] [.int (if ((s bx 1) + (s bx 3)) ≤ p2 then 0 else 1)] (N, hm_sh L g, s) b Q by
          show R 66 39 [(0, .ref bx), (1, .int p1), (2, .int p2)] [.int ((s bx 1) + (s bx 3)), .int p2] (N, hm_sh L g, s) _ Q
          refine hm_st hR ⟨fun c => ?_, fun c => ?_⟩
          · rw [if_pos c] at G; exact hm_st hR (G)
          · rw [if_neg c] at G; exact hm_st hR (hm_st hR (G))
        exact hm_st hR ⟨fun _ => (by split <;> first | exact Or.inl rfl | exact Or.inr rfl), hq⟩
def T_104_16 (bx : Nat) : Nat → hm_St → Int32 → Int32 → Int32 → hm_St
  | 0, s, _, _, _ => s
  | n + 1, s, v2, v4, v5 => (if (T_87 s) ≤ v5 then s else (if (T_66 s bx (T_89 s v2 v5) (T_90 s v2 v5)) = 0 then (if (T_66 s bx (T_89 s v2 v5) (T_90 s v2 v5)) = 0 then (T_104_16 bx n s v2 (T_66 s bx (T_89 s v2 v5) (T_90 s v2 v5)) (v5 + 1)) else (T_104_16 bx n (T_179 s 63 1024 ((s 59 2) - 1) v5) v2 (T_66 s bx (T_89 s v2 v5) (T_90 s v2 v5)) (v5 + 1))) else (if v4 = 0 then (if (T_66 s bx (T_89 s v2 v5) (T_90 s v2 v5)) = 0 then (T_104_16 bx n (hm_w1 (T_179 s 61 1024 (s 59 2) v5) 59 2 (((T_179 s 61 1024 (s 59 2) v5) 59 2) + 1)) v2 (T_66 s bx (T_89 s v2 v5) (T_90 s v2 v5)) (v5 + 1)) else (T_104_16 bx n (T_179 (hm_w1 (T_179 s 61 1024 (s 59 2) v5) 59 2 (((T_179 s 61 1024 (s 59 2) v5) 59 2) + 1)) 63 1024 (((hm_w1 (T_179 s 61 1024 (s 59 2) v5) 59 2 (((T_179 s 61 1024 (s 59 2) v5) 59 2) + 1)) 59 2) - 1) v5) v2 (T_66 s bx (T_89 s v2 v5) (T_90 s v2 v5)) (v5 + 1))) else (if (T_66 s bx (T_89 s v2 v5) (T_90 s v2 v5)) = 0 then (T_104_16 bx n s v2 (T_66 s bx (T_89 s v2 v5) (T_90 s v2 v5)) (v5 + 1)) else (T_104_16 bx n (T_179 s 63 1024 ((s 59 2) - 1) v5) v2 (T_66 s bx (T_89 s v2 v5) (T_90 s v2 v5)) (v5 + 1))))))
/-- CurvekeyHouse$Cut.lay(LCurvekeyHouse$Curves;ILCurvekeyHouse$Box;)V -/
def T_104 (s : hm_St) (p2 : Int32) (bx : Nat) : hm_St := (T_104_16 bx (hm_df (T_87 (hm_w1 (hm_w1 s 59 2 0) 59 3 0)) 0 + 1) (hm_w1 (hm_w1 s 59 2 0) 59 3 0) p2 0 0)
theorem N_104_16 (bx : Nat) {c j : Nat} (h59 : c ≠ 59) (h61 : c ≠ 61) (h63 : c ≠ 63) : ∀ (n : Nat) (s : hm_St) (v0 v1 v2 : Int32), (T_104_16 bx n s v0 v1 v2) c j = s c j := by
  intro n
  induction n with
  | zero => intros; rfl
  | succ n ih =>
    intros
    unfold T_104_16
    repeat' split
    all_goals first | rfl | simp only [ih, hm_w1n h59, hm_w1n h61, hm_w1n h63, N_179 h59, N_179 h61, N_179 h63]
theorem N_104 {c j : Nat} (h59 : c ≠ 59) (h61 : c ≠ 61) (h63 : c ≠ 63) {s : hm_St} {p2 : Int32} {bx : Nat} : (T_104 s p2 bx) c j = s c j := by
  unfold T_104
  repeat' split
  all_goals first | rfl | simp only [hm_w1n h59, hm_w1n h61, hm_w1n h63, N_179 h59, N_179 h61, N_179 h63, N_104_16 _ h59 h61 h63]
set_option maxRecDepth 20000 in
theorem lp_104_16 {R : hm_R} (hR : hm_Cm R) {N L : Nat} {g : Nat → hm_Sh} {b : hm_B} {Q : hm_Q} (hN : 68 ≤ N) {bx : Nat} (hbk : (hm_sh L g bx).1 = 0) (hb2 : 2 ≤ bx) (hbl : bx < N) : ∀ (n : Nat) (s : hm_St) (v2 : Int32) (v4 : Int32) (v5 : Int32), hm_df (T_87 s) v5 < n → (hq : Q (.inr none) (N, hm_sh L g, (T_104_16 bx n s v2 v4 v5))) → R 104 16 [(5, .int v5), (4, .int v4), (0, .ref 59), (1, .ref 3), (2, .int v2), (3, .ref bx)] [] (N, hm_sh L g, s) b Q := by
  intro n
  induction n with
  | zero => intro s v2 v4 v5 hm _; exact absurd hm (Nat.not_lt_zero _)
  | succ n ih =>
    intro s v2 v4 v5 hm hq
    unfold T_104_16 at hq
    refine hm_st hR (hm_st hR (?_))
    refine hm_st hR ⟨hm_le rfl, rfl, (hm_le rfl), (hm_ltN hN rfl), hm_le rfl, hm_le rfl, (0, 0), Nat.zero_le _, Nat.zero_le _, ?_⟩
    refine sp_87 hR hN ?_
    show R 104 22 [(5, .int v5), (4, .int v4), (0, .ref 59), (1, .ref 3), (2, .int v2), (3, .ref bx)] [.int (T_87 s), .int v5] (N, hm_sh L g, s) _ Q
    show R 104 22 [(5, .int v5), (4, .int v4), (0, .ref 59), (1, .ref 3), (2, .int v2), (3, .ref bx)] [.int (T_87 s), .int v5] (N, hm_sh L g, s) _ Q
    refine hm_st hR ⟨fun c22 => ?_, fun c22 => ?_⟩
    · rw [if_pos c22] at hq
      show R 104 108 [(5, .int v5), (4, .int v4), (0, .ref 59), (1, .ref 3), (2, .int v2), (3, .ref bx)] [] (N, hm_sh L g, s) _ Q
      exact hm_st hR hq
    · rw [if_neg c22] at hq
      show R 104 25 [(5, .int v5), (4, .int v4), (0, .ref 59), (1, .ref 3), (2, .int v2), (3, .ref bx)] [] (N, hm_sh L g, s) _ Q
      refine hm_st hR (hm_st hR (hm_st hR (hm_st hR (?_))))
      refine hm_st hR ⟨hm_le rfl, rfl, (hm_le rfl), (hm_ltN hN rfl), hm_le rfl, hm_le rfl, (0, 0), Nat.zero_le _, Nat.zero_le _, ?_⟩
      refine sp_89 hR hN ?_
      show R 104 33 [(5, .int v5), (4, .int v4), (0, .ref 59), (1, .ref 3), (2, .int v2), (3, .ref bx)] [.int (T_89 s v2 v5), .ref bx] (N, hm_sh L g, s) _ Q
      refine hm_st hR (hm_st hR (hm_st hR (?_)))
      refine hm_st hR ⟨hm_le rfl, rfl, (hm_le rfl), (hm_ltN hN rfl), hm_le rfl, hm_le rfl, (0, 0), Nat.zero_le _, Nat.zero_le _, ?_⟩
      refine sp_90 hR hN ?_
      show R 104 40 [(5, .int v5), (4, .int v4), (0, .ref 59), (1, .ref 3), (2, .int v2), (3, .ref bx)] [.int (T_90 s v2 v5), .int (T_89 s v2 v5), .ref bx] (N, hm_sh L g, s) _ Q
      refine hm_st hR ⟨hm_le rfl, hbk, hb2, hbl, hm_le rfl, hm_le rfl, (0, 0), Nat.zero_le _, Nat.zero_le _, ?_⟩
      refine sp_66 hR hN hbk hb2 hbl ?_
      show R 104 43 [(5, .int v5), (4, .int v4), (0, .ref 59), (1, .ref 3), (2, .int v2), (3, .ref bx)] [.int (T_66 s bx (T_89 s v2 v5) (T_90 s v2 v5))] (N, hm_sh L g, s) _ Q
      refine hm_st hR (hm_st hR (?_))
      show R 104 47 [(6, .int (T_66 s bx (T_89 s v2 v5) (T_90 s v2 v5))), (5, .int v5), (4, .int v4), (0, .ref 59), (1, .ref 3), (2, .int v2), (3, .ref bx)] [.int (T_66 s bx (T_89 s v2 v5) (T_90 s v2 v5))] (N, hm_sh L g, s) _ Q
      refine hm_st hR ⟨fun c47 => ?_, fun c47 => ?_⟩
      · rw [if_pos c47] at hq
        show R 104 78 [(6, .int (T_66 s bx (T_89 s v2 v5) (T_90 s v2 v5))), (5, .int v5), (4, .int v4), (0, .ref 59), (1, .ref 3), (2, .int v2), (3, .ref bx)] [] (N, hm_sh L g, s) _ Q
        refine hm_st hR (?_)
        show R 104 80 [(6, .int (T_66 s bx (T_89 s v2 v5) (T_90 s v2 v5))), (5, .int v5), (4, .int v4), (0, .ref 59), (1, .ref 3), (2, .int v2), (3, .ref bx)] [.int (T_66 s bx (T_89 s v2 v5) (T_90 s v2 v5))] (N, hm_sh L g, s) _ Q
        refine hm_st hR ⟨fun c80 => ?_, fun c80 => ?_⟩
        · rw [if_pos c80] at hq
          show R 104 98 [(6, .int (T_66 s bx (T_89 s v2 v5) (T_90 s v2 v5))), (5, .int v5), (4, .int v4), (0, .ref 59), (1, .ref 3), (2, .int v2), (3, .ref bx)] [] (N, hm_sh L g, s) _ Q
          refine hm_st hR (hm_st hR (hm_st hR (hm_st hR (?_))))
          show R 104 16 [(5, .int (v5 + 1)), (4, .int (T_66 s bx (T_89 s v2 v5) (T_90 s v2 v5))), (6, .int (T_66 s bx (T_89 s v2 v5) (T_90 s v2 v5))), (0, .ref 59), (1, .ref 3), (2, .int v2), (3, .ref bx)] [] (N, hm_sh L g, s) _ Q
          exact hm_lvS hR (by intro q hq; simp only [List.mem_cons, List.not_mem_nil, or_false] at hq ⊢; rcases hq with rfl | rfl | rfl | rfl | rfl | rfl <;> simp) (ih s v2 (T_66 s bx (T_89 s v2 v5) (T_90 s v2 v5)) (v5 + 1) (hm_dcx c22 hm) hq)
        · rw [if_neg c80] at hq
          show R 104 83 [(6, .int (T_66 s bx (T_89 s v2 v5) (T_90 s v2 v5))), (5, .int v5), (4, .int v4), (0, .ref 59), (1, .ref 3), (2, .int v2), (3, .ref bx)] [] (N, hm_sh L g, s) _ Q
          refine hm_st hR (hm_st hR ⟨rfl, hm_le rfl, (hm_ltN hN rfl), hm_st hR (hm_st hR ⟨rfl, hm_le rfl, (hm_ltN hN rfl), hm_st hR (hm_st hR (hm_st hR (?_)))⟩)⟩)
          refine hm_st hR ⟨hm_le rfl, rfl, (hm_le rfl), (hm_ltN hN rfl), hm_le rfl, hm_le rfl, (0, 0), Nat.zero_le _, Nat.zero_le _, ?_⟩
          refine sp_179 hR hN (rr := 62) (aa := 63) (nn := 1024) rfl rfl (hm_le rfl) (hm_ltN hN rfl) rfl rfl (hm_le rfl) (hm_ltN hN rfl) (by decide) ?_
          show R 104 98 [(6, .int (T_66 s bx (T_89 s v2 v5) (T_90 s v2 v5))), (5, .int v5), (4, .int v4), (0, .ref 59), (1, .ref 3), (2, .int v2), (3, .ref bx)] [] (N, hm_sh L g, (T_179 s 63 1024 ((s 59 2) - 1) v5)) _ Q
          refine hm_st hR (hm_st hR (hm_st hR (hm_st hR (?_))))
          show R 104 16 [(5, .int (v5 + 1)), (4, .int (T_66 s bx (T_89 s v2 v5) (T_90 s v2 v5))), (6, .int (T_66 s bx (T_89 s v2 v5) (T_90 s v2 v5))), (0, .ref 59), (1, .ref 3), (2, .int v2), (3, .ref bx)] [] (N, hm_sh L g, (T_179 s 63 1024 ((s 59 2) - 1) v5)) _ Q
          exact hm_lvS hR (by intro q hq; simp only [List.mem_cons, List.not_mem_nil, or_false] at hq ⊢; rcases hq with rfl | rfl | rfl | rfl | rfl | rfl <;> simp) (ih (T_179 s 63 1024 ((s 59 2) - 1) v5) v2 (T_66 s bx (T_89 s v2 v5) (T_90 s v2 v5)) (v5 + 1) (hm_dcx c22 hm) hq)
      · rw [if_neg c47] at hq
        show R 104 50 [(6, .int (T_66 s bx (T_89 s v2 v5) (T_90 s v2 v5))), (5, .int v5), (4, .int v4), (0, .ref 59), (1, .ref 3), (2, .int v2), (3, .ref bx)] [] (N, hm_sh L g, s) _ Q
        refine hm_st hR (?_)
        show R 104 52 [(6, .int (T_66 s bx (T_89 s v2 v5) (T_90 s v2 v5))), (5, .int v5), (4, .int v4), (0, .ref 59), (1, .ref 3), (2, .int v2), (3, .ref bx)] [.int v4] (N, hm_sh L g, s) _ Q
        refine hm_st hR ⟨fun c52 => ?_, fun c52 => ?_⟩
        · rw [if_neg c52] at hq
          show R 104 78 [(6, .int (T_66 s bx (T_89 s v2 v5) (T_90 s v2 v5))), (5, .int v5), (4, .int v4), (0, .ref 59), (1, .ref 3), (2, .int v2), (3, .ref bx)] [] (N, hm_sh L g, s) _ Q
          refine hm_st hR (?_)
          show R 104 80 [(6, .int (T_66 s bx (T_89 s v2 v5) (T_90 s v2 v5))), (5, .int v5), (4, .int v4), (0, .ref 59), (1, .ref 3), (2, .int v2), (3, .ref bx)] [.int (T_66 s bx (T_89 s v2 v5) (T_90 s v2 v5))] (N, hm_sh L g, s) _ Q
          refine hm_st hR ⟨fun c80 => ?_, fun c80 => ?_⟩
          · rw [if_pos c80] at hq
            show R 104 98 [(6, .int (T_66 s bx (T_89 s v2 v5) (T_90 s v2 v5))), (5, .int v5), (4, .int v4), (0, .ref 59), (1, .ref 3), (2, .int v2), (3, .ref bx)] [] (N, hm_sh L g, s) _ Q
            refine hm_st hR (hm_st hR (hm_st hR (hm_st hR (?_))))
            show R 104 16 [(5, .int (v5 + 1)), (4, .int (T_66 s bx (T_89 s v2 v5) (T_90 s v2 v5))), (6, .int (T_66 s bx (T_89 s v2 v5) (T_90 s v2 v5))), (0, .ref 59), (1, .ref 3), (2, .int v2), (3, .ref bx)] [] (N, hm_sh L g, s) _ Q
            exact hm_lvS hR (by intro q hq; simp only [List.mem_cons, List.not_mem_nil, or_false] at hq ⊢; rcases hq with rfl | rfl | rfl | rfl | rfl | rfl <;> simp) (ih s v2 (T_66 s bx (T_89 s v2 v5) (T_90 s v2 v5)) (v5 + 1) (hm_dcx c22 hm) hq)
          · rw [if_neg c80] at hq
            show R 104 83 [(6, .int (T_66 s bx (T_89 s v2 v5) (T_90 s v2 v5))), (5, .int v5), (4, .int v4), (0, .ref 59), (1, .ref 3), (2, .int v2), (3, .ref bx)] [] (N, hm_sh L g, s) _ Q
            refine hm_st hR (hm_st hR ⟨rfl, hm_le rfl, (hm_ltN hN rfl), hm_st hR (hm_st hR ⟨rfl, hm_le rfl, (hm_ltN hN rfl), hm_st hR (hm_st hR (hm_st hR (?_)))⟩)⟩)
            refine hm_st hR ⟨hm_le rfl, rfl, (hm_le rfl), (hm_ltN hN rfl), hm_le rfl, hm_le rfl, (0, 0), Nat.zero_le _, Nat.zero_le _, ?_⟩
            refine sp_179 hR hN (rr := 62) (aa := 63) (nn := 1024) rfl rfl (hm_le rfl) (hm_ltN hN rfl) rfl rfl (hm_le rfl) (hm_ltN hN rfl) (by decide) ?_
            show R 104 98 [(6, .int (T_66 s bx (T_89 s v2 v5) (T_90 s v2 v5))), (5, .int v5), (4, .int v4), (0, .ref 59), (1, .ref 3), (2, .int v2), (3, .ref bx)] [] (N, hm_sh L g, (T_179 s 63 1024 ((s 59 2) - 1) v5)) _ Q
            refine hm_st hR (hm_st hR (hm_st hR (hm_st hR (?_))))
            show R 104 16 [(5, .int (v5 + 1)), (4, .int (T_66 s bx (T_89 s v2 v5) (T_90 s v2 v5))), (6, .int (T_66 s bx (T_89 s v2 v5) (T_90 s v2 v5))), (0, .ref 59), (1, .ref 3), (2, .int v2), (3, .ref bx)] [] (N, hm_sh L g, (T_179 s 63 1024 ((s 59 2) - 1) v5)) _ Q
            exact hm_lvS hR (by intro q hq; simp only [List.mem_cons, List.not_mem_nil, or_false] at hq ⊢; rcases hq with rfl | rfl | rfl | rfl | rfl | rfl <;> simp) (ih (T_179 s 63 1024 ((s 59 2) - 1) v5) v2 (T_66 s bx (T_89 s v2 v5) (T_90 s v2 v5)) (v5 + 1) (hm_dcx c22 hm) hq)
        · rw [if_pos c52] at hq
          show R 104 55 [(6, .int (T_66 s bx (T_89 s v2 v5) (T_90 s v2 v5))), (5, .int v5), (4, .int v4), (0, .ref 59), (1, .ref 3), (2, .int v2), (3, .ref bx)] [] (N, hm_sh L g, s) _ Q
          refine hm_st hR (hm_st hR ⟨rfl, hm_le rfl, (hm_ltN hN rfl), hm_st hR (hm_st hR ⟨rfl, hm_le rfl, (hm_ltN hN rfl), hm_st hR (?_)⟩)⟩)
          refine hm_st hR ⟨hm_le rfl, rfl, (hm_le rfl), (hm_ltN hN rfl), hm_le rfl, hm_le rfl, (0, 0), Nat.zero_le _, Nat.zero_le _, ?_⟩
          refine sp_179 hR hN (rr := 60) (aa := 61) (nn := 1024) rfl rfl (hm_le rfl) (hm_ltN hN rfl) rfl rfl (hm_le rfl) (hm_ltN hN rfl) (by decide) ?_
          show R 104 68 [(6, .int (T_66 s bx (T_89 s v2 v5) (T_90 s v2 v5))), (5, .int v5), (4, .int v4), (0, .ref 59), (1, .ref 3), (2, .int v2), (3, .ref bx)] [] (N, hm_sh L g, (T_179 s 61 1024 (s 59 2) v5)) _ Q
          refine hm_st hR (hm_st hR ⟨rfl, hm_st hR ⟨rfl, hm_le rfl, (hm_ltN hN rfl), hm_st hR (hm_st hR (hm_st hR ⟨rfl, rfl, hm_le rfl, (hm_ltN hN rfl), ?_⟩))⟩⟩)
          show R 104 78 [(6, .int (T_66 s bx (T_89 s v2 v5) (T_90 s v2 v5))), (5, .int v5), (4, .int v4), (0, .ref 59), (1, .ref 3), (2, .int v2), (3, .ref bx)] [] (N, hm_sh L g, (hm_w1 (T_179 s 61 1024 (s 59 2) v5) 59 2 (((T_179 s 61 1024 (s 59 2) v5) 59 2) + 1))) _ Q
          refine hm_st hR (?_)
          show R 104 80 [(6, .int (T_66 s bx (T_89 s v2 v5) (T_90 s v2 v5))), (5, .int v5), (4, .int v4), (0, .ref 59), (1, .ref 3), (2, .int v2), (3, .ref bx)] [.int (T_66 s bx (T_89 s v2 v5) (T_90 s v2 v5))] (N, hm_sh L g, (hm_w1 (T_179 s 61 1024 (s 59 2) v5) 59 2 (((T_179 s 61 1024 (s 59 2) v5) 59 2) + 1))) _ Q
          refine hm_st hR ⟨fun c80 => ?_, fun c80 => ?_⟩
          · rw [if_pos c80] at hq
            show R 104 98 [(6, .int (T_66 s bx (T_89 s v2 v5) (T_90 s v2 v5))), (5, .int v5), (4, .int v4), (0, .ref 59), (1, .ref 3), (2, .int v2), (3, .ref bx)] [] (N, hm_sh L g, (hm_w1 (T_179 s 61 1024 (s 59 2) v5) 59 2 (((T_179 s 61 1024 (s 59 2) v5) 59 2) + 1))) _ Q
            refine hm_st hR (hm_st hR (hm_st hR (hm_st hR (?_))))
            show R 104 16 [(5, .int (v5 + 1)), (4, .int (T_66 s bx (T_89 s v2 v5) (T_90 s v2 v5))), (6, .int (T_66 s bx (T_89 s v2 v5) (T_90 s v2 v5))), (0, .ref 59), (1, .ref 3), (2, .int v2), (3, .ref bx)] [] (N, hm_sh L g, (hm_w1 (T_179 s 61 1024 (s 59 2) v5) 59 2 (((T_179 s 61 1024 (s 59 2) v5) 59 2) + 1))) _ Q
            exact hm_lvS hR (by intro q hq; simp only [List.mem_cons, List.not_mem_nil, or_false] at hq ⊢; rcases hq with rfl | rfl | rfl | rfl | rfl | rfl <;> simp) (ih (hm_w1 (T_179 s 61 1024 (s 59 2) v5) 59 2 (((T_179 s 61 1024 (s 59 2) v5) 59 2) + 1)) v2 (T_66 s bx (T_89 s v2 v5) (T_90 s v2 v5)) (v5 + 1) (hm_dcx c22 hm) hq)
          · rw [if_neg c80] at hq
            show R 104 83 [(6, .int (T_66 s bx (T_89 s v2 v5) (T_90 s v2 v5))), (5, .int v5), (4, .int v4), (0, .ref 59), (1, .ref 3), (2, .int v2), (3, .ref bx)] [] (N, hm_sh L g, (hm_w1 (T_179 s 61 1024 (s 59 2) v5) 59 2 (((T_179 s 61 1024 (s 59 2) v5) 59 2) + 1))) _ Q
            refine hm_st hR (hm_st hR ⟨rfl, hm_le rfl, (hm_ltN hN rfl), hm_st hR (hm_st hR ⟨rfl, hm_le rfl, (hm_ltN hN rfl), hm_st hR (hm_st hR (hm_st hR (?_)))⟩)⟩)
            refine hm_st hR ⟨hm_le rfl, rfl, (hm_le rfl), (hm_ltN hN rfl), hm_le rfl, hm_le rfl, (0, 0), Nat.zero_le _, Nat.zero_le _, ?_⟩
            refine sp_179 hR hN (rr := 62) (aa := 63) (nn := 1024) rfl rfl (hm_le rfl) (hm_ltN hN rfl) rfl rfl (hm_le rfl) (hm_ltN hN rfl) (by decide) ?_
            show R 104 98 [(6, .int (T_66 s bx (T_89 s v2 v5) (T_90 s v2 v5))), (5, .int v5), (4, .int v4), (0, .ref 59), (1, .ref 3), (2, .int v2), (3, .ref bx)] [] (N, hm_sh L g, (T_179 (hm_w1 (T_179 s 61 1024 (s 59 2) v5) 59 2 (((T_179 s 61 1024 (s 59 2) v5) 59 2) + 1)) 63 1024 (((hm_w1 (T_179 s 61 1024 (s 59 2) v5) 59 2 (((T_179 s 61 1024 (s 59 2) v5) 59 2) + 1)) 59 2) - 1) v5)) _ Q
            refine hm_st hR (hm_st hR (hm_st hR (hm_st hR (?_))))
            show R 104 16 [(5, .int (v5 + 1)), (4, .int (T_66 s bx (T_89 s v2 v5) (T_90 s v2 v5))), (6, .int (T_66 s bx (T_89 s v2 v5) (T_90 s v2 v5))), (0, .ref 59), (1, .ref 3), (2, .int v2), (3, .ref bx)] [] (N, hm_sh L g, (T_179 (hm_w1 (T_179 s 61 1024 (s 59 2) v5) 59 2 (((T_179 s 61 1024 (s 59 2) v5) 59 2) + 1)) 63 1024 (((hm_w1 (T_179 s 61 1024 (s 59 2) v5) 59 2 (((T_179 s 61 1024 (s 59 2) v5) 59 2) + 1)) 59 2) - 1) v5)) _ Q
            exact hm_lvS hR (by intro q hq; simp only [List.mem_cons, List.not_mem_nil, or_false] at hq ⊢; rcases hq with rfl | rfl | rfl | rfl | rfl | rfl <;> simp) (ih (T_179 (hm_w1 (T_179 s 61 1024 (s 59 2) v5) 59 2 (((T_179 s 61 1024 (s 59 2) v5) 59 2) + 1)) 63 1024 (((hm_w1 (T_179 s 61 1024 (s 59 2) v5) 59 2 (((T_179 s 61 1024 (s 59 2) v5) 59 2) + 1)) 59 2) - 1) v5) v2 (T_66 s bx (T_89 s v2 v5) (T_90 s v2 v5)) (v5 + 1) (hm_dcx c22 hm) hq)
set_option maxRecDepth 20000 in
theorem sp_104 {R : hm_R} (hR : hm_Cm R) {N L : Nat} {g : Nat → hm_Sh} {s : hm_St} {b : hm_B} {Q : hm_Q} (hN : 68 ≤ N) {bx : Nat} (hbk : (hm_sh L g bx).1 = 0) (hb2 : 2 ≤ bx) (hbl : bx < N) {p2 : Int32} (hq : Q (.inr none) (N, hm_sh L g, (T_104 s p2 bx))) : R 104 0 (lv_args 0 [.ref 59, .ref 3, .int p2, .ref bx]) [] (N, hm_sh L g, s) b Q := by
  unfold T_104 at hq
  show R 104 0 [(0, .ref 59), (1, .ref 3), (2, .int p2), (3, .ref bx)] [] (N, hm_sh L g, s) _ Q
  refine hm_st hR (hm_st hR (hm_st hR ⟨rfl, rfl, hm_le rfl, (hm_ltN hN rfl), ?_⟩))
  show R 104 5 [(0, .ref 59), (1, .ref 3), (2, .int p2), (3, .ref bx)] [] (N, hm_sh L g, (hm_w1 s 59 2 0)) _ Q
  refine hm_st hR (hm_st hR (hm_st hR ⟨rfl, rfl, hm_le rfl, (hm_ltN hN rfl), ?_⟩))
  show R 104 10 [(0, .ref 59), (1, .ref 3), (2, .int p2), (3, .ref bx)] [] (N, hm_sh L g, (hm_w1 (hm_w1 s 59 2 0) 59 3 0)) _ Q
  refine hm_st hR (hm_st hR (hm_st hR (hm_st hR (?_))))
  show R 104 16 [(5, .int 0), (4, .int 0), (0, .ref 59), (1, .ref 3), (2, .int p2), (3, .ref bx)] [] (N, hm_sh L g, (hm_w1 (hm_w1 s 59 2 0) 59 3 0)) _ Q
  exact lp_104_16 hR hN hbk hb2 hbl _ _ _ _ _ (Nat.lt_succ_self _) hq
/-- CurvekeyHouse$Cut.size()I -/
def T_101 (s : hm_St) : Int32 := (s 59 2)
set_option maxRecDepth 20000 in
theorem sp_101 {R : hm_R} (hR : hm_Cm R) {N L : Nat} {g : Nat → hm_Sh} {s : hm_St} {b : hm_B} {Q : hm_Q} (hN : 68 ≤ N) (hq : Q (.inr (some (.int (T_101 s)))) (N, hm_sh L g, s)) : R 101 0 (lv_args 0 [.ref 59]) [] (N, hm_sh L g, s) b Q := by
  unfold T_101 at hq
  show R 101 0 [(0, .ref 59)] [] (N, hm_sh L g, s) _ Q
  refine hm_st hR (hm_st hR ⟨rfl, hm_le rfl, (hm_ltN hN rfl), ?_⟩)
  exact hm_st hR ⟨fun z => absurd z (by decide), hq⟩
/-- CurvekeyHouse.runsOf(ILCurvekeyHouse$Box;)I -/
def T_48 (s : hm_St) (p1 : Int32) (bx : Nat) : (Int32 × hm_St) := ((T_101 (T_104 s p1 bx)), (T_104 s p1 bx))
theorem N_48 {c j : Nat} (h59 : c ≠ 59) (h61 : c ≠ 61) (h63 : c ≠ 63) {s : hm_St} {p1 : Int32} {bx : Nat} : (T_48 s p1 bx).2 c j = s c j := by
  unfold T_48
  repeat' split
  all_goals first | rfl | simp only [hm_w1n h59, hm_w1n h61, hm_w1n h63, N_104 h59 h61 h63]
set_option maxRecDepth 20000 in
theorem sp_48 {R : hm_R} (hR : hm_Cm R) {N L : Nat} {g : Nat → hm_Sh} {s : hm_St} {b : hm_B} {Q : hm_Q} (hN : 68 ≤ N) {bx : Nat} (hbk : (hm_sh L g bx).1 = 0) (hb2 : 2 ≤ bx) (hbl : bx < N) {p1 : Int32} (hq : Q (.inr (some (.int (T_48 s p1 bx).1))) (N, hm_sh L g, (T_48 s p1 bx).2)) : R 48 0 (lv_args 0 [.ref 2, .int p1, .ref bx]) [] (N, hm_sh L g, s) b Q := by
  unfold T_48 at hq
  show R 48 0 [(0, .ref 2), (1, .int p1), (2, .ref bx)] [] (N, hm_sh L g, s) _ Q
  refine hm_st hR (hm_st hR ⟨rfl, hm_le rfl, (hm_ltN hN rfl), hm_st hR (hm_st hR ⟨rfl, hm_le rfl, (hm_ltN hN rfl), hm_st hR (hm_st hR (?_))⟩)⟩)
  refine hm_st hR ⟨hm_le rfl, rfl, (hm_le rfl), (hm_ltN hN rfl), hm_le rfl, hm_le rfl, (0, 0), Nat.zero_le _, Nat.zero_le _, ?_⟩
  refine sp_104 hR hN hbk hb2 hbl ?_
  show R 48 13 [(0, .ref 2), (1, .int p1), (2, .ref bx)] [] (N, hm_sh L g, (T_104 s p1 bx)) _ Q
  refine hm_st hR (hm_st hR ⟨rfl, hm_le rfl, (hm_ltN hN rfl), ?_⟩)
  refine hm_st hR ⟨hm_le rfl, rfl, (hm_le rfl), (hm_ltN hN rfl), hm_le rfl, hm_le rfl, (0, 0), Nat.zero_le _, Nat.zero_le _, ?_⟩
  refine sp_101 hR hN ?_
  show R 48 20 [(0, .ref 2), (1, .int p1), (2, .ref bx)] [.int (T_101 (T_104 s p1 bx))] (N, hm_sh L g, (T_104 s p1 bx)) _ Q
  exact hm_st hR ⟨fun z => absurd z (by decide), hq⟩
/-- CurvekeyHouse$Cut.gapBehind(I)I -/
def T_106 (s : hm_St) (p1 : Int32) : Int32 := (((T_178 s 61 1024 (p1 + 1)) - (T_178 s 63 1024 p1)) - 1)
set_option maxRecDepth 20000 in
theorem sp_106 {R : hm_R} (hR : hm_Cm R) {N L : Nat} {g : Nat → hm_Sh} {s : hm_St} {b : hm_B} {Q : hm_Q} (hN : 68 ≤ N) {p1 : Int32} (hq : Q (.inr (some (.int (T_106 s p1)))) (N, hm_sh L g, s)) : R 106 0 (lv_args 0 [.ref 59, .int p1]) [] (N, hm_sh L g, s) b Q := by
  unfold T_106 at hq
  show R 106 0 [(0, .ref 59), (1, .int p1)] [] (N, hm_sh L g, s) _ Q
  refine hm_st hR (hm_st hR ⟨rfl, hm_le rfl, (hm_ltN hN rfl), hm_st hR (hm_st hR (hm_st hR (?_)))⟩)
  refine hm_st hR ⟨hm_le rfl, rfl, (hm_le rfl), (hm_ltN hN rfl), hm_le rfl, hm_le rfl, (0, 0), Nat.zero_le _, Nat.zero_le _, ?_⟩
  refine sp_178 hR hN (rr := 60) (aa := 61) (nn := 1024) rfl rfl (hm_le rfl) (hm_ltN hN rfl) rfl rfl (hm_le rfl) (hm_ltN hN rfl) (by decide) ?_
  show R 106 10 [(0, .ref 59), (1, .int p1)] [.int (T_178 s 61 1024 (p1 + 1))] (N, hm_sh L g, s) _ Q
  refine hm_st hR (hm_st hR ⟨rfl, hm_le rfl, (hm_ltN hN rfl), hm_st hR (?_)⟩)
  refine hm_st hR ⟨hm_le rfl, rfl, (hm_le rfl), (hm_ltN hN rfl), hm_le rfl, hm_le rfl, (0, 0), Nat.zero_le _, Nat.zero_le _, ?_⟩
  refine sp_178 hR hN (rr := 62) (aa := 63) (nn := 1024) rfl rfl (hm_le rfl) (hm_ltN hN rfl) rfl rfl (hm_le rfl) (hm_ltN hN rfl) (by decide) ?_
  show R 106 18 [(0, .ref 59), (1, .int p1)] [.int (T_178 s 63 1024 p1), .int (T_178 s 61 1024 (p1 + 1))] (N, hm_sh L g, s) _ Q
  refine hm_st hR (hm_st hR (hm_st hR (?_)))
  exact hm_st hR ⟨fun z => absurd z (by decide), hq⟩
def T_107_4 : Nat → hm_St → Int32 → Int32 → Int32
  | 0, s, _, _ => 0
  | n + 1, s, v1, v2 => (if (s 59 2) ≤ (v2 + 1) then v1 else (if (T_106 s v1) ≤ (T_106 s v2) then (T_107_4 n s v1 (v2 + 1)) else (T_107_4 n s v2 (v2 + 1))))
/-- CurvekeyHouse$Cut.closest()I -/
def T_107 (s : hm_St) : Int32 := (T_107_4 (hm_df (s 59 2) (1 + 1) + 1) s 0 1)
set_option maxRecDepth 20000 in
theorem lp_107_4 {R : hm_R} (hR : hm_Cm R) {N L : Nat} {g : Nat → hm_Sh} {b : hm_B} {Q : hm_Q} (hN : 68 ≤ N) : ∀ (n : Nat) (s : hm_St) (v1 : Int32) (v2 : Int32), hm_df (s 59 2) (v2 + 1) < n → (hq : Q (.inr (some (.int (T_107_4 n s v1 v2)))) (N, hm_sh L g, s)) → R 107 4 [(2, .int v2), (1, .int v1), (0, .ref 59)] [] (N, hm_sh L g, s) b Q := by
  intro n
  induction n with
  | zero => intro s v1 v2 hm _; exact absurd hm (Nat.not_lt_zero _)
  | succ n ih =>
    intro s v1 v2 hm hq
    unfold T_107_4 at hq
    refine hm_st hR (hm_st hR (hm_st hR (hm_st hR (hm_st hR ⟨rfl, hm_le rfl, (hm_ltN hN rfl), ?_⟩))))
    show R 107 11 [(2, .int v2), (1, .int v1), (0, .ref 59)] [.int (s 59 2), .int (v2 + 1)] (N, hm_sh L g, s) _ Q
    refine hm_st hR ⟨fun c11 => ?_, fun c11 => ?_⟩
    · rw [if_pos c11] at hq
      show R 107 35 [(2, .int v2), (1, .int v1), (0, .ref 59)] [] (N, hm_sh L g, s) _ Q
      refine hm_st hR (?_)
      exact hm_st hR ⟨fun z => absurd z (by decide), hq⟩
    · rw [if_neg c11] at hq
      show R 107 14 [(2, .int v2), (1, .int v1), (0, .ref 59)] [] (N, hm_sh L g, s) _ Q
      refine hm_st hR (hm_st hR (?_))
      refine hm_st hR ⟨hm_le rfl, rfl, (hm_le rfl), (hm_ltN hN rfl), hm_le rfl, hm_le rfl, (0, 0), Nat.zero_le _, Nat.zero_le _, ?_⟩
      refine sp_106 hR hN ?_
      show R 107 19 [(2, .int v2), (1, .int v1), (0, .ref 59)] [.int (T_106 s v2)] (N, hm_sh L g, s) _ Q
      refine hm_st hR (hm_st hR (?_))
      refine hm_st hR ⟨hm_le rfl, rfl, (hm_le rfl), (hm_ltN hN rfl), hm_le rfl, hm_le rfl, (0, 0), Nat.zero_le _, Nat.zero_le _, ?_⟩
      refine sp_106 hR hN ?_
      show R 107 24 [(2, .int v2), (1, .int v1), (0, .ref 59)] [.int (T_106 s v1), .int (T_106 s v2)] (N, hm_sh L g, s) _ Q
      show R 107 24 [(2, .int v2), (1, .int v1), (0, .ref 59)] [.int (T_106 s v1), .int (T_106 s v2)] (N, hm_sh L g, s) _ Q
      refine hm_st hR ⟨fun c24 => ?_, fun c24 => ?_⟩
      · rw [if_pos c24] at hq
        show R 107 29 [(2, .int v2), (1, .int v1), (0, .ref 59)] [] (N, hm_sh L g, s) _ Q
        refine hm_st hR (hm_st hR (?_))
        show R 107 4 [(2, .int (v2 + 1)), (1, .int v1), (0, .ref 59)] [] (N, hm_sh L g, s) _ Q
        exact hm_lvS hR (by intro q hq; simp only [List.mem_cons, List.not_mem_nil, or_false] at hq ⊢; rcases hq with rfl | rfl | rfl <;> simp) (ih s v1 (v2 + 1) (hm_dcx c11 hm) hq)
      · rw [if_neg c24] at hq
        show R 107 27 [(2, .int v2), (1, .int v1), (0, .ref 59)] [] (N, hm_sh L g, s) _ Q
        refine hm_st hR (hm_st hR (hm_st hR (hm_st hR (?_))))
        show R 107 4 [(2, .int (v2 + 1)), (1, .int v2), (0, .ref 59)] [] (N, hm_sh L g, s) _ Q
        exact hm_lvS hR (by intro q hq; simp only [List.mem_cons, List.not_mem_nil, or_false] at hq ⊢; rcases hq with rfl | rfl | rfl <;> simp) (ih s v2 (v2 + 1) (hm_dcx c11 hm) hq)
set_option maxRecDepth 20000 in
theorem sp_107 {R : hm_R} (hR : hm_Cm R) {N L : Nat} {g : Nat → hm_Sh} {s : hm_St} {b : hm_B} {Q : hm_Q} (hN : 68 ≤ N) (hq : Q (.inr (some (.int (T_107 s)))) (N, hm_sh L g, s)) : R 107 0 (lv_args 0 [.ref 59]) [] (N, hm_sh L g, s) b Q := by
  unfold T_107 at hq
  show R 107 0 [(0, .ref 59)] [] (N, hm_sh L g, s) _ Q
  refine hm_st hR (hm_st hR (hm_st hR (hm_st hR (?_))))
  show R 107 4 [(2, .int 1), (1, .int 0), (0, .ref 59)] [] (N, hm_sh L g, s) _ Q
  exact lp_107_4 hR hN _ _ _ _ (Nat.lt_succ_self _) hq
/-- CurvekeyHouse$Cut.joinBehind(I)V -/
def T_108 (s : hm_St) (p1 : Int32) : hm_St := (hm_w1 (T_183 (T_183 (hm_w1 s 59 3 ((s 59 3) + (T_106 s p1))) 61 1024 (p1 + 1) ((hm_w1 s 59 3 ((s 59 3) + (T_106 s p1))) 59 2)) 63 1024 p1 ((T_183 (hm_w1 s 59 3 ((s 59 3) + (T_106 s p1))) 61 1024 (p1 + 1) ((hm_w1 s 59 3 ((s 59 3) + (T_106 s p1))) 59 2)) 59 2)) 59 2 (((T_183 (T_183 (hm_w1 s 59 3 ((s 59 3) + (T_106 s p1))) 61 1024 (p1 + 1) ((hm_w1 s 59 3 ((s 59 3) + (T_106 s p1))) 59 2)) 63 1024 p1 ((T_183 (hm_w1 s 59 3 ((s 59 3) + (T_106 s p1))) 61 1024 (p1 + 1) ((hm_w1 s 59 3 ((s 59 3) + (T_106 s p1))) 59 2)) 59 2)) 59 2) - 1))
theorem N_108 {c j : Nat} (h59 : c ≠ 59) (h61 : c ≠ 61) (h63 : c ≠ 63) {s : hm_St} {p1 : Int32} : (T_108 s p1) c j = s c j := by
  unfold T_108
  repeat' split
  all_goals first | rfl | simp only [hm_w1n h59, hm_w1n h61, hm_w1n h63, N_183 h59, N_183 h61, N_183 h63]
set_option maxRecDepth 20000 in
theorem sp_108 {R : hm_R} (hR : hm_Cm R) {N L : Nat} {g : Nat → hm_Sh} {s : hm_St} {b : hm_B} {Q : hm_Q} (hN : 68 ≤ N) {p1 : Int32} (hq : Q (.inr none) (N, hm_sh L g, (T_108 s p1))) : R 108 0 (lv_args 0 [.ref 59, .int p1]) [] (N, hm_sh L g, s) b Q := by
  unfold T_108 at hq
  show R 108 0 [(0, .ref 59), (1, .int p1)] [] (N, hm_sh L g, s) _ Q
  refine hm_st hR (hm_st hR ⟨rfl, hm_st hR ⟨rfl, hm_le rfl, (hm_ltN hN rfl), hm_st hR (hm_st hR (?_))⟩⟩)
  refine hm_st hR ⟨hm_le rfl, rfl, (hm_le rfl), (hm_ltN hN rfl), hm_le rfl, hm_le rfl, (0, 0), Nat.zero_le _, Nat.zero_le _, ?_⟩
  refine sp_106 hR hN ?_
  show R 108 10 [(0, .ref 59), (1, .int p1)] [.int (T_106 s p1), .int (s 59 3), .ref 59] (N, hm_sh L g, s) _ Q
  refine hm_st hR (hm_st hR ⟨rfl, rfl, hm_le rfl, (hm_ltN hN rfl), ?_⟩)
  show R 108 14 [(0, .ref 59), (1, .int p1)] [] (N, hm_sh L g, (hm_w1 s 59 3 ((s 59 3) + (T_106 s p1)))) _ Q
  refine hm_st hR (hm_st hR ⟨rfl, hm_le rfl, (hm_ltN hN rfl), hm_st hR (hm_st hR (hm_st hR (hm_st hR (hm_st hR ⟨rfl, hm_le rfl, (hm_ltN hN rfl), ?_⟩))))⟩)
  refine hm_st hR ⟨hm_le rfl, rfl, (hm_le rfl), (hm_ltN hN rfl), hm_le rfl, hm_le rfl, (0, 0), Nat.zero_le _, Nat.zero_le _, ?_⟩
  refine sp_183 hR hN (rr := 60) (aa := 61) (nn := 1024) rfl rfl (hm_le rfl) (hm_ltN hN rfl) rfl rfl (hm_le rfl) (hm_ltN hN rfl) (by decide) ?_
  show R 108 28 [(0, .ref 59), (1, .int p1)] [] (N, hm_sh L g, (T_183 (hm_w1 s 59 3 ((s 59 3) + (T_106 s p1))) 61 1024 (p1 + 1) ((hm_w1 s 59 3 ((s 59 3) + (T_106 s p1))) 59 2))) _ Q
  refine hm_st hR (hm_st hR ⟨rfl, hm_le rfl, (hm_ltN hN rfl), hm_st hR (hm_st hR (hm_st hR ⟨rfl, hm_le rfl, (hm_ltN hN rfl), ?_⟩))⟩)
  refine hm_st hR ⟨hm_le rfl, rfl, (hm_le rfl), (hm_ltN hN rfl), hm_le rfl, hm_le rfl, (0, 0), Nat.zero_le _, Nat.zero_le _, ?_⟩
  refine sp_183 hR hN (rr := 62) (aa := 63) (nn := 1024) rfl rfl (hm_le rfl) (hm_ltN hN rfl) rfl rfl (hm_le rfl) (hm_ltN hN rfl) (by decide) ?_
  show R 108 40 [(0, .ref 59), (1, .int p1)] [] (N, hm_sh L g, (T_183 (T_183 (hm_w1 s 59 3 ((s 59 3) + (T_106 s p1))) 61 1024 (p1 + 1) ((hm_w1 s 59 3 ((s 59 3) + (T_106 s p1))) 59 2)) 63 1024 p1 ((T_183 (hm_w1 s 59 3 ((s 59 3) + (T_106 s p1))) 61 1024 (p1 + 1) ((hm_w1 s 59 3 ((s 59 3) + (T_106 s p1))) 59 2)) 59 2))) _ Q
  refine hm_st hR (hm_st hR ⟨rfl, hm_st hR ⟨rfl, hm_le rfl, (hm_ltN hN rfl), hm_st hR (hm_st hR (hm_st hR ⟨rfl, rfl, hm_le rfl, (hm_ltN hN rfl), ?_⟩))⟩⟩)
  show R 108 50 [(0, .ref 59), (1, .int p1)] [] (N, hm_sh L g, (hm_w1 (T_183 (T_183 (hm_w1 s 59 3 ((s 59 3) + (T_106 s p1))) 61 1024 (p1 + 1) ((hm_w1 s 59 3 ((s 59 3) + (T_106 s p1))) 59 2)) 63 1024 p1 ((T_183 (hm_w1 s 59 3 ((s 59 3) + (T_106 s p1))) 61 1024 (p1 + 1) ((hm_w1 s 59 3 ((s 59 3) + (T_106 s p1))) 59 2)) 59 2)) 59 2 (((T_183 (T_183 (hm_w1 s 59 3 ((s 59 3) + (T_106 s p1))) 61 1024 (p1 + 1) ((hm_w1 s 59 3 ((s 59 3) + (T_106 s p1))) 59 2)) 63 1024 p1 ((T_183 (hm_w1 s 59 3 ((s 59 3) + (T_106 s p1))) 61 1024 (p1 + 1) ((hm_w1 s 59 3 ((s 59 3) + (T_106 s p1))) 59 2)) 59 2)) 59 2) - 1))) _ Q
  exact hm_st hR hq
def T_105_7 : Nat → hm_St → Int32 → Int32 → hm_St
  | 0, s, _, _ => s
  | n + 1, s, v1, v2 => (if v2 ≤ 0 then s else (T_105_7 n (T_108 s (T_107 s)) v1 (v2 + (-1))))
/-- CurvekeyHouse$Cut.joinTo(I)V -/
def T_105 (s : hm_St) (p1 : Int32) : hm_St := (T_105_7 (hm_df ((s 59 2) - p1) 0 + 1) s p1 ((s 59 2) - p1))
theorem N_105_7 {c j : Nat} (h59 : c ≠ 59) (h61 : c ≠ 61) (h63 : c ≠ 63) : ∀ (n : Nat) (s : hm_St) (v0 v1 : Int32), (T_105_7  n s v0 v1) c j = s c j := by
  intro n
  induction n with
  | zero => intros; rfl
  | succ n ih =>
    intros
    unfold T_105_7
    repeat' split
    all_goals first | rfl | simp only [ih, hm_w1n h59, hm_w1n h61, hm_w1n h63, N_108 h59 h61 h63]
theorem N_105 {c j : Nat} (h59 : c ≠ 59) (h61 : c ≠ 61) (h63 : c ≠ 63) {s : hm_St} {p1 : Int32} : (T_105 s p1) c j = s c j := by
  unfold T_105
  repeat' split
  all_goals first | rfl | simp only [hm_w1n h59, hm_w1n h61, hm_w1n h63, N_108 h59 h61 h63, N_105_7 h59 h61 h63]
set_option maxRecDepth 20000 in
theorem lp_105_7 {R : hm_R} (hR : hm_Cm R) {N L : Nat} {g : Nat → hm_Sh} {b : hm_B} {Q : hm_Q} (hN : 68 ≤ N) : ∀ (n : Nat) (s : hm_St) (v1 : Int32) (v2 : Int32), hm_df v2 0 < n → (hq : Q (.inr none) (N, hm_sh L g, (T_105_7 n s v1 v2))) → R 105 7 [(2, .int v2), (0, .ref 59), (1, .int v1)] [] (N, hm_sh L g, s) b Q := by
  intro n
  induction n with
  | zero => intro s v1 v2 hm _; exact absurd hm (Nat.not_lt_zero _)
  | succ n ih =>
    intro s v1 v2 hm hq
    unfold T_105_7 at hq
    refine hm_st hR (?_)
    show R 105 8 [(2, .int v2), (0, .ref 59), (1, .int v1)] [.int v2] (N, hm_sh L g, s) _ Q
    refine hm_st hR ⟨fun c8 => ?_, fun c8 => ?_⟩
    · rw [if_pos c8] at hq
      show R 105 25 [(2, .int v2), (0, .ref 59), (1, .int v1)] [] (N, hm_sh L g, s) _ Q
      exact hm_st hR hq
    · rw [if_neg c8] at hq
      show R 105 11 [(2, .int v2), (0, .ref 59), (1, .int v1)] [] (N, hm_sh L g, s) _ Q
      refine hm_st hR (hm_st hR (?_))
      refine hm_st hR ⟨hm_le rfl, rfl, (hm_le rfl), (hm_ltN hN rfl), hm_le rfl, hm_le rfl, (0, 0), Nat.zero_le _, Nat.zero_le _, ?_⟩
      refine sp_107 hR hN ?_
      show R 105 16 [(2, .int v2), (0, .ref 59), (1, .int v1)] [.int (T_107 s), .ref 59] (N, hm_sh L g, s) _ Q
      refine hm_st hR ⟨hm_le rfl, rfl, (hm_le rfl), (hm_ltN hN rfl), hm_le rfl, hm_le rfl, (0, 0), Nat.zero_le _, Nat.zero_le _, ?_⟩
      refine sp_108 hR hN ?_
      show R 105 19 [(2, .int v2), (0, .ref 59), (1, .int v1)] [] (N, hm_sh L g, (T_108 s (T_107 s))) _ Q
      refine hm_st hR (hm_st hR (?_))
      show R 105 7 [(2, .int (v2 + (-1))), (0, .ref 59), (1, .int v1)] [] (N, hm_sh L g, (T_108 s (T_107 s))) _ Q
      exact hm_lvS hR (by intro q hq; simp only [List.mem_cons, List.not_mem_nil, or_false] at hq ⊢; rcases hq with rfl | rfl | rfl <;> simp) (ih (T_108 s (T_107 s)) v1 (v2 + (-1)) (hm_dcm c8 hm) hq)
set_option maxRecDepth 20000 in
theorem sp_105 {R : hm_R} (hR : hm_Cm R) {N L : Nat} {g : Nat → hm_Sh} {s : hm_St} {b : hm_B} {Q : hm_Q} (hN : 68 ≤ N) {p1 : Int32} (hq : Q (.inr none) (N, hm_sh L g, (T_105 s p1))) : R 105 0 (lv_args 0 [.ref 59, .int p1]) [] (N, hm_sh L g, s) b Q := by
  unfold T_105 at hq
  show R 105 0 [(0, .ref 59), (1, .int p1)] [] (N, hm_sh L g, s) _ Q
  refine hm_st hR (hm_st hR ⟨rfl, hm_le rfl, (hm_ltN hN rfl), hm_st hR (hm_st hR (hm_st hR (?_)))⟩)
  show R 105 7 [(2, .int ((s 59 2) - p1)), (0, .ref 59), (1, .int p1)] [] (N, hm_sh L g, s) _ Q
  exact lp_105_7 hR hN _ _ _ _ (Nat.lt_succ_self _) hq
/-- CurvekeyHouse.cutTo(LCurvekeyHouse$Box;I)V -/
def T_49 (s : hm_St) (bx : Nat) (p2 : Int32) : hm_St := (T_105 (T_104 s (s 2 8) bx) p2)
theorem N_49 {c j : Nat} (h59 : c ≠ 59) (h61 : c ≠ 61) (h63 : c ≠ 63) {s : hm_St} {bx : Nat} {p2 : Int32} : (T_49 s bx p2) c j = s c j := by
  unfold T_49
  repeat' split
  all_goals first | rfl | simp only [hm_w1n h59, hm_w1n h61, hm_w1n h63, N_104 h59 h61 h63, N_105 h59 h61 h63]
set_option maxRecDepth 20000 in
theorem sp_49 {R : hm_R} (hR : hm_Cm R) {N L : Nat} {g : Nat → hm_Sh} {s : hm_St} {b : hm_B} {Q : hm_Q} (hN : 68 ≤ N) {bx : Nat} (hbk : (hm_sh L g bx).1 = 0) (hb2 : 2 ≤ bx) (hbl : bx < N) {p2 : Int32} (hq : Q (.inr none) (N, hm_sh L g, (T_49 s bx p2))) : R 49 0 (lv_args 0 [.ref 2, .ref bx, .int p2]) [] (N, hm_sh L g, s) b Q := by
  unfold T_49 at hq
  show R 49 0 [(0, .ref 2), (1, .ref bx), (2, .int p2)] [] (N, hm_sh L g, s) _ Q
  refine hm_st hR (hm_st hR ⟨rfl, hm_le rfl, (hm_ltN hN rfl), hm_st hR (hm_st hR ⟨rfl, hm_le rfl, (hm_ltN hN rfl), hm_st hR (hm_st hR ⟨rfl, hm_le rfl, (hm_ltN hN rfl), hm_st hR (?_)⟩)⟩)⟩)
  refine hm_st hR ⟨hm_le rfl, rfl, (hm_le rfl), (hm_ltN hN rfl), hm_le rfl, hm_le rfl, (0, 0), Nat.zero_le _, Nat.zero_le _, ?_⟩
  refine sp_104 hR hN hbk hb2 hbl ?_
  show R 49 16 [(0, .ref 2), (1, .ref bx), (2, .int p2)] [] (N, hm_sh L g, (T_104 s (s 2 8) bx)) _ Q
  refine hm_st hR (hm_st hR ⟨rfl, hm_le rfl, (hm_ltN hN rfl), hm_st hR (?_)⟩)
  refine hm_st hR ⟨hm_le rfl, rfl, (hm_le rfl), (hm_ltN hN rfl), hm_le rfl, hm_le rfl, (0, 0), Nat.zero_le _, Nat.zero_le _, ?_⟩
  refine sp_105 hR hN ?_
  show R 49 24 [(0, .ref 2), (1, .ref bx), (2, .int p2)] [] (N, hm_sh L g, (T_105 (T_104 s (s 2 8) bx) p2)) _ Q
  exact hm_st hR hq
def T_52_4 : Nat → hm_St → Int32 → Int32 → Int32 → Int32
  | 0, s, _, _, _ => 0
  | n + 1, s, v0, v1, v2 => (if v0 ≤ (v2 * v2) then v1 else (if 1024 ≤ v2 then v1 else (T_52_4 n s v0 (v2 + 1) (v2 + 1))))
/-- CurvekeyHouse.rootAbove(I)I -/
def T_52 (s : hm_St) (p1 : Int32) : Int32 := (T_52_4 (hm_df 1024 0 + 1) s p1 0 0)
set_option maxRecDepth 20000 in
theorem lp_52_4 {R : hm_R} (hR : hm_Cm R) {N L : Nat} {g : Nat → hm_Sh} {b : hm_B} {Q : hm_Q} (hN : 68 ≤ N) : ∀ (n : Nat) (s : hm_St) (v0 : Int32) (v1 : Int32) (v2 : Int32), hm_df 1024 v2 < n → (hq : Q (.inr (some (.int (T_52_4 n s v0 v1 v2)))) (N, hm_sh L g, s)) → R 52 4 [(2, .int v2), (1, .int v1), (0, .int v0)] [] (N, hm_sh L g, s) b Q := by
  intro n
  induction n with
  | zero => intro s v0 v1 v2 hm _; exact absurd hm (Nat.not_lt_zero _)
  | succ n ih =>
    intro s v0 v1 v2 hm hq
    unfold T_52_4 at hq
    refine hm_st hR (hm_st hR (hm_st hR (hm_st hR (?_))))
    show R 52 8 [(2, .int v2), (1, .int v1), (0, .int v0)] [.int v0, .int (v2 * v2)] (N, hm_sh L g, s) _ Q
    refine hm_st hR ⟨fun c8 => ?_, fun c8 => ?_⟩
    · rw [if_pos c8] at hq
      show R 52 28 [(2, .int v2), (1, .int v1), (0, .int v0)] [] (N, hm_sh L g, s) _ Q
      refine hm_st hR (?_)
      exact hm_st hR ⟨fun z => absurd z (by decide), hq⟩
    · rw [if_neg c8] at hq
      show R 52 11 [(2, .int v2), (1, .int v1), (0, .int v0)] [] (N, hm_sh L g, s) _ Q
      refine hm_st hR (hm_st hR (?_))
      show R 52 15 [(2, .int v2), (1, .int v1), (0, .int v0)] [.int 1024, .int v2] (N, hm_sh L g, s) _ Q
      refine hm_st hR ⟨fun c15 => ?_, fun c15 => ?_⟩
      · rw [if_pos c15] at hq
        show R 52 28 [(2, .int v2), (1, .int v1), (0, .int v0)] [] (N, hm_sh L g, s) _ Q
        refine hm_st hR (?_)
        exact hm_st hR ⟨fun z => absurd z (by decide), hq⟩
      · rw [if_neg c15] at hq
        show R 52 18 [(2, .int v2), (1, .int v1), (0, .int v0)] [] (N, hm_sh L g, s) _ Q
        refine hm_st hR (hm_st hR (hm_st hR (hm_st hR (hm_st hR (hm_st hR (?_))))))
        show R 52 4 [(2, .int (v2 + 1)), (1, .int (v2 + 1)), (0, .int v0)] [] (N, hm_sh L g, s) _ Q
        exact hm_lvS hR (by intro q hq; simp only [List.mem_cons, List.not_mem_nil, or_false] at hq ⊢; rcases hq with rfl | rfl | rfl <;> simp) (ih s v0 (v2 + 1) (v2 + 1) (hm_dcx c15 hm) hq)
set_option maxRecDepth 20000 in
theorem sp_52 {R : hm_R} (hR : hm_Cm R) {N L : Nat} {g : Nat → hm_Sh} {s : hm_St} {b : hm_B} {Q : hm_Q} (hN : 68 ≤ N) {p1 : Int32} (hq : Q (.inr (some (.int (T_52 s p1)))) (N, hm_sh L g, s)) : R 52 0 (lv_args 0 [.int p1]) [] (N, hm_sh L g, s) b Q := by
  unfold T_52 at hq
  show R 52 0 [(0, .int p1)] [] (N, hm_sh L g, s) _ Q
  refine hm_st hR (hm_st hR (hm_st hR (hm_st hR (?_))))
  show R 52 4 [(2, .int 0), (1, .int 0), (0, .int p1)] [] (N, hm_sh L g, s) _ Q
  exact lp_52_4 hR hN _ _ _ _ _ (Nat.lt_succ_self _) hq
/-- CurvekeyHouse$Box.meets(III)Z -/
def T_67 (s : hm_St) (bx : Nat) (p1 : Int32) (p2 : Int32) (p3 : Int32) : Int32 := (if ((s bx 0) + (s bx 2)) ≤ p1 then 0 else (if (p1 + p3) ≤ (s bx 0) then 0 else (if ((s bx 1) + (s bx 3)) ≤ p2 then 0 else (if (p2 + p3) ≤ (s bx 1) then 0 else 1))))
theorem B_67 (s : hm_St) (bx : Nat) (p1 : Int32) (p2 : Int32) (p3 : Int32) : T_67 s bx p1 p2 p3 = 0 ∨ T_67 s bx p1 p2 p3 = 1 := by
  unfold T_67
  repeat' split
  all_goals first | exact Or.inl rfl | exact Or.inr rfl
set_option maxRecDepth 20000 in
theorem sp_67 {R : hm_R} (hR : hm_Cm R) {N L : Nat} {g : Nat → hm_Sh} {s : hm_St} {b : hm_B} {Q : hm_Q} (hN : 68 ≤ N) {bx : Nat} (hbk : (hm_sh L g bx).1 = 0) (hb2 : 2 ≤ bx) (hbl : bx < N) {p1 : Int32} {p2 : Int32} {p3 : Int32} (hq : Q (.inr (some (.int (T_67 s bx p1 p2 p3)))) (N, hm_sh L g, s)) : R 67 0 (lv_args 0 [.ref bx, .int p1, .int p2, .int p3]) [] (N, hm_sh L g, s) b Q := by
  unfold T_67 at hq
  show R 67 0 [(0, .ref bx), (1, .int p1), (2, .int p2), (3, .int p3)] [] (N, hm_sh L g, s) _ Q
  refine hm_st hR (hm_st hR (?_))
  show R 67 2 [(0, .ref bx), (1, .int p1), (2, .int p2), (3, .int p3)] [.ref bx, .int p1] (N, hm_sh L g, s) _ Q
  refine hm_bxf hR hbk hb2 hbl (by rfl) ?_
  show R 67 5 [(0, .ref bx), (1, .int p1), (2, .int p2), (3, .int p3)] [.int (s bx 0), .int p1] (N, hm_sh L g, s) _ Q
  refine hm_st hR (?_)
  show R 67 6 [(0, .ref bx), (1, .int p1), (2, .int p2), (3, .int p3)] [.ref bx, .int (s bx 0), .int p1] (N, hm_sh L g, s) _ Q
  refine hm_bxf hR hbk hb2 hbl (by rfl) ?_
  show R 67 9 [(0, .ref bx), (1, .int p1), (2, .int p2), (3, .int p3)] [.int (s bx 2), .int (s bx 0), .int p1] (N, hm_sh L g, s) _ Q
  refine hm_st hR (?_)
  show R 67 10 [(0, .ref bx), (1, .int p1), (2, .int p2), (3, .int p3)] [.int ((s bx 0) + (s bx 2)), .int p1] (N, hm_sh L g, s) _ Q
  refine hm_st hR ⟨fun c10 => ?_, fun c10 => ?_⟩
  · rw [if_pos c10] at hq
    show R 67 50 [(0, .ref bx), (1, .int p1), (2, .int p2), (3, .int p3)] [] (N, hm_sh L g, s) _ Q
    refine hm_st hR (?_)
    exact hm_st hR ⟨fun _ => Or.inl rfl, hq⟩
  · rw [if_neg c10] at hq
    show R 67 13 [(0, .ref bx), (1, .int p1), (2, .int p2), (3, .int p3)] [] (N, hm_sh L g, s) _ Q
    refine hm_st hR (hm_st hR (hm_st hR (hm_st hR (?_))))
    show R 67 17 [(0, .ref bx), (1, .int p1), (2, .int p2), (3, .int p3)] [.ref bx, .int (p1 + p3)] (N, hm_sh L g, s) _ Q
    refine hm_bxf hR hbk hb2 hbl (by rfl) ?_
    show R 67 20 [(0, .ref bx), (1, .int p1), (2, .int p2), (3, .int p3)] [.int (s bx 0), .int (p1 + p3)] (N, hm_sh L g, s) _ Q
    show R 67 20 [(0, .ref bx), (1, .int p1), (2, .int p2), (3, .int p3)] [.int (s bx 0), .int (p1 + p3)] (N, hm_sh L g, s) _ Q
    refine hm_st hR ⟨fun c20 => ?_, fun c20 => ?_⟩
    · rw [if_pos c20] at hq
      show R 67 50 [(0, .ref bx), (1, .int p1), (2, .int p2), (3, .int p3)] [] (N, hm_sh L g, s) _ Q
      refine hm_st hR (?_)
      exact hm_st hR ⟨fun _ => Or.inl rfl, hq⟩
    · rw [if_neg c20] at hq
      show R 67 23 [(0, .ref bx), (1, .int p1), (2, .int p2), (3, .int p3)] [] (N, hm_sh L g, s) _ Q
      refine hm_st hR (hm_st hR (?_))
      show R 67 25 [(0, .ref bx), (1, .int p1), (2, .int p2), (3, .int p3)] [.ref bx, .int p2] (N, hm_sh L g, s) _ Q
      refine hm_bxf hR hbk hb2 hbl (by rfl) ?_
      show R 67 28 [(0, .ref bx), (1, .int p1), (2, .int p2), (3, .int p3)] [.int (s bx 1), .int p2] (N, hm_sh L g, s) _ Q
      refine hm_st hR (?_)
      show R 67 29 [(0, .ref bx), (1, .int p1), (2, .int p2), (3, .int p3)] [.ref bx, .int (s bx 1), .int p2] (N, hm_sh L g, s) _ Q
      refine hm_bxf hR hbk hb2 hbl (by rfl) ?_
      show R 67 32 [(0, .ref bx), (1, .int p1), (2, .int p2), (3, .int p3)] [.int (s bx 3), .int (s bx 1), .int p2] (N, hm_sh L g, s) _ Q
      refine hm_st hR (?_)
      show R 67 33 [(0, .ref bx), (1, .int p1), (2, .int p2), (3, .int p3)] [.int ((s bx 1) + (s bx 3)), .int p2] (N, hm_sh L g, s) _ Q
      refine hm_st hR ⟨fun c33 => ?_, fun c33 => ?_⟩
      · rw [if_pos c33] at hq
        show R 67 50 [(0, .ref bx), (1, .int p1), (2, .int p2), (3, .int p3)] [] (N, hm_sh L g, s) _ Q
        refine hm_st hR (?_)
        exact hm_st hR ⟨fun _ => Or.inl rfl, hq⟩
      · rw [if_neg c33] at hq
        show R 67 36 [(0, .ref bx), (1, .int p1), (2, .int p2), (3, .int p3)] [] (N, hm_sh L g, s) _ Q
        refine hm_st hR (hm_st hR (hm_st hR (hm_st hR (?_))))
        show R 67 40 [(0, .ref bx), (1, .int p1), (2, .int p2), (3, .int p3)] [.ref bx, .int (p2 + p3)] (N, hm_sh L g, s) _ Q
        refine hm_bxf hR hbk hb2 hbl (by rfl) ?_
        show R 67 43 [(0, .ref bx), (1, .int p1), (2, .int p2), (3, .int p3)] [.int (s bx 1), .int (p2 + p3)] (N, hm_sh L g, s) _ Q
        show R 67 43 [(0, .ref bx), (1, .int p1), (2, .int p2), (3, .int p3)] [.int (s bx 1), .int (p2 + p3)] (N, hm_sh L g, s) _ Q
        suffices G : R 67 51 [(0, .ref bx), (1, .int p1), (2, .int p2), (3, .int p3)] [.int (if (p2 + p3) ≤ (s bx 1) then 0 else 1)] (N, hm_sh L g, s) b Q by
          show R 67 43 [(0, .ref bx), (1, .int p1), (2, .int p2), (3, .int p3)] [.int (s bx 1), .int (p2 + p3)] (N, hm_sh L g, s) _ Q
          refine hm_st hR ⟨fun c => ?_, fun c => ?_⟩
          · rw [if_pos c] at G; exact hm_st hR (G)
          · rw [if_neg c] at G; exact hm_st hR (hm_st hR (G))
        exact hm_st hR ⟨fun _ => (by split <;> first | exact Or.inl rfl | exact Or.inr rfl), hq⟩
def T_181_2 (aa : Nat) (nn : Nat) : Nat → hm_St → Int32 → Int32 → hm_St
  | 0, s, _, _ => s
  | n + 1, s, v1, v2 => (if (Int32.ofNat nn) ≤ v2 then s else (T_181_2 aa nn n (hm_w1 s aa (v2).toNatClampNeg v1) v1 (v2 + 1)))
/-- CurvekeyHouse$Row.fill(I)V -/
def T_181 (s : hm_St) (aa : Nat) (nn : Nat) (p1 : Int32) : hm_St := (T_181_2 aa nn (hm_df (Int32.ofNat nn) 0 + 1) s p1 0)
theorem N_181_2 (aa : Nat) (nn : Nat) {c j : Nat} (haa : c ≠ aa) : ∀ (n : Nat) (s : hm_St) (v0 v1 : Int32), (T_181_2 aa nn n s v0 v1) c j = s c j := by
  intro n
  induction n with
  | zero => intros; rfl
  | succ n ih =>
    intros
    unfold T_181_2
    repeat' split
    all_goals first | rfl | simp only [ih, hm_w1n haa]
theorem N_181 {c j : Nat} {aa nn : Nat} (haa : c ≠ aa) {s : hm_St} {p1 : Int32} : (T_181 s aa nn p1) c j = s c j := by
  unfold T_181
  repeat' split
  all_goals first | rfl | simp only [hm_w1n haa, N_181_2 _ _ haa]
set_option maxRecDepth 20000 in
theorem lp_181_2 {R : hm_R} (hR : hm_Cm R) {N L : Nat} {g : Nat → hm_Sh} {b : hm_B} {Q : hm_Q} (hN : 68 ≤ N) {rr aa nn : Nat} (hrk : (hm_sh L g rr).1 = 8) (hra : (hm_sh L g rr).2.2 0 = some aa) (hr2 : 2 ≤ rr) (hrl : rr < N) (hak : (hm_sh L g aa).1 = 1000) (han : (hm_sh L g aa).2.1 = nn) (ha2 : 2 ≤ aa) (hal : aa < N) (hnn : nn < 2 ^ 31) : ∀ (n : Nat) (s : hm_St) (v1 : Int32) (v2 : Int32), hm_df (Int32.ofNat nn) v2 < n → (hinv : 0 ≤ v2) → (hq : Q (.inr none) (N, hm_sh L g, (T_181_2 aa nn n s v1 v2))) → R 181 2 [(2, .int v2), (0, .ref rr), (1, .int v1)] [] (N, hm_sh L g, s) b Q := by
  intro n
  induction n with
  | zero => intro s v1 v2 hm hinv _; exact absurd hm (Nat.not_lt_zero _)
  | succ n ih =>
    intro s v1 v2 hm hinv hq
    unfold T_181_2 at hq
    refine hm_st hR (hm_st hR (?_))
    show R 181 4 [(2, .int v2), (0, .ref rr), (1, .int v1)] [.ref rr, .int v2] (N, hm_sh L g, s) _ Q
    refine hm_rwf hR hrk hra hr2 hrl (by rfl) ?_
    show R 181 7 [(2, .int v2), (0, .ref rr), (1, .int v1)] [.ref aa, .int v2] (N, hm_sh L g, s) _ Q
    show R 181 7 [(2, .int v2), (0, .ref rr), (1, .int v1)] [.ref aa, .int v2] (N, hm_sh L g, s) _ Q
    refine hm_aln hR hak han hal (by rfl) ?_
    show R 181 8 [(2, .int v2), (0, .ref rr), (1, .int v1)] [.int (Int32.ofNat nn), .int v2] (N, hm_sh L g, s) _ Q
    show R 181 8 [(2, .int v2), (0, .ref rr), (1, .int v1)] [.int (Int32.ofNat nn), .int v2] (N, hm_sh L g, s) _ Q
    refine hm_st hR ⟨fun c8 => ?_, fun c8 => ?_⟩
    · rw [if_pos c8] at hq
      show R 181 24 [(2, .int v2), (0, .ref rr), (1, .int v1)] [] (N, hm_sh L g, s) _ Q
      exact hm_st hR hq
    · rw [if_neg c8] at hq
      show R 181 11 [(2, .int v2), (0, .ref rr), (1, .int v1)] [] (N, hm_sh L g, s) _ Q
      refine hm_st hR (?_)
      show R 181 12 [(2, .int v2), (0, .ref rr), (1, .int v1)] [.ref rr] (N, hm_sh L g, s) _ Q
      refine hm_rwf hR hrk hra hr2 hrl (by rfl) ?_
      show R 181 15 [(2, .int v2), (0, .ref rr), (1, .int v1)] [.ref aa] (N, hm_sh L g, s) _ Q
      refine hm_st hR (hm_st hR (?_))
      show R 181 17 [(2, .int v2), (0, .ref rr), (1, .int v1)] [.int v1, .int v2, .ref aa] (N, hm_sh L g, s) _ Q
      refine hm_ast hR hak han ha2 hal (by rfl) (hm_vin (hm_nl hinv) c8 hnn) ?_
      show R 181 18 [(2, .int v2), (0, .ref rr), (1, .int v1)] [] (N, hm_sh L g, (hm_w1 s aa (v2).toNatClampNeg v1)) _ Q
      refine hm_st hR (hm_st hR (?_))
      show R 181 2 [(2, .int (v2 + 1)), (0, .ref rr), (1, .int v1)] [] (N, hm_sh L g, (hm_w1 s aa (v2).toNatClampNeg v1)) _ Q
      exact hm_lvS hR (by intro q hq; simp only [List.mem_cons, List.not_mem_nil, or_false] at hq ⊢; rcases hq with rfl | rfl | rfl <;> simp) (ih (hm_w1 s aa (v2).toNatClampNeg v1) v1 (v2 + 1) (hm_dcx c8 hm) (hm_inc0 hinv c8) hq)
set_option maxRecDepth 20000 in
theorem sp_181 {R : hm_R} (hR : hm_Cm R) {N L : Nat} {g : Nat → hm_Sh} {s : hm_St} {b : hm_B} {Q : hm_Q} (hN : 68 ≤ N) {rr aa nn : Nat} (hrk : (hm_sh L g rr).1 = 8) (hra : (hm_sh L g rr).2.2 0 = some aa) (hr2 : 2 ≤ rr) (hrl : rr < N) (hak : (hm_sh L g aa).1 = 1000) (han : (hm_sh L g aa).2.1 = nn) (ha2 : 2 ≤ aa) (hal : aa < N) (hnn : nn < 2 ^ 31) {p1 : Int32} (hq : Q (.inr none) (N, hm_sh L g, (T_181 s aa nn p1))) : R 181 0 (lv_args 0 [.ref rr, .int p1]) [] (N, hm_sh L g, s) b Q := by
  unfold T_181 at hq
  show R 181 0 [(0, .ref rr), (1, .int p1)] [] (N, hm_sh L g, s) _ Q
  refine hm_st hR (hm_st hR (?_))
  show R 181 2 [(2, .int 0), (0, .ref rr), (1, .int p1)] [] (N, hm_sh L g, s) _ Q
  exact lp_181_2 hR hN hrk hra hr2 hrl hak han ha2 hal hnn _ _ _ _ (Nat.lt_succ_self _) (by decide) hq
/-- CurvekeyHouse$Cells.clear(I)V -/
def T_69 (s : hm_St) (p1 : Int32) : hm_St := (T_181 (hm_w1 s 47 1 p1) 49 1365 0)
theorem N_69 {c j : Nat} (h47 : c ≠ 47) (h49 : c ≠ 49) {s : hm_St} {p1 : Int32} : (T_69 s p1) c j = s c j := by
  unfold T_69
  repeat' split
  all_goals first | rfl | simp only [hm_w1n h47, hm_w1n h49, N_181 h47, N_181 h49]
set_option maxRecDepth 20000 in
theorem sp_69 {R : hm_R} (hR : hm_Cm R) {N L : Nat} {g : Nat → hm_Sh} {s : hm_St} {b : hm_B} {Q : hm_Q} (hN : 68 ≤ N) {p1 : Int32} (hq : Q (.inr none) (N, hm_sh L g, (T_69 s p1))) : R 69 0 (lv_args 0 [.ref 47, .int p1]) [] (N, hm_sh L g, s) b Q := by
  unfold T_69 at hq
  show R 69 0 [(0, .ref 47), (1, .int p1)] [] (N, hm_sh L g, s) _ Q
  refine hm_st hR (hm_st hR (hm_st hR ⟨rfl, rfl, hm_le rfl, (hm_ltN hN rfl), ?_⟩))
  show R 69 5 [(0, .ref 47), (1, .int p1)] [] (N, hm_sh L g, (hm_w1 s 47 1 p1)) _ Q
  refine hm_st hR (hm_st hR ⟨rfl, hm_le rfl, (hm_ltN hN rfl), hm_st hR (?_)⟩)
  refine hm_st hR ⟨hm_le rfl, rfl, (hm_le rfl), (hm_ltN hN rfl), hm_le rfl, hm_le rfl, (0, 0), Nat.zero_le _, Nat.zero_le _, ?_⟩
  refine sp_181 hR hN (rr := 48) (aa := 49) (nn := 1365) rfl rfl (hm_le rfl) (hm_ltN hN rfl) rfl rfl (hm_le rfl) (hm_ltN hN rfl) (by decide) ?_
  show R 69 13 [(0, .ref 47), (1, .int p1)] [] (N, hm_sh L g, (T_181 (hm_w1 s 47 1 p1) 49 1365 0)) _ Q
  exact hm_st hR hq
/-- CurvekeyHouse$Cells.countIn(II)I -/
def T_75 (s : hm_St) (p1 : Int32) (p2 : Int32) : Int32 := (T_178 s 49 1365 (T_73 s p1 p2))
set_option maxRecDepth 20000 in
theorem sp_75 {R : hm_R} (hR : hm_Cm R) {N L : Nat} {g : Nat → hm_Sh} {s : hm_St} {b : hm_B} {Q : hm_Q} (hN : 68 ≤ N) {p1 : Int32} {p2 : Int32} (hq : Q (.inr (some (.int (T_75 s p1 p2)))) (N, hm_sh L g, s)) : R 75 0 (lv_args 0 [.ref 47, .int p1, .int p2]) [] (N, hm_sh L g, s) b Q := by
  unfold T_75 at hq
  show R 75 0 [(0, .ref 47), (1, .int p1), (2, .int p2)] [] (N, hm_sh L g, s) _ Q
  refine hm_st hR (hm_st hR ⟨rfl, hm_le rfl, (hm_ltN hN rfl), hm_st hR (hm_st hR (?_))⟩)
  refine hm_st hR ⟨hm_le rfl, hm_le rfl, hm_le rfl, (0, 0), Nat.zero_le _, Nat.zero_le _, ?_⟩
  refine sp_73 hR hN ?_
  show R 75 9 [(0, .ref 47), (1, .int p1), (2, .int p2)] [.int (T_73 s p1 p2), .ref 48] (N, hm_sh L g, s) _ Q
  refine hm_st hR ⟨hm_le rfl, rfl, (hm_le rfl), (hm_ltN hN rfl), hm_le rfl, hm_le rfl, (0, 0), Nat.zero_le _, Nat.zero_le _, ?_⟩
  refine sp_178 hR hN (rr := 48) (aa := 49) (nn := 1365) rfl rfl (hm_le rfl) (hm_ltN hN rfl) rfl rfl (hm_le rfl) (hm_ltN hN rfl) (by decide) ?_
  show R 75 12 [(0, .ref 47), (1, .int p1), (2, .int p2)] [.int (T_178 s 49 1365 (T_73 s p1 p2))] (N, hm_sh L g, s) _ Q
  exact hm_st hR ⟨fun z => absurd z (by decide), hq⟩
def T_77_6 : Nat → hm_St → Int32 → Int32 → Int32 → Int32 → Int32
  | 0, s, _, _, _, _ => 0
  | n + 1, s, v1, v2, v3, v4 => (if v4 < 0 then (-1) else (if (T_75 s v4 (T_74 s v4 v1 v2)) < v3 then (T_77_6 n s v1 v2 v3 (v4 + (-1))) else v4))
/-- CurvekeyHouse$Cells.deepestWith(III)I -/
def T_77 (s : hm_St) (p1 : Int32) (p2 : Int32) (p3 : Int32) : Int32 := (T_77_6 (((s 47 1).toInt + 1).toNat + 1) s p1 p2 p3 (s 47 1))
set_option maxRecDepth 20000 in
theorem lp_77_6 {R : hm_R} (hR : hm_Cm R) {N L : Nat} {g : Nat → hm_Sh} {b : hm_B} {Q : hm_Q} (hN : 68 ≤ N) : ∀ (n : Nat) (s : hm_St) (v1 : Int32) (v2 : Int32) (v3 : Int32) (v4 : Int32), (v4.toInt + 1).toNat < n → (hq : Q (.inr (some (.int (T_77_6 n s v1 v2 v3 v4)))) (N, hm_sh L g, s)) → R 77 6 [(4, .int v4), (0, .ref 47), (1, .int v1), (2, .int v2), (3, .int v3)] [] (N, hm_sh L g, s) b Q := by
  intro n
  induction n with
  | zero => intro s v1 v2 v3 v4 hm _; exact absurd hm (Nat.not_lt_zero _)
  | succ n ih =>
    intro s v1 v2 v3 v4 hm hq
    unfold T_77_6 at hq
    refine hm_st hR (?_)
    show R 77 8 [(4, .int v4), (0, .ref 47), (1, .int v1), (2, .int v2), (3, .int v3)] [.int v4] (N, hm_sh L g, s) _ Q
    refine hm_st hR ⟨fun c8 => ?_, fun c8 => ?_⟩
    · rw [if_pos c8] at hq
      show R 77 38 [(4, .int v4), (0, .ref 47), (1, .int v1), (2, .int v2), (3, .int v3)] [] (N, hm_sh L g, s) _ Q
      refine hm_st hR (?_)
      exact hm_st hR ⟨fun z => absurd z (by decide), hq⟩
    · rw [if_neg c8] at hq
      show R 77 11 [(4, .int v4), (0, .ref 47), (1, .int v1), (2, .int v2), (3, .int v3)] [] (N, hm_sh L g, s) _ Q
      refine hm_st hR (hm_st hR (hm_st hR (hm_st hR (hm_st hR (hm_st hR (?_))))))
      refine hm_st hR ⟨hm_le rfl, rfl, (hm_le rfl), (hm_ltN hN rfl), hm_le rfl, hm_le rfl, (0, 0), Nat.zero_le _, Nat.zero_le _, ?_⟩
      refine sp_74 hR hN ?_
      show R 77 22 [(4, .int v4), (0, .ref 47), (1, .int v1), (2, .int v2), (3, .int v3)] [.int (T_74 s v4 v1 v2), .int v4, .ref 47] (N, hm_sh L g, s) _ Q
      refine hm_st hR ⟨hm_le rfl, rfl, (hm_le rfl), (hm_ltN hN rfl), hm_le rfl, hm_le rfl, (0, 0), Nat.zero_le _, Nat.zero_le _, ?_⟩
      refine sp_75 hR hN ?_
      show R 77 25 [(4, .int v4), (0, .ref 47), (1, .int v1), (2, .int v2), (3, .int v3)] [.int (T_75 s v4 (T_74 s v4 v1 v2))] (N, hm_sh L g, s) _ Q
      refine hm_st hR (?_)
      show R 77 26 [(4, .int v4), (0, .ref 47), (1, .int v1), (2, .int v2), (3, .int v3)] [.int v3, .int (T_75 s v4 (T_74 s v4 v1 v2))] (N, hm_sh L g, s) _ Q
      refine hm_st hR ⟨fun c26 => ?_, fun c26 => ?_⟩
      · rw [if_pos c26] at hq
        show R 77 32 [(4, .int v4), (0, .ref 47), (1, .int v1), (2, .int v2), (3, .int v3)] [] (N, hm_sh L g, s) _ Q
        refine hm_st hR (hm_st hR (?_))
        show R 77 6 [(4, .int (v4 + (-1))), (0, .ref 47), (1, .int v1), (2, .int v2), (3, .int v3)] [] (N, hm_sh L g, s) _ Q
        exact hm_lvS hR (by intro q hq; simp only [List.mem_cons, List.not_mem_nil, or_false] at hq ⊢; rcases hq with rfl | rfl | rfl | rfl | rfl <;> simp) (ih s v1 v2 v3 (v4 + (-1)) (hm_dcn c8 hm) hq)
      · rw [if_neg c26] at hq
        show R 77 29 [(4, .int v4), (0, .ref 47), (1, .int v1), (2, .int v2), (3, .int v3)] [] (N, hm_sh L g, s) _ Q
        refine hm_st hR (?_)
        exact hm_st hR ⟨fun z => absurd z (by decide), hq⟩
set_option maxRecDepth 20000 in
theorem sp_77 {R : hm_R} (hR : hm_Cm R) {N L : Nat} {g : Nat → hm_Sh} {s : hm_St} {b : hm_B} {Q : hm_Q} (hN : 68 ≤ N) {p1 : Int32} {p2 : Int32} {p3 : Int32} (hq : Q (.inr (some (.int (T_77 s p1 p2 p3)))) (N, hm_sh L g, s)) : R 77 0 (lv_args 0 [.ref 47, .int p1, .int p2, .int p3]) [] (N, hm_sh L g, s) b Q := by
  unfold T_77 at hq
  show R 77 0 [(0, .ref 47), (1, .int p1), (2, .int p2), (3, .int p3)] [] (N, hm_sh L g, s) _ Q
  refine hm_st hR (hm_st hR ⟨rfl, hm_le rfl, (hm_ltN hN rfl), hm_st hR (?_)⟩)
  show R 77 6 [(4, .int (s 47 1)), (0, .ref 47), (1, .int p1), (2, .int p2), (3, .int p3)] [] (N, hm_sh L g, s) _ Q
  exact lp_77_6 hR hN _ _ _ _ _ _ (Nat.lt_succ_self _) hq
/-- CurvekeyHouse$Cells.columnOf(II)I -/
def T_79 (s : hm_St) (p1 : Int32) (p2 : Int32) : Int32 := (p2 &&& ((1 <<< (p1 &&& 31)) - 1))
set_option maxRecDepth 20000 in
theorem sp_79 {R : hm_R} (hR : hm_Cm R) {N L : Nat} {g : Nat → hm_Sh} {s : hm_St} {b : hm_B} {Q : hm_Q} (hN : 68 ≤ N) {p1 : Int32} {p2 : Int32} (hq : Q (.inr (some (.int (T_79 s p1 p2)))) (N, hm_sh L g, s)) : R 79 0 (lv_args 0 [.int p1, .int p2]) [] (N, hm_sh L g, s) b Q := by
  unfold T_79 at hq
  show R 79 0 [(0, .int p1), (1, .int p2)] [] (N, hm_sh L g, s) _ Q
  refine hm_st hR (hm_st hR (hm_st hR (hm_st hR (hm_st hR (hm_st hR (hm_st hR (?_)))))))
  exact hm_st hR ⟨fun z => absurd z (by decide), hq⟩
/-- CurvekeyHouse$Cells.parentOf(II)I -/
def T_80 (s : hm_St) (p1 : Int32) (p2 : Int32) : Int32 := ((((p2 >>> (p1 &&& 31)) >>> (1 &&& 31)) <<< ((p1 - 1) &&& 31)) + ((T_79 s p1 p2) >>> (1 &&& 31)))
set_option maxRecDepth 20000 in
theorem sp_80 {R : hm_R} (hR : hm_Cm R) {N L : Nat} {g : Nat → hm_Sh} {s : hm_St} {b : hm_B} {Q : hm_Q} (hN : 68 ≤ N) {p1 : Int32} {p2 : Int32} (hq : Q (.inr (some (.int (T_80 s p1 p2)))) (N, hm_sh L g, s)) : R 80 0 (lv_args 0 [.int p1, .int p2]) [] (N, hm_sh L g, s) b Q := by
  unfold T_80 at hq
  show R 80 0 [(0, .int p1), (1, .int p2)] [] (N, hm_sh L g, s) _ Q
  refine hm_st hR (hm_st hR (hm_st hR (hm_st hR (hm_st hR (hm_st hR (hm_st hR (hm_st hR (hm_st hR (hm_st hR (hm_st hR (?_)))))))))))
  refine hm_st hR ⟨hm_le rfl, hm_le rfl, hm_le rfl, (0, 0), Nat.zero_le _, Nat.zero_le _, ?_⟩
  refine sp_79 hR hN ?_
  show R 80 14 [(0, .int p1), (1, .int p2)] [.int (T_79 s p1 p2), .int (((p2 >>> (p1 &&& 31)) >>> (1 &&& 31)) <<< ((p1 - 1) &&& 31))] (N, hm_sh L g, s) _ Q
  refine hm_st hR (hm_st hR (hm_st hR (?_)))
  exact hm_st hR ⟨fun z => absurd z (by decide), hq⟩
/-- CurvekeyHouse$Cells.isLeaf(III)Z -/
def T_78 (s : hm_St) (p1 : Int32) (p2 : Int32) (p3 : Int32) : Int32 := (if p1 = 0 then (if 1 = 0 then 0 else (if p1 = (s 47 1) then 1 else (if p3 < (T_75 s p1 p2) then 0 else 1))) else (if (if (T_75 s (p1 - 1) (T_80 s p1 p2)) ≤ p3 then 0 else 1) = 0 then 0 else (if p1 = (s 47 1) then 1 else (if p3 < (T_75 s p1 p2) then 0 else 1))))
theorem B_78 (s : hm_St) (p1 : Int32) (p2 : Int32) (p3 : Int32) : T_78 s p1 p2 p3 = 0 ∨ T_78 s p1 p2 p3 = 1 := by
  unfold T_78
  repeat' split
  all_goals first | exact Or.inl rfl | exact Or.inr rfl
set_option maxRecDepth 20000 in
theorem sp_78 {R : hm_R} (hR : hm_Cm R) {N L : Nat} {g : Nat → hm_Sh} {s : hm_St} {b : hm_B} {Q : hm_Q} (hN : 68 ≤ N) {p1 : Int32} {p2 : Int32} {p3 : Int32} (hq : Q (.inr (some (.int (T_78 s p1 p2 p3)))) (N, hm_sh L g, s)) : R 78 0 (lv_args 0 [.ref 47, .int p1, .int p2, .int p3]) [] (N, hm_sh L g, s) b Q := by
  unfold T_78 at hq
  show R 78 0 [(0, .ref 47), (1, .int p1), (2, .int p2), (3, .int p3)] [] (N, hm_sh L g, s) _ Q
  refine hm_st hR (?_)
  show R 78 1 [(0, .ref 47), (1, .int p1), (2, .int p2), (3, .int p3)] [.int p1] (N, hm_sh L g, s) _ Q
  refine hm_st hR ⟨fun c1 => ?_, fun c1 => ?_⟩
  · rw [if_pos c1] at hq
    show R 78 20 [(0, .ref 47), (1, .int p1), (2, .int p2), (3, .int p3)] [] (N, hm_sh L g, s) _ Q
    refine hm_st hR (hm_st hR (hm_st hR (hm_st hR (?_))))
    show R 78 29 [(4, .int 1), (0, .ref 47), (1, .int p1), (2, .int p2), (3, .int p3)] [.int 1] (N, hm_sh L g, s) _ Q
    refine hm_st hR ⟨fun c29 => ?_, fun c29 => ?_⟩
    · rw [if_pos c29] at hq
      show R 78 54 [(4, .int 1), (0, .ref 47), (1, .int p1), (2, .int p2), (3, .int p3)] [] (N, hm_sh L g, s) _ Q
      refine hm_st hR (?_)
      exact hm_st hR ⟨fun _ => Or.inl rfl, hq⟩
    · rw [if_neg c29] at hq
      show R 78 32 [(4, .int 1), (0, .ref 47), (1, .int p1), (2, .int p2), (3, .int p3)] [] (N, hm_sh L g, s) _ Q
      refine hm_st hR (hm_st hR (hm_st hR ⟨rfl, hm_le rfl, (hm_ltN hN rfl), ?_⟩))
      show R 78 37 [(4, .int 1), (0, .ref 47), (1, .int p1), (2, .int p2), (3, .int p3)] [.int (s 47 1), .int p1] (N, hm_sh L g, s) _ Q
      refine hm_st hR ⟨fun c37 => ?_, fun c37 => ?_⟩
      · rw [if_pos c37] at hq
        show R 78 50 [(4, .int 1), (0, .ref 47), (1, .int p1), (2, .int p2), (3, .int p3)] [] (N, hm_sh L g, s) _ Q
        refine hm_st hR (hm_st hR (?_))
        exact hm_st hR ⟨fun _ => Or.inr rfl, hq⟩
      · rw [if_neg c37] at hq
        show R 78 40 [(4, .int 1), (0, .ref 47), (1, .int p1), (2, .int p2), (3, .int p3)] [] (N, hm_sh L g, s) _ Q
        refine hm_st hR (hm_st hR (hm_st hR (?_)))
        refine hm_st hR ⟨hm_le rfl, rfl, (hm_le rfl), (hm_ltN hN rfl), hm_le rfl, hm_le rfl, (0, 0), Nat.zero_le _, Nat.zero_le _, ?_⟩
        refine sp_75 hR hN ?_
        show R 78 46 [(4, .int 1), (0, .ref 47), (1, .int p1), (2, .int p2), (3, .int p3)] [.int (T_75 s p1 p2)] (N, hm_sh L g, s) _ Q
        refine hm_st hR (?_)
        show R 78 47 [(4, .int 1), (0, .ref 47), (1, .int p1), (2, .int p2), (3, .int p3)] [.int p3, .int (T_75 s p1 p2)] (N, hm_sh L g, s) _ Q
        suffices G : R 78 55 [(4, .int 1), (0, .ref 47), (1, .int p1), (2, .int p2), (3, .int p3)] [.int (if p3 < (T_75 s p1 p2) then 0 else 1)] (N, hm_sh L g, s) (b.1 - 0, b.2 - 0) Q by
          show R 78 47 [(4, .int 1), (0, .ref 47), (1, .int p1), (2, .int p2), (3, .int p3)] [.int p3, .int (T_75 s p1 p2)] (N, hm_sh L g, s) _ Q
          refine hm_st hR ⟨fun c => ?_, fun c => ?_⟩
          · rw [if_pos c] at G; exact hm_st hR (G)
          · rw [if_neg c] at G; exact hm_st hR (hm_st hR (G))
        exact hm_st hR ⟨fun _ => (by split <;> first | exact Or.inl rfl | exact Or.inr rfl), hq⟩
  · rw [if_neg c1] at hq
    show R 78 4 [(0, .ref 47), (1, .int p1), (2, .int p2), (3, .int p3)] [] (N, hm_sh L g, s) _ Q
    refine hm_st hR (hm_st hR (hm_st hR (hm_st hR (hm_st hR (hm_st hR (?_))))))
    refine hm_st hR ⟨hm_le rfl, hm_le rfl, hm_le rfl, (0, 0), Nat.zero_le _, Nat.zero_le _, ?_⟩
    refine sp_80 hR hN ?_
    show R 78 13 [(0, .ref 47), (1, .int p1), (2, .int p2), (3, .int p3)] [.int (T_80 s p1 p2), .int (p1 - 1), .ref 47] (N, hm_sh L g, s) _ Q
    refine hm_st hR ⟨hm_le rfl, rfl, (hm_le rfl), (hm_ltN hN rfl), hm_le rfl, hm_le rfl, (0, 0), Nat.zero_le _, Nat.zero_le _, ?_⟩
    refine sp_75 hR hN ?_
    show R 78 16 [(0, .ref 47), (1, .int p1), (2, .int p2), (3, .int p3)] [.int (T_75 s (p1 - 1) (T_80 s p1 p2))] (N, hm_sh L g, s) _ Q
    refine hm_st hR (?_)
    show R 78 17 [(0, .ref 47), (1, .int p1), (2, .int p2), (3, .int p3)] [.int p3, .int (T_75 s (p1 - 1) (T_80 s p1 p2))] (N, hm_sh L g, s) _ Q
    suffices G : R 78 25 [(0, .ref 47), (1, .int p1), (2, .int p2), (3, .int p3)] [.int (if (T_75 s (p1 - 1) (T_80 s p1 p2)) ≤ p3 then 0 else 1)] (N, hm_sh L g, s) ((b.1 - 0, b.2 - 0).1 - 0, (b.1 - 0, b.2 - 0).2 - 0) Q by
      show R 78 17 [(0, .ref 47), (1, .int p1), (2, .int p2), (3, .int p3)] [.int p3, .int (T_75 s (p1 - 1) (T_80 s p1 p2))] (N, hm_sh L g, s) _ Q
      refine hm_st hR ⟨fun c => ?_, fun c => ?_⟩
      · rw [if_pos c] at G; exact hm_st hR (G)
      · rw [if_neg c] at G; exact hm_st hR (hm_st hR (G))
    refine hm_st hR (hm_st hR (?_))
    show R 78 29 [(4, .int (if (T_75 s (p1 - 1) (T_80 s p1 p2)) ≤ p3 then 0 else 1)), (0, .ref 47), (1, .int p1), (2, .int p2), (3, .int p3)] [.int (if (T_75 s (p1 - 1) (T_80 s p1 p2)) ≤ p3 then 0 else 1)] (N, hm_sh L g, s) _ Q
    refine hm_st hR ⟨fun c29 => ?_, fun c29 => ?_⟩
    · rw [if_pos c29] at hq
      show R 78 54 [(4, .int (if (T_75 s (p1 - 1) (T_80 s p1 p2)) ≤ p3 then 0 else 1)), (0, .ref 47), (1, .int p1), (2, .int p2), (3, .int p3)] [] (N, hm_sh L g, s) _ Q
      refine hm_st hR (?_)
      exact hm_st hR ⟨fun _ => Or.inl rfl, hq⟩
    · rw [if_neg c29] at hq
      show R 78 32 [(4, .int (if (T_75 s (p1 - 1) (T_80 s p1 p2)) ≤ p3 then 0 else 1)), (0, .ref 47), (1, .int p1), (2, .int p2), (3, .int p3)] [] (N, hm_sh L g, s) _ Q
      refine hm_st hR (hm_st hR (hm_st hR ⟨rfl, hm_le rfl, (hm_ltN hN rfl), ?_⟩))
      show R 78 37 [(4, .int (if (T_75 s (p1 - 1) (T_80 s p1 p2)) ≤ p3 then 0 else 1)), (0, .ref 47), (1, .int p1), (2, .int p2), (3, .int p3)] [.int (s 47 1), .int p1] (N, hm_sh L g, s) _ Q
      refine hm_st hR ⟨fun c37 => ?_, fun c37 => ?_⟩
      · rw [if_pos c37] at hq
        show R 78 50 [(4, .int (if (T_75 s (p1 - 1) (T_80 s p1 p2)) ≤ p3 then 0 else 1)), (0, .ref 47), (1, .int p1), (2, .int p2), (3, .int p3)] [] (N, hm_sh L g, s) _ Q
        refine hm_st hR (hm_st hR (?_))
        exact hm_st hR ⟨fun _ => Or.inr rfl, hq⟩
      · rw [if_neg c37] at hq
        show R 78 40 [(4, .int (if (T_75 s (p1 - 1) (T_80 s p1 p2)) ≤ p3 then 0 else 1)), (0, .ref 47), (1, .int p1), (2, .int p2), (3, .int p3)] [] (N, hm_sh L g, s) _ Q
        refine hm_st hR (hm_st hR (hm_st hR (?_)))
        refine hm_st hR ⟨hm_le rfl, rfl, (hm_le rfl), (hm_ltN hN rfl), hm_le rfl, hm_le rfl, (0, 0), Nat.zero_le _, Nat.zero_le _, ?_⟩
        refine sp_75 hR hN ?_
        show R 78 46 [(4, .int (if (T_75 s (p1 - 1) (T_80 s p1 p2)) ≤ p3 then 0 else 1)), (0, .ref 47), (1, .int p1), (2, .int p2), (3, .int p3)] [.int (T_75 s p1 p2)] (N, hm_sh L g, s) _ Q
        refine hm_st hR (?_)
        show R 78 47 [(4, .int (if (T_75 s (p1 - 1) (T_80 s p1 p2)) ≤ p3 then 0 else 1)), (0, .ref 47), (1, .int p1), (2, .int p2), (3, .int p3)] [.int p3, .int (T_75 s p1 p2)] (N, hm_sh L g, s) _ Q
        suffices G : R 78 55 [(4, .int (if (T_75 s (p1 - 1) (T_80 s p1 p2)) ≤ p3 then 0 else 1)), (0, .ref 47), (1, .int p1), (2, .int p2), (3, .int p3)] [.int (if p3 < (T_75 s p1 p2) then 0 else 1)] (N, hm_sh L g, s) (((b.1 - 0, b.2 - 0).1 - 0, (b.1 - 0, b.2 - 0).2 - 0).1 - 0, ((b.1 - 0, b.2 - 0).1 - 0, (b.1 - 0, b.2 - 0).2 - 0).2 - 0) Q by
          show R 78 47 [(4, .int (if (T_75 s (p1 - 1) (T_80 s p1 p2)) ≤ p3 then 0 else 1)), (0, .ref 47), (1, .int p1), (2, .int p2), (3, .int p3)] [.int p3, .int (T_75 s p1 p2)] (N, hm_sh L g, s) _ Q
          refine hm_st hR ⟨fun c => ?_, fun c => ?_⟩
          · rw [if_pos c] at G; exact hm_st hR (G)
          · rw [if_neg c] at G; exact hm_st hR (hm_st hR (G))
        exact hm_st hR ⟨fun _ => (by split <;> first | exact Or.inl rfl | exact Or.inr rfl), hq⟩
def T_81_26 (O : hm_St → Int32 → Int32 → Int32 → Int32) (bx : Nat) : Nat → hm_St → Int32 → Int32 → Int32 → Int32 → Int32 → Int32
  | 0, s, _, _, _, _, _ => 0
  | n + 1, s, v2, v3, v4, v5, v6 => (if (T_72 s v4) ≤ v6 then (O s v2 v3 (v4 + 1)) else (if (T_78 s v4 v6 v2) = 0 then (T_81_26 O bx n s v2 v3 v4 v5 (v6 + 1)) else (if (T_67 s bx ((T_79 s v4 v6) <<< (v5 &&& 31)) ((v6 >>> (v4 &&& 31)) <<< (v5 &&& 31)) (1 <<< (v5 &&& 31))) = 0 then (T_81_26 O bx n s v2 v3 v4 v5 (v6 + 1)) else (T_81_26 O bx n s v2 (v3 + 1) v4 v5 (v6 + 1)))))
def T_81_5 (bx : Nat) : Nat → hm_St → Int32 → Int32 → Int32 → Int32
  | 0, s, _, _, _ => 0
  | n + 1, s, v2, v3, v4 => (if (s 47 1) < v4 then v3 else (T_81_26 (fun s v2 v3 v4 => T_81_5 bx n s v2 v3 v4) bx (hm_df (T_72 s v4) 0 + 1) s v2 v3 v4 ((s 47 1) - v4) 0))
/-- CurvekeyHouse$Cells.leavesIn(LCurvekeyHouse$Box;I)I -/
def T_81 (s : hm_St) (bx : Nat) (p2 : Int32) : Int32 := (T_81_5 bx (hm_df1 (s 47 1) 0 + 1) s p2 0 0)
set_option maxRecDepth 20000 in
theorem lp_81_26 {R : hm_R} (hR : hm_Cm R) {N L : Nat} {g : Nat → hm_Sh} {b : hm_B} {Q : hm_Q} (hN : 68 ≤ N) {bx : Nat} (hbk : (hm_sh L g bx).1 = 0) (hb2 : 2 ≤ bx) (hbl : bx < N) {O : hm_St → Int32 → Int32 → Int32 → Int32} {nO : Nat} (hO : ∀ (s : hm_St) (v2 : Int32) (v3 : Int32) (v4 : Int32), hm_df1 (s 47 1) v4 < nO ∧ s 47 1 < 100000 → (Q (.inr (some (.int (O s v2 v3 v4)))) (N, hm_sh L g, s)) → R 81 5 [(4, .int v4), (3, .int v3), (0, .ref 47), (1, .ref bx), (2, .int v2)] [] (N, hm_sh L g, s) b Q) : ∀ (n : Nat) (s : hm_St) (v2 : Int32) (v3 : Int32) (v4 : Int32) (v5 : Int32) (v6 : Int32), hm_df (T_72 s v4) v6 < n → (hPO : hm_df1 (s 47 1) (v4 + 1) < nO ∧ s 47 1 < 100000) → (hq : Q (.inr (some (.int (T_81_26 O bx n s v2 v3 v4 v5 v6)))) (N, hm_sh L g, s)) → R 81 26 [(6, .int v6), (5, .int v5), (4, .int v4), (3, .int v3), (0, .ref 47), (1, .ref bx), (2, .int v2)] [] (N, hm_sh L g, s) b Q := by
  intro n
  induction n with
  | zero => intro s v2 v3 v4 v5 v6 hm hPO _; exact absurd hm (Nat.not_lt_zero _)
  | succ n ih =>
    intro s v2 v3 v4 v5 v6 hm hPO hq
    unfold T_81_26 at hq
    refine hm_st hR (hm_st hR (?_))
    refine hm_st hR ⟨hm_le rfl, hm_le rfl, hm_le rfl, (0, 0), Nat.zero_le _, Nat.zero_le _, ?_⟩
    refine sp_72 hR hN ?_
    show R 81 33 [(6, .int v6), (5, .int v5), (4, .int v4), (3, .int v3), (0, .ref 47), (1, .ref bx), (2, .int v2)] [.int (T_72 s v4), .int v6] (N, hm_sh L g, s) _ Q
    show R 81 33 [(6, .int v6), (5, .int v5), (4, .int v4), (3, .int v3), (0, .ref 47), (1, .ref bx), (2, .int v2)] [.int (T_72 s v4), .int v6] (N, hm_sh L g, s) _ Q
    refine hm_st hR ⟨fun c33 => ?_, fun c33 => ?_⟩
    · rw [if_pos c33] at hq
      show R 81 94 [(6, .int v6), (5, .int v5), (4, .int v4), (3, .int v3), (0, .ref 47), (1, .ref bx), (2, .int v2)] [] (N, hm_sh L g, s) _ Q
      refine hm_st hR (hm_st hR (?_))
      show R 81 5 [(4, .int (v4 + 1)), (6, .int v6), (5, .int v5), (3, .int v3), (0, .ref 47), (1, .ref bx), (2, .int v2)] [] (N, hm_sh L g, s) _ Q
      exact hm_lvS hR (by intro q hq; simp only [List.mem_cons, List.not_mem_nil, or_false] at hq ⊢; rcases hq with rfl | rfl | rfl | rfl | rfl <;> simp) (hO s v2 v3 (v4 + 1) hPO hq)
    · rw [if_neg c33] at hq
      show R 81 36 [(6, .int v6), (5, .int v5), (4, .int v4), (3, .int v3), (0, .ref 47), (1, .ref bx), (2, .int v2)] [] (N, hm_sh L g, s) _ Q
      refine hm_st hR (hm_st hR (?_))
      refine hm_st hR ⟨hm_le rfl, hm_le rfl, hm_le rfl, (0, 0), Nat.zero_le _, Nat.zero_le _, ?_⟩
      refine sp_79 hR hN ?_
      show R 81 43 [(6, .int v6), (5, .int v5), (4, .int v4), (3, .int v3), (0, .ref 47), (1, .ref bx), (2, .int v2)] [.int (T_79 s v4 v6)] (N, hm_sh L g, s) _ Q
      refine hm_st hR (hm_st hR (hm_st hR (hm_st hR (hm_st hR (hm_st hR (hm_st hR (hm_st hR (hm_st hR (hm_st hR (hm_st hR (hm_st hR (hm_st hR (?_)))))))))))))
      refine hm_st hR ⟨hm_le rfl, rfl, (hm_le rfl), (hm_ltN hN rfl), hm_le rfl, hm_le rfl, (0, 0), Nat.zero_le _, Nat.zero_le _, ?_⟩
      refine sp_78 hR hN ?_
      show R 81 67 [(8, .int ((v6 >>> (v4 &&& 31)) <<< (v5 &&& 31))), (7, .int ((T_79 s v4 v6) <<< (v5 &&& 31))), (6, .int v6), (5, .int v5), (4, .int v4), (3, .int v3), (0, .ref 47), (1, .ref bx), (2, .int v2)] [.int (T_78 s v4 v6 v2)] (N, hm_sh L g, s) _ Q
      show R 81 67 [(8, .int ((v6 >>> (v4 &&& 31)) <<< (v5 &&& 31))), (7, .int ((T_79 s v4 v6) <<< (v5 &&& 31))), (6, .int v6), (5, .int v5), (4, .int v4), (3, .int v3), (0, .ref 47), (1, .ref bx), (2, .int v2)] [.int (T_78 s v4 v6 v2)] (N, hm_sh L g, s) _ Q
      refine hm_st hR ⟨fun c67 => ?_, fun c67 => ?_⟩
      · rw [if_pos c67] at hq
        show R 81 88 [(8, .int ((v6 >>> (v4 &&& 31)) <<< (v5 &&& 31))), (7, .int ((T_79 s v4 v6) <<< (v5 &&& 31))), (6, .int v6), (5, .int v5), (4, .int v4), (3, .int v3), (0, .ref 47), (1, .ref bx), (2, .int v2)] [] (N, hm_sh L g, s) _ Q
        refine hm_st hR (hm_st hR (?_))
        show R 81 26 [(6, .int (v6 + 1)), (8, .int ((v6 >>> (v4 &&& 31)) <<< (v5 &&& 31))), (7, .int ((T_79 s v4 v6) <<< (v5 &&& 31))), (5, .int v5), (4, .int v4), (3, .int v3), (0, .ref 47), (1, .ref bx), (2, .int v2)] [] (N, hm_sh L g, s) _ Q
        exact hm_lvS hR (by intro q hq; simp only [List.mem_cons, List.not_mem_nil, or_false] at hq ⊢; rcases hq with rfl | rfl | rfl | rfl | rfl | rfl | rfl <;> simp) (ih s v2 v3 v4 v5 (v6 + 1) (hm_dcx c33 hm) hPO hq)
      · rw [if_neg c67] at hq
        show R 81 70 [(8, .int ((v6 >>> (v4 &&& 31)) <<< (v5 &&& 31))), (7, .int ((T_79 s v4 v6) <<< (v5 &&& 31))), (6, .int v6), (5, .int v5), (4, .int v4), (3, .int v3), (0, .ref 47), (1, .ref bx), (2, .int v2)] [] (N, hm_sh L g, s) _ Q
        refine hm_st hR (hm_st hR (hm_st hR (hm_st hR (hm_st hR (hm_st hR (?_))))))
        refine hm_st hR ⟨hm_le rfl, hbk, hb2, hbl, hm_le rfl, hm_le rfl, (0, 0), Nat.zero_le _, Nat.zero_le _, ?_⟩
        refine sp_67 hR hN hbk hb2 hbl ?_
        show R 81 82 [(8, .int ((v6 >>> (v4 &&& 31)) <<< (v5 &&& 31))), (7, .int ((T_79 s v4 v6) <<< (v5 &&& 31))), (6, .int v6), (5, .int v5), (4, .int v4), (3, .int v3), (0, .ref 47), (1, .ref bx), (2, .int v2)] [.int (T_67 s bx ((T_79 s v4 v6) <<< (v5 &&& 31)) ((v6 >>> (v4 &&& 31)) <<< (v5 &&& 31)) (1 <<< (v5 &&& 31)))] (N, hm_sh L g, s) _ Q
        show R 81 82 [(8, .int ((v6 >>> (v4 &&& 31)) <<< (v5 &&& 31))), (7, .int ((T_79 s v4 v6) <<< (v5 &&& 31))), (6, .int v6), (5, .int v5), (4, .int v4), (3, .int v3), (0, .ref 47), (1, .ref bx), (2, .int v2)] [.int (T_67 s bx ((T_79 s v4 v6) <<< (v5 &&& 31)) ((v6 >>> (v4 &&& 31)) <<< (v5 &&& 31)) (1 <<< (v5 &&& 31)))] (N, hm_sh L g, s) _ Q
        refine hm_st hR ⟨fun c82 => ?_, fun c82 => ?_⟩
        · rw [if_pos c82] at hq
          show R 81 88 [(8, .int ((v6 >>> (v4 &&& 31)) <<< (v5 &&& 31))), (7, .int ((T_79 s v4 v6) <<< (v5 &&& 31))), (6, .int v6), (5, .int v5), (4, .int v4), (3, .int v3), (0, .ref 47), (1, .ref bx), (2, .int v2)] [] (N, hm_sh L g, s) _ Q
          refine hm_st hR (hm_st hR (?_))
          show R 81 26 [(6, .int (v6 + 1)), (8, .int ((v6 >>> (v4 &&& 31)) <<< (v5 &&& 31))), (7, .int ((T_79 s v4 v6) <<< (v5 &&& 31))), (5, .int v5), (4, .int v4), (3, .int v3), (0, .ref 47), (1, .ref bx), (2, .int v2)] [] (N, hm_sh L g, s) _ Q
          exact hm_lvS hR (by intro q hq; simp only [List.mem_cons, List.not_mem_nil, or_false] at hq ⊢; rcases hq with rfl | rfl | rfl | rfl | rfl | rfl | rfl <;> simp) (ih s v2 v3 v4 v5 (v6 + 1) (hm_dcx c33 hm) hPO hq)
        · rw [if_neg c82] at hq
          show R 81 85 [(8, .int ((v6 >>> (v4 &&& 31)) <<< (v5 &&& 31))), (7, .int ((T_79 s v4 v6) <<< (v5 &&& 31))), (6, .int v6), (5, .int v5), (4, .int v4), (3, .int v3), (0, .ref 47), (1, .ref bx), (2, .int v2)] [] (N, hm_sh L g, s) _ Q
          refine hm_st hR (hm_st hR (hm_st hR (?_)))
          show R 81 26 [(6, .int (v6 + 1)), (3, .int (v3 + 1)), (8, .int ((v6 >>> (v4 &&& 31)) <<< (v5 &&& 31))), (7, .int ((T_79 s v4 v6) <<< (v5 &&& 31))), (5, .int v5), (4, .int v4), (0, .ref 47), (1, .ref bx), (2, .int v2)] [] (N, hm_sh L g, s) _ Q
          exact hm_lvS hR (by intro q hq; simp only [List.mem_cons, List.not_mem_nil, or_false] at hq ⊢; rcases hq with rfl | rfl | rfl | rfl | rfl | rfl | rfl <;> simp) (ih s v2 (v3 + 1) v4 v5 (v6 + 1) (hm_dcx c33 hm) hPO hq)
set_option maxRecDepth 20000 in
theorem lp_81_5 {R : hm_R} (hR : hm_Cm R) {N L : Nat} {g : Nat → hm_Sh} {b : hm_B} {Q : hm_Q} (hN : 68 ≤ N) {bx : Nat} (hbk : (hm_sh L g bx).1 = 0) (hb2 : 2 ≤ bx) (hbl : bx < N) : ∀ (n : Nat) (s : hm_St) (v2 : Int32) (v3 : Int32) (v4 : Int32), hm_df1 (s 47 1) v4 < n → (hinv : s 47 1 < 100000) → (hq : Q (.inr (some (.int (T_81_5 bx n s v2 v3 v4)))) (N, hm_sh L g, s)) → R 81 5 [(4, .int v4), (3, .int v3), (0, .ref 47), (1, .ref bx), (2, .int v2)] [] (N, hm_sh L g, s) b Q := by
  intro n
  induction n with
  | zero => intro s v2 v3 v4 hm hinv _; exact absurd hm (Nat.not_lt_zero _)
  | succ n ih =>
    intro s v2 v3 v4 hm hinv hq
    unfold T_81_5 at hq
    refine hm_st hR (hm_st hR (hm_st hR ⟨rfl, hm_le rfl, (hm_ltN hN rfl), ?_⟩))
    show R 81 11 [(4, .int v4), (3, .int v3), (0, .ref 47), (1, .ref bx), (2, .int v2)] [.int (s 47 1), .int v4] (N, hm_sh L g, s) _ Q
    refine hm_st hR ⟨fun c11 => ?_, fun c11 => ?_⟩
    · rw [if_pos c11] at hq
      show R 81 100 [(4, .int v4), (3, .int v3), (0, .ref 47), (1, .ref bx), (2, .int v2)] [] (N, hm_sh L g, s) _ Q
      refine hm_st hR (?_)
      exact hm_st hR ⟨fun z => absurd z (by decide), hq⟩
    · rw [if_neg c11] at hq
      show R 81 14 [(4, .int v4), (3, .int v3), (0, .ref 47), (1, .ref bx), (2, .int v2)] [] (N, hm_sh L g, s) _ Q
      refine hm_st hR (hm_st hR ⟨rfl, hm_le rfl, (hm_ltN hN rfl), hm_st hR (hm_st hR (hm_st hR (hm_st hR (hm_st hR (?_)))))⟩)
      show R 81 26 [(6, .int 0), (5, .int ((s 47 1) - v4)), (4, .int v4), (3, .int v3), (0, .ref 47), (1, .ref bx), (2, .int v2)] [] (N, hm_sh L g, s) _ Q
      exact lp_81_26 hR hN hbk hb2 hbl (O := (fun s v2 v3 v4 => T_81_5 bx n s v2 v3 v4)) (nO := n) (fun s v2 v3 v4 hm hq => ih s v2 v3 v4 hm.1 hm.2 hq) _ _ _ _ _ _ _ (Nat.lt_succ_self _) ⟨(hm_dcy c11 hinv hm), hinv⟩ hq
set_option maxRecDepth 20000 in
theorem sp_81 {R : hm_R} (hR : hm_Cm R) {N L : Nat} {g : Nat → hm_Sh} {s : hm_St} {b : hm_B} {Q : hm_Q} (hN : 68 ≤ N) {bx : Nat} (hbk : (hm_sh L g bx).1 = 0) (hb2 : 2 ≤ bx) (hbl : bx < N) {p2 : Int32} (hO : s 47 1 < 100000) (hq : Q (.inr (some (.int (T_81 s bx p2)))) (N, hm_sh L g, s)) : R 81 0 (lv_args 0 [.ref 47, .ref bx, .int p2]) [] (N, hm_sh L g, s) b Q := by
  unfold T_81 at hq
  show R 81 0 [(0, .ref 47), (1, .ref bx), (2, .int p2)] [] (N, hm_sh L g, s) _ Q
  refine hm_st hR (hm_st hR (hm_st hR (hm_st hR (?_))))
  show R 81 5 [(4, .int 0), (3, .int 0), (0, .ref 47), (1, .ref bx), (2, .int p2)] [] (N, hm_sh L g, s) _ Q
  exact lp_81_5 hR hN hbk hb2 hbl _ _ _ _ _ (Nat.lt_succ_self _) hO hq
def T_82_15 (O : hm_St → Int32 → Int32 → Int32 → Int32) : Nat → hm_St → Int32 → Int32 → Int32 → Int32 → Int32
  | 0, s, _, _, _, _ => 0
  | n + 1, s, v1, v2, v3, v4 => (if (T_72 s v3) ≤ v4 then (O s v1 v2 (v3 + 1)) else (if (T_78 s v3 v4 v1) = 0 then (T_82_15 O n s v1 v2 v3 (v4 + 1)) else (T_82_15 O n s v1 v3 v3 (v4 + 1))))
def T_82_4 : Nat → hm_St → Int32 → Int32 → Int32 → Int32
  | 0, s, _, _, _ => 0
  | n + 1, s, v1, v2, v3 => (if (s 47 1) < v3 then v2 else (T_82_15 (fun s v1 v2 v3 => T_82_4 n s v1 v2 v3) (hm_df (T_72 s v3) 0 + 1) s v1 v2 v3 0))
/-- CurvekeyHouse$Cells.deepestLeaf(I)I -/
def T_82 (s : hm_St) (p1 : Int32) : Int32 := (T_82_4 (hm_df1 (s 47 1) 0 + 1) s p1 0 0)
set_option maxRecDepth 20000 in
theorem lp_82_15 {R : hm_R} (hR : hm_Cm R) {N L : Nat} {g : Nat → hm_Sh} {b : hm_B} {Q : hm_Q} (hN : 68 ≤ N) {O : hm_St → Int32 → Int32 → Int32 → Int32} {nO : Nat} (hO : ∀ (s : hm_St) (v1 : Int32) (v2 : Int32) (v3 : Int32), hm_df1 (s 47 1) v3 < nO ∧ s 47 1 < 100000 → (Q (.inr (some (.int (O s v1 v2 v3)))) (N, hm_sh L g, s)) → R 82 4 [(3, .int v3), (2, .int v2), (0, .ref 47), (1, .int v1)] [] (N, hm_sh L g, s) b Q) : ∀ (n : Nat) (s : hm_St) (v1 : Int32) (v2 : Int32) (v3 : Int32) (v4 : Int32), hm_df (T_72 s v3) v4 < n → (hPO : hm_df1 (s 47 1) (v3 + 1) < nO ∧ s 47 1 < 100000) → (hq : Q (.inr (some (.int (T_82_15 O n s v1 v2 v3 v4)))) (N, hm_sh L g, s)) → R 82 15 [(4, .int v4), (3, .int v3), (2, .int v2), (0, .ref 47), (1, .int v1)] [] (N, hm_sh L g, s) b Q := by
  intro n
  induction n with
  | zero => intro s v1 v2 v3 v4 hm hPO _; exact absurd hm (Nat.not_lt_zero _)
  | succ n ih =>
    intro s v1 v2 v3 v4 hm hPO hq
    unfold T_82_15 at hq
    refine hm_st hR (hm_st hR (?_))
    refine hm_st hR ⟨hm_le rfl, hm_le rfl, hm_le rfl, (0, 0), Nat.zero_le _, Nat.zero_le _, ?_⟩
    refine sp_72 hR hN ?_
    show R 82 21 [(4, .int v4), (3, .int v3), (2, .int v2), (0, .ref 47), (1, .int v1)] [.int (T_72 s v3), .int v4] (N, hm_sh L g, s) _ Q
    show R 82 21 [(4, .int v4), (3, .int v3), (2, .int v2), (0, .ref 47), (1, .int v1)] [.int (T_72 s v3), .int v4] (N, hm_sh L g, s) _ Q
    refine hm_st hR ⟨fun c21 => ?_, fun c21 => ?_⟩
    · rw [if_pos c21] at hq
      show R 82 43 [(4, .int v4), (3, .int v3), (2, .int v2), (0, .ref 47), (1, .int v1)] [] (N, hm_sh L g, s) _ Q
      refine hm_st hR (hm_st hR (?_))
      show R 82 4 [(3, .int (v3 + 1)), (4, .int v4), (2, .int v2), (0, .ref 47), (1, .int v1)] [] (N, hm_sh L g, s) _ Q
      exact hm_lvS hR (by intro q hq; simp only [List.mem_cons, List.not_mem_nil, or_false] at hq ⊢; rcases hq with rfl | rfl | rfl | rfl <;> simp) (hO s v1 v2 (v3 + 1) hPO hq)
    · rw [if_neg c21] at hq
      show R 82 24 [(4, .int v4), (3, .int v3), (2, .int v2), (0, .ref 47), (1, .int v1)] [] (N, hm_sh L g, s) _ Q
      refine hm_st hR (hm_st hR (hm_st hR (hm_st hR (?_))))
      refine hm_st hR ⟨hm_le rfl, rfl, (hm_le rfl), (hm_ltN hN rfl), hm_le rfl, hm_le rfl, (0, 0), Nat.zero_le _, Nat.zero_le _, ?_⟩
      refine sp_78 hR hN ?_
      show R 82 32 [(4, .int v4), (3, .int v3), (2, .int v2), (0, .ref 47), (1, .int v1)] [.int (T_78 s v3 v4 v1)] (N, hm_sh L g, s) _ Q
      show R 82 32 [(4, .int v4), (3, .int v3), (2, .int v2), (0, .ref 47), (1, .int v1)] [.int (T_78 s v3 v4 v1)] (N, hm_sh L g, s) _ Q
      refine hm_st hR ⟨fun c32 => ?_, fun c32 => ?_⟩
      · rw [if_pos c32] at hq
        show R 82 37 [(4, .int v4), (3, .int v3), (2, .int v2), (0, .ref 47), (1, .int v1)] [] (N, hm_sh L g, s) _ Q
        refine hm_st hR (hm_st hR (?_))
        show R 82 15 [(4, .int (v4 + 1)), (3, .int v3), (2, .int v2), (0, .ref 47), (1, .int v1)] [] (N, hm_sh L g, s) _ Q
        exact hm_lvS hR (by intro q hq; simp only [List.mem_cons, List.not_mem_nil, or_false] at hq ⊢; rcases hq with rfl | rfl | rfl | rfl | rfl <;> simp) (ih s v1 v2 v3 (v4 + 1) (hm_dcx c21 hm) hPO hq)
      · rw [if_neg c32] at hq
        show R 82 35 [(4, .int v4), (3, .int v3), (2, .int v2), (0, .ref 47), (1, .int v1)] [] (N, hm_sh L g, s) _ Q
        refine hm_st hR (hm_st hR (hm_st hR (hm_st hR (?_))))
        show R 82 15 [(4, .int (v4 + 1)), (2, .int v3), (3, .int v3), (0, .ref 47), (1, .int v1)] [] (N, hm_sh L g, s) _ Q
        exact hm_lvS hR (by intro q hq; simp only [List.mem_cons, List.not_mem_nil, or_false] at hq ⊢; rcases hq with rfl | rfl | rfl | rfl | rfl <;> simp) (ih s v1 v3 v3 (v4 + 1) (hm_dcx c21 hm) hPO hq)
set_option maxRecDepth 20000 in
theorem lp_82_4 {R : hm_R} (hR : hm_Cm R) {N L : Nat} {g : Nat → hm_Sh} {b : hm_B} {Q : hm_Q} (hN : 68 ≤ N) : ∀ (n : Nat) (s : hm_St) (v1 : Int32) (v2 : Int32) (v3 : Int32), hm_df1 (s 47 1) v3 < n → (hinv : s 47 1 < 100000) → (hq : Q (.inr (some (.int (T_82_4 n s v1 v2 v3)))) (N, hm_sh L g, s)) → R 82 4 [(3, .int v3), (2, .int v2), (0, .ref 47), (1, .int v1)] [] (N, hm_sh L g, s) b Q := by
  intro n
  induction n with
  | zero => intro s v1 v2 v3 hm hinv _; exact absurd hm (Nat.not_lt_zero _)
  | succ n ih =>
    intro s v1 v2 v3 hm hinv hq
    unfold T_82_4 at hq
    refine hm_st hR (hm_st hR (hm_st hR ⟨rfl, hm_le rfl, (hm_ltN hN rfl), ?_⟩))
    show R 82 9 [(3, .int v3), (2, .int v2), (0, .ref 47), (1, .int v1)] [.int (s 47 1), .int v3] (N, hm_sh L g, s) _ Q
    refine hm_st hR ⟨fun c9 => ?_, fun c9 => ?_⟩
    · rw [if_pos c9] at hq
      show R 82 49 [(3, .int v3), (2, .int v2), (0, .ref 47), (1, .int v1)] [] (N, hm_sh L g, s) _ Q
      refine hm_st hR (?_)
      exact hm_st hR ⟨fun z => absurd z (by decide), hq⟩
    · rw [if_neg c9] at hq
      show R 82 12 [(3, .int v3), (2, .int v2), (0, .ref 47), (1, .int v1)] [] (N, hm_sh L g, s) _ Q
      refine hm_st hR (hm_st hR (?_))
      show R 82 15 [(4, .int 0), (3, .int v3), (2, .int v2), (0, .ref 47), (1, .int v1)] [] (N, hm_sh L g, s) _ Q
      exact lp_82_15 hR hN (O := (fun s v1 v2 v3 => T_82_4 n s v1 v2 v3)) (nO := n) (fun s v1 v2 v3 hm hq => ih s v1 v2 v3 hm.1 hm.2 hq) _ _ _ _ _ _ (Nat.lt_succ_self _) ⟨(hm_dcy c9 hinv hm), hinv⟩ hq
set_option maxRecDepth 20000 in
theorem sp_82 {R : hm_R} (hR : hm_Cm R) {N L : Nat} {g : Nat → hm_Sh} {s : hm_St} {b : hm_B} {Q : hm_Q} (hN : 68 ≤ N) {p1 : Int32} (hO : s 47 1 < 100000) (hq : Q (.inr (some (.int (T_82 s p1)))) (N, hm_sh L g, s)) : R 82 0 (lv_args 0 [.ref 47, .int p1]) [] (N, hm_sh L g, s) b Q := by
  unfold T_82 at hq
  show R 82 0 [(0, .ref 47), (1, .int p1)] [] (N, hm_sh L g, s) _ Q
  refine hm_st hR (hm_st hR (hm_st hR (hm_st hR (?_))))
  show R 82 4 [(3, .int 0), (2, .int 0), (0, .ref 47), (1, .int p1)] [] (N, hm_sh L g, s) _ Q
  exact lp_82_4 hR hN _ _ _ _ _ (Nat.lt_succ_self _) hO hq
def T_83_15 (O : hm_St → Int32 → Int32 → Int32 → Int32) : Nat → hm_St → Int32 → Int32 → Int32 → Int32 → Int32
  | 0, s, _, _, _, _ => 0
  | n + 1, s, v1, v2, v3, v4 => (if (T_72 s v3) ≤ v4 then (O s v1 v2 (v3 + 1)) else (if (T_78 s v3 v4 v1) = 0 then (T_83_15 O n s v1 v2 v3 (v4 + 1)) else (if (T_75 s v3 v4) = 0 then (T_83_15 O n s v1 (v2 + 1) v3 (v4 + 1)) else (T_83_15 O n s v1 v2 v3 (v4 + 1)))))
def T_83_4 : Nat → hm_St → Int32 → Int32 → Int32 → Int32
  | 0, s, _, _, _ => 0
  | n + 1, s, v1, v2, v3 => (if (s 47 1) < v3 then v2 else (T_83_15 (fun s v1 v2 v3 => T_83_4 n s v1 v2 v3) (hm_df (T_72 s v3) 0 + 1) s v1 v2 v3 0))
/-- CurvekeyHouse$Cells.emptyLeaves(I)I -/
def T_83 (s : hm_St) (p1 : Int32) : Int32 := (T_83_4 (hm_df1 (s 47 1) 0 + 1) s p1 0 0)
set_option maxRecDepth 20000 in
theorem lp_83_15 {R : hm_R} (hR : hm_Cm R) {N L : Nat} {g : Nat → hm_Sh} {b : hm_B} {Q : hm_Q} (hN : 68 ≤ N) {O : hm_St → Int32 → Int32 → Int32 → Int32} {nO : Nat} (hO : ∀ (s : hm_St) (v1 : Int32) (v2 : Int32) (v3 : Int32), hm_df1 (s 47 1) v3 < nO ∧ s 47 1 < 100000 → (Q (.inr (some (.int (O s v1 v2 v3)))) (N, hm_sh L g, s)) → R 83 4 [(3, .int v3), (2, .int v2), (0, .ref 47), (1, .int v1)] [] (N, hm_sh L g, s) b Q) : ∀ (n : Nat) (s : hm_St) (v1 : Int32) (v2 : Int32) (v3 : Int32) (v4 : Int32), hm_df (T_72 s v3) v4 < n → (hPO : hm_df1 (s 47 1) (v3 + 1) < nO ∧ s 47 1 < 100000) → (hq : Q (.inr (some (.int (T_83_15 O n s v1 v2 v3 v4)))) (N, hm_sh L g, s)) → R 83 15 [(4, .int v4), (3, .int v3), (2, .int v2), (0, .ref 47), (1, .int v1)] [] (N, hm_sh L g, s) b Q := by
  intro n
  induction n with
  | zero => intro s v1 v2 v3 v4 hm hPO _; exact absurd hm (Nat.not_lt_zero _)
  | succ n ih =>
    intro s v1 v2 v3 v4 hm hPO hq
    unfold T_83_15 at hq
    refine hm_st hR (hm_st hR (?_))
    refine hm_st hR ⟨hm_le rfl, hm_le rfl, hm_le rfl, (0, 0), Nat.zero_le _, Nat.zero_le _, ?_⟩
    refine sp_72 hR hN ?_
    show R 83 21 [(4, .int v4), (3, .int v3), (2, .int v2), (0, .ref 47), (1, .int v1)] [.int (T_72 s v3), .int v4] (N, hm_sh L g, s) _ Q
    show R 83 21 [(4, .int v4), (3, .int v3), (2, .int v2), (0, .ref 47), (1, .int v1)] [.int (T_72 s v3), .int v4] (N, hm_sh L g, s) _ Q
    refine hm_st hR ⟨fun c21 => ?_, fun c21 => ?_⟩
    · rw [if_pos c21] at hq
      show R 83 54 [(4, .int v4), (3, .int v3), (2, .int v2), (0, .ref 47), (1, .int v1)] [] (N, hm_sh L g, s) _ Q
      refine hm_st hR (hm_st hR (?_))
      show R 83 4 [(3, .int (v3 + 1)), (4, .int v4), (2, .int v2), (0, .ref 47), (1, .int v1)] [] (N, hm_sh L g, s) _ Q
      exact hm_lvS hR (by intro q hq; simp only [List.mem_cons, List.not_mem_nil, or_false] at hq ⊢; rcases hq with rfl | rfl | rfl | rfl <;> simp) (hO s v1 v2 (v3 + 1) hPO hq)
    · rw [if_neg c21] at hq
      show R 83 24 [(4, .int v4), (3, .int v3), (2, .int v2), (0, .ref 47), (1, .int v1)] [] (N, hm_sh L g, s) _ Q
      refine hm_st hR (hm_st hR (hm_st hR (hm_st hR (?_))))
      refine hm_st hR ⟨hm_le rfl, rfl, (hm_le rfl), (hm_ltN hN rfl), hm_le rfl, hm_le rfl, (0, 0), Nat.zero_le _, Nat.zero_le _, ?_⟩
      refine sp_78 hR hN ?_
      show R 83 32 [(4, .int v4), (3, .int v3), (2, .int v2), (0, .ref 47), (1, .int v1)] [.int (T_78 s v3 v4 v1)] (N, hm_sh L g, s) _ Q
      show R 83 32 [(4, .int v4), (3, .int v3), (2, .int v2), (0, .ref 47), (1, .int v1)] [.int (T_78 s v3 v4 v1)] (N, hm_sh L g, s) _ Q
      refine hm_st hR ⟨fun c32 => ?_, fun c32 => ?_⟩
      · rw [if_pos c32] at hq
        show R 83 48 [(4, .int v4), (3, .int v3), (2, .int v2), (0, .ref 47), (1, .int v1)] [] (N, hm_sh L g, s) _ Q
        refine hm_st hR (hm_st hR (?_))
        show R 83 15 [(4, .int (v4 + 1)), (3, .int v3), (2, .int v2), (0, .ref 47), (1, .int v1)] [] (N, hm_sh L g, s) _ Q
        exact hm_lvS hR (by intro q hq; simp only [List.mem_cons, List.not_mem_nil, or_false] at hq ⊢; rcases hq with rfl | rfl | rfl | rfl | rfl <;> simp) (ih s v1 v2 v3 (v4 + 1) (hm_dcx c21 hm) hPO hq)
      · rw [if_neg c32] at hq
        show R 83 35 [(4, .int v4), (3, .int v3), (2, .int v2), (0, .ref 47), (1, .int v1)] [] (N, hm_sh L g, s) _ Q
        refine hm_st hR (hm_st hR (hm_st hR (?_)))
        refine hm_st hR ⟨hm_le rfl, rfl, (hm_le rfl), (hm_ltN hN rfl), hm_le rfl, hm_le rfl, (0, 0), Nat.zero_le _, Nat.zero_le _, ?_⟩
        refine sp_75 hR hN ?_
        show R 83 42 [(4, .int v4), (3, .int v3), (2, .int v2), (0, .ref 47), (1, .int v1)] [.int (T_75 s v3 v4)] (N, hm_sh L g, s) _ Q
        show R 83 42 [(4, .int v4), (3, .int v3), (2, .int v2), (0, .ref 47), (1, .int v1)] [.int (T_75 s v3 v4)] (N, hm_sh L g, s) _ Q
        refine hm_st hR ⟨fun c42 => ?_, fun c42 => ?_⟩
        · rw [if_neg c42] at hq
          show R 83 48 [(4, .int v4), (3, .int v3), (2, .int v2), (0, .ref 47), (1, .int v1)] [] (N, hm_sh L g, s) _ Q
          refine hm_st hR (hm_st hR (?_))
          show R 83 15 [(4, .int (v4 + 1)), (3, .int v3), (2, .int v2), (0, .ref 47), (1, .int v1)] [] (N, hm_sh L g, s) _ Q
          exact hm_lvS hR (by intro q hq; simp only [List.mem_cons, List.not_mem_nil, or_false] at hq ⊢; rcases hq with rfl | rfl | rfl | rfl | rfl <;> simp) (ih s v1 v2 v3 (v4 + 1) (hm_dcx c21 hm) hPO hq)
        · rw [if_pos c42] at hq
          show R 83 45 [(4, .int v4), (3, .int v3), (2, .int v2), (0, .ref 47), (1, .int v1)] [] (N, hm_sh L g, s) _ Q
          refine hm_st hR (hm_st hR (hm_st hR (?_)))
          show R 83 15 [(4, .int (v4 + 1)), (2, .int (v2 + 1)), (3, .int v3), (0, .ref 47), (1, .int v1)] [] (N, hm_sh L g, s) _ Q
          exact hm_lvS hR (by intro q hq; simp only [List.mem_cons, List.not_mem_nil, or_false] at hq ⊢; rcases hq with rfl | rfl | rfl | rfl | rfl <;> simp) (ih s v1 (v2 + 1) v3 (v4 + 1) (hm_dcx c21 hm) hPO hq)
set_option maxRecDepth 20000 in
theorem lp_83_4 {R : hm_R} (hR : hm_Cm R) {N L : Nat} {g : Nat → hm_Sh} {b : hm_B} {Q : hm_Q} (hN : 68 ≤ N) : ∀ (n : Nat) (s : hm_St) (v1 : Int32) (v2 : Int32) (v3 : Int32), hm_df1 (s 47 1) v3 < n → (hinv : s 47 1 < 100000) → (hq : Q (.inr (some (.int (T_83_4 n s v1 v2 v3)))) (N, hm_sh L g, s)) → R 83 4 [(3, .int v3), (2, .int v2), (0, .ref 47), (1, .int v1)] [] (N, hm_sh L g, s) b Q := by
  intro n
  induction n with
  | zero => intro s v1 v2 v3 hm hinv _; exact absurd hm (Nat.not_lt_zero _)
  | succ n ih =>
    intro s v1 v2 v3 hm hinv hq
    unfold T_83_4 at hq
    refine hm_st hR (hm_st hR (hm_st hR ⟨rfl, hm_le rfl, (hm_ltN hN rfl), ?_⟩))
    show R 83 9 [(3, .int v3), (2, .int v2), (0, .ref 47), (1, .int v1)] [.int (s 47 1), .int v3] (N, hm_sh L g, s) _ Q
    refine hm_st hR ⟨fun c9 => ?_, fun c9 => ?_⟩
    · rw [if_pos c9] at hq
      show R 83 60 [(3, .int v3), (2, .int v2), (0, .ref 47), (1, .int v1)] [] (N, hm_sh L g, s) _ Q
      refine hm_st hR (?_)
      exact hm_st hR ⟨fun z => absurd z (by decide), hq⟩
    · rw [if_neg c9] at hq
      show R 83 12 [(3, .int v3), (2, .int v2), (0, .ref 47), (1, .int v1)] [] (N, hm_sh L g, s) _ Q
      refine hm_st hR (hm_st hR (?_))
      show R 83 15 [(4, .int 0), (3, .int v3), (2, .int v2), (0, .ref 47), (1, .int v1)] [] (N, hm_sh L g, s) _ Q
      exact lp_83_15 hR hN (O := (fun s v1 v2 v3 => T_83_4 n s v1 v2 v3)) (nO := n) (fun s v1 v2 v3 hm hq => ih s v1 v2 v3 hm.1 hm.2 hq) _ _ _ _ _ _ (Nat.lt_succ_self _) ⟨(hm_dcy c9 hinv hm), hinv⟩ hq
set_option maxRecDepth 20000 in
theorem sp_83 {R : hm_R} (hR : hm_Cm R) {N L : Nat} {g : Nat → hm_Sh} {s : hm_St} {b : hm_B} {Q : hm_Q} (hN : 68 ≤ N) {p1 : Int32} (hO : s 47 1 < 100000) (hq : Q (.inr (some (.int (T_83 s p1)))) (N, hm_sh L g, s)) : R 83 0 (lv_args 0 [.ref 47, .int p1]) [] (N, hm_sh L g, s) b Q := by
  unfold T_83 at hq
  show R 83 0 [(0, .ref 47), (1, .int p1)] [] (N, hm_sh L g, s) _ Q
  refine hm_st hR (hm_st hR (hm_st hR (hm_st hR (?_))))
  show R 83 4 [(3, .int 0), (2, .int 0), (0, .ref 47), (1, .int p1)] [] (N, hm_sh L g, s) _ Q
  exact lp_83_4 hR hN _ _ _ _ _ (Nat.lt_succ_self _) hO hq
def T_96_17 : Nat → hm_St → Int32 → Int32 → Int32 → Int32 → Int32 → Int32 → Int32 → Int32
  | 0, s, _, _, _, _, _, _, _ => 0
  | n + 1, s, v1, v2, v3, v4, v5, v6, v7 => (if v7 ≤ 0 then v4 else (T_96_17 n s v1 v2 v3 (v4 + (((T_178 s 5 16 (((4 * (v1 - 2)) + (if (if v5 < v7 then 0 else 1) = 0 then 0 else 1)) + (if (if v6 < v7 then 0 else 1) = 0 then 0 else 2))) * v7) * v7)) (if ((T_178 s 7 16 (((4 * (v1 - 2)) + (if (if v5 < v7 then 0 else 1) = 0 then 0 else 1)) + (if (if v6 < v7 then 0 else 1) = 0 then 0 else 2))) &&& 2) = 0 then (if ((T_178 s 7 16 (((4 * (v1 - 2)) + (if (if v5 < v7 then 0 else 1) = 0 then 0 else 1)) + (if (if v6 < v7 then 0 else 1) = 0 then 0 else 2))) &&& 1) = 0 then (if (if v5 < v7 then 0 else 1) = 0 then v5 else (v5 - v7)) else (if (if v6 < v7 then 0 else 1) = 0 then v6 else (v6 - v7))) else ((v7 - 1) - (if ((T_178 s 7 16 (((4 * (v1 - 2)) + (if (if v5 < v7 then 0 else 1) = 0 then 0 else 1)) + (if (if v6 < v7 then 0 else 1) = 0 then 0 else 2))) &&& 1) = 0 then (if (if v5 < v7 then 0 else 1) = 0 then v5 else (v5 - v7)) else (if (if v6 < v7 then 0 else 1) = 0 then v6 else (v6 - v7))))) (if ((T_178 s 7 16 (((4 * (v1 - 2)) + (if (if v5 < v7 then 0 else 1) = 0 then 0 else 1)) + (if (if v6 < v7 then 0 else 1) = 0 then 0 else 2))) &&& 4) = 0 then (if ((T_178 s 7 16 (((4 * (v1 - 2)) + (if (if v5 < v7 then 0 else 1) = 0 then 0 else 1)) + (if (if v6 < v7 then 0 else 1) = 0 then 0 else 2))) &&& 1) = 0 then (if (if v6 < v7 then 0 else 1) = 0 then v6 else (v6 - v7)) else (if (if v5 < v7 then 0 else 1) = 0 then v5 else (v5 - v7))) else ((v7 - 1) - (if ((T_178 s 7 16 (((4 * (v1 - 2)) + (if (if v5 < v7 then 0 else 1) = 0 then 0 else 1)) + (if (if v6 < v7 then 0 else 1) = 0 then 0 else 2))) &&& 1) = 0 then (if (if v6 < v7 then 0 else 1) = 0 then v6 else (v6 - v7)) else (if (if v5 < v7 then 0 else 1) = 0 then v5 else (v5 - v7))))) (v7 / 2)))
/-- CurvekeyHouse$Curves.fold(III)I -/
def T_96 (s : hm_St) (p1 : Int32) (p2 : Int32) (p3 : Int32) : Int32 := (T_96_17 (((s 3 6) / 2).toInt.toNat + 1) s p1 p2 p3 0 p2 p3 ((s 3 6) / 2))
set_option maxRecDepth 20000 in
theorem lp_96_17 {R : hm_R} (hR : hm_Cm R) {N L : Nat} {g : Nat → hm_Sh} {b : hm_B} {Q : hm_Q} (hN : 68 ≤ N) : ∀ (n : Nat) (s : hm_St) (v1 : Int32) (v2 : Int32) (v3 : Int32) (v4 : Int32) (v5 : Int32) (v6 : Int32) (v7 : Int32), v7.toInt.toNat < n → (hq : Q (.inr (some (.int (T_96_17 n s v1 v2 v3 v4 v5 v6 v7)))) (N, hm_sh L g, s)) → R 96 17 [(7, .int v7), (6, .int v6), (5, .int v5), (4, .int v4), (0, .ref 3), (1, .int v1), (2, .int v2), (3, .int v3)] [] (N, hm_sh L g, s) b Q := by
  intro n
  induction n with
  | zero => intro s v1 v2 v3 v4 v5 v6 v7 hm _; exact absurd hm (Nat.not_lt_zero _)
  | succ n ih =>
    intro s v1 v2 v3 v4 v5 v6 v7 hm hq
    unfold T_96_17 at hq
    refine hm_st hR (?_)
    show R 96 19 [(7, .int v7), (6, .int v6), (5, .int v5), (4, .int v4), (0, .ref 3), (1, .int v1), (2, .int v2), (3, .int v3)] [.int v7] (N, hm_sh L g, s) _ Q
    refine hm_st hR ⟨fun c19 => ?_, fun c19 => ?_⟩
    · rw [if_pos c19] at hq
      show R 96 227 [(7, .int v7), (6, .int v6), (5, .int v5), (4, .int v4), (0, .ref 3), (1, .int v1), (2, .int v2), (3, .int v3)] [] (N, hm_sh L g, s) _ Q
      refine hm_st hR (?_)
      exact hm_st hR ⟨fun z => absurd z (by decide), hq⟩
    · rw [if_neg c19] at hq
      show R 96 22 [(7, .int v7), (6, .int v6), (5, .int v5), (4, .int v4), (0, .ref 3), (1, .int v1), (2, .int v2), (3, .int v3)] [] (N, hm_sh L g, s) _ Q
      refine hm_st hR (hm_st hR (?_))
      show R 96 26 [(7, .int v7), (6, .int v6), (5, .int v5), (4, .int v4), (0, .ref 3), (1, .int v1), (2, .int v2), (3, .int v3)] [.int v7, .int v5] (N, hm_sh L g, s) _ Q
      suffices G : R 96 34 [(7, .int v7), (6, .int v6), (5, .int v5), (4, .int v4), (0, .ref 3), (1, .int v1), (2, .int v2), (3, .int v3)] [.int (if v5 < v7 then 0 else 1)] (N, hm_sh L g, s) b Q by
        show R 96 26 [(7, .int v7), (6, .int v6), (5, .int v5), (4, .int v4), (0, .ref 3), (1, .int v1), (2, .int v2), (3, .int v3)] [.int v7, .int v5] (N, hm_sh L g, s) _ Q
        refine hm_st hR ⟨fun c => ?_, fun c => ?_⟩
        · rw [if_pos c] at G; exact hm_st hR (G)
        · rw [if_neg c] at G; exact hm_st hR (hm_st hR (G))
      refine hm_st hR (hm_st hR (hm_st hR (?_)))
      show R 96 40 [(8, .int (if v5 < v7 then 0 else 1)), (7, .int v7), (6, .int v6), (5, .int v5), (4, .int v4), (0, .ref 3), (1, .int v1), (2, .int v2), (3, .int v3)] [.int v7, .int v6] (N, hm_sh L g, s) _ Q
      suffices G : R 96 48 [(8, .int (if v5 < v7 then 0 else 1)), (7, .int v7), (6, .int v6), (5, .int v5), (4, .int v4), (0, .ref 3), (1, .int v1), (2, .int v2), (3, .int v3)] [.int (if v6 < v7 then 0 else 1)] (N, hm_sh L g, s) b Q by
        show R 96 40 [(8, .int (if v5 < v7 then 0 else 1)), (7, .int v7), (6, .int v6), (5, .int v5), (4, .int v4), (0, .ref 3), (1, .int v1), (2, .int v2), (3, .int v3)] [.int v7, .int v6] (N, hm_sh L g, s) _ Q
        refine hm_st hR ⟨fun c => ?_, fun c => ?_⟩
        · rw [if_pos c] at G; exact hm_st hR (G)
        · rw [if_neg c] at G; exact hm_st hR (hm_st hR (G))
      refine hm_st hR (hm_st hR (hm_st hR (hm_st hR (hm_st hR (hm_st hR (hm_st hR (?_)))))))
      show R 96 57 [(9, .int (if v6 < v7 then 0 else 1)), (8, .int (if v5 < v7 then 0 else 1)), (7, .int v7), (6, .int v6), (5, .int v5), (4, .int v4), (0, .ref 3), (1, .int v1), (2, .int v2), (3, .int v3)] [.int (if v5 < v7 then 0 else 1), .int (4 * (v1 - 2))] (N, hm_sh L g, s) _ Q
      suffices G : R 96 65 [(9, .int (if v6 < v7 then 0 else 1)), (8, .int (if v5 < v7 then 0 else 1)), (7, .int v7), (6, .int v6), (5, .int v5), (4, .int v4), (0, .ref 3), (1, .int v1), (2, .int v2), (3, .int v3)] [.int (if (if v5 < v7 then 0 else 1) = 0 then 0 else 1), .int (4 * (v1 - 2))] (N, hm_sh L g, s) b Q by
        show R 96 57 [(9, .int (if v6 < v7 then 0 else 1)), (8, .int (if v5 < v7 then 0 else 1)), (7, .int v7), (6, .int v6), (5, .int v5), (4, .int v4), (0, .ref 3), (1, .int v1), (2, .int v2), (3, .int v3)] [.int (if v5 < v7 then 0 else 1), .int (4 * (v1 - 2))] (N, hm_sh L g, s) _ Q
        refine hm_st hR ⟨fun c => ?_, fun c => ?_⟩
        · rw [if_pos c] at G; exact hm_st hR (G)
        · rw [if_neg c] at G; exact hm_st hR (hm_st hR (G))
      refine hm_st hR (hm_st hR (?_))
      show R 96 68 [(9, .int (if v6 < v7 then 0 else 1)), (8, .int (if v5 < v7 then 0 else 1)), (7, .int v7), (6, .int v6), (5, .int v5), (4, .int v4), (0, .ref 3), (1, .int v1), (2, .int v2), (3, .int v3)] [.int (if v6 < v7 then 0 else 1), .int ((4 * (v1 - 2)) + (if (if v5 < v7 then 0 else 1) = 0 then 0 else 1))] (N, hm_sh L g, s) _ Q
      suffices G : R 96 76 [(9, .int (if v6 < v7 then 0 else 1)), (8, .int (if v5 < v7 then 0 else 1)), (7, .int v7), (6, .int v6), (5, .int v5), (4, .int v4), (0, .ref 3), (1, .int v1), (2, .int v2), (3, .int v3)] [.int (if (if v6 < v7 then 0 else 1) = 0 then 0 else 2), .int ((4 * (v1 - 2)) + (if (if v5 < v7 then 0 else 1) = 0 then 0 else 1))] (N, hm_sh L g, s) b Q by
        show R 96 68 [(9, .int (if v6 < v7 then 0 else 1)), (8, .int (if v5 < v7 then 0 else 1)), (7, .int v7), (6, .int v6), (5, .int v5), (4, .int v4), (0, .ref 3), (1, .int v1), (2, .int v2), (3, .int v3)] [.int (if v6 < v7 then 0 else 1), .int ((4 * (v1 - 2)) + (if (if v5 < v7 then 0 else 1) = 0 then 0 else 1))] (N, hm_sh L g, s) _ Q
        refine hm_st hR ⟨fun c => ?_, fun c => ?_⟩
        · rw [if_pos c] at G; exact hm_st hR (G)
        · rw [if_neg c] at G; exact hm_st hR (hm_st hR (G))
      refine hm_st hR (hm_st hR (hm_st hR (hm_st hR ⟨rfl, hm_le rfl, (hm_ltN hN rfl), hm_st hR (?_)⟩)))
      refine hm_st hR ⟨hm_le rfl, rfl, (hm_le rfl), (hm_ltN hN rfl), hm_le rfl, hm_le rfl, (0, 0), Nat.zero_le _, Nat.zero_le _, ?_⟩
      refine sp_178 hR hN (rr := 6) (aa := 7) (nn := 16) rfl rfl (hm_le rfl) (hm_ltN hN rfl) rfl rfl (hm_le rfl) (hm_ltN hN rfl) (by decide) ?_
      show R 96 88 [(10, .int (((4 * (v1 - 2)) + (if (if v5 < v7 then 0 else 1) = 0 then 0 else 1)) + (if (if v6 < v7 then 0 else 1) = 0 then 0 else 2))), (9, .int (if v6 < v7 then 0 else 1)), (8, .int (if v5 < v7 then 0 else 1)), (7, .int v7), (6, .int v6), (5, .int v5), (4, .int v4), (0, .ref 3), (1, .int v1), (2, .int v2), (3, .int v3)] [.int (T_178 s 7 16 (((4 * (v1 - 2)) + (if (if v5 < v7 then 0 else 1) = 0 then 0 else 1)) + (if (if v6 < v7 then 0 else 1) = 0 then 0 else 2)))] (N, hm_sh L g, s) _ Q
      refine hm_st hR (hm_st hR (?_))
      show R 96 92 [(11, .int (T_178 s 7 16 (((4 * (v1 - 2)) + (if (if v5 < v7 then 0 else 1) = 0 then 0 else 1)) + (if (if v6 < v7 then 0 else 1) = 0 then 0 else 2)))), (10, .int (((4 * (v1 - 2)) + (if (if v5 < v7 then 0 else 1) = 0 then 0 else 1)) + (if (if v6 < v7 then 0 else 1) = 0 then 0 else 2))), (9, .int (if v6 < v7 then 0 else 1)), (8, .int (if v5 < v7 then 0 else 1)), (7, .int v7), (6, .int v6), (5, .int v5), (4, .int v4), (0, .ref 3), (1, .int v1), (2, .int v2), (3, .int v3)] [.int (if v5 < v7 then 0 else 1)] (N, hm_sh L g, s) _ Q
      suffices G : R 96 105 [(11, .int (T_178 s 7 16 (((4 * (v1 - 2)) + (if (if v5 < v7 then 0 else 1) = 0 then 0 else 1)) + (if (if v6 < v7 then 0 else 1) = 0 then 0 else 2)))), (10, .int (((4 * (v1 - 2)) + (if (if v5 < v7 then 0 else 1) = 0 then 0 else 1)) + (if (if v6 < v7 then 0 else 1) = 0 then 0 else 2))), (9, .int (if v6 < v7 then 0 else 1)), (8, .int (if v5 < v7 then 0 else 1)), (7, .int v7), (6, .int v6), (5, .int v5), (4, .int v4), (0, .ref 3), (1, .int v1), (2, .int v2), (3, .int v3)] [.int (if (if v5 < v7 then 0 else 1) = 0 then v5 else (v5 - v7))] (N, hm_sh L g, s) (b.1 - 0, b.2 - 0) Q by
        show R 96 92 [(11, .int (T_178 s 7 16 (((4 * (v1 - 2)) + (if (if v5 < v7 then 0 else 1) = 0 then 0 else 1)) + (if (if v6 < v7 then 0 else 1) = 0 then 0 else 2)))), (10, .int (((4 * (v1 - 2)) + (if (if v5 < v7 then 0 else 1) = 0 then 0 else 1)) + (if (if v6 < v7 then 0 else 1) = 0 then 0 else 2))), (9, .int (if v6 < v7 then 0 else 1)), (8, .int (if v5 < v7 then 0 else 1)), (7, .int v7), (6, .int v6), (5, .int v5), (4, .int v4), (0, .ref 3), (1, .int v1), (2, .int v2), (3, .int v3)] [.int (if v5 < v7 then 0 else 1)] (N, hm_sh L g, s) _ Q
        refine hm_st hR ⟨fun c => ?_, fun c => ?_⟩
        · rw [if_pos c] at G; exact hm_st hR (G)
        · rw [if_neg c] at G; exact hm_st hR (hm_st hR (hm_st hR (hm_st hR (G))))
      refine hm_st hR (hm_st hR (?_))
      show R 96 109 [(12, .int (if (if v5 < v7 then 0 else 1) = 0 then v5 else (v5 - v7))), (11, .int (T_178 s 7 16 (((4 * (v1 - 2)) + (if (if v5 < v7 then 0 else 1) = 0 then 0 else 1)) + (if (if v6 < v7 then 0 else 1) = 0 then 0 else 2)))), (10, .int (((4 * (v1 - 2)) + (if (if v5 < v7 then 0 else 1) = 0 then 0 else 1)) + (if (if v6 < v7 then 0 else 1) = 0 then 0 else 2))), (9, .int (if v6 < v7 then 0 else 1)), (8, .int (if v5 < v7 then 0 else 1)), (7, .int v7), (6, .int v6), (5, .int v5), (4, .int v4), (0, .ref 3), (1, .int v1), (2, .int v2), (3, .int v3)] [.int (if v6 < v7 then 0 else 1)] (N, hm_sh L g, s) _ Q
      suffices G : R 96 122 [(12, .int (if (if v5 < v7 then 0 else 1) = 0 then v5 else (v5 - v7))), (11, .int (T_178 s 7 16 (((4 * (v1 - 2)) + (if (if v5 < v7 then 0 else 1) = 0 then 0 else 1)) + (if (if v6 < v7 then 0 else 1) = 0 then 0 else 2)))), (10, .int (((4 * (v1 - 2)) + (if (if v5 < v7 then 0 else 1) = 0 then 0 else 1)) + (if (if v6 < v7 then 0 else 1) = 0 then 0 else 2))), (9, .int (if v6 < v7 then 0 else 1)), (8, .int (if v5 < v7 then 0 else 1)), (7, .int v7), (6, .int v6), (5, .int v5), (4, .int v4), (0, .ref 3), (1, .int v1), (2, .int v2), (3, .int v3)] [.int (if (if v6 < v7 then 0 else 1) = 0 then v6 else (v6 - v7))] (N, hm_sh L g, s) (b.1 - 0, b.2 - 0) Q by
        show R 96 109 [(12, .int (if (if v5 < v7 then 0 else 1) = 0 then v5 else (v5 - v7))), (11, .int (T_178 s 7 16 (((4 * (v1 - 2)) + (if (if v5 < v7 then 0 else 1) = 0 then 0 else 1)) + (if (if v6 < v7 then 0 else 1) = 0 then 0 else 2)))), (10, .int (((4 * (v1 - 2)) + (if (if v5 < v7 then 0 else 1) = 0 then 0 else 1)) + (if (if v6 < v7 then 0 else 1) = 0 then 0 else 2))), (9, .int (if v6 < v7 then 0 else 1)), (8, .int (if v5 < v7 then 0 else 1)), (7, .int v7), (6, .int v6), (5, .int v5), (4, .int v4), (0, .ref 3), (1, .int v1), (2, .int v2), (3, .int v3)] [.int (if v6 < v7 then 0 else 1)] (N, hm_sh L g, s) _ Q
        refine hm_st hR ⟨fun c => ?_, fun c => ?_⟩
        · rw [if_pos c] at G; exact hm_st hR (G)
        · rw [if_neg c] at G; exact hm_st hR (hm_st hR (hm_st hR (hm_st hR (G))))
      refine hm_st hR (hm_st hR (hm_st hR (hm_st hR (?_))))
      show R 96 128 [(13, .int (if (if v6 < v7 then 0 else 1) = 0 then v6 else (v6 - v7))), (12, .int (if (if v5 < v7 then 0 else 1) = 0 then v5 else (v5 - v7))), (11, .int (T_178 s 7 16 (((4 * (v1 - 2)) + (if (if v5 < v7 then 0 else 1) = 0 then 0 else 1)) + (if (if v6 < v7 then 0 else 1) = 0 then 0 else 2)))), (10, .int (((4 * (v1 - 2)) + (if (if v5 < v7 then 0 else 1) = 0 then 0 else 1)) + (if (if v6 < v7 then 0 else 1) = 0 then 0 else 2))), (9, .int (if v6 < v7 then 0 else 1)), (8, .int (if v5 < v7 then 0 else 1)), (7, .int v7), (6, .int v6), (5, .int v5), (4, .int v4), (0, .ref 3), (1, .int v1), (2, .int v2), (3, .int v3)] [.int ((T_178 s 7 16 (((4 * (v1 - 2)) + (if (if v5 < v7 then 0 else 1) = 0 then 0 else 1)) + (if (if v6 < v7 then 0 else 1) = 0 then 0 else 2))) &&& 1)] (N, hm_sh L g, s) _ Q
      suffices G : R 96 138 [(13, .int (if (if v6 < v7 then 0 else 1) = 0 then v6 else (v6 - v7))), (12, .int (if (if v5 < v7 then 0 else 1) = 0 then v5 else (v5 - v7))), (11, .int (T_178 s 7 16 (((4 * (v1 - 2)) + (if (if v5 < v7 then 0 else 1) = 0 then 0 else 1)) + (if (if v6 < v7 then 0 else 1) = 0 then 0 else 2)))), (10, .int (((4 * (v1 - 2)) + (if (if v5 < v7 then 0 else 1) = 0 then 0 else 1)) + (if (if v6 < v7 then 0 else 1) = 0 then 0 else 2))), (9, .int (if v6 < v7 then 0 else 1)), (8, .int (if v5 < v7 then 0 else 1)), (7, .int v7), (6, .int v6), (5, .int v5), (4, .int v4), (0, .ref 3), (1, .int v1), (2, .int v2), (3, .int v3)] [.int (if ((T_178 s 7 16 (((4 * (v1 - 2)) + (if (if v5 < v7 then 0 else 1) = 0 then 0 else 1)) + (if (if v6 < v7 then 0 else 1) = 0 then 0 else 2))) &&& 1) = 0 then (if (if v5 < v7 then 0 else 1) = 0 then v5 else (v5 - v7)) else (if (if v6 < v7 then 0 else 1) = 0 then v6 else (v6 - v7)))] (N, hm_sh L g, s) (b.1 - 0, b.2 - 0) Q by
        show R 96 128 [(13, .int (if (if v6 < v7 then 0 else 1) = 0 then v6 else (v6 - v7))), (12, .int (if (if v5 < v7 then 0 else 1) = 0 then v5 else (v5 - v7))), (11, .int (T_178 s 7 16 (((4 * (v1 - 2)) + (if (if v5 < v7 then 0 else 1) = 0 then 0 else 1)) + (if (if v6 < v7 then 0 else 1) = 0 then 0 else 2)))), (10, .int (((4 * (v1 - 2)) + (if (if v5 < v7 then 0 else 1) = 0 then 0 else 1)) + (if (if v6 < v7 then 0 else 1) = 0 then 0 else 2))), (9, .int (if v6 < v7 then 0 else 1)), (8, .int (if v5 < v7 then 0 else 1)), (7, .int v7), (6, .int v6), (5, .int v5), (4, .int v4), (0, .ref 3), (1, .int v1), (2, .int v2), (3, .int v3)] [.int ((T_178 s 7 16 (((4 * (v1 - 2)) + (if (if v5 < v7 then 0 else 1) = 0 then 0 else 1)) + (if (if v6 < v7 then 0 else 1) = 0 then 0 else 2))) &&& 1)] (N, hm_sh L g, s) _ Q
        refine hm_st hR ⟨fun c => ?_, fun c => ?_⟩
        · rw [if_neg c] at G; exact hm_st hR (G)
        · rw [if_pos c] at G; exact hm_st hR (hm_st hR (G))
      refine hm_st hR (hm_st hR (hm_st hR (hm_st hR (?_))))
      show R 96 144 [(5, .int (if ((T_178 s 7 16 (((4 * (v1 - 2)) + (if (if v5 < v7 then 0 else 1) = 0 then 0 else 1)) + (if (if v6 < v7 then 0 else 1) = 0 then 0 else 2))) &&& 1) = 0 then (if (if v5 < v7 then 0 else 1) = 0 then v5 else (v5 - v7)) else (if (if v6 < v7 then 0 else 1) = 0 then v6 else (v6 - v7)))), (13, .int (if (if v6 < v7 then 0 else 1) = 0 then v6 else (v6 - v7))), (12, .int (if (if v5 < v7 then 0 else 1) = 0 then v5 else (v5 - v7))), (11, .int (T_178 s 7 16 (((4 * (v1 - 2)) + (if (if v5 < v7 then 0 else 1) = 0 then 0 else 1)) + (if (if v6 < v7 then 0 else 1) = 0 then 0 else 2)))), (10, .int (((4 * (v1 - 2)) + (if (if v5 < v7 then 0 else 1) = 0 then 0 else 1)) + (if (if v6 < v7 then 0 else 1) = 0 then 0 else 2))), (9, .int (if v6 < v7 then 0 else 1)), (8, .int (if v5 < v7 then 0 else 1)), (7, .int v7), (6, .int v6), (4, .int v4), (0, .ref 3), (1, .int v1), (2, .int v2), (3, .int v3)] [.int ((T_178 s 7 16 (((4 * (v1 - 2)) + (if (if v5 < v7 then 0 else 1) = 0 then 0 else 1)) + (if (if v6 < v7 then 0 else 1) = 0 then 0 else 2))) &&& 1)] (N, hm_sh L g, s) _ Q
      suffices G : R 96 154 [(5, .int (if ((T_178 s 7 16 (((4 * (v1 - 2)) + (if (if v5 < v7 then 0 else 1) = 0 then 0 else 1)) + (if (if v6 < v7 then 0 else 1) = 0 then 0 else 2))) &&& 1) = 0 then (if (if v5 < v7 then 0 else 1) = 0 then v5 else (v5 - v7)) else (if (if v6 < v7 then 0 else 1) = 0 then v6 else (v6 - v7)))), (13, .int (if (if v6 < v7 then 0 else 1) = 0 then v6 else (v6 - v7))), (12, .int (if (if v5 < v7 then 0 else 1) = 0 then v5 else (v5 - v7))), (11, .int (T_178 s 7 16 (((4 * (v1 - 2)) + (if (if v5 < v7 then 0 else 1) = 0 then 0 else 1)) + (if (if v6 < v7 then 0 else 1) = 0 then 0 else 2)))), (10, .int (((4 * (v1 - 2)) + (if (if v5 < v7 then 0 else 1) = 0 then 0 else 1)) + (if (if v6 < v7 then 0 else 1) = 0 then 0 else 2))), (9, .int (if v6 < v7 then 0 else 1)), (8, .int (if v5 < v7 then 0 else 1)), (7, .int v7), (6, .int v6), (4, .int v4), (0, .ref 3), (1, .int v1), (2, .int v2), (3, .int v3)] [.int (if ((T_178 s 7 16 (((4 * (v1 - 2)) + (if (if v5 < v7 then 0 else 1) = 0 then 0 else 1)) + (if (if v6 < v7 then 0 else 1) = 0 then 0 else 2))) &&& 1) = 0 then (if (if v6 < v7 then 0 else 1) = 0 then v6 else (v6 - v7)) else (if (if v5 < v7 then 0 else 1) = 0 then v5 else (v5 - v7)))] (N, hm_sh L g, s) (b.1 - 0, b.2 - 0) Q by
        show R 96 144 [(5, .int (if ((T_178 s 7 16 (((4 * (v1 - 2)) + (if (if v5 < v7 then 0 else 1) = 0 then 0 else 1)) + (if (if v6 < v7 then 0 else 1) = 0 then 0 else 2))) &&& 1) = 0 then (if (if v5 < v7 then 0 else 1) = 0 then v5 else (v5 - v7)) else (if (if v6 < v7 then 0 else 1) = 0 then v6 else (v6 - v7)))), (13, .int (if (if v6 < v7 then 0 else 1) = 0 then v6 else (v6 - v7))), (12, .int (if (if v5 < v7 then 0 else 1) = 0 then v5 else (v5 - v7))), (11, .int (T_178 s 7 16 (((4 * (v1 - 2)) + (if (if v5 < v7 then 0 else 1) = 0 then 0 else 1)) + (if (if v6 < v7 then 0 else 1) = 0 then 0 else 2)))), (10, .int (((4 * (v1 - 2)) + (if (if v5 < v7 then 0 else 1) = 0 then 0 else 1)) + (if (if v6 < v7 then 0 else 1) = 0 then 0 else 2))), (9, .int (if v6 < v7 then 0 else 1)), (8, .int (if v5 < v7 then 0 else 1)), (7, .int v7), (6, .int v6), (4, .int v4), (0, .ref 3), (1, .int v1), (2, .int v2), (3, .int v3)] [.int ((T_178 s 7 16 (((4 * (v1 - 2)) + (if (if v5 < v7 then 0 else 1) = 0 then 0 else 1)) + (if (if v6 < v7 then 0 else 1) = 0 then 0 else 2))) &&& 1)] (N, hm_sh L g, s) _ Q
        refine hm_st hR ⟨fun c => ?_, fun c => ?_⟩
        · rw [if_neg c] at G; exact hm_st hR (G)
        · rw [if_pos c] at G; exact hm_st hR (hm_st hR (G))
      refine hm_st hR (hm_st hR (hm_st hR (hm_st hR (?_))))
      show R 96 160 [(6, .int (if ((T_178 s 7 16 (((4 * (v1 - 2)) + (if (if v5 < v7 then 0 else 1) = 0 then 0 else 1)) + (if (if v6 < v7 then 0 else 1) = 0 then 0 else 2))) &&& 1) = 0 then (if (if v6 < v7 then 0 else 1) = 0 then v6 else (v6 - v7)) else (if (if v5 < v7 then 0 else 1) = 0 then v5 else (v5 - v7)))), (5, .int (if ((T_178 s 7 16 (((4 * (v1 - 2)) + (if (if v5 < v7 then 0 else 1) = 0 then 0 else 1)) + (if (if v6 < v7 then 0 else 1) = 0 then 0 else 2))) &&& 1) = 0 then (if (if v5 < v7 then 0 else 1) = 0 then v5 else (v5 - v7)) else (if (if v6 < v7 then 0 else 1) = 0 then v6 else (v6 - v7)))), (13, .int (if (if v6 < v7 then 0 else 1) = 0 then v6 else (v6 - v7))), (12, .int (if (if v5 < v7 then 0 else 1) = 0 then v5 else (v5 - v7))), (11, .int (T_178 s 7 16 (((4 * (v1 - 2)) + (if (if v5 < v7 then 0 else 1) = 0 then 0 else 1)) + (if (if v6 < v7 then 0 else 1) = 0 then 0 else 2)))), (10, .int (((4 * (v1 - 2)) + (if (if v5 < v7 then 0 else 1) = 0 then 0 else 1)) + (if (if v6 < v7 then 0 else 1) = 0 then 0 else 2))), (9, .int (if v6 < v7 then 0 else 1)), (8, .int (if v5 < v7 then 0 else 1)), (7, .int v7), (4, .int v4), (0, .ref 3), (1, .int v1), (2, .int v2), (3, .int v3)] [.int ((T_178 s 7 16 (((4 * (v1 - 2)) + (if (if v5 < v7 then 0 else 1) = 0 then 0 else 1)) + (if (if v6 < v7 then 0 else 1) = 0 then 0 else 2))) &&& 2)] (N, hm_sh L g, s) _ Q
      suffices G : R 96 175 [(6, .int (if ((T_178 s 7 16 (((4 * (v1 - 2)) + (if (if v5 < v7 then 0 else 1) = 0 then 0 else 1)) + (if (if v6 < v7 then 0 else 1) = 0 then 0 else 2))) &&& 1) = 0 then (if (if v6 < v7 then 0 else 1) = 0 then v6 else (v6 - v7)) else (if (if v5 < v7 then 0 else 1) = 0 then v5 else (v5 - v7)))), (5, .int (if ((T_178 s 7 16 (((4 * (v1 - 2)) + (if (if v5 < v7 then 0 else 1) = 0 then 0 else 1)) + (if (if v6 < v7 then 0 else 1) = 0 then 0 else 2))) &&& 1) = 0 then (if (if v5 < v7 then 0 else 1) = 0 then v5 else (v5 - v7)) else (if (if v6 < v7 then 0 else 1) = 0 then v6 else (v6 - v7)))), (13, .int (if (if v6 < v7 then 0 else 1) = 0 then v6 else (v6 - v7))), (12, .int (if (if v5 < v7 then 0 else 1) = 0 then v5 else (v5 - v7))), (11, .int (T_178 s 7 16 (((4 * (v1 - 2)) + (if (if v5 < v7 then 0 else 1) = 0 then 0 else 1)) + (if (if v6 < v7 then 0 else 1) = 0 then 0 else 2)))), (10, .int (((4 * (v1 - 2)) + (if (if v5 < v7 then 0 else 1) = 0 then 0 else 1)) + (if (if v6 < v7 then 0 else 1) = 0 then 0 else 2))), (9, .int (if v6 < v7 then 0 else 1)), (8, .int (if v5 < v7 then 0 else 1)), (7, .int v7), (4, .int v4), (0, .ref 3), (1, .int v1), (2, .int v2), (3, .int v3)] [.int (if ((T_178 s 7 16 (((4 * (v1 - 2)) + (if (if v5 < v7 then 0 else 1) = 0 then 0 else 1)) + (if (if v6 < v7 then 0 else 1) = 0 then 0 else 2))) &&& 2) = 0 then (if ((T_178 s 7 16 (((4 * (v1 - 2)) + (if (if v5 < v7 then 0 else 1) = 0 then 0 else 1)) + (if (if v6 < v7 then 0 else 1) = 0 then 0 else 2))) &&& 1) = 0 then (if (if v5 < v7 then 0 else 1) = 0 then v5 else (v5 - v7)) else (if (if v6 < v7 then 0 else 1) = 0 then v6 else (v6 - v7))) else ((v7 - 1) - (if ((T_178 s 7 16 (((4 * (v1 - 2)) + (if (if v5 < v7 then 0 else 1) = 0 then 0 else 1)) + (if (if v6 < v7 then 0 else 1) = 0 then 0 else 2))) &&& 1) = 0 then (if (if v5 < v7 then 0 else 1) = 0 then v5 else (v5 - v7)) else (if (if v6 < v7 then 0 else 1) = 0 then v6 else (v6 - v7)))))] (N, hm_sh L g, s) (b.1 - 0, b.2 - 0) Q by
        show R 96 160 [(6, .int (if ((T_178 s 7 16 (((4 * (v1 - 2)) + (if (if v5 < v7 then 0 else 1) = 0 then 0 else 1)) + (if (if v6 < v7 then 0 else 1) = 0 then 0 else 2))) &&& 1) = 0 then (if (if v6 < v7 then 0 else 1) = 0 then v6 else (v6 - v7)) else (if (if v5 < v7 then 0 else 1) = 0 then v5 else (v5 - v7)))), (5, .int (if ((T_178 s 7 16 (((4 * (v1 - 2)) + (if (if v5 < v7 then 0 else 1) = 0 then 0 else 1)) + (if (if v6 < v7 then 0 else 1) = 0 then 0 else 2))) &&& 1) = 0 then (if (if v5 < v7 then 0 else 1) = 0 then v5 else (v5 - v7)) else (if (if v6 < v7 then 0 else 1) = 0 then v6 else (v6 - v7)))), (13, .int (if (if v6 < v7 then 0 else 1) = 0 then v6 else (v6 - v7))), (12, .int (if (if v5 < v7 then 0 else 1) = 0 then v5 else (v5 - v7))), (11, .int (T_178 s 7 16 (((4 * (v1 - 2)) + (if (if v5 < v7 then 0 else 1) = 0 then 0 else 1)) + (if (if v6 < v7 then 0 else 1) = 0 then 0 else 2)))), (10, .int (((4 * (v1 - 2)) + (if (if v5 < v7 then 0 else 1) = 0 then 0 else 1)) + (if (if v6 < v7 then 0 else 1) = 0 then 0 else 2))), (9, .int (if v6 < v7 then 0 else 1)), (8, .int (if v5 < v7 then 0 else 1)), (7, .int v7), (4, .int v4), (0, .ref 3), (1, .int v1), (2, .int v2), (3, .int v3)] [.int ((T_178 s 7 16 (((4 * (v1 - 2)) + (if (if v5 < v7 then 0 else 1) = 0 then 0 else 1)) + (if (if v6 < v7 then 0 else 1) = 0 then 0 else 2))) &&& 2)] (N, hm_sh L g, s) _ Q
        refine hm_st hR ⟨fun c => ?_, fun c => ?_⟩
        · rw [if_neg c] at G; exact hm_st hR (hm_st hR (hm_st hR (hm_st hR (hm_st hR (G)))))
        · rw [if_pos c] at G; exact hm_st hR (hm_st hR (G))
      refine hm_st hR (hm_st hR (hm_st hR (hm_st hR (?_))))
      show R 96 181 [(5, .int (if ((T_178 s 7 16 (((4 * (v1 - 2)) + (if (if v5 < v7 then 0 else 1) = 0 then 0 else 1)) + (if (if v6 < v7 then 0 else 1) = 0 then 0 else 2))) &&& 2) = 0 then (if ((T_178 s 7 16 (((4 * (v1 - 2)) + (if (if v5 < v7 then 0 else 1) = 0 then 0 else 1)) + (if (if v6 < v7 then 0 else 1) = 0 then 0 else 2))) &&& 1) = 0 then (if (if v5 < v7 then 0 else 1) = 0 then v5 else (v5 - v7)) else (if (if v6 < v7 then 0 else 1) = 0 then v6 else (v6 - v7))) else ((v7 - 1) - (if ((T_178 s 7 16 (((4 * (v1 - 2)) + (if (if v5 < v7 then 0 else 1) = 0 then 0 else 1)) + (if (if v6 < v7 then 0 else 1) = 0 then 0 else 2))) &&& 1) = 0 then (if (if v5 < v7 then 0 else 1) = 0 then v5 else (v5 - v7)) else (if (if v6 < v7 then 0 else 1) = 0 then v6 else (v6 - v7)))))), (6, .int (if ((T_178 s 7 16 (((4 * (v1 - 2)) + (if (if v5 < v7 then 0 else 1) = 0 then 0 else 1)) + (if (if v6 < v7 then 0 else 1) = 0 then 0 else 2))) &&& 1) = 0 then (if (if v6 < v7 then 0 else 1) = 0 then v6 else (v6 - v7)) else (if (if v5 < v7 then 0 else 1) = 0 then v5 else (v5 - v7)))), (13, .int (if (if v6 < v7 then 0 else 1) = 0 then v6 else (v6 - v7))), (12, .int (if (if v5 < v7 then 0 else 1) = 0 then v5 else (v5 - v7))), (11, .int (T_178 s 7 16 (((4 * (v1 - 2)) + (if (if v5 < v7 then 0 else 1) = 0 then 0 else 1)) + (if (if v6 < v7 then 0 else 1) = 0 then 0 else 2)))), (10, .int (((4 * (v1 - 2)) + (if (if v5 < v7 then 0 else 1) = 0 then 0 else 1)) + (if (if v6 < v7 then 0 else 1) = 0 then 0 else 2))), (9, .int (if v6 < v7 then 0 else 1)), (8, .int (if v5 < v7 then 0 else 1)), (7, .int v7), (4, .int v4), (0, .ref 3), (1, .int v1), (2, .int v2), (3, .int v3)] [.int ((T_178 s 7 16 (((4 * (v1 - 2)) + (if (if v5 < v7 then 0 else 1) = 0 then 0 else 1)) + (if (if v6 < v7 then 0 else 1) = 0 then 0 else 2))) &&& 4)] (N, hm_sh L g, s) _ Q
      suffices G : R 96 196 [(5, .int (if ((T_178 s 7 16 (((4 * (v1 - 2)) + (if (if v5 < v7 then 0 else 1) = 0 then 0 else 1)) + (if (if v6 < v7 then 0 else 1) = 0 then 0 else 2))) &&& 2) = 0 then (if ((T_178 s 7 16 (((4 * (v1 - 2)) + (if (if v5 < v7 then 0 else 1) = 0 then 0 else 1)) + (if (if v6 < v7 then 0 else 1) = 0 then 0 else 2))) &&& 1) = 0 then (if (if v5 < v7 then 0 else 1) = 0 then v5 else (v5 - v7)) else (if (if v6 < v7 then 0 else 1) = 0 then v6 else (v6 - v7))) else ((v7 - 1) - (if ((T_178 s 7 16 (((4 * (v1 - 2)) + (if (if v5 < v7 then 0 else 1) = 0 then 0 else 1)) + (if (if v6 < v7 then 0 else 1) = 0 then 0 else 2))) &&& 1) = 0 then (if (if v5 < v7 then 0 else 1) = 0 then v5 else (v5 - v7)) else (if (if v6 < v7 then 0 else 1) = 0 then v6 else (v6 - v7)))))), (6, .int (if ((T_178 s 7 16 (((4 * (v1 - 2)) + (if (if v5 < v7 then 0 else 1) = 0 then 0 else 1)) + (if (if v6 < v7 then 0 else 1) = 0 then 0 else 2))) &&& 1) = 0 then (if (if v6 < v7 then 0 else 1) = 0 then v6 else (v6 - v7)) else (if (if v5 < v7 then 0 else 1) = 0 then v5 else (v5 - v7)))), (13, .int (if (if v6 < v7 then 0 else 1) = 0 then v6 else (v6 - v7))), (12, .int (if (if v5 < v7 then 0 else 1) = 0 then v5 else (v5 - v7))), (11, .int (T_178 s 7 16 (((4 * (v1 - 2)) + (if (if v5 < v7 then 0 else 1) = 0 then 0 else 1)) + (if (if v6 < v7 then 0 else 1) = 0 then 0 else 2)))), (10, .int (((4 * (v1 - 2)) + (if (if v5 < v7 then 0 else 1) = 0 then 0 else 1)) + (if (if v6 < v7 then 0 else 1) = 0 then 0 else 2))), (9, .int (if v6 < v7 then 0 else 1)), (8, .int (if v5 < v7 then 0 else 1)), (7, .int v7), (4, .int v4), (0, .ref 3), (1, .int v1), (2, .int v2), (3, .int v3)] [.int (if ((T_178 s 7 16 (((4 * (v1 - 2)) + (if (if v5 < v7 then 0 else 1) = 0 then 0 else 1)) + (if (if v6 < v7 then 0 else 1) = 0 then 0 else 2))) &&& 4) = 0 then (if ((T_178 s 7 16 (((4 * (v1 - 2)) + (if (if v5 < v7 then 0 else 1) = 0 then 0 else 1)) + (if (if v6 < v7 then 0 else 1) = 0 then 0 else 2))) &&& 1) = 0 then (if (if v6 < v7 then 0 else 1) = 0 then v6 else (v6 - v7)) else (if (if v5 < v7 then 0 else 1) = 0 then v5 else (v5 - v7))) else ((v7 - 1) - (if ((T_178 s 7 16 (((4 * (v1 - 2)) + (if (if v5 < v7 then 0 else 1) = 0 then 0 else 1)) + (if (if v6 < v7 then 0 else 1) = 0 then 0 else 2))) &&& 1) = 0 then (if (if v6 < v7 then 0 else 1) = 0 then v6 else (v6 - v7)) else (if (if v5 < v7 then 0 else 1) = 0 then v5 else (v5 - v7)))))] (N, hm_sh L g, s) (b.1 - 0, b.2 - 0) Q by
        show R 96 181 [(5, .int (if ((T_178 s 7 16 (((4 * (v1 - 2)) + (if (if v5 < v7 then 0 else 1) = 0 then 0 else 1)) + (if (if v6 < v7 then 0 else 1) = 0 then 0 else 2))) &&& 2) = 0 then (if ((T_178 s 7 16 (((4 * (v1 - 2)) + (if (if v5 < v7 then 0 else 1) = 0 then 0 else 1)) + (if (if v6 < v7 then 0 else 1) = 0 then 0 else 2))) &&& 1) = 0 then (if (if v5 < v7 then 0 else 1) = 0 then v5 else (v5 - v7)) else (if (if v6 < v7 then 0 else 1) = 0 then v6 else (v6 - v7))) else ((v7 - 1) - (if ((T_178 s 7 16 (((4 * (v1 - 2)) + (if (if v5 < v7 then 0 else 1) = 0 then 0 else 1)) + (if (if v6 < v7 then 0 else 1) = 0 then 0 else 2))) &&& 1) = 0 then (if (if v5 < v7 then 0 else 1) = 0 then v5 else (v5 - v7)) else (if (if v6 < v7 then 0 else 1) = 0 then v6 else (v6 - v7)))))), (6, .int (if ((T_178 s 7 16 (((4 * (v1 - 2)) + (if (if v5 < v7 then 0 else 1) = 0 then 0 else 1)) + (if (if v6 < v7 then 0 else 1) = 0 then 0 else 2))) &&& 1) = 0 then (if (if v6 < v7 then 0 else 1) = 0 then v6 else (v6 - v7)) else (if (if v5 < v7 then 0 else 1) = 0 then v5 else (v5 - v7)))), (13, .int (if (if v6 < v7 then 0 else 1) = 0 then v6 else (v6 - v7))), (12, .int (if (if v5 < v7 then 0 else 1) = 0 then v5 else (v5 - v7))), (11, .int (T_178 s 7 16 (((4 * (v1 - 2)) + (if (if v5 < v7 then 0 else 1) = 0 then 0 else 1)) + (if (if v6 < v7 then 0 else 1) = 0 then 0 else 2)))), (10, .int (((4 * (v1 - 2)) + (if (if v5 < v7 then 0 else 1) = 0 then 0 else 1)) + (if (if v6 < v7 then 0 else 1) = 0 then 0 else 2))), (9, .int (if v6 < v7 then 0 else 1)), (8, .int (if v5 < v7 then 0 else 1)), (7, .int v7), (4, .int v4), (0, .ref 3), (1, .int v1), (2, .int v2), (3, .int v3)] [.int ((T_178 s 7 16 (((4 * (v1 - 2)) + (if (if v5 < v7 then 0 else 1) = 0 then 0 else 1)) + (if (if v6 < v7 then 0 else 1) = 0 then 0 else 2))) &&& 4)] (N, hm_sh L g, s) _ Q
        refine hm_st hR ⟨fun c => ?_, fun c => ?_⟩
        · rw [if_neg c] at G; exact hm_st hR (hm_st hR (hm_st hR (hm_st hR (hm_st hR (G)))))
        · rw [if_pos c] at G; exact hm_st hR (hm_st hR (G))
      refine hm_st hR (hm_st hR (hm_st hR (hm_st hR ⟨rfl, hm_le rfl, (hm_ltN hN rfl), hm_st hR (?_)⟩)))
      refine hm_st hR ⟨hm_le rfl, rfl, (hm_le rfl), (hm_ltN hN rfl), hm_le rfl, hm_le rfl, (0, 0), Nat.zero_le _, Nat.zero_le _, ?_⟩
      refine sp_178 hR hN (rr := 4) (aa := 5) (nn := 16) rfl rfl (hm_le rfl) (hm_ltN hN rfl) rfl rfl (hm_le rfl) (hm_ltN hN rfl) (by decide) ?_
      show R 96 209 [(6, .int (if ((T_178 s 7 16 (((4 * (v1 - 2)) + (if (if v5 < v7 then 0 else 1) = 0 then 0 else 1)) + (if (if v6 < v7 then 0 else 1) = 0 then 0 else 2))) &&& 4) = 0 then (if ((T_178 s 7 16 (((4 * (v1 - 2)) + (if (if v5 < v7 then 0 else 1) = 0 then 0 else 1)) + (if (if v6 < v7 then 0 else 1) = 0 then 0 else 2))) &&& 1) = 0 then (if (if v6 < v7 then 0 else 1) = 0 then v6 else (v6 - v7)) else (if (if v5 < v7 then 0 else 1) = 0 then v5 else (v5 - v7))) else ((v7 - 1) - (if ((T_178 s 7 16 (((4 * (v1 - 2)) + (if (if v5 < v7 then 0 else 1) = 0 then 0 else 1)) + (if (if v6 < v7 then 0 else 1) = 0 then 0 else 2))) &&& 1) = 0 then (if (if v6 < v7 then 0 else 1) = 0 then v6 else (v6 - v7)) else (if (if v5 < v7 then 0 else 1) = 0 then v5 else (v5 - v7)))))), (5, .int (if ((T_178 s 7 16 (((4 * (v1 - 2)) + (if (if v5 < v7 then 0 else 1) = 0 then 0 else 1)) + (if (if v6 < v7 then 0 else 1) = 0 then 0 else 2))) &&& 2) = 0 then (if ((T_178 s 7 16 (((4 * (v1 - 2)) + (if (if v5 < v7 then 0 else 1) = 0 then 0 else 1)) + (if (if v6 < v7 then 0 else 1) = 0 then 0 else 2))) &&& 1) = 0 then (if (if v5 < v7 then 0 else 1) = 0 then v5 else (v5 - v7)) else (if (if v6 < v7 then 0 else 1) = 0 then v6 else (v6 - v7))) else ((v7 - 1) - (if ((T_178 s 7 16 (((4 * (v1 - 2)) + (if (if v5 < v7 then 0 else 1) = 0 then 0 else 1)) + (if (if v6 < v7 then 0 else 1) = 0 then 0 else 2))) &&& 1) = 0 then (if (if v5 < v7 then 0 else 1) = 0 then v5 else (v5 - v7)) else (if (if v6 < v7 then 0 else 1) = 0 then v6 else (v6 - v7)))))), (13, .int (if (if v6 < v7 then 0 else 1) = 0 then v6 else (v6 - v7))), (12, .int (if (if v5 < v7 then 0 else 1) = 0 then v5 else (v5 - v7))), (11, .int (T_178 s 7 16 (((4 * (v1 - 2)) + (if (if v5 < v7 then 0 else 1) = 0 then 0 else 1)) + (if (if v6 < v7 then 0 else 1) = 0 then 0 else 2)))), (10, .int (((4 * (v1 - 2)) + (if (if v5 < v7 then 0 else 1) = 0 then 0 else 1)) + (if (if v6 < v7 then 0 else 1) = 0 then 0 else 2))), (9, .int (if v6 < v7 then 0 else 1)), (8, .int (if v5 < v7 then 0 else 1)), (7, .int v7), (4, .int v4), (0, .ref 3), (1, .int v1), (2, .int v2), (3, .int v3)] [.int (T_178 s 5 16 (((4 * (v1 - 2)) + (if (if v5 < v7 then 0 else 1) = 0 then 0 else 1)) + (if (if v6 < v7 then 0 else 1) = 0 then 0 else 2))), .int v4] (N, hm_sh L g, s) _ Q
      refine hm_st hR (hm_st hR (hm_st hR (hm_st hR (hm_st hR (hm_st hR (hm_st hR (hm_st hR (hm_st hR ⟨(by decide), hm_st hR (hm_st hR (?_))⟩))))))))
      show R 96 17 [(7, .int (v7 / 2)), (4, .int (v4 + (((T_178 s 5 16 (((4 * (v1 - 2)) + (if (if v5 < v7 then 0 else 1) = 0 then 0 else 1)) + (if (if v6 < v7 then 0 else 1) = 0 then 0 else 2))) * v7) * v7))), (6, .int (if ((T_178 s 7 16 (((4 * (v1 - 2)) + (if (if v5 < v7 then 0 else 1) = 0 then 0 else 1)) + (if (if v6 < v7 then 0 else 1) = 0 then 0 else 2))) &&& 4) = 0 then (if ((T_178 s 7 16 (((4 * (v1 - 2)) + (if (if v5 < v7 then 0 else 1) = 0 then 0 else 1)) + (if (if v6 < v7 then 0 else 1) = 0 then 0 else 2))) &&& 1) = 0 then (if (if v6 < v7 then 0 else 1) = 0 then v6 else (v6 - v7)) else (if (if v5 < v7 then 0 else 1) = 0 then v5 else (v5 - v7))) else ((v7 - 1) - (if ((T_178 s 7 16 (((4 * (v1 - 2)) + (if (if v5 < v7 then 0 else 1) = 0 then 0 else 1)) + (if (if v6 < v7 then 0 else 1) = 0 then 0 else 2))) &&& 1) = 0 then (if (if v6 < v7 then 0 else 1) = 0 then v6 else (v6 - v7)) else (if (if v5 < v7 then 0 else 1) = 0 then v5 else (v5 - v7)))))), (5, .int (if ((T_178 s 7 16 (((4 * (v1 - 2)) + (if (if v5 < v7 then 0 else 1) = 0 then 0 else 1)) + (if (if v6 < v7 then 0 else 1) = 0 then 0 else 2))) &&& 2) = 0 then (if ((T_178 s 7 16 (((4 * (v1 - 2)) + (if (if v5 < v7 then 0 else 1) = 0 then 0 else 1)) + (if (if v6 < v7 then 0 else 1) = 0 then 0 else 2))) &&& 1) = 0 then (if (if v5 < v7 then 0 else 1) = 0 then v5 else (v5 - v7)) else (if (if v6 < v7 then 0 else 1) = 0 then v6 else (v6 - v7))) else ((v7 - 1) - (if ((T_178 s 7 16 (((4 * (v1 - 2)) + (if (if v5 < v7 then 0 else 1) = 0 then 0 else 1)) + (if (if v6 < v7 then 0 else 1) = 0 then 0 else 2))) &&& 1) = 0 then (if (if v5 < v7 then 0 else 1) = 0 then v5 else (v5 - v7)) else (if (if v6 < v7 then 0 else 1) = 0 then v6 else (v6 - v7)))))), (13, .int (if (if v6 < v7 then 0 else 1) = 0 then v6 else (v6 - v7))), (12, .int (if (if v5 < v7 then 0 else 1) = 0 then v5 else (v5 - v7))), (11, .int (T_178 s 7 16 (((4 * (v1 - 2)) + (if (if v5 < v7 then 0 else 1) = 0 then 0 else 1)) + (if (if v6 < v7 then 0 else 1) = 0 then 0 else 2)))), (10, .int (((4 * (v1 - 2)) + (if (if v5 < v7 then 0 else 1) = 0 then 0 else 1)) + (if (if v6 < v7 then 0 else 1) = 0 then 0 else 2))), (9, .int (if v6 < v7 then 0 else 1)), (8, .int (if v5 < v7 then 0 else 1)), (0, .ref 3), (1, .int v1), (2, .int v2), (3, .int v3)] [] (N, hm_sh L g, s) _ Q
      exact hm_lvS hR (by intro q hq; simp only [List.mem_cons, List.not_mem_nil, or_false] at hq ⊢; rcases hq with rfl | rfl | rfl | rfl | rfl | rfl | rfl | rfl <;> simp) (ih s v1 v2 v3 (v4 + (((T_178 s 5 16 (((4 * (v1 - 2)) + (if (if v5 < v7 then 0 else 1) = 0 then 0 else 1)) + (if (if v6 < v7 then 0 else 1) = 0 then 0 else 2))) * v7) * v7)) (if ((T_178 s 7 16 (((4 * (v1 - 2)) + (if (if v5 < v7 then 0 else 1) = 0 then 0 else 1)) + (if (if v6 < v7 then 0 else 1) = 0 then 0 else 2))) &&& 2) = 0 then (if ((T_178 s 7 16 (((4 * (v1 - 2)) + (if (if v5 < v7 then 0 else 1) = 0 then 0 else 1)) + (if (if v6 < v7 then 0 else 1) = 0 then 0 else 2))) &&& 1) = 0 then (if (if v5 < v7 then 0 else 1) = 0 then v5 else (v5 - v7)) else (if (if v6 < v7 then 0 else 1) = 0 then v6 else (v6 - v7))) else ((v7 - 1) - (if ((T_178 s 7 16 (((4 * (v1 - 2)) + (if (if v5 < v7 then 0 else 1) = 0 then 0 else 1)) + (if (if v6 < v7 then 0 else 1) = 0 then 0 else 2))) &&& 1) = 0 then (if (if v5 < v7 then 0 else 1) = 0 then v5 else (v5 - v7)) else (if (if v6 < v7 then 0 else 1) = 0 then v6 else (v6 - v7))))) (if ((T_178 s 7 16 (((4 * (v1 - 2)) + (if (if v5 < v7 then 0 else 1) = 0 then 0 else 1)) + (if (if v6 < v7 then 0 else 1) = 0 then 0 else 2))) &&& 4) = 0 then (if ((T_178 s 7 16 (((4 * (v1 - 2)) + (if (if v5 < v7 then 0 else 1) = 0 then 0 else 1)) + (if (if v6 < v7 then 0 else 1) = 0 then 0 else 2))) &&& 1) = 0 then (if (if v6 < v7 then 0 else 1) = 0 then v6 else (v6 - v7)) else (if (if v5 < v7 then 0 else 1) = 0 then v5 else (v5 - v7))) else ((v7 - 1) - (if ((T_178 s 7 16 (((4 * (v1 - 2)) + (if (if v5 < v7 then 0 else 1) = 0 then 0 else 1)) + (if (if v6 < v7 then 0 else 1) = 0 then 0 else 2))) &&& 1) = 0 then (if (if v6 < v7 then 0 else 1) = 0 then v6 else (v6 - v7)) else (if (if v5 < v7 then 0 else 1) = 0 then v5 else (v5 - v7))))) (v7 / 2) (hm_dch c19 hm) hq)
set_option maxRecDepth 20000 in
theorem sp_96 {R : hm_R} (hR : hm_Cm R) {N L : Nat} {g : Nat → hm_Sh} {s : hm_St} {b : hm_B} {Q : hm_Q} (hN : 68 ≤ N) {p1 : Int32} {p2 : Int32} {p3 : Int32} (hq : Q (.inr (some (.int (T_96 s p1 p2 p3)))) (N, hm_sh L g, s)) : R 96 0 (lv_args 0 [.ref 3, .int p1, .int p2, .int p3]) [] (N, hm_sh L g, s) b Q := by
  unfold T_96 at hq
  show R 96 0 [(0, .ref 3), (1, .int p1), (2, .int p2), (3, .int p3)] [] (N, hm_sh L g, s) _ Q
  refine hm_st hR (hm_st hR (hm_st hR (hm_st hR (hm_st hR (hm_st hR (hm_st hR (hm_st hR ⟨rfl, hm_le rfl, (hm_ltN hN rfl), hm_st hR (hm_st hR ⟨(by decide), hm_st hR (?_)⟩)⟩)))))))
  show R 96 17 [(7, .int ((s 3 6) / 2)), (6, .int p3), (5, .int p2), (4, .int 0), (0, .ref 3), (1, .int p1), (2, .int p2), (3, .int p3)] [] (N, hm_sh L g, s) _ Q
  exact lp_96_17 hR hN _ _ _ _ _ _ _ _ _ (Nat.lt_succ_self _) hq
/-- CurvekeyHouse$Curves.reckon(III)I -/
def T_95 (s : hm_St) (p1 : Int32) (p2 : Int32) (p3 : Int32) : Int32 := (if p1 = 0 then ((p3 * (s 3 6)) + p2) else (if p1 = 1 then ((p3 * (s 3 6)) + (if (p3 &&& 1) = 0 then p2 else (((s 3 6) - 1) - p2))) else (T_96 s p1 p2 p3)))
set_option maxRecDepth 20000 in
theorem sp_95 {R : hm_R} (hR : hm_Cm R) {N L : Nat} {g : Nat → hm_Sh} {s : hm_St} {b : hm_B} {Q : hm_Q} (hN : 68 ≤ N) {p1 : Int32} {p2 : Int32} {p3 : Int32} (hq : Q (.inr (some (.int (T_95 s p1 p2 p3)))) (N, hm_sh L g, s)) : R 95 0 (lv_args 0 [.ref 3, .int p1, .int p2, .int p3]) [] (N, hm_sh L g, s) b Q := by
  unfold T_95 at hq
  show R 95 0 [(0, .ref 3), (1, .int p1), (2, .int p2), (3, .int p3)] [] (N, hm_sh L g, s) _ Q
  refine hm_st hR (?_)
  show R 95 1 [(0, .ref 3), (1, .int p1), (2, .int p2), (3, .int p3)] [.int p1] (N, hm_sh L g, s) _ Q
  refine hm_st hR ⟨fun c1 => ?_, fun c1 => ?_⟩
  · rw [if_neg c1] at hq
    show R 95 13 [(0, .ref 3), (1, .int p1), (2, .int p2), (3, .int p3)] [] (N, hm_sh L g, s) _ Q
    refine hm_st hR (hm_st hR (?_))
    show R 95 15 [(0, .ref 3), (1, .int p1), (2, .int p2), (3, .int p3)] [.int 1, .int p1] (N, hm_sh L g, s) _ Q
    refine hm_st hR ⟨fun c15 => ?_, fun c15 => ?_⟩
    · rw [if_neg c15] at hq
      show R 95 44 [(0, .ref 3), (1, .int p1), (2, .int p2), (3, .int p3)] [] (N, hm_sh L g, s) _ Q
      refine hm_st hR (hm_st hR (hm_st hR (hm_st hR (?_))))
      refine hm_st hR ⟨hm_le rfl, rfl, (hm_le rfl), (hm_ltN hN rfl), hm_le rfl, hm_le rfl, (0, 0), Nat.zero_le _, Nat.zero_le _, ?_⟩
      refine sp_96 hR hN ?_
      show R 95 51 [(0, .ref 3), (1, .int p1), (2, .int p2), (3, .int p3)] [.int (T_96 s p1 p2 p3)] (N, hm_sh L g, s) _ Q
      exact hm_st hR ⟨fun z => absurd z (by decide), hq⟩
    · rw [if_pos c15] at hq
      show R 95 18 [(0, .ref 3), (1, .int p1), (2, .int p2), (3, .int p3)] [] (N, hm_sh L g, s) _ Q
      refine hm_st hR (hm_st hR (hm_st hR ⟨rfl, hm_le rfl, (hm_ltN hN rfl), hm_st hR (hm_st hR (hm_st hR (hm_st hR (?_))))⟩))
      show R 95 27 [(0, .ref 3), (1, .int p1), (2, .int p2), (3, .int p3)] [.int (p3 &&& 1), .int (p3 * (s 3 6))] (N, hm_sh L g, s) _ Q
      suffices G : R 95 42 [(0, .ref 3), (1, .int p1), (2, .int p2), (3, .int p3)] [.int (if (p3 &&& 1) = 0 then p2 else (((s 3 6) - 1) - p2)), .int (p3 * (s 3 6))] (N, hm_sh L g, s) b Q by
        show R 95 27 [(0, .ref 3), (1, .int p1), (2, .int p2), (3, .int p3)] [.int (p3 &&& 1), .int (p3 * (s 3 6))] (N, hm_sh L g, s) _ Q
        refine hm_st hR ⟨fun c => ?_, fun c => ?_⟩
        · rw [if_neg c] at G; exact hm_st hR (hm_st hR ⟨rfl, hm_le rfl, (hm_ltN hN rfl), hm_st hR (hm_st hR (hm_st hR (hm_st hR (G))))⟩)
        · rw [if_pos c] at G; exact hm_st hR (hm_st hR (G))
      refine hm_st hR (?_)
      exact hm_st hR ⟨fun z => absurd z (by decide), hq⟩
  · rw [if_pos c1] at hq
    show R 95 4 [(0, .ref 3), (1, .int p1), (2, .int p2), (3, .int p3)] [] (N, hm_sh L g, s) _ Q
    refine hm_st hR (hm_st hR (hm_st hR ⟨rfl, hm_le rfl, (hm_ltN hN rfl), hm_st hR (hm_st hR (hm_st hR (?_)))⟩))
    exact hm_st hR ⟨fun z => absurd z (by decide), hq⟩
/-- CurvekeyHouse$Curves.isBeside(III)Z -/
def T_98 (s : hm_St) (p1 : Int32) (p2 : Int32) (p3 : Int32) : Int32 := (if ((hm_abs ((T_89 s p1 p2) - (T_89 s p1 p3))) + (hm_abs ((T_90 s p1 p2) - (T_90 s p1 p3)))) = 1 then 1 else 0)
theorem B_98 (s : hm_St) (p1 : Int32) (p2 : Int32) (p3 : Int32) : T_98 s p1 p2 p3 = 0 ∨ T_98 s p1 p2 p3 = 1 := by
  unfold T_98
  repeat' split
  all_goals first | exact Or.inl rfl | exact Or.inr rfl
set_option maxRecDepth 20000 in
theorem sp_98 {R : hm_R} (hR : hm_Cm R) {N L : Nat} {g : Nat → hm_Sh} {s : hm_St} {b : hm_B} {Q : hm_Q} (hN : 68 ≤ N) {p1 : Int32} {p2 : Int32} {p3 : Int32} (hq : Q (.inr (some (.int (T_98 s p1 p2 p3)))) (N, hm_sh L g, s)) : R 98 0 (lv_args 0 [.ref 3, .int p1, .int p2, .int p3]) [] (N, hm_sh L g, s) b Q := by
  unfold T_98 at hq
  show R 98 0 [(0, .ref 3), (1, .int p1), (2, .int p2), (3, .int p3)] [] (N, hm_sh L g, s) _ Q
  refine hm_st hR (hm_st hR (hm_st hR (?_)))
  refine hm_st hR ⟨hm_le rfl, rfl, (hm_le rfl), (hm_ltN hN rfl), hm_le rfl, hm_le rfl, (0, 0), Nat.zero_le _, Nat.zero_le _, ?_⟩
  refine sp_89 hR hN ?_
  show R 98 6 [(0, .ref 3), (1, .int p1), (2, .int p2), (3, .int p3)] [.int (T_89 s p1 p2)] (N, hm_sh L g, s) _ Q
  refine hm_st hR (hm_st hR (hm_st hR (?_)))
  refine hm_st hR ⟨hm_le rfl, rfl, (hm_le rfl), (hm_ltN hN rfl), hm_le rfl, hm_le rfl, (0, 0), Nat.zero_le _, Nat.zero_le _, ?_⟩
  refine sp_89 hR hN ?_
  show R 98 12 [(0, .ref 3), (1, .int p1), (2, .int p2), (3, .int p3)] [.int (T_89 s p1 p3), .int (T_89 s p1 p2)] (N, hm_sh L g, s) _ Q
  refine hm_st hR (hm_st hR ⟨hm_le rfl, ?_⟩)
  show R 98 16 [(0, .ref 3), (1, .int p1), (2, .int p2), (3, .int p3)] [.int (hm_abs ((T_89 s p1 p2) - (T_89 s p1 p3)))] (N, hm_sh L g, s) _ Q
  refine hm_st hR (hm_st hR (hm_st hR (hm_st hR (?_))))
  refine hm_st hR ⟨hm_le rfl, rfl, (hm_le rfl), (hm_ltN hN rfl), hm_le rfl, hm_le rfl, (0, 0), Nat.zero_le _, Nat.zero_le _, ?_⟩
  refine sp_90 hR hN ?_
  show R 98 24 [(4, .int (hm_abs ((T_89 s p1 p2) - (T_89 s p1 p3)))), (0, .ref 3), (1, .int p1), (2, .int p2), (3, .int p3)] [.int (T_90 s p1 p2)] (N, hm_sh L g, s) _ Q
  refine hm_st hR (hm_st hR (hm_st hR (?_)))
  refine hm_st hR ⟨hm_le rfl, rfl, (hm_le rfl), (hm_ltN hN rfl), hm_le rfl, hm_le rfl, (0, 0), Nat.zero_le _, Nat.zero_le _, ?_⟩
  refine sp_90 hR hN ?_
  show R 98 30 [(4, .int (hm_abs ((T_89 s p1 p2) - (T_89 s p1 p3)))), (0, .ref 3), (1, .int p1), (2, .int p2), (3, .int p3)] [.int (T_90 s p1 p3), .int (T_90 s p1 p2)] (N, hm_sh L g, s) _ Q
  refine hm_st hR (hm_st hR ⟨hm_le rfl, ?_⟩)
  show R 98 34 [(4, .int (hm_abs ((T_89 s p1 p2) - (T_89 s p1 p3)))), (0, .ref 3), (1, .int p1), (2, .int p2), (3, .int p3)] [.int (hm_abs ((T_90 s p1 p2) - (T_90 s p1 p3)))] (N, hm_sh L g, s) _ Q
  refine hm_st hR (hm_st hR (hm_st hR (hm_st hR (hm_st hR (?_)))))
  show R 98 42 [(5, .int (hm_abs ((T_90 s p1 p2) - (T_90 s p1 p3)))), (4, .int (hm_abs ((T_89 s p1 p2) - (T_89 s p1 p3)))), (0, .ref 3), (1, .int p1), (2, .int p2), (3, .int p3)] [.int 1, .int ((hm_abs ((T_89 s p1 p2) - (T_89 s p1 p3))) + (hm_abs ((T_90 s p1 p2) - (T_90 s p1 p3))))] (N, hm_sh L g, s) _ Q
  suffices G : R 98 50 [(5, .int (hm_abs ((T_90 s p1 p2) - (T_90 s p1 p3)))), (4, .int (hm_abs ((T_89 s p1 p2) - (T_89 s p1 p3)))), (0, .ref 3), (1, .int p1), (2, .int p2), (3, .int p3)] [.int (if ((hm_abs ((T_89 s p1 p2) - (T_89 s p1 p3))) + (hm_abs ((T_90 s p1 p2) - (T_90 s p1 p3)))) = 1 then 1 else 0)] (N, hm_sh L g, s) ((((b.1 - 0, b.2 - 0).1 - 0, (b.1 - 0, b.2 - 0).2 - 0).1 - 0, ((b.1 - 0, b.2 - 0).1 - 0, (b.1 - 0, b.2 - 0).2 - 0).2 - 0).1 - 0, (((b.1 - 0, b.2 - 0).1 - 0, (b.1 - 0, b.2 - 0).2 - 0).1 - 0, ((b.1 - 0, b.2 - 0).1 - 0, (b.1 - 0, b.2 - 0).2 - 0).2 - 0).2 - 0) Q by
    show R 98 42 [(5, .int (hm_abs ((T_90 s p1 p2) - (T_90 s p1 p3)))), (4, .int (hm_abs ((T_89 s p1 p2) - (T_89 s p1 p3)))), (0, .ref 3), (1, .int p1), (2, .int p2), (3, .int p3)] [.int 1, .int ((hm_abs ((T_89 s p1 p2) - (T_89 s p1 p3))) + (hm_abs ((T_90 s p1 p2) - (T_90 s p1 p3))))] (N, hm_sh L g, s) _ Q
    refine hm_st hR ⟨fun c => ?_, fun c => ?_⟩
    · rw [if_neg c] at G; exact hm_st hR (G)
    · rw [if_pos c] at G; exact hm_st hR (hm_st hR (G))
  exact hm_st hR ⟨fun _ => (by split <;> first | exact Or.inl rfl | exact Or.inr rfl), hq⟩
def T_97_4 : Nat → hm_St → Int32 → Int32 → Int32 → Int32
  | 0, s, _, _, _ => 0
  | n + 1, s, v1, v2, v3 => (if (T_87 s) ≤ (v3 + 1) then v2 else (if (T_98 s v1 v3 (v3 + 1)) = 0 then (T_97_4 n s v1 (v2 + 1) (v3 + 1)) else (T_97_4 n s v1 v2 (v3 + 1))))
/-- CurvekeyHouse$Curves.jumps(I)I -/
def T_97 (s : hm_St) (p1 : Int32) : Int32 := (T_97_4 (hm_df (T_87 s) (0 + 1) + 1) s p1 0 0)
set_option maxRecDepth 20000 in
theorem lp_97_4 {R : hm_R} (hR : hm_Cm R) {N L : Nat} {g : Nat → hm_Sh} {b : hm_B} {Q : hm_Q} (hN : 68 ≤ N) : ∀ (n : Nat) (s : hm_St) (v1 : Int32) (v2 : Int32) (v3 : Int32), hm_df (T_87 s) (v3 + 1) < n → (hq : Q (.inr (some (.int (T_97_4 n s v1 v2 v3)))) (N, hm_sh L g, s)) → R 97 4 [(3, .int v3), (2, .int v2), (0, .ref 3), (1, .int v1)] [] (N, hm_sh L g, s) b Q := by
  intro n
  induction n with
  | zero => intro s v1 v2 v3 hm _; exact absurd hm (Nat.not_lt_zero _)
  | succ n ih =>
    intro s v1 v2 v3 hm hq
    unfold T_97_4 at hq
    refine hm_st hR (hm_st hR (hm_st hR (hm_st hR (?_))))
    refine hm_st hR ⟨hm_le rfl, rfl, (hm_le rfl), (hm_ltN hN rfl), hm_le rfl, hm_le rfl, (0, 0), Nat.zero_le _, Nat.zero_le _, ?_⟩
    refine sp_87 hR hN ?_
    show R 97 11 [(3, .int v3), (2, .int v2), (0, .ref 3), (1, .int v1)] [.int (T_87 s), .int (v3 + 1)] (N, hm_sh L g, s) _ Q
    show R 97 11 [(3, .int v3), (2, .int v2), (0, .ref 3), (1, .int v1)] [.int (T_87 s), .int (v3 + 1)] (N, hm_sh L g, s) _ Q
    refine hm_st hR ⟨fun c11 => ?_, fun c11 => ?_⟩
    · rw [if_pos c11] at hq
      show R 97 35 [(3, .int v3), (2, .int v2), (0, .ref 3), (1, .int v1)] [] (N, hm_sh L g, s) _ Q
      refine hm_st hR (?_)
      exact hm_st hR ⟨fun z => absurd z (by decide), hq⟩
    · rw [if_neg c11] at hq
      show R 97 14 [(3, .int v3), (2, .int v2), (0, .ref 3), (1, .int v1)] [] (N, hm_sh L g, s) _ Q
      refine hm_st hR (hm_st hR (hm_st hR (hm_st hR (hm_st hR (hm_st hR (?_))))))
      refine hm_st hR ⟨hm_le rfl, rfl, (hm_le rfl), (hm_ltN hN rfl), hm_le rfl, hm_le rfl, (0, 0), Nat.zero_le _, Nat.zero_le _, ?_⟩
      refine sp_98 hR hN ?_
      show R 97 23 [(3, .int v3), (2, .int v2), (0, .ref 3), (1, .int v1)] [.int (T_98 s v1 v3 (v3 + 1))] (N, hm_sh L g, s) _ Q
      show R 97 23 [(3, .int v3), (2, .int v2), (0, .ref 3), (1, .int v1)] [.int (T_98 s v1 v3 (v3 + 1))] (N, hm_sh L g, s) _ Q
      refine hm_st hR ⟨fun c23 => ?_, fun c23 => ?_⟩
      · rw [if_neg c23] at hq
        show R 97 29 [(3, .int v3), (2, .int v2), (0, .ref 3), (1, .int v1)] [] (N, hm_sh L g, s) _ Q
        refine hm_st hR (hm_st hR (?_))
        show R 97 4 [(3, .int (v3 + 1)), (2, .int v2), (0, .ref 3), (1, .int v1)] [] (N, hm_sh L g, s) _ Q
        exact hm_lvS hR (by intro q hq; simp only [List.mem_cons, List.not_mem_nil, or_false] at hq ⊢; rcases hq with rfl | rfl | rfl | rfl <;> simp) (ih s v1 v2 (v3 + 1) (hm_dcx c11 hm) hq)
      · rw [if_pos c23] at hq
        show R 97 26 [(3, .int v3), (2, .int v2), (0, .ref 3), (1, .int v1)] [] (N, hm_sh L g, s) _ Q
        refine hm_st hR (hm_st hR (hm_st hR (?_)))
        show R 97 4 [(3, .int (v3 + 1)), (2, .int (v2 + 1)), (0, .ref 3), (1, .int v1)] [] (N, hm_sh L g, s) _ Q
        exact hm_lvS hR (by intro q hq; simp only [List.mem_cons, List.not_mem_nil, or_false] at hq ⊢; rcases hq with rfl | rfl | rfl | rfl <;> simp) (ih s v1 (v2 + 1) (v3 + 1) (hm_dcx c11 hm) hq)
set_option maxRecDepth 20000 in
theorem sp_97 {R : hm_R} (hR : hm_Cm R) {N L : Nat} {g : Nat → hm_Sh} {s : hm_St} {b : hm_B} {Q : hm_Q} (hN : 68 ≤ N) {p1 : Int32} (hq : Q (.inr (some (.int (T_97 s p1)))) (N, hm_sh L g, s)) : R 97 0 (lv_args 0 [.ref 3, .int p1]) [] (N, hm_sh L g, s) b Q := by
  unfold T_97 at hq
  show R 97 0 [(0, .ref 3), (1, .int p1)] [] (N, hm_sh L g, s) _ Q
  refine hm_st hR (hm_st hR (hm_st hR (hm_st hR (?_))))
  show R 97 4 [(3, .int 0), (2, .int 0), (0, .ref 3), (1, .int p1)] [] (N, hm_sh L g, s) _ Q
  exact lp_97_4 hR hN _ _ _ _ _ (Nat.lt_succ_self _) hq
